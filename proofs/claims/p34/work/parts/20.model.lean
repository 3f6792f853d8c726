/-! ===== the model: both ===== -/
theorem pm_kstep6 {s s1 s2 : pm_H} {v x y N : Int} (W : ∀ j : Int, 1 ≤ j → j < v → 1 ≤ s 60 0 j ∧ s 60 0 j ≤ N) (E1 : s1 = pm_up s 60 0 v x) (E2 : s2 = pm_up s1 59 0 v y) (hx : 1 ≤ x ∧ x ≤ N) : ∀ j : Int, 1 ≤ j → j < v + 1 → 1 ≤ s2 60 0 j ∧ s2 60 0 j ≤ N := fun j h0 h1 => by
  rw [pm_nec E2 (by decide)]
  by_cases q : j = v
  · subst q
    rw [pm_at E1]
    exact hx
  · rw [pm_nei E1 q]
    exact W j h0 (by omega)
theorem pm_rstep {s s1 s2 : pm_H} {v x y N : Int} (W : ∀ j : Int, 1 ≤ j → j < v → 1 ≤ s 41 0 j ∧ s 41 0 j ≤ N) (E1 : s1 = pm_up s 41 0 v x) (E2 : s2 = pm_up s1 42 0 v y) (hx : 1 ≤ x ∧ x ≤ N) : ∀ j : Int, 1 ≤ j → j < v + 1 → 1 ≤ s2 41 0 j ∧ s2 41 0 j ≤ N := fun j h0 h1 => by
  rw [pm_nec E2 (by decide)]
  by_cases q : j = v
  · subst q
    rw [pm_at E1]
    exact hx
  · rw [pm_nei E1 q]
    exact W j h0 (by omega)
def pre_X11_both (as : List pm_V) (n : Nat) (σ : pm_H) : Prop := ∃ aa ab ac : Int, as = [.inr (.inr (40, 0)), .inl aa, .inl ab, .inl ac] ∧ n = 122 ∧ pm_Rng σ ∧ ((pm_in aa ∧ pm_in ab ∧ pm_in ac) ∧ pm_J2 σ)
def po_X11_both (as : List pm_V) (_ : Nat) (σ : pm_H) (r : Option pm_V) (τ : pm_H) : Prop := ∀ aa ab ac : Int, as = [.inr (.inr (40, 0)), .inl aa, .inl ab, .inl ac] → ∃ v : Int, r = some (.inl v) ∧ pm_Rng τ ∧ pm_Fr [(40, some 0), (40, some 1), (40, some 3), (41, none), (42, none), (43, none), (44, none), (57, none), (58, none), (59, none), (60, none)] σ τ ∧ (pm_J2 τ)
set_option maxRecDepth 20000 in
set_option maxHeartbeats 4000000 in
theorem ct_X11_both : pm_Ct yX11_both cX11_both 10 (some .int) 3 0 pre_X11_both po_X11_both := pm_sound (ini := false) (by decide +kernel) pk_X11_both (fun h => absurd h (by decide)) (by
  rintro as n s0 ⟨aa, ab, ac, rfl, rfl, R0, hpre⟩
  refine ⟨by decide, Nat.le_of_ble_eq_true rfl, fun G hG => ?_⟩
  have hG : pm_Rules (RX11, 3, 122, cX11_both, -1, (fun _ => 0), false, (some .int), po_X11_both [.inr (.inr (40, 0)), .inl aa, .inl ab, .inl ac] 122 s0) G := hG
  show G 0 [some (.inr (.inr (40, 0))), some (.inl aa), some (.inl ab), some (.inl ac), none, none, none, none, none, none] [] 122 s0
  have B0 := pb_40_0 R0
  have B1 := pb_40_1 R0
  have B2 := pb_40_2 R0
  have B3 := pb_40_3 R0
  have J2 := hpre.2
  have HP := hpre.1
  have JK := J2.1
  have JW := J2.2
  refine px_iload_n hG dX11_both_0 rfl ?_
  refine px_i2l hG dX11_both_1 ⟨by omega, by omega⟩ ?_
  refine px_lconst hG dX11_both_2 ?_
  show G 3 [some (.inr (.inr (40, 0))), some (.inl aa), some (.inl ab), some (.inl ac), none, none, none, none, none, none] [.inr (.inl 1), .inr (.inl aa)] 122 s0
  refine px_ldc2 hG dX11_both_3 cn_X11_238 ?_
  show G 6 [some (.inr (.inr (40, 0))), some (.inl aa), some (.inl ab), some (.inl ac), none, none, none, none, none, none] [.inr (.inl 5), .inr (.inl 1), .inr (.inl aa)] 122 s0
  refine js3 hG dX11_both_6 ct_X11_in lk_X11_96 ⟨Nat.le_of_ble_eq_true rfl, Nat.le_of_ble_eq_true rfl, Nat.le_of_ble_eq_true rfl⟩ (Nat.le_of_ble_eq_true rfl) ⟨aa, 1, 5, rfl, rfl, R0, by omega⟩ (fun r1 t2 pr1 => ?_)
  obtain ⟨x3, rfl, rfl, br1⟩ := pr1 _ _ _ rfl
  show G 9 [some (.inr (.inr (40, 0))), some (.inl aa), some (.inl ab), some (.inl ac), none, none, none, none, none, none] [.inl x3] 122 s0
  refine px_if_ne hG dX11_both_9 (tgt := 14) (by decide) ⟨by omega, by omega⟩ (fun c4 => ?_) (fun c4 => ?_)
  · refine px_aload_n hG dX11_both_14 rfl ?_
    refine gi_40_0 hG dX11_both_15 fl_X11_104 R0 (fun x5 ex5 lx5 ux5 => ?_)
    refine px_istore hG dX11_both_18 (Nat.le_of_ble_eq_true rfl) (L2 := [some (.inr (.inr (40, 0))), some (.inl aa), some (.inl ab), some (.inl ac), some (.inl x5), none, none, none, none, none]) rfl ?_
    refine px_aload_n hG dX11_both_20 rfl ?_
    refine gi_40_1 hG dX11_both_21 fl_X11_7 R0 (fun x6 ex6 lx6 ux6 => ?_)
    refine px_istore hG dX11_both_24 (Nat.le_of_ble_eq_true rfl) (L2 := [some (.inr (.inr (40, 0))), some (.inl aa), some (.inl ab), some (.inl ac), some (.inl x5), some (.inl x6), none, none, none, none]) rfl ?_
    refine px_aload_n hG dX11_both_26 rfl ?_
    refine gi_40_3 hG dX11_both_27 fl_X11_110 R0 (fun x7 ex7 lx7 ux7 => ?_)
    refine px_istore hG dX11_both_30 (Nat.le_of_ble_eq_true rfl) (L2 := [some (.inr (.inr (40, 0))), some (.inl aa), some (.inl ab), some (.inl ac), some (.inl x5), some (.inl x6), some (.inl x7), none, none, none]) rfl ?_
    refine px_iconst hG dX11_both_32 ?_
    refine px_istore hG dX11_both_33 (Nat.le_of_ble_eq_true rfl) (L2 := [some (.inr (.inr (40, 0))), some (.inl aa), some (.inl ab), some (.inl ac), some (.inl x5), some (.inl x6), some (.inl x7), some (.inl 1), none, none]) rfl ?_
    have L35 : ∀ (N : Nat) (v7_8 : Int) (s9 : pm_H), pm_Rng s9 → pm_Fr [(40, some 0), (40, some 1), (40, some 3), (41, none), (42, none), (43, none), (44, none), (57, none), (58, none), (59, none), (60, none)] s0 s9 → s9 40 0 0 = x5 → s9 40 0 1 = x6 → s9 40 0 3 = x7 → ((1 ≤ v7_8 ∧ v7_8 ≤ 10000) ∧ (pm_J2 s9 ∧ (∀ j : Int, 1 ≤ j → j < v7_8 → 1 ≤ s9 60 0 j ∧ s9 60 0 j ≤ s0 40 0 1))) → (10001 - v7_8).toNat < N → G 35 [some (.inr (.inr (40, 0))), some (.inl aa), some (.inl ab), some (.inl ac), some (.inl x5), some (.inl x6), some (.inl x7), some (.inl v7_8), none, none] [] 122 s9 := by
      intro N
      induction N with
      | zero => intro v7_8 s9 R10 F11 k13 k14 k15 inv16 hm17; exact absurd hm17 (Nat.not_lt_zero _)
      | succ N ih12 =>
        intro v7_8 s9 R10 F11 k13 k14 k15 inv16 hm17
        have jj18 := F11 40 0 2 rfl
        have Js9 := (inv16.2).1
        have W := (inv16.2).2
        refine px_iload hG dX11_both_35 rfl ?_
        refine px_iload hG dX11_both_37 rfl ?_
        have J76_20 : ((v7_8 > x7)) → G 76 [some (.inr (.inr (40, 0))), some (.inl aa), some (.inl ab), some (.inl ac), some (.inl x5), some (.inl x6), some (.inl x7), none, none, none] [] 122 s9 := by
          intro inv21
          have W6 : (∀ j : Int, 1 ≤ j → j ≤ s0 40 0 3 → 1 ≤ s9 60 0 j ∧ s9 60 0 j ≤ s0 40 0 1) := fun j h0 h1 => W j h0 (by omega)
          refine px_aload_n hG dX11_both_76 rfl ?_
          refine px_iconst hG dX11_both_77 ?_
          refine pi_40_0 hG dX11_both_78 fl_X11_104 R10 (by omega) (fun s22 qs22 Rs22 => ?_)
          have Fs22 := pm_Fr_up (F11) qs22 (M := [(40, some 0), (40, some 1), (40, some 3), (41, none), (42, none), (43, none), (44, none), (57, none), (58, none), (59, none), (60, none)]) rfl
          have k23 : s22 40 0 1 = x6 := (pm_nei qs22 (by decide)).trans k14
          have k24 : s22 40 0 3 = x7 := (pm_nei qs22 (by decide)).trans k15
          have k25 : s22 40 0 0 = 0 := pm_at qs22
          have W6 : (∀ j : Int, 1 ≤ j → j ≤ s0 40 0 3 → 1 ≤ s22 60 0 j ∧ s22 60 0 j ≤ s0 40 0 1) := fun j h0 h1 => by rw [pm_nec qs22 (by decide)]; exact W6 j h0 h1
          refine px_aload_n hG dX11_both_81 rfl ?_
          refine px_iload_n hG dX11_both_82 rfl ?_
          refine pi_40_1 hG dX11_both_83 fl_X11_7 Rs22 (by omega) (fun s26 qs26 Rs26 => ?_)
          have Fs26 := pm_Fr_up (Fs22) qs26 (M := [(40, some 0), (40, some 1), (40, some 3), (41, none), (42, none), (43, none), (44, none), (57, none), (58, none), (59, none), (60, none)]) rfl
          have k27 : s26 40 0 3 = x7 := (pm_nei qs26 (by decide)).trans k24
          have k28 : s26 40 0 0 = 0 := (pm_nei qs26 (by decide)).trans k25
          have k29 : s26 40 0 1 = aa := pm_at qs26
          have W6 : (∀ j : Int, 1 ≤ j → j ≤ s0 40 0 3 → 1 ≤ s26 60 0 j ∧ s26 60 0 j ≤ s0 40 0 1) := fun j h0 h1 => by rw [pm_nec qs26 (by decide)]; exact W6 j h0 h1
          refine px_aload_n hG dX11_both_86 rfl ?_
          refine px_iconst hG dX11_both_87 ?_
          refine pi_40_3 hG dX11_both_88 fl_X11_110 Rs26 (by omega) (fun s30 qs30 Rs30 => ?_)
          have Fs30 := pm_Fr_up (Fs26) qs30 (M := [(40, some 0), (40, some 1), (40, some 3), (41, none), (42, none), (43, none), (44, none), (57, none), (58, none), (59, none), (60, none)]) rfl
          have k31 : s30 40 0 0 = 0 := (pm_nei qs30 (by decide)).trans k28
          have k32 : s30 40 0 1 = aa := (pm_nei qs30 (by decide)).trans k29
          have k33 : s30 40 0 3 = 0 := pm_at qs30
          have W6 : (∀ j : Int, 1 ≤ j → j ≤ s0 40 0 3 → 1 ≤ s30 60 0 j ∧ s30 60 0 j ≤ s0 40 0 1) := fun j h0 h1 => by rw [pm_nec qs30 (by decide)]; exact W6 j h0 h1
          have EK := pm_at qs30
          have Js30 : pm_J2 s30 := ⟨by omega, fun j h0 h1 => by omega⟩
          refine px_iconst hG dX11_both_91 ?_
          refine px_istore hG dX11_both_92 (Nat.le_of_ble_eq_true rfl) (L2 := [some (.inr (.inr (40, 0))), some (.inl aa), some (.inl ab), some (.inl ac), some (.inl x5), some (.inl x6), some (.inl x7), some (.inl 1), none, none]) rfl ?_
          have L94 : ∀ (N : Nat) (v7_34 : Int) (s35 : pm_H), pm_Rng s35 → pm_Fr [(40, some 0), (40, some 1), (40, some 3), (41, none), (42, none), (43, none), (44, none), (57, none), (58, none), (59, none), (60, none)] s0 s35 → s35 40 0 0 = 0 → s35 40 0 1 = aa → ((1 ≤ v7_34 ∧ v7_34 ≤ 10000) ∧ (pm_J2 s35 ∧ (∀ j : Int, 1 ≤ j → j ≤ s0 40 0 3 → 1 ≤ s35 60 0 j ∧ s35 60 0 j ≤ s0 40 0 1) ∧ s35 40 0 3 = v7_34 - 1 ∧ v7_34 ≤ aa + 1)) → (10001 - v7_34).toNat < N → G 94 [some (.inr (.inr (40, 0))), some (.inl aa), some (.inl ab), some (.inl ac), some (.inl x5), some (.inl x6), some (.inl x7), some (.inl v7_34), none, none] [] 122 s35 := by
            intro N
            induction N with
            | zero => intro v7_34 s35 R36 F37 k39 k40 inv41 hm42; exact absurd hm42 (Nat.not_lt_zero _)
            | succ N ih38 =>
              intro v7_34 s35 R36 F37 k39 k40 inv41 hm42
              have jj43 := F37 40 0 2 rfl
              have Js35 := (inv41.2).1
              have W6 := (inv41.2).2.1
              refine px_iload hG dX11_both_94 rfl ?_
              refine px_iload_n hG dX11_both_96 rfl ?_
              have J111_45 : ((v7_34 > aa)) → G 111 [some (.inr (.inr (40, 0))), none, some (.inl ab), some (.inl ac), some (.inl x5), some (.inl x6), some (.inl x7), none, none, none] [] 122 s35 := by
                intro inv46
                refine px_iconst hG dX11_both_111 ?_
                refine px_istore hG dX11_both_112 (Nat.le_of_ble_eq_true rfl) (L2 := [some (.inr (.inr (40, 0))), none, some (.inl ab), some (.inl ac), some (.inl x5), some (.inl x6), some (.inl x7), some (.inl 0), none, none]) rfl ?_
                refine px_iconst hG dX11_both_114 ?_
                refine px_istore hG dX11_both_115 (Nat.le_of_ble_eq_true rfl) (L2 := [some (.inr (.inr (40, 0))), none, some (.inl ab), some (.inl ac), some (.inl x5), some (.inl x6), some (.inl x7), some (.inl 0), some (.inl 1), none]) rfl ?_
                have L117 : ∀ (N : Nat) (v7_47 : Int) (v8_48 : Int) (s49 : pm_H), pm_Rng s49 → pm_Fr [(40, some 0), (40, some 1), (40, some 3), (41, none), (42, none), (43, none), (44, none), (57, none), (58, none), (59, none), (60, none)] s0 s49 → s49 40 0 0 = 0 → s49 40 0 1 = aa → ((pm_J2 s49 ∧ (∀ j : Int, 1 ≤ j → j ≤ s0 40 0 3 → 1 ≤ s49 60 0 j ∧ s49 60 0 j ≤ s0 40 0 1) ∧ s49 40 0 3 = aa ∧ (v8_48 = 0 ∨ v8_48 = 1))) → (pm_wm v8_48 (25937424601 - pm_vv (s49 41 0) aa.toNat)).toNat < N → G 117 [some (.inr (.inr (40, 0))), none, some (.inl ab), some (.inl ac), some (.inl x5), some (.inl x6), some (.inl x7), some (.inl v7_47), some (.inl v8_48), none] [] 122 s49 := by
                  intro N
                  induction N with
                  | zero => intro v7_47 v8_48 s49 R50 F51 k53 k54 inv55 hm56; exact absurd hm56 (Nat.not_lt_zero _)
                  | succ N ih52 =>
                    intro v7_47 v8_48 s49 R50 F51 k53 k54 inv55 hm56
                    have jj57 := F51 40 0 2 rfl
                    have Js49 := (inv55).1
                    have U := (inv55).2.1
                    have VB := pm_vv_lt (f := s49 41 0) (k := aa.toNat) (fun j a b => by have := Js49.2 j a (by omega); omega) (by omega)
                    have PP := pm_pw_pos (aa.toNat : Nat)
                    refine px_iload hG dX11_both_117 rfl ?_
                    have J168_59 : ((v8_48 = 0)) → G 168 [some (.inr (.inr (40, 0))), none, none, none, some (.inl x5), some (.inl x6), some (.inl x7), some (.inl v7_47), none, none] [] 122 s49 := by
                      intro inv60
                      have W6 := U
                      refine px_aload_n hG dX11_both_168 rfl ?_
                      refine px_iload hG dX11_both_169 rfl ?_
                      refine pi_40_0 hG dX11_both_171 fl_X11_104 R50 (by omega) (fun s61 qs61 Rs61 => ?_)
                      have Fs61 := pm_Fr_up (F51) qs61 (M := [(40, some 0), (40, some 1), (40, some 3), (41, none), (42, none), (43, none), (44, none), (57, none), (58, none), (59, none), (60, none)]) rfl
                      have k62 : s61 40 0 1 = aa := (pm_nei qs61 (by decide)).trans k54
                      have k63 : s61 40 0 0 = x5 := pm_at qs61
                      have W6 : (∀ j : Int, 1 ≤ j → j ≤ s0 40 0 3 → 1 ≤ s61 60 0 j ∧ s61 60 0 j ≤ s0 40 0 1) := fun j h0 h1 => by rw [pm_nec qs61 (by decide)]; exact W6 j h0 h1
                      refine px_aload_n hG dX11_both_174 rfl ?_
                      refine px_iload hG dX11_both_175 rfl ?_
                      refine pi_40_1 hG dX11_both_177 fl_X11_7 Rs61 (by omega) (fun s64 qs64 Rs64 => ?_)
                      have Fs64 := pm_Fr_up (Fs61) qs64 (M := [(40, some 0), (40, some 1), (40, some 3), (41, none), (42, none), (43, none), (44, none), (57, none), (58, none), (59, none), (60, none)]) rfl
                      have k65 : s64 40 0 0 = x5 := (pm_nei qs64 (by decide)).trans k63
                      have k66 : s64 40 0 1 = x6 := pm_at qs64
                      have W6 : (∀ j : Int, 1 ≤ j → j ≤ s0 40 0 3 → 1 ≤ s64 60 0 j ∧ s64 60 0 j ≤ s0 40 0 1) := fun j h0 h1 => by rw [pm_nec qs64 (by decide)]; exact W6 j h0 h1
                      refine px_aload_n hG dX11_both_180 rfl ?_
                      refine px_iload hG dX11_both_181 rfl ?_
                      refine pi_40_3 hG dX11_both_183 fl_X11_110 Rs64 (by omega) (fun s67 qs67 Rs67 => ?_)
                      have Fs67 := pm_Fr_up (Fs64) qs67 (M := [(40, some 0), (40, some 1), (40, some 3), (41, none), (42, none), (43, none), (44, none), (57, none), (58, none), (59, none), (60, none)]) rfl
                      have k68 : s67 40 0 0 = x5 := (pm_nei qs67 (by decide)).trans k65
                      have k69 : s67 40 0 1 = x6 := (pm_nei qs67 (by decide)).trans k66
                      have k70 : s67 40 0 3 = x7 := pm_at qs67
                      have W6 : (∀ j : Int, 1 ≤ j → j ≤ s0 40 0 3 → 1 ≤ s67 60 0 j ∧ s67 60 0 j ≤ s0 40 0 1) := fun j h0 h1 => by rw [pm_nec qs67 (by decide)]; exact W6 j h0 h1
                      refine px_iconst hG dX11_both_186 ?_
                      refine px_istore hG dX11_both_187 (Nat.le_of_ble_eq_true rfl) (L2 := [some (.inr (.inr (40, 0))), none, none, none, some (.inl x5), some (.inl x6), some (.inl x7), some (.inl v7_47), none, some (.inl 1)]) rfl ?_
                      have L189 : ∀ (N : Nat) (v9_71 : Int) (s72 : pm_H), pm_Rng s72 → pm_Fr [(40, some 0), (40, some 1), (40, some 3), (41, none), (42, none), (43, none), (44, none), (57, none), (58, none), (59, none), (60, none)] s0 s72 → s72 40 0 0 = x5 → s72 40 0 1 = x6 → s72 40 0 3 = x7 → ((1 ≤ v9_71 ∧ v9_71 ≤ 10000) ∧ ((∀ j : Int, 1 ≤ j → j ≤ s0 40 0 3 → 1 ≤ s72 60 0 j ∧ s72 60 0 j ≤ s0 40 0 1) ∧ (∀ j : Int, 1 ≤ j → j < v9_71 → 1 ≤ s72 41 0 j ∧ s72 41 0 j ≤ s0 40 0 1))) → (10001 - v9_71).toNat < N → G 189 [some (.inr (.inr (40, 0))), none, none, none, none, none, some (.inl x7), some (.inl v7_47), none, some (.inl v9_71)] [] 122 s72 := by
                        intro N
                        induction N with
                        | zero => intro v9_71 s72 R73 F74 k76 k77 k78 inv79 hm80; exact absurd hm80 (Nat.not_lt_zero _)
                        | succ N ih75 =>
                          intro v9_71 s72 R73 F74 k76 k77 k78 inv79 hm80
                          have jj81 := F74 40 0 2 rfl
                          have W6 := (inv79.2).1
                          have W := (inv79.2).2
                          refine px_iload hG dX11_both_189 rfl ?_
                          refine px_iload hG dX11_both_191 rfl ?_
                          refine px_ic_gt hG dX11_both_193 (tgt := 230) (by decide) ⟨by omega, by omega⟩ ⟨by omega, by omega⟩ (fun c82 => ?_) (fun c82 => ?_)
                          · refine px_iload hG dX11_both_230 rfl ?_
                            have jj83 := F74 40 0 2 rfl
                            have JF : pm_J2 s72 := ⟨by omega, fun j h0 h1 => by have W2 := W j h0 (by omega); omega⟩
                            exact px_iret (st := []) hG dX11_both_232 rfl rfl (fun aa_1 ab_1 ac_1 ee => by cases ee; exact ⟨_, rfl, R73, F74, JF⟩)
                          · refine px_aload_n hG dX11_both_196 rfl ?_
                            refine gr_40_4 hG dX11_both_197 fl_X11_13 R73 ?_
                            refine px_iload hG dX11_both_200 rfl ?_
                            refine px_aload_n hG dX11_both_202 rfl ?_
                            refine gr_40_23 hG dX11_both_203 fl_X11_73 R73 ?_
                            refine px_iload hG dX11_both_206 rfl ?_
                            refine al_60 hG dX11_both_208 R73 (by omega) (fun x84 ex84 lx84 ux84 => ?_)
                            have X1 := W6 v9_71 (by omega) (by omega)
                            rw [ex84] at X1
                            refine as_41 hG dX11_both_209 R73 (by omega) (by omega) (fun s85 qs85 Rs85 => ?_)
                            have Fs85 := pm_Fr_up (F74) qs85 (M := [(40, some 0), (40, some 1), (40, some 3), (41, none), (42, none), (43, none), (44, none), (57, none), (58, none), (59, none), (60, none)]) rfl
                            have k86 : s85 40 0 0 = x5 := (pm_nec qs85 (by decide)).trans k76
                            have k87 : s85 40 0 1 = x6 := (pm_nec qs85 (by decide)).trans k77
                            have k88 : s85 40 0 3 = x7 := (pm_nec qs85 (by decide)).trans k78
                            have jj89 := pm_nec qs85 (c' := 40) (r' := 0) (i' := 0) (by decide)
                            have jj90 := pm_nec qs85 (c' := 40) (r' := 0) (i' := 1) (by decide)
                            have jj91 := pm_nec qs85 (c' := 40) (r' := 0) (i' := 2) (by decide)
                            have jj92 := pm_nec qs85 (c' := 40) (r' := 0) (i' := 3) (by decide)
                            have E1 := qs85
                            refine px_aload_n hG dX11_both_210 rfl ?_
                            refine gr_40_5 hG dX11_both_211 fl_X11_17 Rs85 ?_
                            refine px_iload hG dX11_both_214 rfl ?_
                            refine px_aload_n hG dX11_both_216 rfl ?_
                            refine gr_40_22 hG dX11_both_217 fl_X11_70 Rs85 ?_
                            refine px_iload hG dX11_both_220 rfl ?_
                            refine al_59 hG dX11_both_222 Rs85 (by omega) (fun x93 ex93 lx93 ux93 => ?_)
                            refine as_42 hG dX11_both_223 Rs85 (by omega) (by omega) (fun s94 qs94 Rs94 => ?_)
                            have Fs94 := pm_Fr_up (Fs85) qs94 (M := [(40, some 0), (40, some 1), (40, some 3), (41, none), (42, none), (43, none), (44, none), (57, none), (58, none), (59, none), (60, none)]) rfl
                            have k95 : s94 40 0 0 = x5 := (pm_nec qs94 (by decide)).trans k86
                            have k96 : s94 40 0 1 = x6 := (pm_nec qs94 (by decide)).trans k87
                            have k97 : s94 40 0 3 = x7 := (pm_nec qs94 (by decide)).trans k88
                            have jj98 := pm_nec qs94 (c' := 40) (r' := 0) (i' := 0) (by decide)
                            have jj99 := pm_nec qs94 (c' := 40) (r' := 0) (i' := 1) (by decide)
                            have jj100 := pm_nec qs94 (c' := 40) (r' := 0) (i' := 2) (by decide)
                            have jj101 := pm_nec qs94 (c' := 40) (r' := 0) (i' := 3) (by decide)
                            have E2 := qs94
                            refine px_iinc hG dX11_both_224 (Nat.le_of_ble_eq_true rfl) rfl (L2 := [some (.inr (.inr (40, 0))), none, none, none, none, none, some (.inl x7), some (.inl v7_47), none, some (.inl (v9_71 + 1))]) rfl ?_
                            refine px_goto hG dX11_both_227 (tgt := 189) (by decide) ?_
                            exact ih75 (v9_71 + 1) s94 Rs94 Fs94 k95 k96 k97 (⟨by omega, ⟨fun j h0 h1 => by rw [pm_nec E2 (by decide), pm_nec E1 (by decide)]; exact W6 j h0 h1, pm_rstep W E1 E2 (by omega)⟩⟩) (by omega)
                      refine px_weak hG (L2 := [some (.inr (.inr (40, 0))), none, none, none, none, none, some (.inl x7), some (.inl v7_47), none, some (.inl 1)]) ⟨Or.inr rfl, Or.inr rfl, Or.inr rfl, Or.inr rfl, Or.inl rfl, Or.inl rfl, Or.inr rfl, Or.inr rfl, Or.inr rfl, Or.inr rfl, trivial⟩ ?_
                      exact L189 _ 1 s67 Rs67 Fs67 k68 k69 k70 (⟨by omega, ⟨W6, fun j h0 h1 => by omega⟩⟩) (Nat.lt_succ_self _)
                    refine px_if_eq hG dX11_both_119 (tgt := 168) (by decide) ⟨by omega, by omega⟩ (fun c58 => ?_) (fun c58 => ?_)
                    · refine px_weak hG (L2 := [some (.inr (.inr (40, 0))), none, none, none, some (.inl x5), some (.inl x6), some (.inl x7), some (.inl v7_47), none, none]) ⟨Or.inr rfl, Or.inr rfl, Or.inl rfl, Or.inl rfl, Or.inr rfl, Or.inr rfl, Or.inr rfl, Or.inr rfl, Or.inl rfl, Or.inr rfl, trivial⟩ ?_
                      exact J168_59  (by omega)
                    · obtain ⟨f41, hf41⟩ : ∃ f : Int → Int, ∀ i : Int, s49 41 0 i = f i := ⟨_, fun _ => rfl⟩
                      obtain ⟨f60, hf60⟩ : ∃ f : Int → Int, ∀ i : Int, s49 60 0 i = f i := ⟨_, fun _ => rfl⟩
                      have U60 : ∀ j : Int, 1 ≤ j → j ≤ s0 40 0 3 → 1 ≤ f60 j ∧ f60 j ≤ s0 40 0 1 := fun j a b => by rw [← hf60]; exact U j a b
                      have WL := fun (b2 vt : Int) (h : b2 = 0 ∨ b2 = 1) (h1 : b2 = 1 → pm_vv f41 aa.toNat + 1 ≤ vt) => pm_wm_lt (b := v8_48) (B := 25937424601) h h1 (pm_vv_eq (k := aa.toNat) hf41).symm (by omega) (by omega) (by omega)
                      refine px_aload_n hG dX11_both_122 rfl ?_
                      refine jv0 hG dX11_both_123 ct_X11_isGood lk_X11_139 ⟨rfl, rfl⟩ (by decide) ⟨Nat.le_of_ble_eq_true rfl, Nat.le_of_ble_eq_true rfl, Nat.le_of_ble_eq_true rfl⟩ (Nat.le_of_ble_eq_true rfl) ⟨rfl, rfl, R50, Js49⟩ (fun r102 t104 pr102 => ?_)
                      obtain ⟨x105, rfl, Rt104, Ft104, br102⟩ := pr102 rfl
                      have Ff106 := pm_Fr_tr F51 Ft104 (M := [(40, some 0), (40, some 1), (40, some 3), (41, none), (42, none), (43, none), (44, none), (57, none), (58, none), (59, none), (60, none)]) rfl
                      have jj107 := Ft104 40 0 0 rfl
                      have jj108 := Ft104 40 0 1 rfl
                      have jj109 := Ft104 40 0 2 rfl
                      have jj110 := Ft104 40 0 3 rfl
                      have Jt104 := pm_J2_fr Ft104 rfl Js49
                      have k111 : t104 40 0 0 = 0 := (Ft104 40 0 0 rfl).trans k53
                      have k112 : t104 40 0 1 = aa := (Ft104 40 0 1 rfl).trans k54
                      show G 126 [some (.inr (.inr (40, 0))), none, some (.inl ab), some (.inl ac), some (.inl x5), some (.inl x6), some (.inl x7), some (.inl v7_47), some (.inl v8_48), none] [.inl x105] 122 t104
                      have hf41 : ∀ i : Int, t104 41 0 i = f41 i := fun i => (Ft104 41 0 i rfl).trans (hf41 i)
                      have hf60 : ∀ i : Int, t104 60 0 i = f60 i := fun i => (Ft104 60 0 i rfl).trans (hf60 i)
                      refine px_if_eq hG dX11_both_126 (tgt := 159) (by decide) ⟨by omega, by omega⟩ (fun c113 => ?_) (fun c113 => ?_)
                      · refine px_aload_n hG dX11_both_159 rfl ?_
                        refine jv0 hG dX11_both_160 ct_X11_step lk_X11_145 ⟨rfl, rfl⟩ (by decide) ⟨Nat.le_of_ble_eq_true rfl, Nat.le_of_ble_eq_true rfl, Nat.le_of_ble_eq_true rfl⟩ (Nat.le_of_ble_eq_true rfl) ⟨rfl, rfl, Rt104, Jt104⟩ (fun r114 t116 pr114 => ?_)
                        obtain ⟨x117, rfl, Rt116, Ft116, br114⟩ := pr114 rfl
                        have Ff118 := pm_Fr_tr Ff106 Ft116 (M := [(40, some 0), (40, some 1), (40, some 3), (41, none), (42, none), (43, none), (44, none), (57, none), (58, none), (59, none), (60, none)]) rfl
                        have jj119 := Ft116 40 0 0 rfl
                        have jj120 := Ft116 40 0 1 rfl
                        have jj121 := Ft116 40 0 2 rfl
                        have jj122 := Ft116 40 0 3 rfl
                        have Jt116 : pm_J2 t116 := br114.1
                        have k123 : t116 40 0 0 = 0 := (Ft116 40 0 0 rfl).trans k111
                        have k124 : t116 40 0 1 = aa := (Ft116 40 0 1 rfl).trans k112
                        show G 163 [some (.inr (.inr (40, 0))), none, some (.inl ab), some (.inl ac), some (.inl x5), some (.inl x6), some (.inl x7), some (.inl v7_47), some (.inl v8_48), none] [.inl x117] 122 t116
                        have SP := br114.2
                        have QK : t104 40 0 3 = aa := by omega
                        rw [QK, pm_vv_eq hf41] at SP
                        have hf60 : ∀ i : Int, t116 60 0 i = f60 i := fun i => (Ft116 60 0 i rfl).trans (hf60 i)
                        refine px_istore hG dX11_both_163 (Nat.le_of_ble_eq_true rfl) (L2 := [some (.inr (.inr (40, 0))), none, some (.inl ab), some (.inl ac), some (.inl x5), some (.inl x6), some (.inl x7), some (.inl v7_47), some (.inl x117), none]) rfl ?_
                        refine px_goto hG dX11_both_165 (tgt := 117) (by decide) ?_
                        exact ih52 v7_47 x117 t116 Rt116 Ff118 k123 k124 (⟨Jt116, fun j h0 h1 => by rw [hf60]; exact U60 j h0 h1, by omega, by omega⟩) (by have WL2 := WL _ _ SP.1 SP.2; omega)
                      · refine px_aload_n hG dX11_both_129 rfl ?_
                        refine jv0 hG dX11_both_130 ct_X11_findWalk lk_X11_228 ⟨rfl, rfl⟩ (by decide) ⟨Nat.le_of_ble_eq_true rfl, Nat.le_of_ble_eq_true rfl, Nat.le_of_ble_eq_true rfl⟩ (Nat.le_of_ble_eq_true rfl) ⟨rfl, rfl, Rt104, Jt104⟩ (fun r125 t127 pr125 => ?_)
                        obtain ⟨rfl, Rt127, Ft127⟩ := pr125 rfl
                        have Ff129 := pm_Fr_tr Ff106 Ft127 (M := [(40, some 0), (40, some 1), (40, some 3), (41, none), (42, none), (43, none), (44, none), (57, none), (58, none), (59, none), (60, none)]) rfl
                        have jj130 := Ft127 40 0 0 rfl
                        have jj131 := Ft127 40 0 1 rfl
                        have jj132 := Ft127 40 0 2 rfl
                        have jj133 := Ft127 40 0 3 rfl
                        have Jt127 := pm_J2_fr Ft127 rfl Jt104
                        have k134 : t127 40 0 0 = 0 := (Ft127 40 0 0 rfl).trans k111
                        have k135 : t127 40 0 1 = aa := (Ft127 40 0 1 rfl).trans k112
                        show G 133 [some (.inr (.inr (40, 0))), none, some (.inl ab), some (.inl ac), some (.inl x5), some (.inl x6), some (.inl x7), some (.inl v7_47), some (.inl v8_48), none] [] 122 t127
                        have hf41 : ∀ i : Int, t127 41 0 i = f41 i := fun i => (Ft127 41 0 i rfl).trans (hf41 i)
                        have hf60 : ∀ i : Int, t127 60 0 i = f60 i := fun i => (Ft127 60 0 i rfl).trans (hf60 i)
                        refine px_iload hG dX11_both_133 rfl ?_
                        refine px_aload_n hG dX11_both_135 rfl ?_
                        refine jv0 hG dX11_both_136 ct_X11_area lk_X11_231 ⟨rfl, rfl⟩ (by decide) ⟨Nat.le_of_ble_eq_true rfl, Nat.le_of_ble_eq_true rfl, Nat.le_of_ble_eq_true rfl⟩ (Nat.le_of_ble_eq_true rfl) ⟨rfl, rfl, Rt127, Jt127⟩ (fun r136 t137 pr136 => ?_)
                        obtain ⟨x138, rfl, rfl, br136⟩ := pr136 rfl
                        show G 139 [some (.inr (.inr (40, 0))), none, some (.inl ab), some (.inl ac), some (.inl x5), some (.inl x6), some (.inl x7), some (.inl v7_47), some (.inl v8_48), none] [.inl x138, .inl v7_47] 122 t127
                        refine px_iload_n hG dX11_both_139 rfl ?_
                        have J156_141 : ∀ (j140 : Int), ((x138 ≠ ab ∧ j140 = 0) ∨ (¬ (x138 ≠ ab) ∧ j140 = 0) ∨ (¬ (x138 ≠ ab) ∧ j140 = 1)) → G 156 [some (.inr (.inr (40, 0))), none, some (.inl ab), some (.inl ac), some (.inl x5), some (.inl x6), some (.inl x7), none, none, none] [.inl j140, .inl v7_47] 122 t127 := by
                          intro j140 inv142
                          refine px_iadd hG dX11_both_156 ?_
                          refine px_istore hG dX11_both_157 (Nat.le_of_ble_eq_true rfl) (L2 := [some (.inr (.inr (40, 0))), none, some (.inl ab), some (.inl ac), some (.inl x5), some (.inl x6), some (.inl x7), some (.inl (v7_47 + j140)), none, none]) rfl ?_
                          refine px_aload_n hG dX11_both_159 rfl ?_
                          refine jv0 hG dX11_both_160 ct_X11_step lk_X11_145 ⟨rfl, rfl⟩ (by decide) ⟨Nat.le_of_ble_eq_true rfl, Nat.le_of_ble_eq_true rfl, Nat.le_of_ble_eq_true rfl⟩ (Nat.le_of_ble_eq_true rfl) ⟨rfl, rfl, Rt127, Jt127⟩ (fun r143 t145 pr143 => ?_)
                          obtain ⟨x146, rfl, Rt145, Ft145, br143⟩ := pr143 rfl
                          have Ff147 := pm_Fr_tr Ff129 Ft145 (M := [(40, some 0), (40, some 1), (40, some 3), (41, none), (42, none), (43, none), (44, none), (57, none), (58, none), (59, none), (60, none)]) rfl
                          have jj148 := Ft145 40 0 0 rfl
                          have jj149 := Ft145 40 0 1 rfl
                          have jj150 := Ft145 40 0 2 rfl
                          have jj151 := Ft145 40 0 3 rfl
                          have Jt145 : pm_J2 t145 := br143.1
                          have k152 : t145 40 0 0 = 0 := (Ft145 40 0 0 rfl).trans k134
                          have k153 : t145 40 0 1 = aa := (Ft145 40 0 1 rfl).trans k135
                          show G 163 [some (.inr (.inr (40, 0))), none, some (.inl ab), some (.inl ac), some (.inl x5), some (.inl x6), some (.inl x7), some (.inl (v7_47 + j140)), none, none] [.inl x146] 122 t145
                          have SP := br143.2
                          have QK : t127 40 0 3 = aa := by omega
                          rw [QK, pm_vv_eq hf41] at SP
                          have hf60 : ∀ i : Int, t145 60 0 i = f60 i := fun i => (Ft145 60 0 i rfl).trans (hf60 i)
                          refine px_istore hG dX11_both_163 (Nat.le_of_ble_eq_true rfl) (L2 := [some (.inr (.inr (40, 0))), none, some (.inl ab), some (.inl ac), some (.inl x5), some (.inl x6), some (.inl x7), some (.inl (v7_47 + j140)), some (.inl x146), none]) rfl ?_
                          refine px_goto hG dX11_both_165 (tgt := 117) (by decide) ?_
                          exact ih52 (v7_47 + j140) x146 t145 Rt145 Ff147 k152 k153 (⟨Jt145, fun j h0 h1 => by rw [hf60]; exact U60 j h0 h1, by omega, by omega⟩) (by have WL2 := WL _ _ SP.1 SP.2; omega)
                        refine px_ic_ne hG dX11_both_140 (tgt := 155) (by decide) ⟨by omega, by omega⟩ ⟨by omega, by omega⟩ (fun c139 => ?_) (fun c139 => ?_)
                        · refine px_iconst hG dX11_both_155 ?_
                          refine px_weak hG (L2 := [some (.inr (.inr (40, 0))), none, some (.inl ab), some (.inl ac), some (.inl x5), some (.inl x6), some (.inl x7), none, none, none]) ⟨Or.inr rfl, Or.inr rfl, Or.inr rfl, Or.inr rfl, Or.inr rfl, Or.inr rfl, Or.inr rfl, Or.inl rfl, Or.inl rfl, Or.inr rfl, trivial⟩ ?_
                          exact J156_141 0 (by omega)
                        · refine px_aload_n hG dX11_both_143 rfl ?_
                          refine jv0 hG dX11_both_144 ct_X11_dinv lk_X11_235 ⟨rfl, rfl⟩ (by decide) ⟨Nat.le_of_ble_eq_true rfl, Nat.le_of_ble_eq_true rfl, Nat.le_of_ble_eq_true rfl⟩ (Nat.le_of_ble_eq_true rfl) ⟨rfl, rfl, Rt127, Jt127⟩ (fun r154 t155 pr154 => ?_)
                          obtain ⟨x156, rfl, rfl, br154⟩ := pr154 rfl
                          show G 147 [some (.inr (.inr (40, 0))), none, some (.inl ab), some (.inl ac), some (.inl x5), some (.inl x6), some (.inl x7), some (.inl v7_47), some (.inl v8_48), none] [.inl x156, .inl v7_47] 122 t127
                          refine px_iload_n hG dX11_both_147 rfl ?_
                          refine px_ic_ne hG dX11_both_148 (tgt := 155) (by decide) ⟨by omega, by omega⟩ ⟨by omega, by omega⟩ (fun c157 => ?_) (fun c157 => ?_)
                          · refine px_iconst hG dX11_both_155 ?_
                            refine px_weak hG (L2 := [some (.inr (.inr (40, 0))), none, some (.inl ab), some (.inl ac), some (.inl x5), some (.inl x6), some (.inl x7), none, none, none]) ⟨Or.inr rfl, Or.inr rfl, Or.inr rfl, Or.inr rfl, Or.inr rfl, Or.inr rfl, Or.inr rfl, Or.inl rfl, Or.inl rfl, Or.inr rfl, trivial⟩ ?_
                            exact J156_141 0 (by omega)
                          · refine px_iconst hG dX11_both_151 ?_
                            refine px_goto hG dX11_both_152 (tgt := 156) (by decide) ?_
                            refine px_weak hG (L2 := [some (.inr (.inr (40, 0))), none, some (.inl ab), some (.inl ac), some (.inl x5), some (.inl x6), some (.inl x7), none, none, none]) ⟨Or.inr rfl, Or.inr rfl, Or.inr rfl, Or.inr rfl, Or.inr rfl, Or.inr rfl, Or.inr rfl, Or.inl rfl, Or.inl rfl, Or.inr rfl, trivial⟩ ?_
                            exact J156_141 1 (by omega)
                exact L117 _ 0 1 s35 R36 F37 k39 k40 (⟨Js35, W6, by omega, by omega⟩) (Nat.lt_succ_self _)
              refine px_ic_gt hG dX11_both_97 (tgt := 111) (by decide) ⟨by omega, by omega⟩ ⟨by omega, by omega⟩ (fun c44 => ?_) (fun c44 => ?_)
              · refine px_weak hG (L2 := [some (.inr (.inr (40, 0))), none, some (.inl ab), some (.inl ac), some (.inl x5), some (.inl x6), some (.inl x7), none, none, none]) ⟨Or.inr rfl, Or.inl rfl, Or.inr rfl, Or.inr rfl, Or.inr rfl, Or.inr rfl, Or.inr rfl, Or.inl rfl, Or.inr rfl, Or.inr rfl, trivial⟩ ?_
                exact J111_45  (by omega)
              · refine px_aload_n hG dX11_both_100 rfl ?_
                refine px_iconst hG dX11_both_101 ?_
                refine jv1 hG dX11_both_102 ct_X11_add lk_X11_113 ⟨rfl, rfl⟩ (by decide) ⟨Nat.le_of_ble_eq_true rfl, Nat.le_of_ble_eq_true rfl, Nat.le_of_ble_eq_true rfl⟩ (Nat.le_of_ble_eq_true rfl) ⟨1, rfl, rfl, R36, ⟨by omega, Js35⟩⟩ (fun r158 t160 pr158 => ?_)
                obtain ⟨rfl, Rt160, Ft160, br158⟩ := pr158 _ rfl
                have Ff162 := pm_Fr_tr F37 Ft160 (M := [(40, some 0), (40, some 1), (40, some 3), (41, none), (42, none), (43, none), (44, none), (57, none), (58, none), (59, none), (60, none)]) rfl
                have jj163 := Ft160 40 0 0 rfl
                have jj164 := Ft160 40 0 1 rfl
                have jj165 := Ft160 40 0 2 rfl
                have Jt160 : pm_J2 t160 := br158.1
                have k166 : t160 40 0 0 = 0 := (Ft160 40 0 0 rfl).trans k39
                have k167 : t160 40 0 1 = aa := (Ft160 40 0 1 rfl).trans k40
                show G 105 [some (.inr (.inr (40, 0))), some (.inl aa), some (.inl ab), some (.inl ac), some (.inl x5), some (.inl x6), some (.inl x7), some (.inl v7_34), none, none] [] 122 t160
                have W7 : (∀ j : Int, 1 ≤ j → j ≤ s0 40 0 3 → 1 ≤ t160 60 0 j ∧ t160 60 0 j ≤ s0 40 0 1) := fun j h0 h1 => by rw [Ft160 60 0 j rfl]; exact W6 j h0 h1
                refine px_iinc hG dX11_both_105 (Nat.le_of_ble_eq_true rfl) rfl (L2 := [some (.inr (.inr (40, 0))), some (.inl aa), some (.inl ab), some (.inl ac), some (.inl x5), some (.inl x6), some (.inl x7), some (.inl (v7_34 + 1)), none, none]) rfl ?_
                refine px_goto hG dX11_both_108 (tgt := 94) (by decide) ?_
                exact ih38 (v7_34 + 1) t160 Rt160 Ff162 k166 k167 (⟨by omega, ⟨Jt160, W7, by omega, by omega⟩⟩) (by omega)
          exact L94 _ 1 s30 Rs30 Fs30 k31 k32 (⟨by omega, ⟨Js30, W6, by omega, by omega⟩⟩) (Nat.lt_succ_self _)
        refine px_ic_gt hG dX11_both_39 (tgt := 76) (by decide) ⟨by omega, by omega⟩ ⟨by omega, by omega⟩ (fun c19 => ?_) (fun c19 => ?_)
        · refine px_weak hG (L2 := [some (.inr (.inr (40, 0))), some (.inl aa), some (.inl ab), some (.inl ac), some (.inl x5), some (.inl x6), some (.inl x7), none, none, none]) ⟨Or.inr rfl, Or.inr rfl, Or.inr rfl, Or.inr rfl, Or.inr rfl, Or.inr rfl, Or.inr rfl, Or.inl rfl, Or.inr rfl, Or.inr rfl, trivial⟩ ?_
          exact J76_20  (by omega)
        · refine px_aload_n hG dX11_both_42 rfl ?_
          refine gr_40_23 hG dX11_both_43 fl_X11_73 R10 ?_
          refine px_iload hG dX11_both_46 rfl ?_
          refine px_aload_n hG dX11_both_48 rfl ?_
          refine gr_40_4 hG dX11_both_49 fl_X11_13 R10 ?_
          refine px_iload hG dX11_both_52 rfl ?_
          refine al_41 hG dX11_both_54 R10 (by omega) (fun x168 ex168 lx168 ux168 => ?_)
          have X1 := Js9.2 v7_8 (by omega) (by omega)
          rw [ex168] at X1
          refine as_60 hG dX11_both_55 R10 (by omega) (by omega) (fun s169 qs169 Rs169 => ?_)
          have Fs169 := pm_Fr_up (F11) qs169 (M := [(40, some 0), (40, some 1), (40, some 3), (41, none), (42, none), (43, none), (44, none), (57, none), (58, none), (59, none), (60, none)]) rfl
          have k170 : s169 40 0 0 = x5 := (pm_nec qs169 (by decide)).trans k13
          have k171 : s169 40 0 1 = x6 := (pm_nec qs169 (by decide)).trans k14
          have k172 : s169 40 0 3 = x7 := (pm_nec qs169 (by decide)).trans k15
          have jj173 := pm_nec qs169 (c' := 40) (r' := 0) (i' := 0) (by decide)
          have jj174 := pm_nec qs169 (c' := 40) (r' := 0) (i' := 1) (by decide)
          have jj175 := pm_nec qs169 (c' := 40) (r' := 0) (i' := 2) (by decide)
          have jj176 := pm_nec qs169 (c' := 40) (r' := 0) (i' := 3) (by decide)
          have E1 := qs169
          have Js169 := pm_J2_up qs169 (by decide) (by decide) Js9
          refine px_aload_n hG dX11_both_56 rfl ?_
          refine gr_40_22 hG dX11_both_57 fl_X11_70 Rs169 ?_
          refine px_iload hG dX11_both_60 rfl ?_
          refine px_aload_n hG dX11_both_62 rfl ?_
          refine gr_40_5 hG dX11_both_63 fl_X11_17 Rs169 ?_
          refine px_iload hG dX11_both_66 rfl ?_
          refine al_42 hG dX11_both_68 Rs169 (by omega) (fun x177 ex177 lx177 ux177 => ?_)
          refine as_59 hG dX11_both_69 Rs169 (by omega) (by omega) (fun s178 qs178 Rs178 => ?_)
          have Fs178 := pm_Fr_up (Fs169) qs178 (M := [(40, some 0), (40, some 1), (40, some 3), (41, none), (42, none), (43, none), (44, none), (57, none), (58, none), (59, none), (60, none)]) rfl
          have k179 : s178 40 0 0 = x5 := (pm_nec qs178 (by decide)).trans k170
          have k180 : s178 40 0 1 = x6 := (pm_nec qs178 (by decide)).trans k171
          have k181 : s178 40 0 3 = x7 := (pm_nec qs178 (by decide)).trans k172
          have jj182 := pm_nec qs178 (c' := 40) (r' := 0) (i' := 0) (by decide)
          have jj183 := pm_nec qs178 (c' := 40) (r' := 0) (i' := 1) (by decide)
          have jj184 := pm_nec qs178 (c' := 40) (r' := 0) (i' := 2) (by decide)
          have jj185 := pm_nec qs178 (c' := 40) (r' := 0) (i' := 3) (by decide)
          have E2 := qs178
          have Js178 := pm_J2_up qs178 (by decide) (by decide) Js169
          refine px_iinc hG dX11_both_70 (Nat.le_of_ble_eq_true rfl) rfl (L2 := [some (.inr (.inr (40, 0))), some (.inl aa), some (.inl ab), some (.inl ac), some (.inl x5), some (.inl x6), some (.inl x7), some (.inl (v7_8 + 1)), none, none]) rfl ?_
          refine px_goto hG dX11_both_73 (tgt := 35) (by decide) ?_
          exact ih12 (v7_8 + 1) s178 Rs178 Fs178 k179 k180 k181 (⟨by omega, ⟨Js178, pm_kstep6 W E1 E2 (by omega)⟩⟩) (by omega)
    exact L35 _ 1 s0 R0 pm_Fr_rf ex5 ex6 ex7 (⟨by omega, ⟨J2, fun j h0 h1 => by omega⟩⟩) (Nat.lt_succ_self _)
  · refine px_iconst hG dX11_both_12 ?_
    exact px_iret (st := []) hG dX11_both_13 rfl rfl (fun aa_1 ab_1 ac_1 ee => by cases ee; exact ⟨_, rfl, R0, pm_Fr_rf, J2⟩))
