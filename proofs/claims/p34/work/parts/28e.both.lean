/-! ===== the model: both, exactly ===== -/
theorem pm_adw1 {s t : pm_H} {v k : Int} (W : ∀ j : Int, 1 ≤ j → j < v → s 41 0 j = 1 ∧ s 42 0 j = 1) (A : t 41 0 (k + 1) = 1 ∧ t 42 0 (k + 1) = 1 ∧ ∀ i : Int, i ≠ k + 1 → t 41 0 i = s 41 0 i ∧ t 42 0 i = s 42 0 i) (hk : k + 1 = v) : ∀ j : Int, 1 ≤ j → j < v + 1 → t 41 0 j = 1 ∧ t 42 0 j = 1 := fun j a b => by
  by_cases z : j = k + 1
  · rw [z]
    exact ⟨A.1, A.2.1⟩
  · rw [(A.2.2 j z).1, (A.2.2 j z).2]
    exact W j a (by omega)
def pm_MI (s : pm_H) (n : Nat) (a d found more : Int) : Prop := (∀ j : Int, 1 ≤ j → j ≤ n → s 42 0 j = 1) ∧ ((a < 0 ∨ 10 < a ∨ d < 0 ∨ 10 < d) → found = 0) ∧ ((more = 1 ∧ ∃ u : Nat, u < n ^ n ∧ pm_fu n u (s 41 0) ∧ found = pm_cu (pm_Pd n a d) u) ∨ (more = 0 ∧ found = pm_cu (pm_Pd n a d) (n ^ n)))
theorem pm_MI_0 {s : pm_H} {n : Nat} {a d : Int} (h1 : 1 ≤ n) (W : ∀ j : Int, 1 ≤ j → j ≤ n → s 41 0 j = 1 ∧ s 42 0 j = 1) : pm_MI s n a d 0 1 :=
  ⟨fun j a b => (W j a b).2, fun _ => rfl, Or.inl ⟨rfl, 0, pm_npos h1, pm_fu_1 (fun j a b => (W j a b).1), rfl⟩⟩
theorem pm_PG_gd {s : pm_H} {f : Int → Int} {m : Nat} (e : s 41 0 = f) (h1 : s 40 0 1 = m) (h3 : s 40 0 3 = m) (pos : ∀ j : Int, 1 ≤ j → j ≤ m → 1 ≤ f j) : (∀ p : Int, 0 ≤ p → p ≤ s 40 0 1 → pm_gt (s 41 0) p (s 40 0 3).toNat ≤ s 40 0 1 - p) ↔ pm_gd f m := by
  rw [e, h1, h3, Int.toNat_natCast]
  exact ⟨fun h => ⟨pos, h⟩, fun h => h.2⟩
theorem pm_VB {s : pm_H} {aa : Int} (J : pm_J2 s) (h3 : s 40 0 3 = aa) (h1 : s 40 0 1 = aa) (h0 : 0 ≤ aa) (h5 : aa ≤ 5) : pm_vv (s 41 0) aa.toNat ≤ 25937424601 := by
  have VB := pm_vv_lt (f := s 41 0) (k := aa.toNat) (fun j a b => by have := J.2 j a (by omega); omega) (by omega)
  have PP := pm_pw_pos (aa.toNat : Nat)
  omega
theorem pm_z01 {x : Int} (h : x = 0 ∨ x = 1) : pm_in x := by rcases h with h | h <;> subst h <;> exact ⟨by decide, by decide⟩
theorem pm_FO_g {a d found t p q : Int} (M : (a < 0 ∨ 10 < a ∨ d < 0 ∨ 10 < d) → found = 0) (J : (t = 1 ∧ p = a ∧ q = d ∧ 0 ≤ a ∧ a ≤ 10 ∧ 0 ≤ d ∧ d ≤ 10) ∨ (t = 0 ∧ (p ≠ a ∨ q ≠ d))) : (a < 0 ∨ 10 < a ∨ d < 0 ∨ 10 < d) → found + t = 0 := fun h => by
  have m := M h
  rcases J with j | j
  · omega
  · omega
theorem pm_MI_b {n u : Nat} {a d found : Int} (h : found = pm_cu (pm_Pd n a d) u) (g : pm_gN n u ≠ true) : found = pm_cu (pm_Pd n a d) (u + 1) := by
  rw [pm_cu_n (pm_Pd_n g)]
  exact h
theorem pm_MI_g {n u : Nat} {f : Int → Int} {a d found t : Int} (hf : pm_fu n u f) (h : found = pm_cu (pm_Pd n a d) u) (g : pm_gN n u = true) (J : (t = 1 ∧ pm_ar n f = a ∧ pm_dw n f = d ∧ 0 ≤ a ∧ a ≤ 10 ∧ 0 ≤ d ∧ d ≤ 10) ∨ (t = 0 ∧ (pm_ar n f ≠ a ∨ pm_dw n f ≠ d))) : found + t = pm_cu (pm_Pd n a d) (u + 1) := by
  rcases J with ⟨j1, j2, j3, _⟩ | ⟨j1, j2⟩
  · rw [pm_cu_1 ((pm_Pd_iff hf a d).mpr ⟨g, j2, j3⟩), h, j1]
  · rw [pm_cu_n (fun w => by
      have q := (pm_Pd_iff hf a d).mp w
      rcases j2 with j2 | j2
      · exact j2 q.2.1
      · exact j2 q.2.2), h, j1, Int.add_zero]
theorem pm_MI_s {t : pm_H} {n u : Nat} {f : Int → Int} {a d found x : Int} (h1 : 1 ≤ n) (h5 : n ≤ 5) (L : ∀ j : Int, 1 ≤ j → j ≤ n → t 42 0 j = 1) (FO : (a < 0 ∨ 10 < a ∨ d < 0 ∨ 10 < d) → found = 0) (FD : found = pm_cu (pm_Pd n a d) (u + 1)) (hu : u < n ^ n) (hf : pm_fu n u f) (hx : x = 0 ∨ x = 1)
    (S1 : x = 1 → pm_OD n f (t 41 0)) (S0 : x = 0 → ∀ y : Int, 1 ≤ y → y ≤ n → f y = n) : pm_MI t n a d found x := by
  refine ⟨L, FO, ?_⟩
  rcases hx with hx | hx
  · have e := pm_OD_e h1 h5 hf hu (S0 hx)
    rw [e] at FD
    exact Or.inr ⟨hx, FD⟩
  · obtain ⟨q1, q2⟩ := pm_OD_s h1 h5 hf hu (S1 hx)
    exact Or.inl ⟨hx, u + 1, q1, q2, FD⟩
theorem pm_MI_e {s : pm_H} {m : Nat} {aa a d found more : Int} (MI : pm_MI s m a d found more) (hm : (m : Int) = aa) (h : 1 ≤ aa ∧ aa ≤ 5) (h0 : more = 0) : pm_BO aa a d found := by
  obtain ⟨_, M2, M3⟩ := MI
  subst hm
  refine Or.inr ⟨h, ?_⟩
  by_cases z : a < 0 ∨ 10 < a ∨ d < 0 ∨ 10 < d
  · exact Or.inl ⟨z, M2 z⟩
  · refine Or.inr ⟨by omega, ?_⟩
    rw [Int.toNat_natCast]
    rcases M3 with ⟨h1, _⟩ | ⟨_, h2⟩
    · omega
    · exact h2

def pre_X11_bothe (as : List pm_V) (n : Nat) (σ : pm_H) : Prop := ∃ aa ab ac : Int, as = [.inr (.inr (40, 0)), .inl aa, .inl ab, .inl ac] ∧ n = 122 ∧ pm_Rng σ ∧ ((pm_in aa ∧ pm_in ab ∧ pm_in ac) ∧ pm_J2 σ)
def po_X11_bothe (as : List pm_V) (_ : Nat) (σ : pm_H) (r : Option pm_V) (τ : pm_H) : Prop := ∀ aa ab ac : Int, as = [.inr (.inr (40, 0)), .inl aa, .inl ab, .inl ac] → ∃ v : Int, r = some (.inl v) ∧ pm_Rng τ ∧ pm_Fr [(40, some 0), (40, some 1), (40, some 3), (41, none), (42, none), (43, none), (44, none), (57, none), (58, none), (59, none), (60, none)] σ τ ∧ (pm_J2 τ ∧ (pm_BO aa ab ac v))
set_option maxRecDepth 20000 in
set_option maxHeartbeats 20000000 in
theorem ct_X11_bothe : pm_Ct yX11_both cX11_both 10 (some .int) 3 0 pre_X11_bothe po_X11_bothe := pm_sound (ini := false) (by decide +kernel) pk_X11_both (fun h => absurd h (by decide)) (by
  rintro as n s0 ⟨aa, ab, ac, rfl, rfl, R0, hpre⟩
  refine ⟨by decide, Nat.le_of_ble_eq_true rfl, fun G hG => ?_⟩
  have hG : pm_Rules (RX11, 3, 122, cX11_both, -1, (fun _ => 0), false, (some .int), po_X11_bothe [.inr (.inr (40, 0)), .inl aa, .inl ab, .inl ac] 122 s0) G := hG
  show G 0 [some (.inr (.inr (40, 0))), some (.inl aa), some (.inl ab), some (.inl ac), none, none, none, none, none, none] [] 122 s0
  have B0 := pb_40_0 R0
  have B1 := pb_40_1 R0
  have B2 := pb_40_2 R0
  have B3 := pb_40_3 R0
  have J2 := hpre.2
  have HP := hpre.1
  have JK := J2.1
  have JW := J2.2
  refine px_iload_n hG dX11_both_0 rfl ?_
  refine px_i2l hG dX11_both_1 ⟨by omega, by omega⟩ ?_
  refine px_lconst hG dX11_both_2 ?_
  show G 3 [some (.inr (.inr (40, 0))), some (.inl aa), some (.inl ab), some (.inl ac), none, none, none, none, none, none] [.inr (.inl 1), .inr (.inl aa)] 122 s0
  refine px_ldc2 hG dX11_both_3 cn_X11_238 ?_
  show G 6 [some (.inr (.inr (40, 0))), some (.inl aa), some (.inl ab), some (.inl ac), none, none, none, none, none, none] [.inr (.inl 5), .inr (.inl 1), .inr (.inl aa)] 122 s0
  refine js3 hG dX11_both_6 ct_X11_in lk_X11_96 ⟨Nat.le_of_ble_eq_true rfl, Nat.le_of_ble_eq_true rfl, Nat.le_of_ble_eq_true rfl⟩ (Nat.le_of_ble_eq_true rfl) ⟨aa, 1, 5, rfl, rfl, R0, by omega⟩ (fun r1 t2 pr1 => ?_)
  obtain ⟨x3, rfl, rfl, br1⟩ := pr1 _ _ _ rfl
  show G 9 [some (.inr (.inr (40, 0))), some (.inl aa), some (.inl ab), some (.inl ac), none, none, none, none, none, none] [.inl x3] 122 s0
  refine px_if_ne hG dX11_both_9 (tgt := 14) (by decide) ⟨by omega, by omega⟩ (fun c4 => ?_) (fun c4 => ?_)
  · obtain ⟨m, hm⟩ : ∃ m : Nat, (m : Int) = aa := ⟨aa.toNat, by omega⟩
    have mE := fun (_ : Unit) => (show aa.toNat = m by omega)
    have m1 : 1 ≤ m := by omega
    have m5 : m ≤ 5 := by omega
    have aa0 : 0 ≤ aa := by omega
    have aa5 : aa ≤ 5 := by omega
    refine px_aload_n hG dX11_both_14 rfl ?_
    refine gi_40_0 hG dX11_both_15 fl_X11_104 R0 (fun x5 ex5 lx5 ux5 => ?_)
    refine px_istore hG dX11_both_18 (Nat.le_of_ble_eq_true rfl) (L2 := [some (.inr (.inr (40, 0))), some (.inl aa), some (.inl ab), some (.inl ac), some (.inl x5), none, none, none, none, none]) rfl ?_
    refine px_aload_n hG dX11_both_20 rfl ?_
    refine gi_40_1 hG dX11_both_21 fl_X11_7 R0 (fun x6 ex6 lx6 ux6 => ?_)
    refine px_istore hG dX11_both_24 (Nat.le_of_ble_eq_true rfl) (L2 := [some (.inr (.inr (40, 0))), some (.inl aa), some (.inl ab), some (.inl ac), some (.inl x5), some (.inl x6), none, none, none, none]) rfl ?_
    refine px_aload_n hG dX11_both_26 rfl ?_
    refine gi_40_3 hG dX11_both_27 fl_X11_110 R0 (fun x7 ex7 lx7 ux7 => ?_)
    refine px_istore hG dX11_both_30 (Nat.le_of_ble_eq_true rfl) (L2 := [some (.inr (.inr (40, 0))), some (.inl aa), some (.inl ab), some (.inl ac), some (.inl x5), some (.inl x6), some (.inl x7), none, none, none]) rfl ?_
    refine px_iconst hG dX11_both_32 ?_
    refine px_istore hG dX11_both_33 (Nat.le_of_ble_eq_true rfl) (L2 := [some (.inr (.inr (40, 0))), some (.inl aa), some (.inl ab), some (.inl ac), some (.inl x5), some (.inl x6), some (.inl x7), some (.inl 1), none, none]) rfl ?_
    have L35 : ∀ (N : Nat) (v7_8 : Int) (s9 : pm_H), pm_Rng s9 → pm_Fr [(40, some 0), (40, some 1), (40, some 3), (41, none), (42, none), (43, none), (44, none), (57, none), (58, none), (59, none), (60, none)] s0 s9 → s9 40 0 0 = x5 → s9 40 0 1 = x6 → s9 40 0 3 = x7 → ((1 ≤ v7_8 ∧ v7_8 ≤ 10000) ∧ (pm_J2 s9 ∧ (∀ j : Int, 1 ≤ j → j < v7_8 → 1 ≤ s9 60 0 j ∧ s9 60 0 j ≤ s0 40 0 1))) → (10001 - v7_8).toNat < N → G 35 [some (.inr (.inr (40, 0))), some (.inl aa), some (.inl ab), some (.inl ac), some (.inl x5), some (.inl x6), some (.inl x7), some (.inl v7_8), none, none] [] 122 s9 := by
      intro N
      induction N with
      | zero => intro v7_8 s9 R10 F11 k13 k14 k15 inv16 hm17; exact absurd hm17 (Nat.not_lt_zero _)
      | succ N ih12 =>
        intro v7_8 s9 R10 F11 k13 k14 k15 inv16 hm17
        have jj18 := F11 40 0 2 rfl
        have Js9 := (inv16.2).1
        have W := (inv16.2).2
        refine px_iload hG dX11_both_35 rfl ?_
        refine px_iload hG dX11_both_37 rfl ?_
        have J76_20 : ((v7_8 > x7)) → G 76 [some (.inr (.inr (40, 0))), some (.inl aa), some (.inl ab), some (.inl ac), some (.inl x5), some (.inl x6), some (.inl x7), none, none, none] [] 122 s9 := by
          intro inv21
          have W6 : (∀ j : Int, 1 ≤ j → j ≤ s0 40 0 3 → 1 ≤ s9 60 0 j ∧ s9 60 0 j ≤ s0 40 0 1) := fun j h0 h1 => W j h0 (by omega)
          refine px_aload_n hG dX11_both_76 rfl ?_
          refine px_iconst hG dX11_both_77 ?_
          refine pi_40_0 hG dX11_both_78 fl_X11_104 R10 (by omega) (fun s22 qs22 Rs22 => ?_)
          have Fs22 := pm_Fr_up (F11) qs22 (M := [(40, some 0), (40, some 1), (40, some 3), (41, none), (42, none), (43, none), (44, none), (57, none), (58, none), (59, none), (60, none)]) rfl
          have k23 : s22 40 0 1 = x6 := (pm_nei qs22 (by decide)).trans k14
          have k24 : s22 40 0 3 = x7 := (pm_nei qs22 (by decide)).trans k15
          have k25 : s22 40 0 0 = 0 := pm_at qs22
          have W6 : (∀ j : Int, 1 ≤ j → j ≤ s0 40 0 3 → 1 ≤ s22 60 0 j ∧ s22 60 0 j ≤ s0 40 0 1) := fun j h0 h1 => by rw [pm_nec qs22 (by decide)]; exact W6 j h0 h1
          refine px_aload_n hG dX11_both_81 rfl ?_
          refine px_iload_n hG dX11_both_82 rfl ?_
          refine pi_40_1 hG dX11_both_83 fl_X11_7 Rs22 (by omega) (fun s26 qs26 Rs26 => ?_)
          have Fs26 := pm_Fr_up (Fs22) qs26 (M := [(40, some 0), (40, some 1), (40, some 3), (41, none), (42, none), (43, none), (44, none), (57, none), (58, none), (59, none), (60, none)]) rfl
          have k27 : s26 40 0 3 = x7 := (pm_nei qs26 (by decide)).trans k24
          have k28 : s26 40 0 0 = 0 := (pm_nei qs26 (by decide)).trans k25
          have k29 : s26 40 0 1 = aa := pm_at qs26
          have W6 : (∀ j : Int, 1 ≤ j → j ≤ s0 40 0 3 → 1 ≤ s26 60 0 j ∧ s26 60 0 j ≤ s0 40 0 1) := fun j h0 h1 => by rw [pm_nec qs26 (by decide)]; exact W6 j h0 h1
          refine px_aload_n hG dX11_both_86 rfl ?_
          refine px_iconst hG dX11_both_87 ?_
          refine pi_40_3 hG dX11_both_88 fl_X11_110 Rs26 (by omega) (fun s30 qs30 Rs30 => ?_)
          have Fs30 := pm_Fr_up (Fs26) qs30 (M := [(40, some 0), (40, some 1), (40, some 3), (41, none), (42, none), (43, none), (44, none), (57, none), (58, none), (59, none), (60, none)]) rfl
          have k31 : s30 40 0 0 = 0 := (pm_nei qs30 (by decide)).trans k28
          have k32 : s30 40 0 1 = aa := (pm_nei qs30 (by decide)).trans k29
          have k33 : s30 40 0 3 = 0 := pm_at qs30
          have W6 : (∀ j : Int, 1 ≤ j → j ≤ s0 40 0 3 → 1 ≤ s30 60 0 j ∧ s30 60 0 j ≤ s0 40 0 1) := fun j h0 h1 => by rw [pm_nec qs30 (by decide)]; exact W6 j h0 h1
          have EK := pm_at qs30
          have Js30 : pm_J2 s30 := ⟨by omega, fun j h0 h1 => by omega⟩
          refine px_iconst hG dX11_both_91 ?_
          refine px_istore hG dX11_both_92 (Nat.le_of_ble_eq_true rfl) (L2 := [some (.inr (.inr (40, 0))), some (.inl aa), some (.inl ab), some (.inl ac), some (.inl x5), some (.inl x6), some (.inl x7), some (.inl 1), none, none]) rfl ?_
          have L94 : ∀ (N : Nat) (v7_34 : Int) (s35 : pm_H), pm_Rng s35 → pm_Fr [(40, some 0), (40, some 1), (40, some 3), (41, none), (42, none), (43, none), (44, none), (57, none), (58, none), (59, none), (60, none)] s0 s35 → s35 40 0 0 = 0 → s35 40 0 1 = aa → ((1 ≤ v7_34 ∧ v7_34 ≤ 10000) ∧ (pm_J2 s35 ∧ (∀ j : Int, 1 ≤ j → j ≤ s0 40 0 3 → 1 ≤ s35 60 0 j ∧ s35 60 0 j ≤ s0 40 0 1) ∧ s35 40 0 3 = v7_34 - 1 ∧ v7_34 ≤ aa + 1 ∧ ∀ j : Int, 1 ≤ j → j < v7_34 → s35 41 0 j = 1 ∧ s35 42 0 j = 1)) → (10001 - v7_34).toNat < N → G 94 [some (.inr (.inr (40, 0))), some (.inl aa), some (.inl ab), some (.inl ac), some (.inl x5), some (.inl x6), some (.inl x7), some (.inl v7_34), none, none] [] 122 s35 := by
            intro N
            induction N with
            | zero => intro v7_34 s35 R36 F37 k39 k40 inv41 hm42; exact absurd hm42 (Nat.not_lt_zero _)
            | succ N ih38 =>
              intro v7_34 s35 R36 F37 k39 k40 inv41 hm42
              have jj43 := F37 40 0 2 rfl
              have Js35 := (inv41.2).1
              have W6 := (inv41.2).2.1
              have W8 := (inv41.2).2.2.2.2
              refine px_iload hG dX11_both_94 rfl ?_
              refine px_iload_n hG dX11_both_96 rfl ?_
              have J111_45 : ((v7_34 > aa)) → G 111 [some (.inr (.inr (40, 0))), none, some (.inl ab), some (.inl ac), some (.inl x5), some (.inl x6), some (.inl x7), none, none, none] [] 122 s35 := by
                intro inv46
                refine px_iconst hG dX11_both_111 ?_
                refine px_istore hG dX11_both_112 (Nat.le_of_ble_eq_true rfl) (L2 := [some (.inr (.inr (40, 0))), none, some (.inl ab), some (.inl ac), some (.inl x5), some (.inl x6), some (.inl x7), some (.inl 0), none, none]) rfl ?_
                refine px_iconst hG dX11_both_114 ?_
                refine px_istore hG dX11_both_115 (Nat.le_of_ble_eq_true rfl) (L2 := [some (.inr (.inr (40, 0))), none, some (.inl ab), some (.inl ac), some (.inl x5), some (.inl x6), some (.inl x7), some (.inl 0), some (.inl 1), none]) rfl ?_
                have L117 : ∀ (N : Nat) (v7_47 : Int) (v8_48 : Int) (s49 : pm_H), pm_Rng s49 → pm_Fr [(40, some 0), (40, some 1), (40, some 3), (41, none), (42, none), (43, none), (44, none), (57, none), (58, none), (59, none), (60, none)] s0 s49 → s49 40 0 0 = 0 → s49 40 0 1 = aa → ((pm_J2 s49 ∧ (∀ j : Int, 1 ≤ j → j ≤ s0 40 0 3 → 1 ≤ s49 60 0 j ∧ s49 60 0 j ≤ s0 40 0 1) ∧ s49 40 0 3 = aa ∧ (v8_48 = 0 ∨ v8_48 = 1) ∧ pm_MI s49 m ab ac v7_47 v8_48)) → (pm_wm v8_48 (25937424601 - pm_vv (s49 41 0) aa.toNat)).toNat < N → G 117 [some (.inr (.inr (40, 0))), none, some (.inl ab), some (.inl ac), some (.inl x5), some (.inl x6), some (.inl x7), some (.inl v7_47), some (.inl v8_48), none] [] 122 s49 := by
                  intro N
                  induction N with
                  | zero => intro v7_47 v8_48 s49 R50 F51 k53 k54 inv55 hm56; exact absurd hm56 (Nat.not_lt_zero _)
                  | succ N ih52 =>
                    intro v7_47 v8_48 s49 R50 F51 k53 k54 inv55 hm56
                    have jj57 := F51 40 0 2 rfl
                    have Js49 := (inv55).1
                    have U := (inv55).2.1
                    have MI := (inv55).2.2.2.2
                    have B8 := (inv55).2.2.2.1
                    have B9 := (inv55).2.2.1
                    refine px_iload hG dX11_both_117 rfl ?_
                    have J168_59 : ((v8_48 = 0)) → G 168 [some (.inr (.inr (40, 0))), none, none, none, some (.inl x5), some (.inl x6), some (.inl x7), some (.inl v7_47), none, none] [] 122 s49 := by
                      intro inv60
                      have W6 := U
                      have FF := pm_MI_e MI hm (by omega) (by omega)
                      refine px_aload_n hG dX11_both_168 rfl ?_
                      refine px_iload hG dX11_both_169 rfl ?_
                      refine pi_40_0 hG dX11_both_171 fl_X11_104 R50 (by omega) (fun s61 qs61 Rs61 => ?_)
                      have Fs61 := pm_Fr_up (F51) qs61 (M := [(40, some 0), (40, some 1), (40, some 3), (41, none), (42, none), (43, none), (44, none), (57, none), (58, none), (59, none), (60, none)]) rfl
                      have k62 : s61 40 0 1 = aa := (pm_nei qs61 (by decide)).trans k54
                      have k63 : s61 40 0 0 = x5 := pm_at qs61
                      have W6 : (∀ j : Int, 1 ≤ j → j ≤ s0 40 0 3 → 1 ≤ s61 60 0 j ∧ s61 60 0 j ≤ s0 40 0 1) := fun j h0 h1 => by rw [pm_nec qs61 (by decide)]; exact W6 j h0 h1
                      refine px_aload_n hG dX11_both_174 rfl ?_
                      refine px_iload hG dX11_both_175 rfl ?_
                      refine pi_40_1 hG dX11_both_177 fl_X11_7 Rs61 (by omega) (fun s64 qs64 Rs64 => ?_)
                      have Fs64 := pm_Fr_up (Fs61) qs64 (M := [(40, some 0), (40, some 1), (40, some 3), (41, none), (42, none), (43, none), (44, none), (57, none), (58, none), (59, none), (60, none)]) rfl
                      have k65 : s64 40 0 0 = x5 := (pm_nei qs64 (by decide)).trans k63
                      have k66 : s64 40 0 1 = x6 := pm_at qs64
                      have W6 : (∀ j : Int, 1 ≤ j → j ≤ s0 40 0 3 → 1 ≤ s64 60 0 j ∧ s64 60 0 j ≤ s0 40 0 1) := fun j h0 h1 => by rw [pm_nec qs64 (by decide)]; exact W6 j h0 h1
                      refine px_aload_n hG dX11_both_180 rfl ?_
                      refine px_iload hG dX11_both_181 rfl ?_
                      refine pi_40_3 hG dX11_both_183 fl_X11_110 Rs64 (by omega) (fun s67 qs67 Rs67 => ?_)
                      have Fs67 := pm_Fr_up (Fs64) qs67 (M := [(40, some 0), (40, some 1), (40, some 3), (41, none), (42, none), (43, none), (44, none), (57, none), (58, none), (59, none), (60, none)]) rfl
                      have k68 : s67 40 0 0 = x5 := (pm_nei qs67 (by decide)).trans k65
                      have k69 : s67 40 0 1 = x6 := (pm_nei qs67 (by decide)).trans k66
                      have k70 : s67 40 0 3 = x7 := pm_at qs67
                      have W6 : (∀ j : Int, 1 ≤ j → j ≤ s0 40 0 3 → 1 ≤ s67 60 0 j ∧ s67 60 0 j ≤ s0 40 0 1) := fun j h0 h1 => by rw [pm_nec qs67 (by decide)]; exact W6 j h0 h1
                      refine px_iconst hG dX11_both_186 ?_
                      refine px_istore hG dX11_both_187 (Nat.le_of_ble_eq_true rfl) (L2 := [some (.inr (.inr (40, 0))), none, none, none, some (.inl x5), some (.inl x6), some (.inl x7), some (.inl v7_47), none, some (.inl 1)]) rfl ?_
                      have L189 : ∀ (N : Nat) (v9_71 : Int) (s72 : pm_H), pm_Rng s72 → pm_Fr [(40, some 0), (40, some 1), (40, some 3), (41, none), (42, none), (43, none), (44, none), (57, none), (58, none), (59, none), (60, none)] s0 s72 → s72 40 0 0 = x5 → s72 40 0 1 = x6 → s72 40 0 3 = x7 → ((1 ≤ v9_71 ∧ v9_71 ≤ 10000) ∧ ((∀ j : Int, 1 ≤ j → j ≤ s0 40 0 3 → 1 ≤ s72 60 0 j ∧ s72 60 0 j ≤ s0 40 0 1) ∧ (∀ j : Int, 1 ≤ j → j < v9_71 → 1 ≤ s72 41 0 j ∧ s72 41 0 j ≤ s0 40 0 1))) → (10001 - v9_71).toNat < N → G 189 [some (.inr (.inr (40, 0))), none, none, none, none, none, some (.inl x7), some (.inl v7_47), none, some (.inl v9_71)] [] 122 s72 := by
                        intro N
                        induction N with
                        | zero => intro v9_71 s72 R73 F74 k76 k77 k78 inv79 hm80; exact absurd hm80 (Nat.not_lt_zero _)
                        | succ N ih75 =>
                          intro v9_71 s72 R73 F74 k76 k77 k78 inv79 hm80
                          have jj81 := F74 40 0 2 rfl
                          have W6 := (inv79.2).1
                          have W := (inv79.2).2
                          refine px_iload hG dX11_both_189 rfl ?_
                          refine px_iload hG dX11_both_191 rfl ?_
                          refine px_ic_gt hG dX11_both_193 (tgt := 230) (by decide) ⟨by omega, by omega⟩ ⟨by omega, by omega⟩ (fun c82 => ?_) (fun c82 => ?_)
                          · refine px_iload hG dX11_both_230 rfl ?_
                            have jj83 := F74 40 0 2 rfl
                            have JF : pm_J2 s72 := ⟨by omega, fun j h0 h1 => by have W2 := W j h0 (by omega); omega⟩
                            exact px_iret (st := []) hG dX11_both_232 rfl rfl (fun aa_1 ab_1 ac_1 ee => by cases ee; exact ⟨_, rfl, R73, F74, ⟨JF, FF⟩⟩)
                          · refine px_aload_n hG dX11_both_196 rfl ?_
                            refine gr_40_4 hG dX11_both_197 fl_X11_13 R73 ?_
                            refine px_iload hG dX11_both_200 rfl ?_
                            refine px_aload_n hG dX11_both_202 rfl ?_
                            refine gr_40_23 hG dX11_both_203 fl_X11_73 R73 ?_
                            refine px_iload hG dX11_both_206 rfl ?_
                            refine al_60 hG dX11_both_208 R73 (by omega) (fun x84 ex84 lx84 ux84 => ?_)
                            have X1 := W6 v9_71 (by omega) (by omega)
                            rw [ex84] at X1
                            refine as_41 hG dX11_both_209 R73 (by omega) (by omega) (fun s85 qs85 Rs85 => ?_)
                            have Fs85 := pm_Fr_up (F74) qs85 (M := [(40, some 0), (40, some 1), (40, some 3), (41, none), (42, none), (43, none), (44, none), (57, none), (58, none), (59, none), (60, none)]) rfl
                            have k86 : s85 40 0 0 = x5 := (pm_nec qs85 (by decide)).trans k76
                            have k87 : s85 40 0 1 = x6 := (pm_nec qs85 (by decide)).trans k77
                            have k88 : s85 40 0 3 = x7 := (pm_nec qs85 (by decide)).trans k78
                            have jj89 := pm_nec qs85 (c' := 40) (r' := 0) (i' := 0) (by decide)
                            have jj90 := pm_nec qs85 (c' := 40) (r' := 0) (i' := 1) (by decide)
                            have jj91 := pm_nec qs85 (c' := 40) (r' := 0) (i' := 2) (by decide)
                            have jj92 := pm_nec qs85 (c' := 40) (r' := 0) (i' := 3) (by decide)
                            have E1 := qs85
                            refine px_aload_n hG dX11_both_210 rfl ?_
                            refine gr_40_5 hG dX11_both_211 fl_X11_17 Rs85 ?_
                            refine px_iload hG dX11_both_214 rfl ?_
                            refine px_aload_n hG dX11_both_216 rfl ?_
                            refine gr_40_22 hG dX11_both_217 fl_X11_70 Rs85 ?_
                            refine px_iload hG dX11_both_220 rfl ?_
                            refine al_59 hG dX11_both_222 Rs85 (by omega) (fun x93 ex93 lx93 ux93 => ?_)
                            refine as_42 hG dX11_both_223 Rs85 (by omega) (by omega) (fun s94 qs94 Rs94 => ?_)
                            have Fs94 := pm_Fr_up (Fs85) qs94 (M := [(40, some 0), (40, some 1), (40, some 3), (41, none), (42, none), (43, none), (44, none), (57, none), (58, none), (59, none), (60, none)]) rfl
                            have k95 : s94 40 0 0 = x5 := (pm_nec qs94 (by decide)).trans k86
                            have k96 : s94 40 0 1 = x6 := (pm_nec qs94 (by decide)).trans k87
                            have k97 : s94 40 0 3 = x7 := (pm_nec qs94 (by decide)).trans k88
                            have jj98 := pm_nec qs94 (c' := 40) (r' := 0) (i' := 0) (by decide)
                            have jj99 := pm_nec qs94 (c' := 40) (r' := 0) (i' := 1) (by decide)
                            have jj100 := pm_nec qs94 (c' := 40) (r' := 0) (i' := 2) (by decide)
                            have jj101 := pm_nec qs94 (c' := 40) (r' := 0) (i' := 3) (by decide)
                            have E2 := qs94
                            refine px_iinc hG dX11_both_224 (Nat.le_of_ble_eq_true rfl) rfl (L2 := [some (.inr (.inr (40, 0))), none, none, none, none, none, some (.inl x7), some (.inl v7_47), none, some (.inl (v9_71 + 1))]) rfl ?_
                            refine px_goto hG dX11_both_227 (tgt := 189) (by decide) ?_
                            exact ih75 (v9_71 + 1) s94 Rs94 Fs94 k95 k96 k97 (⟨by omega, ⟨fun j h0 h1 => by rw [pm_nec E2 (by decide), pm_nec E1 (by decide)]; exact W6 j h0 h1, pm_rstep W E1 E2 (by omega)⟩⟩) (by omega)
                      refine px_weak hG (L2 := [some (.inr (.inr (40, 0))), none, none, none, none, none, some (.inl x7), some (.inl v7_47), none, some (.inl 1)]) ⟨Or.inr rfl, Or.inr rfl, Or.inr rfl, Or.inr rfl, Or.inl rfl, Or.inl rfl, Or.inr rfl, Or.inr rfl, Or.inr rfl, Or.inr rfl, trivial⟩ ?_
                      exact L189 _ 1 s67 Rs67 Fs67 k68 k69 k70 (⟨by omega, ⟨W6, fun j h0 h1 => by omega⟩⟩) (Nat.lt_succ_self _)
                    refine px_if_eq hG dX11_both_119 (tgt := 168) (by decide) (pm_z01 B8) (fun c58 => ?_) (fun c58 => ?_)
                    · refine px_weak hG (L2 := [some (.inr (.inr (40, 0))), none, none, none, some (.inl x5), some (.inl x6), some (.inl x7), some (.inl v7_47), none, none]) ⟨Or.inr rfl, Or.inr rfl, Or.inl rfl, Or.inl rfl, Or.inr rfl, Or.inr rfl, Or.inr rfl, Or.inr rfl, Or.inl rfl, Or.inr rfl, trivial⟩ ?_
                      exact J168_59  (by omega)
                    · obtain ⟨f41, hf41⟩ : ∃ f : Int → Int, ∀ i : Int, s49 41 0 i = f i := ⟨_, fun _ => rfl⟩
                      obtain ⟨f60, hf60⟩ : ∃ f : Int → Int, ∀ i : Int, s49 60 0 i = f i := ⟨_, fun _ => rfl⟩
                      have U60 : ∀ j : Int, 1 ≤ j → j ≤ s0 40 0 3 → 1 ≤ f60 j ∧ f60 j ≤ s0 40 0 1 := fun j a b => by rw [← hf60]; exact U j a b
                      have WL := fun (b2 vt : Int) (h : b2 = 0 ∨ b2 = 1) (h1 : b2 = 1 → pm_vv f41 aa.toNat + 1 ≤ vt) => pm_wm_lt (b := v8_48) (B := 25937424601) h h1 (pm_vv_eq (k := aa.toNat) hf41).symm (show ¬ (v8_48 = 0) by assumption) (pm_VB Js49 B9 (by assumption) aa0 aa5) B8
                      obtain ⟨MI1, MI2, MI3⟩ := id MI
                      obtain ⟨u, u1, u2, u3⟩ : ∃ u : Nat, u < m ^ m ∧ pm_fu m u (s49 41 0) ∧ v7_47 = pm_cu (pm_Pd m ab ac) u := by
                        rcases MI3 with ⟨_, h⟩ | ⟨h, _⟩
                        · exact h
                        · exact absurd h (by omega)
                      have e41 : s49 41 0 = f41 := funext hf41
                      rw [e41] at u2
                      have GI := pm_gN_iff u2
                      have PL : pm_pl s49 := ⟨by omega, fun j a b => MI1 j a (by omega)⟩
                      have GE := pm_PG_gd (s := s49) (m := m) e41 (by omega) (by omega) (fun j a b => by have q := Js49.2 j a (by omega); rw [hf41 j] at q; exact q.1)
                      refine px_aload_n hG dX11_both_122 rfl ?_
                      refine jv0 hG dX11_both_123 ct_X11_isGoodq lk_X11_139 ⟨rfl, rfl⟩ (by decide) ⟨Nat.le_of_ble_eq_true rfl, Nat.le_of_ble_eq_true rfl, Nat.le_of_ble_eq_true rfl⟩ (Nat.le_of_ble_eq_true rfl) ⟨rfl, rfl, R50, Js49⟩ (fun r102 t104 pr102 => ?_)
                      obtain ⟨x105, rfl, Rt104, Ft104, br102⟩ := pr102 rfl
                      have Ff106 := pm_Fr_tr F51 Ft104 (M := [(40, some 0), (40, some 1), (40, some 3), (41, none), (42, none), (43, none), (44, none), (57, none), (58, none), (59, none), (60, none)]) rfl
                      have jj107 := Ft104 40 0 0 rfl
                      have jj108 := Ft104 40 0 1 rfl
                      have jj109 := Ft104 40 0 2 rfl
                      have jj110 := Ft104 40 0 3 rfl
                      have Jt104 := pm_J2_fr Ft104 rfl Js49
                      have k111 : t104 40 0 0 = 0 := (Ft104 40 0 0 rfl).trans k53
                      have k112 : t104 40 0 1 = aa := (Ft104 40 0 1 rfl).trans k54
                      show G 126 [some (.inr (.inr (40, 0))), none, some (.inl ab), some (.inl ac), some (.inl x5), some (.inl x6), some (.inl x7), some (.inl v7_47), some (.inl v8_48), none] [.inl x105] 122 t104
                      have BZ := br102.1
                      have IG := br102.2
                      have GG1 : x105 = 1 → pm_gN m u = true := fun h => GI.mpr (GE.mp (IG.1 h PL))
                      have GG0 : x105 = 0 → pm_gN m u ≠ true := fun h g => IG.2 h PL (GE.mpr (GI.mp g))
                      have hf41 : ∀ i : Int, t104 41 0 i = f41 i := fun i => (Ft104 41 0 i rfl).trans (hf41 i)
                      have hf60 : ∀ i : Int, t104 60 0 i = f60 i := fun i => (Ft104 60 0 i rfl).trans (hf60 i)
                      have MI1 : ∀ j : Int, 1 ≤ j → j ≤ m → t104 42 0 j = 1 := fun j a b => (Ft104 42 0 j rfl).trans (MI1 j a b)
                      refine px_if_eq hG dX11_both_126 (tgt := 159) (by decide) (pm_z01 BZ) (fun c113 => ?_) (fun c113 => ?_)
                      · have FD : v7_47 = pm_cu (pm_Pd m ab ac) (u + 1) := by first | exact pm_MI_b u3 (GG0 (by assumption)) | exact pm_MI_g u2 u3 (GG1 X1) TJ
                        have FO : (ab < 0 ∨ 10 < ab ∨ ac < 0 ∨ 10 < ac) → v7_47 = 0 := by first | exact MI2 | exact pm_FO_g MI2 TJ
                        refine px_aload_n hG dX11_both_159 rfl ?_
                        refine jv0 hG dX11_both_160 ct_X11_stepe lk_X11_145 ⟨rfl, rfl⟩ (by decide) ⟨Nat.le_of_ble_eq_true rfl, Nat.le_of_ble_eq_true rfl, Nat.le_of_ble_eq_true rfl⟩ (Nat.le_of_ble_eq_true rfl) ⟨rfl, rfl, Rt104, Jt104⟩ (fun r114 t116 pr114 => ?_)
                        obtain ⟨x117, rfl, Rt116, Ft116, br114⟩ := pr114 rfl
                        have Ff118 := pm_Fr_tr Ff106 Ft116 (M := [(40, some 0), (40, some 1), (40, some 3), (41, none), (42, none), (43, none), (44, none), (57, none), (58, none), (59, none), (60, none)]) rfl
                        have jj119 := Ft116 40 0 0 rfl
                        have jj120 := Ft116 40 0 1 rfl
                        have jj121 := Ft116 40 0 2 rfl
                        have jj122 := Ft116 40 0 3 rfl
                        have Jt116 : pm_J2 t116 := br114.1
                        have k123 : t116 40 0 0 = 0 := (Ft116 40 0 0 rfl).trans k111
                        have k124 : t116 40 0 1 = aa := (Ft116 40 0 1 rfl).trans k112
                        show G 163 [some (.inr (.inr (40, 0))), none, some (.inl ab), some (.inl ac), some (.inl x5), some (.inl x6), some (.inl x7), some (.inl v7_47), some (.inl v8_48), none] [.inl x117] 122 t116
                        have SP := And.intro br114.2.1 br114.2.2.1
                        have QK : t104 40 0 3 = aa := by omega
                        rw [QK, pm_vv_eq hf41] at SP
                        have q41 : t104 41 0 = f41 := funext hf41
                        have q1 : t104 40 0 1 = (m : Int) := by omega
                        have q3 : t104 40 0 3 = (m : Int) := by omega
                        have SOD := br114.2.2.2.1
                        have SAL := br114.2.2.2.2
                        rw [q41, q1, q3] at SOD
                        rw [q41, q1, q3] at SAL
                        have hf60 : ∀ i : Int, t116 60 0 i = f60 i := fun i => (Ft116 60 0 i rfl).trans (hf60 i)
                        have MI1 : ∀ j : Int, 1 ≤ j → j ≤ m → t116 42 0 j = 1 := fun j a b => (Ft116 42 0 j rfl).trans (MI1 j a b)
                        refine px_istore hG dX11_both_163 (Nat.le_of_ble_eq_true rfl) (L2 := [some (.inr (.inr (40, 0))), none, some (.inl ab), some (.inl ac), some (.inl x5), some (.inl x6), some (.inl x7), some (.inl v7_47), some (.inl x117), none]) rfl ?_
                        refine px_goto hG dX11_both_165 (tgt := 117) (by decide) ?_
                        exact ih52 v7_47 x117 t116 Rt116 Ff118 k123 k124 (⟨Jt116, fun j h0 h1 => by rw [hf60]; exact U60 j h0 h1, by omega, by omega, pm_MI_s m1 m5 MI1 FO FD u1 u2 SP.1 (fun h => SOD h rfl) SAL⟩) (by have WL2 := WL _ _ SP.1 SP.2; omega)
                      · refine px_aload_n hG dX11_both_129 rfl ?_
                        refine jv0 hG dX11_both_130 ct_X11_findWalke lk_X11_228 ⟨rfl, rfl⟩ (by decide) ⟨Nat.le_of_ble_eq_true rfl, Nat.le_of_ble_eq_true rfl, Nat.le_of_ble_eq_true rfl⟩ (Nat.le_of_ble_eq_true rfl) ⟨rfl, rfl, Rt104, ⟨by omega, Jt104⟩⟩ (fun r125 t127 pr125 => ?_)
                        obtain ⟨rfl, Rt127, Ft127, br125⟩ := pr125 rfl
                        have Ff129 := pm_Fr_tr Ff106 Ft127 (M := [(40, some 0), (40, some 1), (40, some 3), (41, none), (42, none), (43, none), (44, none), (57, none), (58, none), (59, none), (60, none)]) rfl
                        have jj130 := Ft127 40 0 0 rfl
                        have jj131 := Ft127 40 0 1 rfl
                        have jj132 := Ft127 40 0 2 rfl
                        have jj133 := Ft127 40 0 3 rfl
                        have Jt127 := pm_J2_fr Ft127 rfl Jt104
                        have k134 : t127 40 0 0 = 0 := (Ft127 40 0 0 rfl).trans k111
                        have k135 : t127 40 0 1 = aa := (Ft127 40 0 1 rfl).trans k112
                        show G 133 [some (.inr (.inr (40, 0))), none, some (.inl ab), some (.inl ac), some (.inl x5), some (.inl x6), some (.inl x7), some (.inl v7_47), some (.inl v8_48), none] [] 122 t127
                        have n41 : t104 41 0 = f41 := funext hf41
                        have n1 : t104 40 0 1 = aa := by omega
                        have FW := br125
                        rw [n41, n1, mE ()] at FW
                        have hf41 : ∀ i : Int, t127 41 0 i = f41 i := fun i => (Ft127 41 0 i rfl).trans (hf41 i)
                        have hf60 : ∀ i : Int, t127 60 0 i = f60 i := fun i => (Ft127 60 0 i rfl).trans (hf60 i)
                        have MI1 : ∀ j : Int, 1 ≤ j → j ≤ m → t127 42 0 j = 1 := fun j a b => (Ft127 42 0 j rfl).trans (MI1 j a b)
                        have X1 := BZ.resolve_left (by assumption)
                        have GD := GI.mp (GG1 X1)
                        have HT := FW.1 GD
                        have WI := FW.2 GD
                        refine px_iload hG dX11_both_133 rfl ?_
                        refine px_aload_n hG dX11_both_135 rfl ?_
                        refine jv0 hG dX11_both_136 ct_X11_areae lk_X11_231 ⟨rfl, rfl⟩ (by decide) ⟨Nat.le_of_ble_eq_true rfl, Nat.le_of_ble_eq_true rfl, Nat.le_of_ble_eq_true rfl⟩ (Nat.le_of_ble_eq_true rfl) ⟨rfl, rfl, Rt127, Jt127⟩ (fun r136 t137 pr136 => ?_)
                        obtain ⟨x138, rfl, rfl, br136⟩ := pr136 rfl
                        show G 139 [some (.inr (.inr (40, 0))), none, some (.inl ab), some (.inl ac), some (.inl x5), some (.inl x6), some (.inl x7), some (.inl v7_47), some (.inl v8_48), none] [.inl x138, .inl v7_47] 122 t127
                        have nE : (t127 40 0 1).toNat = m := by omega
                        have A0 := br136.1
                        have A1 := br136.2 (fun j h0 h1 => HT j h0 (by omega))
                        have A2 := pm_t1_5 (a := (t127 40 0 1).toNat) (by omega)
                        have A3 : x138 = pm_ar m f41 := A0.trans (by rw [nE]; exact pm_sm_cg (fun j a b => (WI.2 j a (by omega)).2))
                        refine px_iload_n hG dX11_both_139 rfl ?_
                        have J156_141 : ∀ (j140 : Int), ((j140 = 1 ∧ pm_ar m f41 = ab ∧ pm_dw m f41 = ac ∧ 0 ≤ ab ∧ ab ≤ 10 ∧ 0 ≤ ac ∧ ac ≤ 10) ∨ (j140 = 0 ∧ (pm_ar m f41 ≠ ab ∨ pm_dw m f41 ≠ ac))) → G 156 [some (.inr (.inr (40, 0))), none, some (.inl ab), some (.inl ac), some (.inl x5), some (.inl x6), some (.inl x7), none, none, none] [.inl j140, .inl v7_47] 122 t127 := by
                          intro j140 inv142
                          have TJ := inv142
                          refine px_iadd hG dX11_both_156 ?_
                          refine px_istore hG dX11_both_157 (Nat.le_of_ble_eq_true rfl) (L2 := [some (.inr (.inr (40, 0))), none, some (.inl ab), some (.inl ac), some (.inl x5), some (.inl x6), some (.inl x7), some (.inl (v7_47 + j140)), none, none]) rfl ?_
                          have FD : (v7_47 + j140) = pm_cu (pm_Pd m ab ac) (u + 1) := by first | exact pm_MI_b u3 (GG0 (by assumption)) | exact pm_MI_g u2 u3 (GG1 X1) TJ
                          have FO : (ab < 0 ∨ 10 < ab ∨ ac < 0 ∨ 10 < ac) → (v7_47 + j140) = 0 := by first | exact MI2 | exact pm_FO_g MI2 TJ
                          refine px_aload_n hG dX11_both_159 rfl ?_
                          refine jv0 hG dX11_both_160 ct_X11_stepe lk_X11_145 ⟨rfl, rfl⟩ (by decide) ⟨Nat.le_of_ble_eq_true rfl, Nat.le_of_ble_eq_true rfl, Nat.le_of_ble_eq_true rfl⟩ (Nat.le_of_ble_eq_true rfl) ⟨rfl, rfl, Rt127, Jt127⟩ (fun r143 t145 pr143 => ?_)
                          obtain ⟨x146, rfl, Rt145, Ft145, br143⟩ := pr143 rfl
                          have Ff147 := pm_Fr_tr Ff129 Ft145 (M := [(40, some 0), (40, some 1), (40, some 3), (41, none), (42, none), (43, none), (44, none), (57, none), (58, none), (59, none), (60, none)]) rfl
                          have jj148 := Ft145 40 0 0 rfl
                          have jj149 := Ft145 40 0 1 rfl
                          have jj150 := Ft145 40 0 2 rfl
                          have jj151 := Ft145 40 0 3 rfl
                          have Jt145 : pm_J2 t145 := br143.1
                          have k152 : t145 40 0 0 = 0 := (Ft145 40 0 0 rfl).trans k134
                          have k153 : t145 40 0 1 = aa := (Ft145 40 0 1 rfl).trans k135
                          show G 163 [some (.inr (.inr (40, 0))), none, some (.inl ab), some (.inl ac), some (.inl x5), some (.inl x6), some (.inl x7), some (.inl (v7_47 + j140)), none, none] [.inl x146] 122 t145
                          have SP := And.intro br143.2.1 br143.2.2.1
                          have QK : t127 40 0 3 = aa := by omega
                          rw [QK, pm_vv_eq hf41] at SP
                          have q41 : t127 41 0 = f41 := funext hf41
                          have q1 : t127 40 0 1 = (m : Int) := by omega
                          have q3 : t127 40 0 3 = (m : Int) := by omega
                          have SOD := br143.2.2.2.1
                          have SAL := br143.2.2.2.2
                          rw [q41, q1, q3] at SOD
                          rw [q41, q1, q3] at SAL
                          have hf60 : ∀ i : Int, t145 60 0 i = f60 i := fun i => (Ft145 60 0 i rfl).trans (hf60 i)
                          have MI1 : ∀ j : Int, 1 ≤ j → j ≤ m → t145 42 0 j = 1 := fun j a b => (Ft145 42 0 j rfl).trans (MI1 j a b)
                          refine px_istore hG dX11_both_163 (Nat.le_of_ble_eq_true rfl) (L2 := [some (.inr (.inr (40, 0))), none, some (.inl ab), some (.inl ac), some (.inl x5), some (.inl x6), some (.inl x7), some (.inl (v7_47 + j140)), some (.inl x146), none]) rfl ?_
                          refine px_goto hG dX11_both_165 (tgt := 117) (by decide) ?_
                          exact ih52 (v7_47 + j140) x146 t145 Rt145 Ff147 k152 k153 (⟨Jt145, fun j h0 h1 => by rw [hf60]; exact U60 j h0 h1, by omega, by omega, pm_MI_s m1 m5 MI1 FO FD u1 u2 SP.1 (fun h => SOD h rfl) SAL⟩) (by have WL2 := WL _ _ SP.1 SP.2; omega)
                        refine px_ic_ne hG dX11_both_140 (tgt := 155) (by decide) ⟨by omega, by omega⟩ ⟨by omega, by omega⟩ (fun c139 => ?_) (fun c139 => ?_)
                        · refine px_iconst hG dX11_both_155 ?_
                          refine px_weak hG (L2 := [some (.inr (.inr (40, 0))), none, some (.inl ab), some (.inl ac), some (.inl x5), some (.inl x6), some (.inl x7), none, none, none]) ⟨Or.inr rfl, Or.inr rfl, Or.inr rfl, Or.inr rfl, Or.inr rfl, Or.inr rfl, Or.inr rfl, Or.inl rfl, Or.inl rfl, Or.inr rfl, trivial⟩ ?_
                          exact J156_141 0 (by omega)
                        · refine px_aload_n hG dX11_both_143 rfl ?_
                          refine jv0 hG dX11_both_144 ct_X11_dinve lk_X11_235 ⟨rfl, rfl⟩ (by decide) ⟨Nat.le_of_ble_eq_true rfl, Nat.le_of_ble_eq_true rfl, Nat.le_of_ble_eq_true rfl⟩ (Nat.le_of_ble_eq_true rfl) ⟨rfl, rfl, Rt127, Jt127⟩ (fun r154 t155 pr154 => ?_)
                          obtain ⟨x156, rfl, rfl, br154⟩ := pr154 rfl
                          show G 147 [some (.inr (.inr (40, 0))), none, some (.inl ab), some (.inl ac), some (.inl x5), some (.inl x6), some (.inl x7), some (.inl v7_47), some (.inl v8_48), none] [.inl x156, .inl v7_47] 122 t127
                          have D0 := br154
                          have D1 := pm_dj_b (t127 57 0) (t127 58 0) (t127 40 0 1).toNat
                          have D3 : x156 = pm_dw m f41 := D0.trans (by rw [nE]; exact pm_dj_cg (fun q a b => WI.2 q a (by omega)) (Nat.le_refl m))
                          refine px_iload_n hG dX11_both_147 rfl ?_
                          refine px_ic_ne hG dX11_both_148 (tgt := 155) (by decide) ⟨by omega, by omega⟩ ⟨by omega, by omega⟩ (fun c157 => ?_) (fun c157 => ?_)
                          · refine px_iconst hG dX11_both_155 ?_
                            refine px_weak hG (L2 := [some (.inr (.inr (40, 0))), none, some (.inl ab), some (.inl ac), some (.inl x5), some (.inl x6), some (.inl x7), none, none, none]) ⟨Or.inr rfl, Or.inr rfl, Or.inr rfl, Or.inr rfl, Or.inr rfl, Or.inr rfl, Or.inr rfl, Or.inl rfl, Or.inl rfl, Or.inr rfl, trivial⟩ ?_
                            exact J156_141 0 (by omega)
                          · refine px_iconst hG dX11_both_151 ?_
                            refine px_goto hG dX11_both_152 (tgt := 156) (by decide) ?_
                            refine px_weak hG (L2 := [some (.inr (.inr (40, 0))), none, some (.inl ab), some (.inl ac), some (.inl x5), some (.inl x6), some (.inl x7), none, none, none]) ⟨Or.inr rfl, Or.inr rfl, Or.inr rfl, Or.inr rfl, Or.inr rfl, Or.inr rfl, Or.inr rfl, Or.inl rfl, Or.inl rfl, Or.inr rfl, trivial⟩ ?_
                            exact J156_141 1 (by omega)
                exact L117 _ 0 1 s35 R36 F37 k39 k40 (⟨Js35, W6, by omega, by omega, pm_MI_0 (by omega) (fun j a b => W8 j a (by omega))⟩) (Nat.lt_succ_self _)
              refine px_ic_gt hG dX11_both_97 (tgt := 111) (by decide) ⟨by omega, by omega⟩ ⟨by omega, by omega⟩ (fun c44 => ?_) (fun c44 => ?_)
              · refine px_weak hG (L2 := [some (.inr (.inr (40, 0))), none, some (.inl ab), some (.inl ac), some (.inl x5), some (.inl x6), some (.inl x7), none, none, none]) ⟨Or.inr rfl, Or.inl rfl, Or.inr rfl, Or.inr rfl, Or.inr rfl, Or.inr rfl, Or.inr rfl, Or.inl rfl, Or.inr rfl, Or.inr rfl, trivial⟩ ?_
                exact J111_45  (by omega)
              · refine px_aload_n hG dX11_both_100 rfl ?_
                refine px_iconst hG dX11_both_101 ?_
                refine jv1 hG dX11_both_102 ct_X11_adde lk_X11_113 ⟨rfl, rfl⟩ (by decide) ⟨Nat.le_of_ble_eq_true rfl, Nat.le_of_ble_eq_true rfl, Nat.le_of_ble_eq_true rfl⟩ (Nat.le_of_ble_eq_true rfl) ⟨1, rfl, rfl, R36, ⟨by omega, Js35⟩⟩ (fun r158 t160 pr158 => ?_)
                obtain ⟨rfl, Rt160, Ft160, br158⟩ := pr158 _ rfl
                have Ff162 := pm_Fr_tr F37 Ft160 (M := [(40, some 0), (40, some 1), (40, some 3), (41, none), (42, none), (43, none), (44, none), (57, none), (58, none), (59, none), (60, none)]) rfl
                have jj163 := Ft160 40 0 0 rfl
                have jj164 := Ft160 40 0 1 rfl
                have jj165 := Ft160 40 0 2 rfl
                have Jt160 : pm_J2 t160 := br158.1
                have k166 : t160 40 0 0 = 0 := (Ft160 40 0 0 rfl).trans k39
                have k167 : t160 40 0 1 = aa := (Ft160 40 0 1 rfl).trans k40
                show G 105 [some (.inr (.inr (40, 0))), some (.inl aa), some (.inl ab), some (.inl ac), some (.inl x5), some (.inl x6), some (.inl x7), some (.inl v7_34), none, none] [] 122 t160
                have W7 : (∀ j : Int, 1 ≤ j → j ≤ s0 40 0 3 → 1 ≤ t160 60 0 j ∧ t160 60 0 j ≤ s0 40 0 1) := fun j h0 h1 => by rw [Ft160 60 0 j rfl]; exact W6 j h0 h1
                have AB := br158.2
                refine px_iinc hG dX11_both_105 (Nat.le_of_ble_eq_true rfl) rfl (L2 := [some (.inr (.inr (40, 0))), some (.inl aa), some (.inl ab), some (.inl ac), some (.inl x5), some (.inl x6), some (.inl x7), some (.inl (v7_34 + 1)), none, none]) rfl ?_
                refine px_goto hG dX11_both_108 (tgt := 94) (by decide) ?_
                exact ih38 (v7_34 + 1) t160 Rt160 Ff162 k166 k167 (⟨by omega, ⟨Jt160, W7, by omega, by omega, pm_adw1 W8 AB.2 (by omega)⟩⟩) (by omega)
          exact L94 _ 1 s30 Rs30 Fs30 k31 k32 (⟨by omega, ⟨Js30, W6, by omega, by omega, fun j a b => by omega⟩⟩) (Nat.lt_succ_self _)
        refine px_ic_gt hG dX11_both_39 (tgt := 76) (by decide) ⟨by omega, by omega⟩ ⟨by omega, by omega⟩ (fun c19 => ?_) (fun c19 => ?_)
        · refine px_weak hG (L2 := [some (.inr (.inr (40, 0))), some (.inl aa), some (.inl ab), some (.inl ac), some (.inl x5), some (.inl x6), some (.inl x7), none, none, none]) ⟨Or.inr rfl, Or.inr rfl, Or.inr rfl, Or.inr rfl, Or.inr rfl, Or.inr rfl, Or.inr rfl, Or.inl rfl, Or.inr rfl, Or.inr rfl, trivial⟩ ?_
          exact J76_20  (by omega)
        · refine px_aload_n hG dX11_both_42 rfl ?_
          refine gr_40_23 hG dX11_both_43 fl_X11_73 R10 ?_
          refine px_iload hG dX11_both_46 rfl ?_
          refine px_aload_n hG dX11_both_48 rfl ?_
          refine gr_40_4 hG dX11_both_49 fl_X11_13 R10 ?_
          refine px_iload hG dX11_both_52 rfl ?_
          refine al_41 hG dX11_both_54 R10 (by omega) (fun x168 ex168 lx168 ux168 => ?_)
          have X1 := Js9.2 v7_8 (by omega) (by omega)
          rw [ex168] at X1
          refine as_60 hG dX11_both_55 R10 (by omega) (by omega) (fun s169 qs169 Rs169 => ?_)
          have Fs169 := pm_Fr_up (F11) qs169 (M := [(40, some 0), (40, some 1), (40, some 3), (41, none), (42, none), (43, none), (44, none), (57, none), (58, none), (59, none), (60, none)]) rfl
          have k170 : s169 40 0 0 = x5 := (pm_nec qs169 (by decide)).trans k13
          have k171 : s169 40 0 1 = x6 := (pm_nec qs169 (by decide)).trans k14
          have k172 : s169 40 0 3 = x7 := (pm_nec qs169 (by decide)).trans k15
          have jj173 := pm_nec qs169 (c' := 40) (r' := 0) (i' := 0) (by decide)
          have jj174 := pm_nec qs169 (c' := 40) (r' := 0) (i' := 1) (by decide)
          have jj175 := pm_nec qs169 (c' := 40) (r' := 0) (i' := 2) (by decide)
          have jj176 := pm_nec qs169 (c' := 40) (r' := 0) (i' := 3) (by decide)
          have E1 := qs169
          have Js169 := pm_J2_up qs169 (by decide) (by decide) Js9
          refine px_aload_n hG dX11_both_56 rfl ?_
          refine gr_40_22 hG dX11_both_57 fl_X11_70 Rs169 ?_
          refine px_iload hG dX11_both_60 rfl ?_
          refine px_aload_n hG dX11_both_62 rfl ?_
          refine gr_40_5 hG dX11_both_63 fl_X11_17 Rs169 ?_
          refine px_iload hG dX11_both_66 rfl ?_
          refine al_42 hG dX11_both_68 Rs169 (by omega) (fun x177 ex177 lx177 ux177 => ?_)
          refine as_59 hG dX11_both_69 Rs169 (by omega) (by omega) (fun s178 qs178 Rs178 => ?_)
          have Fs178 := pm_Fr_up (Fs169) qs178 (M := [(40, some 0), (40, some 1), (40, some 3), (41, none), (42, none), (43, none), (44, none), (57, none), (58, none), (59, none), (60, none)]) rfl
          have k179 : s178 40 0 0 = x5 := (pm_nec qs178 (by decide)).trans k170
          have k180 : s178 40 0 1 = x6 := (pm_nec qs178 (by decide)).trans k171
          have k181 : s178 40 0 3 = x7 := (pm_nec qs178 (by decide)).trans k172
          have jj182 := pm_nec qs178 (c' := 40) (r' := 0) (i' := 0) (by decide)
          have jj183 := pm_nec qs178 (c' := 40) (r' := 0) (i' := 1) (by decide)
          have jj184 := pm_nec qs178 (c' := 40) (r' := 0) (i' := 2) (by decide)
          have jj185 := pm_nec qs178 (c' := 40) (r' := 0) (i' := 3) (by decide)
          have E2 := qs178
          have Js178 := pm_J2_up qs178 (by decide) (by decide) Js169
          refine px_iinc hG dX11_both_70 (Nat.le_of_ble_eq_true rfl) rfl (L2 := [some (.inr (.inr (40, 0))), some (.inl aa), some (.inl ab), some (.inl ac), some (.inl x5), some (.inl x6), some (.inl x7), some (.inl (v7_8 + 1)), none, none]) rfl ?_
          refine px_goto hG dX11_both_73 (tgt := 35) (by decide) ?_
          exact ih12 (v7_8 + 1) s178 Rs178 Fs178 k179 k180 k181 (⟨by omega, ⟨Js178, pm_kstep6 W E1 E2 (by omega)⟩⟩) (by omega)
    exact L35 _ 1 s0 R0 pm_Fr_rf ex5 ex6 ex7 (⟨by omega, ⟨J2, fun j h0 h1 => by omega⟩⟩) (Nat.lt_succ_self _)
  · refine px_iconst hG dX11_both_12 ?_
    exact px_iret (st := []) hG dX11_both_13 rfl rfl (fun aa_1 ab_1 ac_1 ee => by cases ee; exact ⟨_, rfl, R0, pm_Fr_rf, ⟨J2, Or.inl ⟨by omega, rfl⟩⟩⟩))
