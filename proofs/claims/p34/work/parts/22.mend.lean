/-! ===== the model: mend ===== -/
theorem pm_Ct_or {y : MethodName} {cc : ByteArray} {mL : Nat} {ret : Option FieldType} {fr al : Nat} {preA preB pre : List pm_V → Nat → pm_H → Prop} {poA poB po : List pm_V → Nat → pm_H → pm_P} (A : pm_Ct y cc mL ret fr al preA poA) (B : pm_Ct y cc mL ret fr al preB poB)
    (h : ∀ (as : List pm_V) (n : Nat) (σ : pm_H), pre as n σ → (preA as n σ ∧ ∀ (r : Option pm_V) (τ : pm_H), poA as n σ r τ → po as n σ r τ) ∨ (preB as n σ ∧ ∀ (r : Option pm_V) (τ : pm_H), poB as n σ r τ → po as n σ r τ)) : pm_Ct y cc mL ret fr al pre po := ⟨A.1, fun l D Y b base n as σ hp => by
  rcases h as n σ hp with ⟨h1, h2⟩ | ⟨h1, h2⟩
  · intro p e ha hc hk s m args below hf happ hP hK
    obtain ⟨k, o, q1, q2, q3, ⟨⟨r, τ, z1, z2, z3⟩, z4⟩, z5⟩ := A.2 l D Y b base n as σ h1 p e ha hc hk s m args below hf happ hP hK
    exact ⟨k, o, q1, q2, q3, ⟨⟨r, τ, z1, h2 r τ z2, z3⟩, z4⟩, z5⟩
  · intro p e ha hc hk s m args below hf happ hP hK
    obtain ⟨k, o, q1, q2, q3, ⟨⟨r, τ, z1, z2, z3⟩, z4⟩, z5⟩ := B.2 l D Y b base n as σ h1 p e ha hc hk s m args below hf happ hP hK
    exact ⟨k, o, q1, q2, q3, ⟨⟨r, τ, z1, h2 r τ z2, z3⟩, z4⟩, z5⟩⟩
def pm_on (s : pm_H) : Prop := ∀ j : Int, 1 ≤ j → j ≤ s 40 0 3 → s 41 0 j = 1
def pm_o43 (s : pm_H) (c : Int) : Prop := ∀ j : Int, 1 ≤ j → j < c → 1 ≤ s 43 0 j
def pm_oI (s : pm_H) (N : Nat) (c p i : Int) : Prop := pm_o43 s c ∧ s 43 0 c = p ∧ ((i = 0 ∧ s 44 0 p = 0 ∧ pm_oc (s 44 0) 0 N ≤ c - 1) ∨ (i = 1 ∧ pm_oc (s 44 0) 0 N ≤ c))
theorem pm_z44 {s s' : pm_H} {v : Int} (h : ∀ i : Int, 0 ≤ i → i < v → s 44 0 i = 0) (e : s' = pm_up s 44 0 v 0) : ∀ i : Int, 0 ≤ i → i < v + 1 → s' 44 0 i = 0 := pm_zstep h e
theorem pm_oI_0 {s s' : pm_H} {N : Nat} {c p x : Int} (O1 : pm_o43 s c) (O2 : pm_oc (s 44 0) 0 N ≤ c - 1) (PZ : s 44 0 p = 0) (e : s' = pm_up s 43 0 c x) (hx : x = p) : pm_oI s' N c p 0 := by
  have e4 : s' 44 0 = s 44 0 := funext fun i => pm_nec e (by decide)
  refine ⟨fun j a b => by rw [pm_nei e (by omega)]; exact O1 j a b, by rw [pm_at e, hx], Or.inl ⟨rfl, by rw [e4]; exact PZ, by rw [e4]; exact O2⟩⟩
theorem pm_oI_s {s s' : pm_H} {N : Nat} {c p i q : Int} (U : pm_oI s N c p i) (e : s' = pm_up s 44 0 q c) (hq : q = p) (hp : 1 ≤ p ∧ p ≤ N) (hc : 1 ≤ c) (hi : i = 0) : pm_oI s' N c p (i + 1) := by
  subst hi
  subst hq
  obtain ⟨u1, u2, ⟨_, u3, u4⟩ | ⟨u3, _⟩⟩ := U
  · refine ⟨fun j a b => by rw [pm_nec e (by decide)]; exact u1 j a b, by rw [pm_nec e (by decide)]; exact u2, Or.inr ⟨rfl, ?_⟩⟩
    rw [pm_oc_up (o := s 44 0) (o' := s' 44 0) (q := q) hp.1 hp.2 u3 (by rw [pm_at e]; omega) (fun i z => pm_nei e z), if_pos (by omega)]
    omega
  · omega
theorem pm_oI_e {s : pm_H} {N : Nat} {c p i : Int} (U : pm_oI s N c p i) (hp : 1 ≤ p) : pm_o43 s (c + 1) := fun j a b => by
  by_cases z : j = c
  · subst z
    rw [U.2.1]
    exact hp
  · exact U.1 j a (by omega)
theorem pm_oI_c {s : pm_H} {N : Nat} {c p i : Int} (U : pm_oI s N c p i) (hi : i ≠ 0) : pm_oc (s 44 0) 0 N ≤ c + 1 - 1 := by
  obtain ⟨_, _, ⟨u3, _, _⟩ | ⟨_, u3⟩⟩ := U
  · exact absurd u3 hi
  · omega
theorem pm_gr_s {s : pm_H} {c g g' x y : Int} (V : ∀ j : Int, 1 ≤ j → j < c → s 41 0 j ≤ s 41 0 g) (hc : 1 ≤ c) (hx : s 41 0 c = x) (hy : s 41 0 g = y) (h : (x ≥ y ∧ g' = c) ∨ (¬ (x ≥ y) ∧ g' = g)) : ∀ j : Int, 1 ≤ j → j < c + 1 → s 41 0 j ≤ s 41 0 g' := fun j a b => by
  rcases h with ⟨h1, rfl⟩ | ⟨h1, rfl⟩
  · by_cases z : j = g'
    · subst z
      exact Int.le_refl _
    · have := V j a (by omega)
      omega
  · by_cases z : j = c
    · subst z
      omega
    · exact V j a (by omega)
theorem pm_non {s : pm_H} {n g : Int} (h : ¬ ∀ j : Int, 1 ≤ j → j ≤ s 40 0 3 → s 41 0 j = 1) (V : ∀ j : Int, 1 ≤ j → j ≤ s 40 0 3 → s 41 0 j ≤ s 41 0 g) (W : ∀ j : Int, 1 ≤ j → j ≤ s 40 0 3 → 1 ≤ s 41 0 j ∧ s 41 0 j ≤ n) : 2 ≤ s 41 0 g := by
  by_cases q : 2 ≤ s 41 0 g
  · exact q
  · exact absurd (fun j a b => by have v := V j a b; have w := W j a b; omega) h
theorem pm_gt_dn {s s' : pm_H} {c : Int} {k : Nat} (e : s' = pm_up s 41 0 c 1) (h : 2 ≤ s 41 0 c) (h1 : 1 ≤ c) (h2 : c ≤ k) : pm_gt (s' 41 0) 1 k + 1 = pm_gt (s 41 0) 1 k := by
  induction k with
  | zero => omega
  | succ k ih =>
    simp only [pm_gt]
    by_cases z : c = (k : Int) + 1
    · subst z
      rw [pm_gt_cg (f := s' 41 0) (g := s 41 0) (k := k) (fun i a b => pm_nei e (by omega)), pm_at e, if_neg (by omega), if_pos (by omega)]
      omega
    · have := ih (by omega)
      rw [pm_nei e (fun y => z y.symm)]
      omega

def pre_X11_driveo (as : List pm_V) (n : Nat) (σ : pm_H) : Prop := as = [.inr (.inr (40, 0))] ∧ n = 122 ∧ pm_Rng σ ∧ ((pm_pl σ ∧ pm_on σ) ∧ pm_J2 σ)
def po_X11_driveo (as : List pm_V) (_ : Nat) (σ : pm_H) (r : Option pm_V) (τ : pm_H) : Prop := as = [.inr (.inr (40, 0))] → r = none ∧ pm_Rng τ ∧ pm_Fr [(43, none), (44, none)] σ τ ∧ (∀ j : Int, 1 ≤ j → j ≤ σ 40 0 3 → 1 ≤ τ 43 0 j)
set_option maxRecDepth 20000 in
set_option maxHeartbeats 4000000 in
theorem ct_X11_driveo : pm_Ct yX11_drive cX11_drive 4 none 1 0 pre_X11_driveo po_X11_driveo := pm_sound (ini := false) (by decide +kernel) pk_X11_drive (fun h => absurd h (by decide)) (by
  rintro as n s0 ⟨rfl, rfl, R0, hpre⟩
  refine ⟨by decide, Nat.le_of_ble_eq_true rfl, fun G hG => ?_⟩
  have hG : pm_Rules (RX11, 1, 122, cX11_drive, -1, (fun _ => 0), false, none, po_X11_driveo [.inr (.inr (40, 0))] 122 s0) G := hG
  show G 0 [some (.inr (.inr (40, 0))), none, none, none] [] 122 s0
  have B0 := pb_40_0 R0
  have B1 := pb_40_1 R0
  have B2 := pb_40_2 R0
  have B3 := pb_40_3 R0
  have J2 := hpre.2
  have HP := hpre.1
  have JK := J2.1
  have JW := J2.2
  have HK0 : s0 40 0 0 = 0 := HP.1.1
  refine px_iconst hG dX11_drive_0 ?_
  refine px_istore_n hG dX11_drive_1 (Nat.le_of_ble_eq_true rfl) (L2 := [some (.inr (.inr (40, 0))), some (.inl 0), none, none]) rfl ?_
  have L2 : ∀ (N : Nat) (v1_1 : Int) (s2 : pm_H), pm_Rng s2 → pm_Fr [(43, none), (44, none)] s0 s2 → ((0 ≤ v1_1 ∧ v1_1 ≤ 10000) ∧ (∀ q : Int, 0 ≤ q → q < v1_1 → s2 44 0 q = 0)) → (10001 - v1_1).toNat < N → G 2 [some (.inr (.inr (40, 0))), some (.inl v1_1), none, none] [] 122 s2 := by
    intro N
    induction N with
    | zero => intro v1_1 s2 R3 F4 inv6 hm7; exact absurd hm7 (Nat.not_lt_zero _)
    | succ N ih5 =>
      intro v1_1 s2 R3 F4 inv6 hm7
      have jj8 := F4 40 0 0 rfl
      have jj9 := F4 40 0 1 rfl
      have jj10 := F4 40 0 2 rfl
      have jj11 := F4 40 0 3 rfl
      have Z := inv6.2
      refine px_iload_n hG dX11_drive_2 rfl ?_
      refine px_bipush hG dX11_drive_3 (by decide) ?_
      have J21_13 : ((v1_1 > 10)) → G 21 [some (.inr (.inr (40, 0))), none, none, none] [] 122 s2 := by
        intro inv14
        refine px_iconst hG dX11_drive_21 ?_
        refine px_istore_n hG dX11_drive_22 (Nat.le_of_ble_eq_true rfl) (L2 := [some (.inr (.inr (40, 0))), some (.inl 1), none, none]) rfl ?_
        have L23 : ∀ (N : Nat) (v1_15 : Int) (s16 : pm_H), pm_Rng s16 → pm_Fr [(43, none), (44, none)] s0 s16 → ((1 ≤ v1_15 ∧ v1_15 ≤ 10000) ∧ (pm_o43 s16 v1_15 ∧ pm_oc (s16 44 0) 0 (s0 40 0 1).toNat ≤ v1_15 - 1 ∧ v1_15 ≤ s0 40 0 3 + 1)) → (10001 - v1_15).toNat < N → G 23 [some (.inr (.inr (40, 0))), some (.inl v1_15), none, none] [] 122 s16 := by
          intro N
          induction N with
          | zero => intro v1_15 s16 R17 F18 inv20 hm21; exact absurd hm21 (Nat.not_lt_zero _)
          | succ N ih19 =>
            intro v1_15 s16 R17 F18 inv20 hm21
            have jj22 := F18 40 0 0 rfl
            have jj23 := F18 40 0 1 rfl
            have jj24 := F18 40 0 2 rfl
            have jj25 := F18 40 0 3 rfl
            have O1 := (inv20.2).1
            have O2 := (inv20.2).2.1
            have O3 := (inv20.2).2.2
            refine px_iload_n hG dX11_drive_23 rfl ?_
            refine px_aload_n hG dX11_drive_24 rfl ?_
            refine gi_40_3 hG dX11_drive_25 fl_X11_110 R17 (fun x26 ex26 lx26 ux26 => ?_)
            have ex26 : s0 40 0 3 = x26 := (F18 40 0 3 rfl).symm.trans ex26
            refine px_ic_gt hG dX11_drive_28 (tgt := 118) (by decide) ⟨by omega, by omega⟩ ⟨by omega, by omega⟩ (fun c27 => ?_) (fun c27 => ?_)
            · have jj28 := F18 40 0 0 rfl
              have jj29 := F18 40 0 1 rfl
              have jj30 := F18 40 0 2 rfl
              have jj31 := F18 40 0 3 rfl
              exact px_vret (st := []) hG dX11_drive_118 rfl rfl (fun _ => by exact ⟨rfl, R17, F18, fun j a b => O1 j a (by omega)⟩)
            · refine px_aload_n hG dX11_drive_31 rfl ?_
              refine px_aload_n hG dX11_drive_32 rfl ?_
              refine gr_40_4 hG dX11_drive_33 fl_X11_13 R17 ?_
              refine px_iload_n hG dX11_drive_36 rfl ?_
              refine al_41 hG dX11_drive_37 R17 (by omega) (fun x32 ex32 lx32 ux32 => ?_)
              have X1 := (F18 41 0 v1_15 rfl).symm.trans ex32
              have XO : x32 = 1 := by have q := HP.2 v1_15 (by omega) (by omega); omega
              refine jv1 hG dX11_drive_38 ct_X11_placeFor lk_X11_123 ⟨rfl, rfl⟩ (by decide) ⟨Nat.le_of_ble_eq_true rfl, Nat.le_of_ble_eq_true rfl, Nat.le_of_ble_eq_true rfl⟩ (Nat.le_of_ble_eq_true rfl) ⟨x32, rfl, rfl, R17, ⟨by omega, (pm_J2_fr F18 rfl J2)⟩⟩ (fun r33 t34 pr33 => ?_)
              obtain ⟨x35, rfl, rfl, br33⟩ := pr33 _ rfl
              show G 41 [some (.inr (.inr (40, 0))), some (.inl v1_15), none, none] [.inl x35] 122 s16
              have PF := br33
              have PV : 1 ≤ x35 := by
                by_cases z : x35 = 0
                · have a := PF.2.2.2 (by omega) z
                  have b := pm_oc_all (o := s16 44 0) (k := (s0 40 0 1).toNat) (fun q q1 q2 => a q (by omega) (by omega))
                  omega
                · omega
              have PZ := (PF.2.2.1 (by omega) PV).2
              refine px_istore_n hG dX11_drive_41 (Nat.le_of_ble_eq_true rfl) (L2 := [some (.inr (.inr (40, 0))), some (.inl v1_15), some (.inl x35), none]) rfl ?_
              refine px_aload_n hG dX11_drive_42 rfl ?_
              refine gr_40_6 hG dX11_drive_43 fl_X11_20 R17 ?_
              refine px_iload_n hG dX11_drive_46 rfl ?_
              refine px_aload_n hG dX11_drive_47 rfl ?_
              refine px_iload_n hG dX11_drive_48 rfl ?_
              refine px_aload_n hG dX11_drive_49 rfl ?_
              refine gr_40_5 hG dX11_drive_50 fl_X11_17 R17 ?_
              refine px_iload_n hG dX11_drive_53 rfl ?_
              refine al_42 hG dX11_drive_54 R17 (by omega) (fun x36 ex36 lx36 ux36 => ?_)
              have X5 := (F18 42 0 v1_15 rfl).symm.trans ex36
              have XL := HP.1.2 v1_15 (by omega) (by omega)
              refine jv2 hG dX11_drive_55 ct_X11_fits lk_X11_127 ⟨rfl, rfl⟩ (by decide) ⟨Nat.le_of_ble_eq_true rfl, Nat.le_of_ble_eq_true rfl, Nat.le_of_ble_eq_true rfl⟩ (Nat.le_of_ble_eq_true rfl) ⟨x35, x36, rfl, rfl, R17, ⟨by omega, (pm_J2_fr F18 rfl J2)⟩⟩ (fun r37 t38 pr37 => ?_)
              obtain ⟨x39, rfl, rfl, br37⟩ := pr37 _ _ rfl
              show G 58 [some (.inr (.inr (40, 0))), some (.inl v1_15), some (.inl x35), none] [.inl x39, .inl v1_15, .inr (.inr (43, 0))] 122 s16
              have FV : x39 = 1 := br37.2.2 (by omega) (by omega) PV PZ
              have J66_42 : ∀ (j41 : Int), ((x39 = 0 ∧ j41 = 0) ∨ (¬ (x39 = 0) ∧ j41 = x35)) → G 66 [some (.inr (.inr (40, 0))), some (.inl v1_15), some (.inl x35), none] [.inl j41, .inl v1_15, .inr (.inr (43, 0))] 122 s16 := by
                intro j41 inv43
                refine as_43 hG dX11_drive_66 R17 (by omega) (by omega) (fun s44 qs44 Rs44 => ?_)
                have Fs44 := pm_Fr_up (F18) qs44 (M := [(43, none), (44, none)]) rfl
                have jj45 := pm_nec qs44 (c' := 40) (r' := 0) (i' := 0) (by decide)
                have jj46 := pm_nec qs44 (c' := 40) (r' := 0) (i' := 1) (by decide)
                have jj47 := pm_nec qs44 (c' := 40) (r' := 0) (i' := 2) (by decide)
                have jj48 := pm_nec qs44 (c' := 40) (r' := 0) (i' := 3) (by decide)
                have E1 := qs44
                have OI := pm_oI_0 (N := (s0 40 0 1).toNat) O1 O2 PZ E1 (by omega)
                refine px_iconst hG dX11_drive_67 ?_
                refine px_istore_n hG dX11_drive_68 (Nat.le_of_ble_eq_true rfl) (L2 := [some (.inr (.inr (40, 0))), some (.inl v1_15), some (.inl x35), some (.inl 0)]) rfl ?_
                have L69 : ∀ (N : Nat) (v3_49 : Int) (s50 : pm_H), pm_Rng s50 → pm_Fr [(43, none), (44, none)] s0 s50 → ((0 ≤ v3_49 ∧ v3_49 ≤ 10000) ∧ (pm_oI s50 (s0 40 0 1).toNat v1_15 x35 v3_49)) → (10001 - v3_49).toNat < N → G 69 [some (.inr (.inr (40, 0))), some (.inl v1_15), some (.inl x35), some (.inl v3_49)] [] 122 s50 := by
                  intro N
                  induction N with
                  | zero => intro v3_49 s50 R51 F52 inv54 hm55; exact absurd hm55 (Nat.not_lt_zero _)
                  | succ N ih53 =>
                    intro v3_49 s50 R51 F52 inv54 hm55
                    have jj56 := F52 40 0 0 rfl
                    have jj57 := F52 40 0 1 rfl
                    have jj58 := F52 40 0 2 rfl
                    have jj59 := F52 40 0 3 rfl
                    have U := inv54.2
                    refine px_iload_n hG dX11_drive_69 rfl ?_
                    refine px_aload_n hG dX11_drive_70 rfl ?_
                    refine gr_40_5 hG dX11_drive_71 fl_X11_17 R51 ?_
                    refine px_iload_n hG dX11_drive_74 rfl ?_
                    refine al_42 hG dX11_drive_75 R51 (by omega) (fun x60 ex60 lx60 ux60 => ?_)
                    have X4 := (F52 42 0 v1_15 rfl).symm.trans ex60
                    have XM := HP.1.2 v1_15 (by omega) (by omega)
                    refine px_ic_ge hG dX11_drive_76 (tgt := 112) (by decide) ⟨by omega, by omega⟩ ⟨by omega, by omega⟩ (fun c61 => ?_) (fun c61 => ?_)
                    · refine px_iinc hG dX11_drive_112 (Nat.le_of_ble_eq_true rfl) rfl (L2 := [some (.inr (.inr (40, 0))), some (.inl (v1_15 + 1)), some (.inl x35), some (.inl v3_49)]) rfl ?_
                      refine px_goto hG dX11_drive_115 (tgt := 23) (by decide) ?_
                      refine px_weak hG (L2 := [some (.inr (.inr (40, 0))), some (.inl (v1_15 + 1)), none, none]) ⟨Or.inr rfl, Or.inr rfl, Or.inl rfl, Or.inl rfl, trivial⟩ ?_
                      exact ih19 (v1_15 + 1) s50 R51 F52 (⟨by omega, ⟨pm_oI_e U (by omega), pm_oI_c U (by omega), by omega⟩⟩) (by omega)
                    · refine px_aload_n hG dX11_drive_79 rfl ?_
                      refine gr_40_6 hG dX11_drive_80 fl_X11_20 R51 ?_
                      refine px_iload_n hG dX11_drive_83 rfl ?_
                      refine al_43 hG dX11_drive_84 R51 (by omega) (fun x62 ex62 lx62 ux62 => ?_)
                      have X8 := ex62
                      have X9 := U.2.1
                      refine px_if_le hG dX11_drive_85 (tgt := 112) (by decide) ⟨by omega, by omega⟩ (fun c63 => ?_) (fun c63 => ?_)
                      · refine px_iinc hG dX11_drive_112 (Nat.le_of_ble_eq_true rfl) rfl (L2 := [some (.inr (.inr (40, 0))), some (.inl (v1_15 + 1)), some (.inl x35), some (.inl v3_49)]) rfl ?_
                        refine px_goto hG dX11_drive_115 (tgt := 23) (by decide) ?_
                        refine px_weak hG (L2 := [some (.inr (.inr (40, 0))), some (.inl (v1_15 + 1)), none, none]) ⟨Or.inr rfl, Or.inr rfl, Or.inl rfl, Or.inl rfl, trivial⟩ ?_
                        exact ih19 (v1_15 + 1) s50 R51 F52 (⟨by omega, ⟨pm_oI_e U (by omega), pm_oI_c U (by omega), by omega⟩⟩) (by omega)
                      · refine px_aload_n hG dX11_drive_88 rfl ?_
                        refine gr_40_7 hG dX11_drive_89 fl_X11_23 R51 ?_
                        refine px_iload_n hG dX11_drive_92 rfl ?_
                        refine px_iload_n hG dX11_drive_93 rfl ?_
                        refine px_iadd hG dX11_drive_94 ?_
                        refine px_iconst hG dX11_drive_95 ?_
                        refine px_isub hG dX11_drive_96 ?_
                        refine px_aload_n hG dX11_drive_97 rfl ?_
                        refine gi_40_1 hG dX11_drive_98 fl_X11_7 R51 (fun x64 ex64 lx64 ux64 => ?_)
                        have ex64 : s0 40 0 1 = x64 := (F52 40 0 1 rfl).symm.trans ex64
                        refine px_irem hG dX11_drive_101 ⟨by omega, by omega⟩ ⟨by omega, by omega⟩ ?_
                        generalize hx65 : ((x35 + v3_49) - 1) % x64 = x65
                        have bx65 := pm_emod (x := (x35 + v3_49) - 1) (y := x64) (by omega) hx65
                        have EM : x65 = x35 - 1 := by rw [← hx65, Int.emod_eq_of_lt (by omega) (by omega)]; omega
                        refine px_iconst hG dX11_drive_102 ?_
                        refine px_iadd hG dX11_drive_103 ?_
                        refine px_iload_n hG dX11_drive_104 rfl ?_
                        refine as_44 hG dX11_drive_105 R51 (by omega) (by omega) (fun s66 qs66 Rs66 => ?_)
                        have Fs66 := pm_Fr_up (F52) qs66 (M := [(43, none), (44, none)]) rfl
                        have jj67 := pm_nec qs66 (c' := 40) (r' := 0) (i' := 0) (by decide)
                        have jj68 := pm_nec qs66 (c' := 40) (r' := 0) (i' := 1) (by decide)
                        have jj69 := pm_nec qs66 (c' := 40) (r' := 0) (i' := 2) (by decide)
                        have jj70 := pm_nec qs66 (c' := 40) (r' := 0) (i' := 3) (by decide)
                        have E2 := qs66
                        have OS := pm_oI_s U E2 (by omega) (by omega) (by omega) (by omega)
                        refine px_iinc hG dX11_drive_106 (Nat.le_of_ble_eq_true rfl) rfl (L2 := [some (.inr (.inr (40, 0))), some (.inl v1_15), some (.inl x35), some (.inl (v3_49 + 1))]) rfl ?_
                        refine px_goto hG dX11_drive_109 (tgt := 69) (by decide) ?_
                        exact ih53 (v3_49 + 1) s66 Rs66 Fs66 (⟨by omega, OS⟩) (by omega)
                exact L69 _ 0 s44 Rs44 Fs44 (⟨by omega, OI⟩) (Nat.lt_succ_self _)
              refine px_if_eq hG dX11_drive_58 (tgt := 65) (by decide) ⟨by omega, by omega⟩ (fun c40 => ?_) (fun c40 => ?_)
              · refine px_iconst hG dX11_drive_65 ?_
                exact J66_42 0 (by omega)
              · refine px_iload_n hG dX11_drive_61 rfl ?_
                refine px_goto hG dX11_drive_62 (tgt := 66) (by decide) ?_
                exact J66_42 x35 (by omega)
        exact L23 _ 1 s2 R3 F4 (⟨by omega, ⟨fun j a b => by omega, by rw [pm_oc_0 (fun q a b => Z q (by omega) (by omega))]; omega, by omega⟩⟩) (Nat.lt_succ_self _)
      refine px_ic_gt hG dX11_drive_5 (tgt := 21) (by decide) ⟨by omega, by omega⟩ ⟨by omega, by omega⟩ (fun c12 => ?_) (fun c12 => ?_)
      · refine px_weak hG (L2 := [some (.inr (.inr (40, 0))), none, none, none]) ⟨Or.inr rfl, Or.inl rfl, Or.inr rfl, Or.inr rfl, trivial⟩ ?_
        exact J21_13  (by omega)
      · refine px_aload_n hG dX11_drive_8 rfl ?_
        refine gr_40_7 hG dX11_drive_9 fl_X11_23 R3 ?_
        refine px_iload_n hG dX11_drive_12 rfl ?_
        refine px_iconst hG dX11_drive_13 ?_
        refine as_44 hG dX11_drive_14 R3 (by omega) (by omega) (fun s71 qs71 Rs71 => ?_)
        have Fs71 := pm_Fr_up (F4) qs71 (M := [(43, none), (44, none)]) rfl
        have jj72 := pm_nec qs71 (c' := 40) (r' := 0) (i' := 0) (by decide)
        have jj73 := pm_nec qs71 (c' := 40) (r' := 0) (i' := 1) (by decide)
        have jj74 := pm_nec qs71 (c' := 40) (r' := 0) (i' := 2) (by decide)
        have jj75 := pm_nec qs71 (c' := 40) (r' := 0) (i' := 3) (by decide)
        have EZ := qs71
        refine px_iinc hG dX11_drive_15 (Nat.le_of_ble_eq_true rfl) rfl (L2 := [some (.inr (.inr (40, 0))), some (.inl (v1_1 + 1)), none, none]) rfl ?_
        refine px_goto hG dX11_drive_18 (tgt := 2) (by decide) ?_
        exact ih5 (v1_1 + 1) s71 Rs71 Fs71 (⟨by omega, pm_z44 Z EZ⟩) (by omega)
  exact L2 _ 0 s0 R0 pm_Fr_rf (⟨by omega, fun q a b => by omega⟩) (Nat.lt_succ_self _))
def pre_X11_isGoodo (as : List pm_V) (n : Nat) (σ : pm_H) : Prop := as = [.inr (.inr (40, 0))] ∧ n = 122 ∧ pm_Rng σ ∧ ((pm_pl σ ∧ pm_on σ) ∧ pm_J2 σ)
def po_X11_isGoodo (as : List pm_V) (_ : Nat) (σ : pm_H) (r : Option pm_V) (τ : pm_H) : Prop := as = [.inr (.inr (40, 0))] → ∃ v : Int, r = some (.inl v) ∧ pm_Rng τ ∧ pm_Fr [(43, none), (44, none)] σ τ ∧ (v = 1)
set_option maxRecDepth 20000 in
set_option maxHeartbeats 4000000 in
theorem ct_X11_isGoodo : pm_Ct yX11_isGood cX11_isGood 3 (some .boolean) 2 0 pre_X11_isGoodo po_X11_isGoodo := pm_sound (ini := false) (by decide +kernel) pk_X11_isGood (fun h => absurd h (by decide)) (by
  rintro as n s0 ⟨rfl, rfl, R0, hpre⟩
  refine ⟨by decide, Nat.le_of_ble_eq_true rfl, fun G hG => ?_⟩
  have hG : pm_Rules (RX11, 2, 122, cX11_isGood, -1, (fun _ => 0), false, (some .boolean), po_X11_isGoodo [.inr (.inr (40, 0))] 122 s0) G := hG
  show G 0 [some (.inr (.inr (40, 0))), none, none] [] 122 s0
  have B0 := pb_40_0 R0
  have B1 := pb_40_1 R0
  have B2 := pb_40_2 R0
  have B3 := pb_40_3 R0
  have J2 := hpre.2
  have HP := hpre.1
  have JK := J2.1
  have JW := J2.2
  refine px_aload_n hG dX11_isGood_0 rfl ?_
  refine jv0 hG dX11_isGood_1 ct_X11_driveo lk_X11_131 ⟨rfl, rfl⟩ (by decide) ⟨Nat.le_of_ble_eq_true rfl, Nat.le_of_ble_eq_true rfl, Nat.le_of_ble_eq_true rfl⟩ (Nat.le_of_ble_eq_true rfl) ⟨rfl, rfl, R0, ⟨HP, J2⟩⟩ (fun r1 t3 pr1 => ?_)
  obtain ⟨rfl, Rt3, Ft3, br1⟩ := pr1 rfl
  have Ff5 := pm_Fr_mono Ft3 (M := [(43, none), (44, none)]) rfl
  have jj6 := Ft3 40 0 0 rfl
  have jj7 := Ft3 40 0 1 rfl
  have jj8 := Ft3 40 0 2 rfl
  have jj9 := Ft3 40 0 3 rfl
  show G 4 [some (.inr (.inr (40, 0))), none, none] [] 122 t3
  have D := br1
  refine px_iconst hG dX11_isGood_4 ?_
  refine px_istore_n hG dX11_isGood_5 (Nat.le_of_ble_eq_true rfl) (L2 := [some (.inr (.inr (40, 0))), some (.inl 1), none]) rfl ?_
  refine px_iconst hG dX11_isGood_6 ?_
  refine px_istore_n hG dX11_isGood_7 (Nat.le_of_ble_eq_true rfl) (L2 := [some (.inr (.inr (40, 0))), some (.inl 1), some (.inl 1)]) rfl ?_
  have L8 : ∀ (N : Nat) (v1_10 : Int) (v2_11 : Int), ((1 ≤ v2_11 ∧ v2_11 ≤ 10000) ∧ (v1_10 = 1)) → (10001 - v2_11).toNat < N → G 8 [some (.inr (.inr (40, 0))), some (.inl v1_10), some (.inl v2_11)] [] 122 t3 := by
    intro N
    induction N with
    | zero => intro v1_10 v2_11 inv13 hm14; exact absurd hm14 (Nat.not_lt_zero _)
    | succ N ih12 =>
      intro v1_10 v2_11 inv13 hm14
      refine px_iload_n hG dX11_isGood_8 rfl ?_
      refine px_aload_n hG dX11_isGood_9 rfl ?_
      refine gi_40_3 hG dX11_isGood_10 fl_X11_110 Rt3 (fun x15 ex15 lx15 ux15 => ?_)
      have ex15 : s0 40 0 3 = x15 := (Ff5 40 0 3 rfl).symm.trans ex15
      refine px_ic_gt hG dX11_isGood_13 (tgt := 41) (by decide) ⟨by omega, by omega⟩ ⟨by omega, by omega⟩ (fun c16 => ?_) (fun c16 => ?_)
      · refine px_iload_n hG dX11_isGood_41 rfl ?_
        have jj17 := Ff5 40 0 0 rfl
        have jj18 := Ff5 40 0 1 rfl
        have jj19 := Ff5 40 0 2 rfl
        have jj20 := Ff5 40 0 3 rfl
        exact px_zret (st := []) hG dX11_isGood_42 rfl (by omega) rfl (fun _ => by exact ⟨_, rfl, Rt3, Ff5, by omega⟩)
      · refine px_iload_n hG dX11_isGood_16 rfl ?_
        refine px_if_eq hG dX11_isGood_17 (tgt := 33) (by decide) ⟨by omega, by omega⟩ (fun c21 => ?_) (fun c21 => ?_)
        · refine px_iconst hG dX11_isGood_33 ?_
          refine px_istore_n hG dX11_isGood_34 (Nat.le_of_ble_eq_true rfl) (L2 := [some (.inr (.inr (40, 0))), some (.inl 0), some (.inl v2_11)]) rfl ?_
          refine px_iinc hG dX11_isGood_35 (Nat.le_of_ble_eq_true rfl) rfl (L2 := [some (.inr (.inr (40, 0))), some (.inl 0), some (.inl (v2_11 + 1))]) rfl ?_
          refine px_goto hG dX11_isGood_38 (tgt := 8) (by decide) ?_
          exact ih12 0 (v2_11 + 1) (⟨by omega, by omega⟩) (by omega)
        · refine px_aload_n hG dX11_isGood_20 rfl ?_
          refine gr_40_6 hG dX11_isGood_21 fl_X11_20 Rt3 ?_
          refine px_iload_n hG dX11_isGood_24 rfl ?_
          refine al_43 hG dX11_isGood_25 Rt3 (by omega) (fun x22 ex22 lx22 ux22 => ?_)
          have D2 := D v2_11 (by omega) (by omega)
          have X1 := ex22
          refine px_if_le hG dX11_isGood_26 (tgt := 33) (by decide) ⟨by omega, by omega⟩ (fun c23 => ?_) (fun c23 => ?_)
          · refine px_iconst hG dX11_isGood_33 ?_
            refine px_istore_n hG dX11_isGood_34 (Nat.le_of_ble_eq_true rfl) (L2 := [some (.inr (.inr (40, 0))), some (.inl 0), some (.inl v2_11)]) rfl ?_
            refine px_iinc hG dX11_isGood_35 (Nat.le_of_ble_eq_true rfl) rfl (L2 := [some (.inr (.inr (40, 0))), some (.inl 0), some (.inl (v2_11 + 1))]) rfl ?_
            refine px_goto hG dX11_isGood_38 (tgt := 8) (by decide) ?_
            exact ih12 0 (v2_11 + 1) (⟨by omega, by omega⟩) (by omega)
          · refine px_iconst hG dX11_isGood_29 ?_
            refine px_goto hG dX11_isGood_30 (tgt := 34) (by decide) ?_
            refine px_istore_n hG dX11_isGood_34 (Nat.le_of_ble_eq_true rfl) (L2 := [some (.inr (.inr (40, 0))), some (.inl 1), some (.inl v2_11)]) rfl ?_
            refine px_iinc hG dX11_isGood_35 (Nat.le_of_ble_eq_true rfl) rfl (L2 := [some (.inr (.inr (40, 0))), some (.inl 1), some (.inl (v2_11 + 1))]) rfl ?_
            refine px_goto hG dX11_isGood_38 (tgt := 8) (by decide) ?_
            exact ih12 1 (v2_11 + 1) (⟨by omega, by omega⟩) (by omega)
  exact L8 _ 1 1 (⟨by omega, by omega⟩) (Nat.lt_succ_self _))
def pre_X11_isGoodp (as : List pm_V) (n : Nat) (σ : pm_H) : Prop := as = [.inr (.inr (40, 0))] ∧ n = 122 ∧ pm_Rng σ ∧ (pm_J2 σ)
def po_X11_isGoodp (as : List pm_V) (_ : Nat) (σ : pm_H) (r : Option pm_V) (τ : pm_H) : Prop := as = [.inr (.inr (40, 0))] → ∃ v : Int, r = some (.inl v) ∧ pm_Rng τ ∧ pm_Fr [(43, none), (44, none)] σ τ ∧ ((v = 0 ∨ v = 1) ∧ (v = 0 → pm_pl σ → ¬ pm_on σ))
theorem ct_X11_isGoodp : pm_Ct yX11_isGood cX11_isGood 3 (some .boolean) 2 0 pre_X11_isGoodp po_X11_isGoodp := pm_Ct_or ct_X11_isGoodo ct_X11_isGood (fun as n σ hp => by
  obtain ⟨p1, p2, p3, p4⟩ := hp
  by_cases q : pm_pl σ ∧ pm_on σ
  · exact Or.inl ⟨⟨p1, p2, p3, q, p4⟩, fun r τ h e => by obtain ⟨v, h1, h2, h3, h4⟩ := h e; exact ⟨v, h1, h2, h3, Or.inr h4, fun z => by omega⟩⟩
  · exact Or.inr ⟨⟨p1, p2, p3, p4⟩, fun r τ h e => by obtain ⟨v, h1, h2, h3, h4⟩ := h e; exact ⟨v, h1, h2, h3, h4.1, fun _ a b => q ⟨a, b⟩⟩⟩)
def pre_X11_mend (as : List pm_V) (n : Nat) (σ : pm_H) : Prop := as = [.inr (.inr (40, 0))] ∧ n = 122 ∧ pm_Rng σ ∧ (pm_J2 σ)
def po_X11_mend (as : List pm_V) (_ : Nat) (σ : pm_H) (r : Option pm_V) (τ : pm_H) : Prop := as = [.inr (.inr (40, 0))] → ∃ v : Int, r = some (.inl v) ∧ pm_Rng τ ∧ pm_Fr [(41, none), (43, none), (44, none)] σ τ ∧ (pm_J2 τ)
set_option maxRecDepth 20000 in
set_option maxHeartbeats 4000000 in
theorem ct_X11_mend : pm_Ct yX11_mend cX11_mend 4 (some .int) 3 0 pre_X11_mend po_X11_mend := pm_sound (ini := false) (by decide +kernel) pk_X11_mend (fun h => absurd h (by decide)) (by
  rintro as n s0 ⟨rfl, rfl, R0, hpre⟩
  refine ⟨by decide, Nat.le_of_ble_eq_true rfl, fun G hG => ?_⟩
  have hG : pm_Rules (RX11, 3, 122, cX11_mend, -1, (fun _ => 0), false, (some .int), po_X11_mend [.inr (.inr (40, 0))] 122 s0) G := hG
  show G 0 [some (.inr (.inr (40, 0))), none, none, none] [] 122 s0
  have B0 := pb_40_0 R0
  have B1 := pb_40_1 R0
  have B2 := pb_40_2 R0
  have B3 := pb_40_3 R0
  have J2 := hpre
  have JK := J2.1
  have JW := J2.2
  refine px_aload_n hG dX11_mend_0 rfl ?_
  refine gi_40_3 hG dX11_mend_1 fl_X11_110 R0 (fun x1 ex1 lx1 ux1 => ?_)
  refine px_aload_n hG dX11_mend_4 rfl ?_
  refine gi_40_1 hG dX11_mend_5 fl_X11_7 R0 (fun x2 ex2 lx2 ux2 => ?_)
  refine px_ic_ne hG dX11_mend_8 (tgt := 18) (by decide) ⟨by omega, by omega⟩ ⟨by omega, by omega⟩ (fun c3 => ?_) (fun c3 => ?_)
  · refine px_bipush hG dX11_mend_18 (by decide) ?_
    exact px_iret (st := []) hG dX11_mend_20 rfl rfl (fun _ => by exact ⟨_, rfl, R0, pm_Fr_rf, J2⟩)
  · refine px_aload_n hG dX11_mend_11 rfl ?_
    refine jv0 hG dX11_mend_12 ct_X11_isPlain lk_X11_164 ⟨rfl, rfl⟩ (by decide) ⟨Nat.le_of_ble_eq_true rfl, Nat.le_of_ble_eq_true rfl, Nat.le_of_ble_eq_true rfl⟩ (Nat.le_of_ble_eq_true rfl) ⟨rfl, rfl, R0, J2⟩ (fun r4 t5 pr4 => ?_)
    obtain ⟨x6, rfl, rfl, br4⟩ := pr4 rfl
    show G 15 [some (.inr (.inr (40, 0))), none, none, none] [.inl x6] 122 s0
    have PL := br4
    refine px_if_ne hG dX11_mend_15 (tgt := 21) (by decide) ⟨by omega, by omega⟩ (fun c7 => ?_) (fun c7 => ?_)
    · refine px_iconst hG dX11_mend_21 ?_
      refine px_istore_n hG dX11_mend_22 (Nat.le_of_ble_eq_true rfl) (L2 := [some (.inr (.inr (40, 0))), some (.inl 0), none, none]) rfl ?_
      have L23 : ∀ (N : Nat) (v1_8 : Int) (s9 : pm_H), pm_Rng s9 → pm_Fr [(41, none), (43, none), (44, none)] s0 s9 → s9 40 0 3 = x1 → s9 40 0 1 = x2 → ((0 ≤ v1_8 ∧ v1_8 ≤ 10000) ∧ (pm_J2 s9 ∧ v1_8 + pm_gt (s9 41 0) 1 (s0 40 0 3).toNat ≤ 10)) → (pm_gt (s9 41 0) 1 (s0 40 0 3).toNat).toNat < N → G 23 [some (.inr (.inr (40, 0))), some (.inl v1_8), none, none] [] 122 s9 := by
        intro N
        induction N with
        | zero => intro v1_8 s9 R10 F11 k13 k14 inv15 hm16; exact absurd hm16 (Nat.not_lt_zero _)
        | succ N ih12 =>
          intro v1_8 s9 R10 F11 k13 k14 inv15 hm16
          have jj17 := F11 40 0 0 rfl
          have jj18 := F11 40 0 1 rfl
          have jj19 := F11 40 0 2 rfl
          have jj20 := F11 40 0 3 rfl
          have Js9 := (inv15.2).1
          have UM := (inv15.2).2
          refine px_aload_n hG dX11_mend_23 rfl ?_
          refine jv0 hG dX11_mend_24 ct_X11_isGoodp lk_X11_139 ⟨rfl, rfl⟩ (by decide) ⟨Nat.le_of_ble_eq_true rfl, Nat.le_of_ble_eq_true rfl, Nat.le_of_ble_eq_true rfl⟩ (Nat.le_of_ble_eq_true rfl) ⟨rfl, rfl, R10, Js9⟩ (fun r21 t23 pr21 => ?_)
          obtain ⟨x24, rfl, Rt23, Ft23, br21⟩ := pr21 rfl
          have Ff25 := pm_Fr_tr F11 Ft23 (M := [(41, none), (43, none), (44, none)]) rfl
          have jj26 := Ft23 40 0 0 rfl
          have jj27 := Ft23 40 0 1 rfl
          have jj28 := Ft23 40 0 2 rfl
          have jj29 := Ft23 40 0 3 rfl
          have Jt23 := pm_J2_fr Ft23 rfl Js9
          have k30 : t23 40 0 3 = x1 := (Ft23 40 0 3 rfl).trans k13
          have k31 : t23 40 0 1 = x2 := (Ft23 40 0 1 rfl).trans k14
          show G 27 [some (.inr (.inr (40, 0))), some (.inl v1_8), none, none] [.inl x24] 122 t23
          have GB := br21.2
          have PS : pm_pl s9 := ⟨(F11 40 0 0 rfl).trans (PL.2 (by omega)).1, fun j a b => (F11 42 0 j rfl).trans ((PL.2 (by omega)).2 j a (by have z := F11 40 0 3 rfl; omega))⟩
          have KO : s9 40 0 3 = s0 40 0 3 := F11 40 0 3 rfl
          have WO : ∀ j : Int, t23 41 0 j = s9 41 0 j := fun j => Ft23 41 0 j rfl
          have WG : pm_gt (t23 41 0) 1 (s0 40 0 3).toNat = pm_gt (s9 41 0) 1 (s0 40 0 3).toNat := pm_gt_eq WO
          refine px_if_ne hG dX11_mend_27 (tgt := 82) (by decide) ⟨by omega, by omega⟩ (fun c32 => ?_) (fun c32 => ?_)
          · refine px_iload_n hG dX11_mend_82 rfl ?_
            have jj33 := Ff25 40 0 0 rfl
            have jj34 := Ff25 40 0 1 rfl
            have jj35 := Ff25 40 0 2 rfl
            have jj36 := Ff25 40 0 3 rfl
            exact px_iret (st := []) hG dX11_mend_83 rfl rfl (fun _ => by exact ⟨_, rfl, Rt23, Ff25, Jt23⟩)
          · refine px_iconst hG dX11_mend_30 ?_
            refine px_istore_n hG dX11_mend_31 (Nat.le_of_ble_eq_true rfl) (L2 := [some (.inr (.inr (40, 0))), some (.inl v1_8), some (.inl 1), none]) rfl ?_
            refine px_iconst hG dX11_mend_32 ?_
            refine px_istore_n hG dX11_mend_33 (Nat.le_of_ble_eq_true rfl) (L2 := [some (.inr (.inr (40, 0))), some (.inl v1_8), some (.inl 1), some (.inl 2)]) rfl ?_
            have L34 : ∀ (N : Nat) (v2_37 : Int) (v3_38 : Int), ((2 ≤ v3_38 ∧ v3_38 ≤ 10000) ∧ (1 ≤ v2_37 ∧ v2_37 ≤ s0 40 0 3 ∧ ∀ j : Int, 1 ≤ j → j < v3_38 → t23 41 0 j ≤ t23 41 0 v2_37)) → (10001 - v3_38).toNat < N → G 34 [some (.inr (.inr (40, 0))), some (.inl v1_8), some (.inl v2_37), some (.inl v3_38)] [] 122 t23 := by
              intro N
              induction N with
              | zero => intro v2_37 v3_38 inv40 hm41; exact absurd hm41 (Nat.not_lt_zero _)
              | succ N ih39 =>
                intro v2_37 v3_38 inv40 hm41
                have V1 := (inv40.2).2.2
                refine px_iload_n hG dX11_mend_34 rfl ?_
                refine px_aload_n hG dX11_mend_35 rfl ?_
                refine gi_40_3 hG dX11_mend_36 fl_X11_110 Rt23 (fun x42 ex42 lx42 ux42 => ?_)
                have ex42 : s0 40 0 3 = x42 := (Ff25 40 0 3 rfl).symm.trans ex42
                have J69_44 : ((v3_38 > x42)) → G 69 [some (.inr (.inr (40, 0))), some (.inl v1_8), some (.inl v2_37), none] [] 122 t23 := by
                  intro inv45
                  have NO : 2 ≤ t23 41 0 v2_37 := pm_non (s := t23) (n := s0 40 0 1) (fun z => GB (by omega) PS (fun j a b => by rw [← WO j]; exact z j a (by omega))) (fun j a b => V1 j a (by omega)) (fun j a b => by have q := Jt23.2 j a (by omega); rw [Ff25 40 0 1 rfl] at q; exact q)
                  refine px_aload_n hG dX11_mend_69 rfl ?_
                  refine gr_40_4 hG dX11_mend_70 fl_X11_13 Rt23 ?_
                  refine px_iload_n hG dX11_mend_73 rfl ?_
                  refine px_iconst hG dX11_mend_74 ?_
                  refine as_41 hG dX11_mend_75 Rt23 (by omega) (by omega) (fun s46 qs46 Rs46 => ?_)
                  have Fs46 := pm_Fr_up (Ff25) qs46 (M := [(41, none), (43, none), (44, none)]) rfl
                  have k47 : s46 40 0 3 = x1 := (pm_nec qs46 (by decide)).trans k30
                  have k48 : s46 40 0 1 = x2 := (pm_nec qs46 (by decide)).trans k31
                  have jj49 := pm_nec qs46 (c' := 40) (r' := 0) (i' := 0) (by decide)
                  have jj50 := pm_nec qs46 (c' := 40) (r' := 0) (i' := 1) (by decide)
                  have jj51 := pm_nec qs46 (c' := 40) (r' := 0) (i' := 2) (by decide)
                  have jj52 := pm_nec qs46 (c' := 40) (r' := 0) (i' := 3) (by decide)
                  have E := qs46
                  have Js46 := pm_J2_wish qs46 (by omega) (by omega) Jt23
                  have GS := pm_gt_dn (k := (s0 40 0 3).toNat) E (by omega) (by omega) (by omega)
                  have GN := pm_gt_nn (s46 41 0) 1 (s0 40 0 3).toNat
                  refine px_iinc hG dX11_mend_76 (Nat.le_of_ble_eq_true rfl) rfl (L2 := [some (.inr (.inr (40, 0))), some (.inl (v1_8 + 1)), some (.inl v2_37), none]) rfl ?_
                  refine px_goto hG dX11_mend_79 (tgt := 23) (by decide) ?_
                  refine px_weak hG (L2 := [some (.inr (.inr (40, 0))), some (.inl (v1_8 + 1)), none, none]) ⟨Or.inr rfl, Or.inr rfl, Or.inl rfl, Or.inr rfl, trivial⟩ ?_
                  exact ih12 (v1_8 + 1) s46 Rs46 Fs46 k47 k48 (⟨by omega, ⟨Js46, by omega⟩⟩) (by omega)
                refine px_ic_gt hG dX11_mend_39 (tgt := 69) (by decide) ⟨by omega, by omega⟩ ⟨by omega, by omega⟩ (fun c43 => ?_) (fun c43 => ?_)
                · refine px_weak hG (L2 := [some (.inr (.inr (40, 0))), some (.inl v1_8), some (.inl v2_37), none]) ⟨Or.inr rfl, Or.inr rfl, Or.inr rfl, Or.inl rfl, trivial⟩ ?_
                  exact J69_44  (by omega)
                · refine px_aload_n hG dX11_mend_42 rfl ?_
                  refine gr_40_4 hG dX11_mend_43 fl_X11_13 Rt23 ?_
                  refine px_iload_n hG dX11_mend_46 rfl ?_
                  refine al_41 hG dX11_mend_47 Rt23 (by omega) (fun x53 ex53 lx53 ux53 => ?_)
                  have Y3 := ex53
                  refine px_aload_n hG dX11_mend_48 rfl ?_
                  refine gr_40_4 hG dX11_mend_49 fl_X11_13 Rt23 ?_
                  refine px_iload_n hG dX11_mend_52 rfl ?_
                  refine al_41 hG dX11_mend_53 Rt23 (by omega) (fun x54 ex54 lx54 ux54 => ?_)
                  have Y2 := ex54
                  refine px_ic_lt hG dX11_mend_54 (tgt := 61) (by decide) ⟨by omega, by omega⟩ ⟨by omega, by omega⟩ (fun c55 => ?_) (fun c55 => ?_)
                  · refine px_iload_n hG dX11_mend_61 rfl ?_
                    refine px_istore_n hG dX11_mend_62 (Nat.le_of_ble_eq_true rfl) (L2 := [some (.inr (.inr (40, 0))), some (.inl v1_8), some (.inl v2_37), some (.inl v3_38)]) rfl ?_
                    refine px_iinc hG dX11_mend_63 (Nat.le_of_ble_eq_true rfl) rfl (L2 := [some (.inr (.inr (40, 0))), some (.inl v1_8), some (.inl v2_37), some (.inl (v3_38 + 1))]) rfl ?_
                    refine px_goto hG dX11_mend_66 (tgt := 34) (by decide) ?_
                    exact ih39 v2_37 (v3_38 + 1) (⟨by omega, ⟨by omega, by omega, pm_gr_s V1 (by omega) Y3 Y2 (by omega)⟩⟩) (by omega)
                  · refine px_iload_n hG dX11_mend_57 rfl ?_
                    refine px_goto hG dX11_mend_58 (tgt := 62) (by decide) ?_
                    refine px_istore_n hG dX11_mend_62 (Nat.le_of_ble_eq_true rfl) (L2 := [some (.inr (.inr (40, 0))), some (.inl v1_8), some (.inl v3_38), some (.inl v3_38)]) rfl ?_
                    refine px_iinc hG dX11_mend_63 (Nat.le_of_ble_eq_true rfl) rfl (L2 := [some (.inr (.inr (40, 0))), some (.inl v1_8), some (.inl v3_38), some (.inl (v3_38 + 1))]) rfl ?_
                    refine px_goto hG dX11_mend_66 (tgt := 34) (by decide) ?_
                    exact ih39 v3_38 (v3_38 + 1) (⟨by omega, ⟨by omega, by omega, pm_gr_s V1 (by omega) Y3 Y2 (by omega)⟩⟩) (by omega)
            exact L34 _ 1 2 (⟨by omega, ⟨by omega, by omega, fun j a b => by rw [show j = 1 by omega]; exact Int.le_refl _⟩⟩) (Nat.lt_succ_self _)
      exact L23 _ 0 s0 R0 pm_Fr_rf ex1 ex2 (⟨by omega, ⟨J2, by have a := pm_gt_le (s0 41 0) 1 (s0 40 0 3).toNat; omega⟩⟩) (Nat.lt_succ_self _)
    · refine px_bipush hG dX11_mend_18 (by decide) ?_
      exact px_iret (st := []) hG dX11_mend_20 rfl rfl (fun _ => by exact ⟨_, rfl, R0, pm_Fr_rf, J2⟩))
