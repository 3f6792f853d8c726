/-! ===== constructors of the class and of the model ===== -/
def pm_ch (s : pm_H) (a b : Int) : Prop := (∀ x y : Int, 0 ≤ x → x < a → 0 ≤ y → y ≤ 11 → s 46 0 (12 * x + y) = pm_C x.toNat y.toNat) ∧ (∀ y : Int, 0 ≤ y → y < b → s 46 0 (12 * a + y) = pm_C a.toNat y.toNat) ∧ ∀ i : Int, 12 * a + b ≤ i → s 46 0 i = 0
theorem pm_C_rec {a b : Int} (ha : 1 ≤ a) (hb : 1 ≤ b) : pm_C a.toNat b.toNat = pm_C (a - 1).toNat (b - 1).toNat + pm_C (a - 1).toNat b.toNat := by
  have h1 : a.toNat = (a - 1).toNat + 1 := by omega
  have h2 : b.toNat = (b - 1).toNat + 1 := by omega
  rw [h1, h2]
  simp only [pm_C]
theorem pm_ch_0 {s : pm_H} (Z : ∀ i : Int, s 46 0 i = 0) : pm_ch s 0 0 := ⟨fun x y a b => by omega, fun y a b => by omega, fun i _ => Z i⟩
theorem pm_ch_1 {s s' : pm_H} {a : Int} (h : pm_ch s a 0) (e : s' = pm_up s 46 0 (12 * a) 1) (ha : 0 ≤ a) : pm_ch s' a 1 := by
  refine ⟨fun x y h0 h1 h2 h3 => ?_, fun y h0 h1 => ?_, fun i hi => ?_⟩
  · rw [pm_nei e (by omega)]
    exact h.1 x y h0 h1 h2 h3
  · have : y = 0 := by omega
    subst this
    rw [show 12 * a + 0 = 12 * a by omega, pm_at e]
    exact (pm_C_c0 _).symm
  · rw [pm_nei e (by omega)]
    exact h.2.2 i (by omega)
theorem pm_ch_s {s s' : pm_H} {a b x y : Int} (h : pm_ch s a b) (e : s' = pm_up s 46 0 (12 * a + b) (x + y)) (hx : s 46 0 (12 * (a - 1) + b - 1) = x) (hy : s 46 0 (12 * (a - 1) + b) = y) (hb : 1 ≤ b) (ha : b ≤ a) (ha2 : a ≤ 10) : pm_ch s' a (b + 1) := by
  have h1 := h.1 (a - 1) (b - 1) (by omega) (by omega) (by omega) (by omega)
  have h2 := h.1 (a - 1) b (by omega) (by omega) (by omega) (by omega)
  rw [show 12 * (a - 1) + (b - 1) = 12 * (a - 1) + b - 1 by omega, hx] at h1
  rw [hy] at h2
  refine ⟨fun u v h0 h1 h2 h3 => ?_, fun v h0 h1 => ?_, fun i hi => ?_⟩
  · rw [pm_nei e (by omega)]
    exact h.1 u v h0 h1 h2 h3
  · by_cases z : v = b
    · rw [z, pm_at e, pm_C_rec (by omega) hb]
      omega
    · rw [pm_nei e (by omega)]
      exact h.2.1 v h0 (by omega)
  · rw [pm_nei e (by omega)]
    exact h.2.2 i (by omega)
theorem pm_ch_n {s : pm_H} {a b : Int} (h : pm_ch s a b) (hb : b = a + 1) (ha : 0 ≤ a) (ha2 : a ≤ 10) : pm_ch s (a + 1) 0 := by
  refine ⟨fun u v h0 h1 h2 h3 => ?_, fun v h0 h1 => by omega, fun i hi => h.2.2 i (by omega)⟩
  by_cases z : u = a
  · subst z
    by_cases y : v < b
    · exact h.2.1 v h2 y
    · rw [h.2.2 _ (by omega), pm_C_z (by omega)]
  · exact h.1 u v h0 (by omega) h2 h3
theorem pm_ch_e {s : pm_H} {a : Int} (h : pm_ch s a 0) (ha : 11 ≤ a) : pm_CH s := fun x y h0 h1 h2 => h.1 x y (by omega) (by omega) h0 (by omega)
theorem pm_ln_s {s s' : pm_H} {v : Int} (W : ∀ q : Int, 0 ≤ q → q < v → s 64 0 q = -1) (e : s' = pm_up s 64 0 v (-1)) : ∀ q : Int, 0 ≤ q → q < v + 1 → s' 64 0 q = -1 := fun q a b => by
  by_cases z : q = v
  · rw [z]
    exact pm_at e
  · rw [pm_nei e z]
    exact W q a (by omega)
theorem nw_X10_7 : pm_NWb RX10 7 1 = true := by decide +kernel
theorem nw_X10_10 : pm_NWb RX10 10 5 = true := by decide +kernel
theorem nw_X10_19 : pm_NWb RX10 19 2 = true := by decide +kernel
theorem nw_X10_26 : pm_NWb RX10 26 0 = true := by decide +kernel
theorem nw_X10_35 : pm_NWb RX10 35 4 = true := by decide +kernel
theorem nw_X10_42 : pm_NWb RX10 42 8 = true := by decide +kernel
theorem nw_X10_49 : pm_NWb RX10 49 9 = true := by decide +kernel
theorem nw_X10_56 : pm_NWb RX10 56 3 = true := by decide +kernel
theorem nw_X10_63 : pm_NWb RX10 63 7 = true := by decide +kernel
theorem nw_X10_70 : pm_NWb RX10 70 6 = true := by decide +kernel
def pre_X10_init (as : List pm_V) (n : Nat) (σ : pm_H) : Prop := as = [.inr (.inr (0, 0))] ∧ n = 1 ∧ pm_ZA 0 σ
def po_X10_init (as : List pm_V) (_ : Nat) (σ : pm_H) (r : Option pm_V) (τ : pm_H) : Prop := as = [.inr (.inr (0, 0))] → r = none ∧ pm_ZA 95 τ ∧ pm_okR 0 95 τ ∧ (τ 3 0 0 = 0 ∧ τ 3 0 1 = 5 ∧ τ 3 0 3 = 0) ∧ (∀ q : Int, 0 ≤ q → q < 4 → τ 36 0 q = -1) ∧ (∀ q : Int, τ 37 0 q = 0) ∧ (∀ i : Int, τ 28 0 i = 0) ∧ ∀ r i : Int, τ 29 r i = 0
set_option maxRecDepth 20000 in
set_option maxHeartbeats 4000000 in
theorem ct_X10_init : pm_Ct yX10_init cX10_init 2 none 2 94 pre_X10_init po_X10_init := pm_sound (ini := true) (by decide +kernel) pk_X10_init (fun _ => rfl) (by
  rintro as n s0 ⟨rfl, rfl, hZ⟩
  refine ⟨by decide, Nat.le_of_ble_eq_true rfl, fun G hG => ?_⟩
  have hG : pm_Rules (RX10, 2, 95, cX10_init, -1, (fun _ => 0), true, none, po_X10_init [.inr (.inr (0, 0))] 1 s0) G := hG
  show G 0 [some (.inr (.inr (0, 0))), none] [] 1 s0
  have ZA0 : pm_ZA 1 s0 := fun c r i hc => hZ c r i (Nat.zero_le _)
  have OK0 : pm_okR 1 1 s0 := fun c r i h1 h2 => by omega
  have D0 : pm_dn 0 ([] : List (Int × Int × Int)) s0 := fun q hq => absurd hq List.not_mem_nil
  refine px_aload_n hG dX10_init_0 rfl ?_
  refine px_obj hG dX10_init_1 lo_X10_1 (Nat.le_of_ble_eq_true rfl) (Nat.le_of_ble_eq_true rfl) ?_
  refine px_new hG dX10_init_4 (c := 1) ⟨rfl, nw_X10_7⟩ (by decide) (Nat.le_of_ble_eq_true rfl) (fun r i => ZA0 1 r i (by decide)) ?_
  show G 7 [some (.inr (.inr (0, 0))), none] [.inr (.inr (1, 0))] 2 s0
  refine px_dupa hG dX10_init_7 ?_
  refine ip0 hG dX10_init_8 ct_X1_init lk_X10_9 rfl rfl (by decide) ⟨Nat.le_of_ble_eq_true rfl, Nat.le_of_ble_eq_true rfl, Nat.le_of_ble_eq_true rfl⟩ (Nat.le_of_ble_eq_true rfl) ⟨rfl, rfl, ZA0⟩ (fun r1 t2 p3 => ?_)
  obtain ⟨rfl, LO4, ZA5, OK6⟩ := p3 rfl
  show G 11 [some (.inr (.inr (0, 0))), none] [.inr (.inr (1, 0))] 14 t2
  have D8 := pm_dn_c D0 (fun r i => LO4 0 r i (by decide))
  have OK9 := pm_okR_app OK0 LO4 OK6
  refine px_astore_n hG dX10_init_11 (Nat.le_of_ble_eq_true rfl) (L2 := [some (.inr (.inr (0, 0))), some (.inr (.inr (1, 0)))]) rfl ?_
  refine px_aload_n hG dX10_init_12 rfl ?_
  refine px_new hG dX10_init_13 (c := 3) ⟨rfl, nw_X10_10⟩ (by decide) (Nat.le_of_ble_eq_true rfl) (fun r i => ZA5 3 r i (by decide)) ?_
  show G 16 [some (.inr (.inr (0, 0))), some (.inr (.inr (1, 0)))] [.inr (.inr (3, 0)), .inr (.inr (0, 0))] 15 t2
  refine px_dupa hG dX10_init_16 ?_
  refine ip0 hG dX10_init_17 ct_X5_init lk_X10_12 rfl rfl (by decide) ⟨Nat.le_of_ble_eq_true rfl, Nat.le_of_ble_eq_true rfl, Nat.le_of_ble_eq_true rfl⟩ (Nat.le_of_ble_eq_true rfl) ⟨rfl, rfl, ZA5⟩ (fun r10 t11 p12 => ?_)
  obtain ⟨rfl, LO13, ZA14, OK15, X16⟩ := p12 rfl
  show G 20 [some (.inr (.inr (0, 0))), some (.inr (.inr (1, 0)))] [.inr (.inr (3, 0)), .inr (.inr (0, 0))] 20 t11
  have D17 := pm_dn_c D8 (fun r i => LO13 0 r i (by decide))
  have OK18 := pm_okR_app OK9 LO13 OK15
  refine px_putR hG dX10_init_20 (k := 0) rfl ⟨rfl, fl_X10_13, rfl, by decide +kernel, rfl⟩ (by decide) (fun s19 (es19 : s19 = pm_up t11 0 1 0 1) => ?_)
  have D20 := pm_dn_up [(1, 0, 1)] D17 es19 (by decide)
  have ZA21 := pm_ZA_up ZA14 es19 (by decide)
  have OK22 := pm_okR_up OK18 es19 (by decide)
  have P23 : s19 3 0 0 = 0 ∧ s19 3 0 1 = 5 ∧ s19 3 0 3 = 0 := by rw [pm_nec (c' := 3) (i' := 0) es19 (by decide), pm_nec (c' := 3) (i' := 1) es19 (by decide), pm_nec (c' := 3) (i' := 3) es19 (by decide)]; exact X16
  refine px_aload_n hG dX10_init_23 rfl ?_
  refine px_new hG dX10_init_24 (c := 9) ⟨rfl, nw_X10_19⟩ (by decide) (Nat.le_of_ble_eq_true rfl) (fun r i => ZA21 9 r i (by decide)) ?_
  show G 27 [some (.inr (.inr (0, 0))), some (.inr (.inr (1, 0)))] [.inr (.inr (9, 0)), .inr (.inr (0, 0))] 21 s19
  refine px_dupa hG dX10_init_27 ?_
  refine ip0 hG dX10_init_28 ct_X2_init lk_X10_21 rfl rfl (by decide) ⟨Nat.le_of_ble_eq_true rfl, Nat.le_of_ble_eq_true rfl, Nat.le_of_ble_eq_true rfl⟩ (Nat.le_of_ble_eq_true rfl) ⟨rfl, rfl, ZA21⟩ (fun r24 t25 p26 => ?_)
  obtain ⟨rfl, LO27, ZA28, OK29⟩ := p26 rfl
  show G 31 [some (.inr (.inr (0, 0))), some (.inr (.inr (1, 0)))] [.inr (.inr (9, 0)), .inr (.inr (0, 0))] 22 t25
  have D31 := pm_dn_c D20 (fun r i => LO27 0 r i (by decide))
  have OK32 := pm_okR_app OK22 LO27 OK29
  have P33 : t25 3 0 0 = 0 ∧ t25 3 0 1 = 5 ∧ t25 3 0 3 = 0 := by rw [LO27 3 0 0 (by decide), LO27 3 0 1 (by decide), LO27 3 0 3 (by decide)]; exact P23
  refine px_putR hG dX10_init_31 (k := 1) rfl ⟨rfl, fl_X10_22, rfl, by decide +kernel, rfl⟩ (by decide) (fun s34 (es34 : s34 = pm_up t25 0 1 1 1) => ?_)
  have D35 := pm_dn_up [(1, 1, 1), (1, 0, 1)] D31 es34 (by decide)
  have ZA36 := pm_ZA_up ZA28 es34 (by decide)
  have OK37 := pm_okR_up OK32 es34 (by decide)
  have P38 : s34 3 0 0 = 0 ∧ s34 3 0 1 = 5 ∧ s34 3 0 3 = 0 := by rw [pm_nec (c' := 3) (i' := 0) es34 (by decide), pm_nec (c' := 3) (i' := 1) es34 (by decide), pm_nec (c' := 3) (i' := 3) es34 (by decide)]; exact P33
  refine px_aload_n hG dX10_init_34 rfl ?_
  refine px_new hG dX10_init_35 (c := 11) ⟨rfl, nw_X10_26⟩ (by decide) (Nat.le_of_ble_eq_true rfl) (fun r i => ZA36 11 r i (by decide)) ?_
  show G 38 [some (.inr (.inr (0, 0))), some (.inr (.inr (1, 0)))] [.inr (.inr (11, 0)), .inr (.inr (0, 0))] 23 s34
  refine px_dupa hG dX10_init_38 ?_
  refine px_aload_n hG dX10_init_39 rfl ?_
  refine ip1 hG dX10_init_40 ct_X0_init lk_X10_28 rfl rfl (by decide) ⟨Nat.le_of_ble_eq_true rfl, Nat.le_of_ble_eq_true rfl, Nat.le_of_ble_eq_true rfl⟩ (Nat.le_of_ble_eq_true rfl) ⟨rfl, rfl, ZA36⟩ (fun r39 t40 p41 => ?_)
  obtain ⟨rfl, LO42, ZA43, OK44⟩ := p41 rfl
  show G 43 [some (.inr (.inr (0, 0))), some (.inr (.inr (1, 0)))] [.inr (.inr (11, 0)), .inr (.inr (0, 0))] 25 t40
  have D46 := pm_dn_c D35 (fun r i => LO42 0 r i (by decide))
  have OK47 := pm_okR_app OK37 LO42 OK44
  have P48 : t40 3 0 0 = 0 ∧ t40 3 0 1 = 5 ∧ t40 3 0 3 = 0 := by rw [LO42 3 0 0 (by decide), LO42 3 0 1 (by decide), LO42 3 0 3 (by decide)]; exact P38
  refine px_putR hG dX10_init_43 (k := 2) rfl ⟨rfl, fl_X10_31, rfl, by decide +kernel, rfl⟩ (by decide) (fun s49 (es49 : s49 = pm_up t40 0 1 2 1) => ?_)
  have D50 := pm_dn_up [(1, 2, 1), (1, 1, 1), (1, 0, 1)] D46 es49 (by decide)
  have ZA51 := pm_ZA_up ZA43 es49 (by decide)
  have OK52 := pm_okR_up OK47 es49 (by decide)
  have P53 : s49 3 0 0 = 0 ∧ s49 3 0 1 = 5 ∧ s49 3 0 3 = 0 := by rw [pm_nec (c' := 3) (i' := 0) es49 (by decide), pm_nec (c' := 3) (i' := 1) es49 (by decide), pm_nec (c' := 3) (i' := 3) es49 (by decide)]; exact P48
  refine px_aload_n hG dX10_init_46 rfl ?_
  refine px_new hG dX10_init_47 (c := 14) ⟨rfl, nw_X10_35⟩ (by decide) (Nat.le_of_ble_eq_true rfl) (fun r i => ZA51 14 r i (by decide)) ?_
  show G 50 [some (.inr (.inr (0, 0))), some (.inr (.inr (1, 0)))] [.inr (.inr (14, 0)), .inr (.inr (0, 0))] 26 s49
  refine px_dupa hG dX10_init_50 ?_
  refine ip0 hG dX10_init_51 ct_X4_init lk_X10_37 rfl rfl (by decide) ⟨Nat.le_of_ble_eq_true rfl, Nat.le_of_ble_eq_true rfl, Nat.le_of_ble_eq_true rfl⟩ (Nat.le_of_ble_eq_true rfl) ⟨rfl, rfl, ZA51⟩ (fun r54 t55 p56 => ?_)
  obtain ⟨rfl, LO57, ZA58, OK59⟩ := p56 rfl
  show G 54 [some (.inr (.inr (0, 0))), some (.inr (.inr (1, 0)))] [.inr (.inr (14, 0)), .inr (.inr (0, 0))] 39 t55
  have D61 := pm_dn_c D50 (fun r i => LO57 0 r i (by decide))
  have OK62 := pm_okR_app OK52 LO57 OK59
  have P63 : t55 3 0 0 = 0 ∧ t55 3 0 1 = 5 ∧ t55 3 0 3 = 0 := by rw [LO57 3 0 0 (by decide), LO57 3 0 1 (by decide), LO57 3 0 3 (by decide)]; exact P53
  refine px_putR hG dX10_init_54 (k := 3) rfl ⟨rfl, fl_X10_38, rfl, by decide +kernel, rfl⟩ (by decide) (fun s64 (es64 : s64 = pm_up t55 0 1 3 1) => ?_)
  have D65 := pm_dn_up [(1, 3, 1), (1, 2, 1), (1, 1, 1), (1, 0, 1)] D61 es64 (by decide)
  have ZA66 := pm_ZA_up ZA58 es64 (by decide)
  have OK67 := pm_okR_up OK62 es64 (by decide)
  have P68 : s64 3 0 0 = 0 ∧ s64 3 0 1 = 5 ∧ s64 3 0 3 = 0 := by rw [pm_nec (c' := 3) (i' := 0) es64 (by decide), pm_nec (c' := 3) (i' := 1) es64 (by decide), pm_nec (c' := 3) (i' := 3) es64 (by decide)]; exact P63
  refine px_aload_n hG dX10_init_57 rfl ?_
  refine px_new hG dX10_init_58 (c := 16) ⟨rfl, nw_X10_42⟩ (by decide) (Nat.le_of_ble_eq_true rfl) (fun r i => ZA66 16 r i (by decide)) ?_
  show G 61 [some (.inr (.inr (0, 0))), some (.inr (.inr (1, 0)))] [.inr (.inr (16, 0)), .inr (.inr (0, 0))] 40 s64
  refine px_dupa hG dX10_init_61 ?_
  refine ip0 hG dX10_init_62 ct_X8_init lk_X10_44 rfl rfl (by decide) ⟨Nat.le_of_ble_eq_true rfl, Nat.le_of_ble_eq_true rfl, Nat.le_of_ble_eq_true rfl⟩ (Nat.le_of_ble_eq_true rfl) ⟨rfl, rfl, ZA66⟩ (fun r69 t70 p71 => ?_)
  obtain ⟨rfl, LO72, ZA73, OK74⟩ := p71 rfl
  show G 65 [some (.inr (.inr (0, 0))), some (.inr (.inr (1, 0)))] [.inr (.inr (16, 0)), .inr (.inr (0, 0))] 47 t70
  have D76 := pm_dn_c D65 (fun r i => LO72 0 r i (by decide))
  have OK77 := pm_okR_app OK67 LO72 OK74
  have P78 : t70 3 0 0 = 0 ∧ t70 3 0 1 = 5 ∧ t70 3 0 3 = 0 := by rw [LO72 3 0 0 (by decide), LO72 3 0 1 (by decide), LO72 3 0 3 (by decide)]; exact P68
  refine px_putR hG dX10_init_65 (k := 4) rfl ⟨rfl, fl_X10_45, rfl, by decide +kernel, rfl⟩ (by decide) (fun s79 (es79 : s79 = pm_up t70 0 1 4 1) => ?_)
  have D80 := pm_dn_up [(1, 4, 1), (1, 3, 1), (1, 2, 1), (1, 1, 1), (1, 0, 1)] D76 es79 (by decide)
  have ZA81 := pm_ZA_up ZA73 es79 (by decide)
  have OK82 := pm_okR_up OK77 es79 (by decide)
  have P83 : s79 3 0 0 = 0 ∧ s79 3 0 1 = 5 ∧ s79 3 0 3 = 0 := by rw [pm_nec (c' := 3) (i' := 0) es79 (by decide), pm_nec (c' := 3) (i' := 1) es79 (by decide), pm_nec (c' := 3) (i' := 3) es79 (by decide)]; exact P78
  refine px_aload_n hG dX10_init_68 rfl ?_
  refine px_new hG dX10_init_69 (c := 24) ⟨rfl, nw_X10_49⟩ (by decide) (Nat.le_of_ble_eq_true rfl) (fun r i => ZA81 24 r i (by decide)) ?_
  show G 72 [some (.inr (.inr (0, 0))), some (.inr (.inr (1, 0)))] [.inr (.inr (24, 0)), .inr (.inr (0, 0))] 48 s79
  refine px_dupa hG dX10_init_72 ?_
  refine ip0 hG dX10_init_73 ct_X9_init lk_X10_51 rfl rfl (by decide) ⟨Nat.le_of_ble_eq_true rfl, Nat.le_of_ble_eq_true rfl, Nat.le_of_ble_eq_true rfl⟩ (Nat.le_of_ble_eq_true rfl) ⟨rfl, rfl, ZA81⟩ (fun r84 t85 p86 => ?_)
  obtain ⟨rfl, LO87, ZA88, OK89⟩ := p86 rfl
  show G 76 [some (.inr (.inr (0, 0))), some (.inr (.inr (1, 0)))] [.inr (.inr (24, 0)), .inr (.inr (0, 0))] 50 t85
  have D91 := pm_dn_c D80 (fun r i => LO87 0 r i (by decide))
  have OK92 := pm_okR_app OK82 LO87 OK89
  have P93 : t85 3 0 0 = 0 ∧ t85 3 0 1 = 5 ∧ t85 3 0 3 = 0 := by rw [LO87 3 0 0 (by decide), LO87 3 0 1 (by decide), LO87 3 0 3 (by decide)]; exact P83
  refine px_putR hG dX10_init_76 (k := 5) rfl ⟨rfl, fl_X10_52, rfl, by decide +kernel, rfl⟩ (by decide) (fun s94 (es94 : s94 = pm_up t85 0 1 5 1) => ?_)
  have D95 := pm_dn_up [(1, 5, 1), (1, 4, 1), (1, 3, 1), (1, 2, 1), (1, 1, 1), (1, 0, 1)] D91 es94 (by decide)
  have ZA96 := pm_ZA_up ZA88 es94 (by decide)
  have OK97 := pm_okR_up OK92 es94 (by decide)
  have P98 : s94 3 0 0 = 0 ∧ s94 3 0 1 = 5 ∧ s94 3 0 3 = 0 := by rw [pm_nec (c' := 3) (i' := 0) es94 (by decide), pm_nec (c' := 3) (i' := 1) es94 (by decide), pm_nec (c' := 3) (i' := 3) es94 (by decide)]; exact P93
  refine px_aload_n hG dX10_init_79 rfl ?_
  refine px_new hG dX10_init_80 (c := 27) ⟨rfl, nw_X10_56⟩ (by decide) (Nat.le_of_ble_eq_true rfl) (fun r i => ZA96 27 r i (by decide)) ?_
  show G 83 [some (.inr (.inr (0, 0))), some (.inr (.inr (1, 0)))] [.inr (.inr (27, 0)), .inr (.inr (0, 0))] 51 s94
  refine px_dupa hG dX10_init_83 ?_
  refine ip0 hG dX10_init_84 ct_X3_init lk_X10_58 rfl rfl (by decide) ⟨Nat.le_of_ble_eq_true rfl, Nat.le_of_ble_eq_true rfl, Nat.le_of_ble_eq_true rfl⟩ (Nat.le_of_ble_eq_true rfl) ⟨rfl, rfl, ZA96⟩ (fun r99 t100 p101 => ?_)
  obtain ⟨rfl, LO102, ZA103, OK104, X105⟩ := p101 rfl
  show G 87 [some (.inr (.inr (0, 0))), some (.inr (.inr (1, 0)))] [.inr (.inr (27, 0)), .inr (.inr (0, 0))] 60 t100
  have D106 := pm_dn_c D95 (fun r i => LO102 0 r i (by decide))
  have OK107 := pm_okR_app OK97 LO102 OK104
  have P108 : t100 3 0 0 = 0 ∧ t100 3 0 1 = 5 ∧ t100 3 0 3 = 0 := by rw [LO102 3 0 0 (by decide), LO102 3 0 1 (by decide), LO102 3 0 3 (by decide)]; exact P98
  refine px_putR hG dX10_init_87 (k := 6) rfl ⟨rfl, fl_X10_59, rfl, by decide +kernel, rfl⟩ (by decide) (fun s109 (es109 : s109 = pm_up t100 0 1 6 1) => ?_)
  have D110 := pm_dn_up [(1, 6, 1), (1, 5, 1), (1, 4, 1), (1, 3, 1), (1, 2, 1), (1, 1, 1), (1, 0, 1)] D106 es109 (by decide)
  have ZA111 := pm_ZA_up ZA103 es109 (by decide)
  have OK112 := pm_okR_up OK107 es109 (by decide)
  have P113 : s109 3 0 0 = 0 ∧ s109 3 0 1 = 5 ∧ s109 3 0 3 = 0 := by rw [pm_nec (c' := 3) (i' := 0) es109 (by decide), pm_nec (c' := 3) (i' := 1) es109 (by decide), pm_nec (c' := 3) (i' := 3) es109 (by decide)]; exact P108
  have P114 : (∀ i : Int, s109 28 0 i = 0) ∧ ∀ r i : Int, s109 29 r i = 0 := ⟨fun i => (pm_nec es109 (by decide)).trans (X105.1 i), fun r i => (pm_nec es109 (by decide)).trans (X105.2 r i)⟩
  refine px_aload_n hG dX10_init_90 rfl ?_
  refine px_new hG dX10_init_91 (c := 31) ⟨rfl, nw_X10_63⟩ (by decide) (Nat.le_of_ble_eq_true rfl) (fun r i => ZA111 31 r i (by decide)) ?_
  show G 94 [some (.inr (.inr (0, 0))), some (.inr (.inr (1, 0)))] [.inr (.inr (31, 0)), .inr (.inr (0, 0))] 61 s109
  refine px_dupa hG dX10_init_94 ?_
  refine px_aload_n hG dX10_init_95 rfl ?_
  refine ip1 hG dX10_init_96 ct_X7_init lk_X10_65 rfl rfl (by decide) ⟨Nat.le_of_ble_eq_true rfl, Nat.le_of_ble_eq_true rfl, Nat.le_of_ble_eq_true rfl⟩ (Nat.le_of_ble_eq_true rfl) ⟨rfl, rfl, ZA111⟩ (fun r115 t116 p117 => ?_)
  obtain ⟨rfl, LO118, ZA119, OK120⟩ := p117 rfl
  show G 99 [some (.inr (.inr (0, 0))), some (.inr (.inr (1, 0)))] [.inr (.inr (31, 0)), .inr (.inr (0, 0))] 86 t116
  have D122 := pm_dn_c D110 (fun r i => LO118 0 r i (by decide))
  have OK123 := pm_okR_app OK112 LO118 OK120
  have P124 : t116 3 0 0 = 0 ∧ t116 3 0 1 = 5 ∧ t116 3 0 3 = 0 := by rw [LO118 3 0 0 (by decide), LO118 3 0 1 (by decide), LO118 3 0 3 (by decide)]; exact P113
  have P125 : (∀ i : Int, t116 28 0 i = 0) ∧ ∀ r i : Int, t116 29 r i = 0 := ⟨fun i => (LO118 28 0 i (by decide)).trans (P114.1 i), fun r i => (LO118 29 r i (by decide)).trans (P114.2 r i)⟩
  refine px_putR hG dX10_init_99 (k := 7) rfl ⟨rfl, fl_X10_66, rfl, by decide +kernel, rfl⟩ (by decide) (fun s126 (es126 : s126 = pm_up t116 0 1 7 1) => ?_)
  have D127 := pm_dn_up [(1, 7, 1), (1, 6, 1), (1, 5, 1), (1, 4, 1), (1, 3, 1), (1, 2, 1), (1, 1, 1), (1, 0, 1)] D122 es126 (by decide)
  have ZA128 := pm_ZA_up ZA119 es126 (by decide)
  have OK129 := pm_okR_up OK123 es126 (by decide)
  have P130 : s126 3 0 0 = 0 ∧ s126 3 0 1 = 5 ∧ s126 3 0 3 = 0 := by rw [pm_nec (c' := 3) (i' := 0) es126 (by decide), pm_nec (c' := 3) (i' := 1) es126 (by decide), pm_nec (c' := 3) (i' := 3) es126 (by decide)]; exact P124
  have P131 : (∀ i : Int, s126 28 0 i = 0) ∧ ∀ r i : Int, s126 29 r i = 0 := ⟨fun i => (pm_nec es126 (by decide)).trans (P125.1 i), fun r i => (pm_nec es126 (by decide)).trans (P125.2 r i)⟩
  refine px_aload_n hG dX10_init_102 rfl ?_
  refine px_new hG dX10_init_103 (c := 35) ⟨rfl, nw_X10_70⟩ (by decide) (Nat.le_of_ble_eq_true rfl) (fun r i => ZA128 35 r i (by decide)) ?_
  show G 106 [some (.inr (.inr (0, 0))), some (.inr (.inr (1, 0)))] [.inr (.inr (35, 0)), .inr (.inr (0, 0))] 87 s126
  refine px_dupa hG dX10_init_106 ?_
  refine ip0 hG dX10_init_107 ct_X6_init lk_X10_72 rfl rfl (by decide) ⟨Nat.le_of_ble_eq_true rfl, Nat.le_of_ble_eq_true rfl, Nat.le_of_ble_eq_true rfl⟩ (Nat.le_of_ble_eq_true rfl) ⟨rfl, rfl, ZA128⟩ (fun r132 t133 p134 => ?_)
  obtain ⟨rfl, LO135, ZA136, OK137, X138⟩ := p134 rfl
  show G 110 [some (.inr (.inr (0, 0))), some (.inr (.inr (1, 0)))] [.inr (.inr (35, 0)), .inr (.inr (0, 0))] 94 t133
  have D139 := pm_dn_c D127 (fun r i => LO135 0 r i (by decide))
  have OK140 := pm_okR_app OK129 LO135 OK137
  have P141 : t133 3 0 0 = 0 ∧ t133 3 0 1 = 5 ∧ t133 3 0 3 = 0 := by rw [LO135 3 0 0 (by decide), LO135 3 0 1 (by decide), LO135 3 0 3 (by decide)]; exact P130
  have P142 : (∀ i : Int, t133 28 0 i = 0) ∧ ∀ r i : Int, t133 29 r i = 0 := ⟨fun i => (LO135 28 0 i (by decide)).trans (P131.1 i), fun r i => (LO135 29 r i (by decide)).trans (P131.2 r i)⟩
  refine px_putR hG dX10_init_110 (k := 8) rfl ⟨rfl, fl_X10_73, rfl, by decide +kernel, rfl⟩ (by decide) (fun s143 (es143 : s143 = pm_up t133 0 1 8 1) => ?_)
  have D144 := pm_dn_up [(1, 8, 1), (1, 7, 1), (1, 6, 1), (1, 5, 1), (1, 4, 1), (1, 3, 1), (1, 2, 1), (1, 1, 1), (1, 0, 1)] D139 es143 (by decide)
  have ZA145 := pm_ZA_up ZA136 es143 (by decide)
  have OK146 := pm_okR_up OK140 es143 (by decide)
  have P147 : s143 3 0 0 = 0 ∧ s143 3 0 1 = 5 ∧ s143 3 0 3 = 0 := by rw [pm_nec (c' := 3) (i' := 0) es143 (by decide), pm_nec (c' := 3) (i' := 1) es143 (by decide), pm_nec (c' := 3) (i' := 3) es143 (by decide)]; exact P141
  have P148 : (∀ i : Int, s143 28 0 i = 0) ∧ ∀ r i : Int, s143 29 r i = 0 := ⟨fun i => (pm_nec es143 (by decide)).trans (P142.1 i), fun r i => (pm_nec es143 (by decide)).trans (P142.2 r i)⟩
  have P149 : (∀ q : Int, 0 ≤ q → q < 4 → s143 36 0 q = -1) ∧ ∀ q : Int, s143 37 0 q = 0 := ⟨fun q a b => (pm_nec es143 (by decide)).trans (X138.1 q a b), fun q => (pm_nec es143 (by decide)).trans (X138.2 q)⟩
  refine px_aload_n hG dX10_init_113 rfl ?_
  refine px_bipush hG dX10_init_114 (by decide) ?_
  refine px_newI hG dX10_init_116 (c := 39) (N := 11) rfl (by decide) (Nat.le_of_ble_eq_true rfl) (fun r i => ZA145 39 r i (by decide)) (Nat.le_of_ble_eq_true rfl) ?_
  show G 118 [some (.inr (.inr (0, 0))), some (.inr (.inr (1, 0)))] [.inr (.inr (39, 0)), .inr (.inr (0, 0))] 95 s143
  have OKr : pm_okR 94 95 s143 := fun c r i h1 h2 => by
    have q := pm_cs (P := fun c => c ∈ [39]) (Nat.le_of_ble_eq_true rfl) (by decide +kernel) c h1 h2
    simp only [List.mem_cons, List.not_mem_nil, or_false] at q
    subst q
    rw [ZA145 39 r i (by decide)]
    exact pm_z_39 r i
  have OKf : pm_okR 1 95 s143 := pm_okR_app OK146 (fun _ _ _ _ => rfl) OKr
  have ZAf : pm_ZA 95 s143 := fun c r i hc => ZA145 c r i (by omega)
  refine px_putR hG dX10_init_118 (k := 9) rfl ⟨rfl, fl_X10_77, rfl, by decide +kernel, rfl⟩ (by decide) (fun s150 (es150 : s150 = pm_up s143 0 1 9 1) => ?_)
  have D151 := pm_dn_up [(1, 9, 1), (1, 8, 1), (1, 7, 1), (1, 6, 1), (1, 5, 1), (1, 4, 1), (1, 3, 1), (1, 2, 1), (1, 1, 1), (1, 0, 1)] D144 es150 (by decide)
  have ZA152 := pm_ZA_up ZAf es150 (by decide)
  have OK153 := pm_okR_up OKf es150 (by decide)
  have P154 : s150 3 0 0 = 0 ∧ s150 3 0 1 = 5 ∧ s150 3 0 3 = 0 := by rw [pm_nec (c' := 3) (i' := 0) es150 (by decide), pm_nec (c' := 3) (i' := 1) es150 (by decide), pm_nec (c' := 3) (i' := 3) es150 (by decide)]; exact P147
  have P155 : (∀ i : Int, s150 28 0 i = 0) ∧ ∀ r i : Int, s150 29 r i = 0 := ⟨fun i => (pm_nec es150 (by decide)).trans (P148.1 i), fun r i => (pm_nec es150 (by decide)).trans (P148.2 r i)⟩
  have P156 : (∀ q : Int, 0 ≤ q → q < 4 → s150 36 0 q = -1) ∧ ∀ q : Int, s150 37 0 q = 0 := ⟨fun q a b => (pm_nec es150 (by decide)).trans (P149.1 q a b), fun q => (pm_nec es150 (by decide)).trans (P149.2 q)⟩
  have OKz : pm_okR 0 95 s150 := fun c r i h1 h2 => by
    by_cases z : c = 0
    · subst z
      exact ⟨fun a b => by rw [a, b]; exact D151 (1, 0, 1) (by decide), fun a b => by rw [a, b]; exact D151 (1, 1, 1) (by decide), fun a b => by rw [a, b]; exact D151 (1, 2, 1) (by decide), fun a b => by rw [a, b]; exact D151 (1, 3, 1) (by decide), fun a b => by rw [a, b]; exact D151 (1, 4, 1) (by decide), fun a b => by rw [a, b]; exact D151 (1, 5, 1) (by decide), fun a b => by rw [a, b]; exact D151 (1, 6, 1) (by decide), fun a b => by rw [a, b]; exact D151 (1, 7, 1) (by decide), fun a b => by rw [a, b]; exact D151 (1, 8, 1) (by decide), fun a b => by rw [a, b]; exact D151 (1, 9, 1) (by decide)⟩
    · exact OK153 c r i (pm_pos_1 z) h2
  exact px_vret (st := []) hG dX10_init_121 rfl rfl (fun _ => by exact ⟨rfl, ZA152, OKz, P154, P156.1, P156.2, P155.1, P155.2⟩))
set_option maxRecDepth 20000 in
set_option maxHeartbeats 4000000 in
theorem pm_tail_X11 {po : pm_P} {G : pm_G} (hG : pm_Rules (RX11, 1, 122, cX11_init, -1, (fun _ => 0), true, none, po) G) {s0 : pm_H} (R0 : pm_Rng s0) (Z0 : ∀ i : Int, s0 46 0 i = 0) (kk : ∀ τ : pm_H, pm_Rng τ → pm_Fr [(46, none), (64, none)] s0 τ → pm_CH τ ∧ (∀ q : Int, 0 ≤ q → q < 4 → τ 64 0 q = -1) → po none τ) : G 220 [some (.inr (.inr (40, 0))), none, none] [] 122 s0 := by
  refine px_iconst hG dX11_init_220 ?_
  refine px_istore_n hG dX11_init_221 (Nat.le_of_ble_eq_true rfl) (L2 := [some (.inr (.inr (40, 0))), some (.inl 0), none]) rfl ?_
  have L222 : ∀ (N : Nat) (v1_1 : Int) (s2 : pm_H), pm_Rng s2 → pm_Fr [(46, none), (64, none)] s0 s2 → ((0 ≤ v1_1 ∧ v1_1 ≤ 10000) ∧ (pm_ch s2 v1_1 0 ∧ v1_1 ≤ 11)) → (10001 - v1_1).toNat < N → G 222 [some (.inr (.inr (40, 0))), some (.inl v1_1), none] [] 122 s2 := by
    intro N
    induction N with
    | zero => intro v1_1 s2 R3 F4 inv6 hm7; exact absurd hm7 (Nat.not_lt_zero _)
    | succ N ih5 =>
      intro v1_1 s2 R3 F4 inv6 hm7
      have U1 := (inv6.2).1
      have U2 := (inv6.2).2
      refine px_iload_n hG dX11_init_222 rfl ?_
      refine px_bipush hG dX11_init_223 (by decide) ?_
      have J297_9 : ((v1_1 > 10)) → G 297 [some (.inr (.inr (40, 0))), none, none] [] 122 s2 := by
        intro inv10
        have CF := pm_ch_e U1 (by omega)
        refine px_iconst hG dX11_init_297 ?_
        refine px_istore_n hG dX11_init_298 (Nat.le_of_ble_eq_true rfl) (L2 := [some (.inr (.inr (40, 0))), some (.inl 0), none]) rfl ?_
        have L299 : ∀ (N : Nat) (v1_11 : Int) (s12 : pm_H), pm_Rng s12 → pm_Fr [(46, none), (64, none)] s0 s12 → ((0 ≤ v1_11 ∧ v1_11 ≤ 10000) ∧ (pm_CH s12 ∧ ∀ q : Int, 0 ≤ q → q < v1_11 → s12 64 0 q = -1)) → (10001 - v1_11).toNat < N → G 299 [some (.inr (.inr (40, 0))), some (.inl v1_11), none] [] 122 s12 := by
          intro N
          induction N with
          | zero => intro v1_11 s12 R13 F14 inv16 hm17; exact absurd hm17 (Nat.not_lt_zero _)
          | succ N ih15 =>
            intro v1_11 s12 R13 F14 inv16 hm17
            have CF := (inv16.2).1
            have Q := (inv16.2).2
            refine px_iload_n hG dX11_init_299 rfl ?_
            refine px_iconst hG dX11_init_300 ?_
            refine px_ic_ge hG dX11_init_301 (tgt := 317) (by decide) ⟨by omega, by omega⟩ ⟨by omega, by omega⟩ (fun c18 => ?_) (fun c18 => ?_)
            · exact px_vret (st := []) hG dX11_init_317 rfl rfl (kk _ R13 F14 (⟨CF, fun q a b => Q q a (by omega)⟩))
            · refine px_aload_n hG dX11_init_304 rfl ?_
              refine gr_40_27 hG dX11_init_305 fl_X11_85 R13 ?_
              refine px_iload_n hG dX11_init_308 rfl ?_
              refine px_iconst hG dX11_init_309 ?_
              refine as_64 hG dX11_init_310 R13 (by omega) (by omega) (fun s19 qs19 Rs19 => ?_)
              have Fs19 := pm_Fr_up (F14) qs19 (M := [(46, none), (64, none)]) rfl
              have E3 := qs19
              refine px_iinc hG dX11_init_311 (Nat.le_of_ble_eq_true rfl) rfl (L2 := [some (.inr (.inr (40, 0))), some (.inl (v1_11 + 1)), none]) rfl ?_
              refine px_goto hG dX11_init_314 (tgt := 299) (by decide) ?_
              exact ih15 (v1_11 + 1) s19 Rs19 Fs19 (⟨by omega, ⟨pm_CH_eq (fun i => pm_nec E3 (by decide)) CF, pm_ln_s Q E3⟩⟩) (by omega)
        exact L299 _ 0 s2 R3 F4 (⟨by omega, ⟨CF, fun q a b => by omega⟩⟩) (Nat.lt_succ_self _)
      refine px_ic_gt hG dX11_init_225 (tgt := 297) (by decide) ⟨by omega, by omega⟩ ⟨by omega, by omega⟩ (fun c8 => ?_) (fun c8 => ?_)
      · refine px_weak hG (L2 := [some (.inr (.inr (40, 0))), none, none]) ⟨Or.inr rfl, Or.inl rfl, Or.inr rfl, trivial⟩ ?_
        exact J297_9  (by omega)
      · refine px_aload_n hG dX11_init_228 rfl ?_
        refine gr_40_9 hG dX11_init_229 fl_X11_29 R3 ?_
        refine px_bipush hG dX11_init_232 (by decide) ?_
        refine px_iload_n hG dX11_init_234 rfl ?_
        refine px_imul hG dX11_init_235 ?_
        refine px_lconst hG dX11_init_236 ?_
        show G 237 [some (.inr (.inr (40, 0))), some (.inl v1_1), none] [.inr (.inl 1), .inl (12 * v1_1), .inr (.inr (46, 0))] 122 s2
        refine as_46 hG dX11_init_237 R3 (by omega) (fun s20 qs20 Rs20 => ?_)
        have Fs20 := pm_Fr_up (F4) qs20 (M := [(46, none), (64, none)]) rfl
        have E1 := qs20
        have C1 := pm_ch_1 U1 E1 (by omega)
        refine px_iconst hG dX11_init_238 ?_
        refine px_istore_n hG dX11_init_239 (Nat.le_of_ble_eq_true rfl) (L2 := [some (.inr (.inr (40, 0))), some (.inl v1_1), some (.inl 1)]) rfl ?_
        have L240 : ∀ (N : Nat) (v2_21 : Int) (s22 : pm_H), pm_Rng s22 → pm_Fr [(46, none), (64, none)] s0 s22 → ((1 ≤ v2_21 ∧ v2_21 ≤ 10000) ∧ (pm_ch s22 v1_1 v2_21 ∧ v2_21 ≤ v1_1 + 1)) → (10001 - v2_21).toNat < N → G 240 [some (.inr (.inr (40, 0))), some (.inl v1_1), some (.inl v2_21)] [] 122 s22 := by
          intro N
          induction N with
          | zero => intro v2_21 s22 R23 F24 inv26 hm27; exact absurd hm27 (Nat.not_lt_zero _)
          | succ N ih25 =>
            intro v2_21 s22 R23 F24 inv26 hm27
            have V1 := (inv26.2).1
            have V2 := (inv26.2).2
            refine px_iload_n hG dX11_init_240 rfl ?_
            refine px_iload_n hG dX11_init_241 rfl ?_
            refine px_ic_gt hG dX11_init_242 (tgt := 291) (by decide) ⟨by omega, by omega⟩ ⟨by omega, by omega⟩ (fun c28 => ?_) (fun c28 => ?_)
            · refine px_iinc hG dX11_init_291 (Nat.le_of_ble_eq_true rfl) rfl (L2 := [some (.inr (.inr (40, 0))), some (.inl (v1_1 + 1)), some (.inl v2_21)]) rfl ?_
              refine px_goto hG dX11_init_294 (tgt := 222) (by decide) ?_
              refine px_weak hG (L2 := [some (.inr (.inr (40, 0))), some (.inl (v1_1 + 1)), none]) ⟨Or.inr rfl, Or.inr rfl, Or.inl rfl, trivial⟩ ?_
              exact ih5 (v1_1 + 1) s22 R23 F24 (⟨by omega, ⟨pm_ch_n V1 (by omega) (by omega) (by omega), by omega⟩⟩) (by omega)
            · refine px_aload_n hG dX11_init_245 rfl ?_
              refine gr_40_9 hG dX11_init_246 fl_X11_29 R23 ?_
              refine px_bipush hG dX11_init_249 (by decide) ?_
              refine px_iload_n hG dX11_init_251 rfl ?_
              refine px_imul hG dX11_init_252 ?_
              refine px_iload_n hG dX11_init_253 rfl ?_
              refine px_iadd hG dX11_init_254 ?_
              refine px_aload_n hG dX11_init_255 rfl ?_
              refine gr_40_9 hG dX11_init_256 fl_X11_29 R23 ?_
              refine px_bipush hG dX11_init_259 (by decide) ?_
              refine px_iload_n hG dX11_init_261 rfl ?_
              refine px_iconst hG dX11_init_262 ?_
              refine px_isub hG dX11_init_263 ?_
              refine px_imul hG dX11_init_264 ?_
              refine px_iload_n hG dX11_init_265 rfl ?_
              refine px_iadd hG dX11_init_266 ?_
              refine px_iconst hG dX11_init_267 ?_
              refine px_isub hG dX11_init_268 ?_
              refine al_46 hG dX11_init_269 (by omega) (fun z29 ez29 => ?_)
              have X1 := ez29
              refine px_aload_n hG dX11_init_270 rfl ?_
              refine gr_40_9 hG dX11_init_271 fl_X11_29 R23 ?_
              refine px_bipush hG dX11_init_274 (by decide) ?_
              refine px_iload_n hG dX11_init_276 rfl ?_
              refine px_iconst hG dX11_init_277 ?_
              refine px_isub hG dX11_init_278 ?_
              refine px_imul hG dX11_init_279 ?_
              refine px_iload_n hG dX11_init_280 rfl ?_
              refine px_iadd hG dX11_init_281 ?_
              refine al_46 hG dX11_init_282 (by omega) (fun z30 ez30 => ?_)
              have X2 := ez30
              refine px_ladd hG dX11_init_283 ?_
              refine as_46 hG dX11_init_284 R23 (by omega) (fun s31 qs31 Rs31 => ?_)
              have Fs31 := pm_Fr_up (F24) qs31 (M := [(46, none), (64, none)]) rfl
              have E2 := qs31
              have C2 := pm_ch_s V1 E2 X1 X2 (by omega) (by omega) (by omega)
              refine px_iinc hG dX11_init_285 (Nat.le_of_ble_eq_true rfl) rfl (L2 := [some (.inr (.inr (40, 0))), some (.inl v1_1), some (.inl (v2_21 + 1))]) rfl ?_
              refine px_goto hG dX11_init_288 (tgt := 240) (by decide) ?_
              exact ih25 (v2_21 + 1) s31 Rs31 Fs31 (⟨by omega, ⟨C2, by omega⟩⟩) (by omega)
        exact L240 _ 1 s20 Rs20 Fs20 (⟨by omega, ⟨C1, by omega⟩⟩) (Nat.lt_succ_self _)
  exact L222 _ 0 s0 R0 pm_Fr_rf (⟨by omega, ⟨pm_ch_0 Z0, by omega⟩⟩) (Nat.lt_succ_self _)
def pre_X11_init (as : List pm_V) (n : Nat) (σ : pm_H) : Prop := as = [.inr (.inr (40, 0))] ∧ n = 96 ∧ pm_ZA 95 σ ∧ pm_okR 0 95 σ
def po_X11_init (as : List pm_V) (_ : Nat) (σ : pm_H) (r : Option pm_V) (τ : pm_H) : Prop := as = [.inr (.inr (40, 0))] → r = none ∧ pm_lo 95 σ τ ∧ pm_ZA 122 τ ∧ pm_okR 95 122 τ ∧ pm_Rng τ ∧ (τ 40 0 0 = 0 ∧ τ 40 0 1 = 5 ∧ τ 40 0 3 = 0) ∧ pm_CH τ ∧ (∀ q : Int, 0 ≤ q → q < 4 → τ 64 0 q = -1) ∧ ∀ q : Int, τ 65 0 q = 0
set_option maxRecDepth 20000 in
set_option maxHeartbeats 4000000 in
theorem ct_X11_init : pm_Ct yX11_init cX11_init 3 none 1 26 pre_X11_init po_X11_init := pm_sound (ini := true) (by decide +kernel) pk_X11_init (fun _ => rfl) (by
  rintro as n s0 ⟨rfl, rfl, hZ, hP⟩
  refine ⟨by decide, Nat.le_of_ble_eq_true rfl, fun G hG => ?_⟩
  have hG : pm_Rules (RX11, 1, 122, cX11_init, -1, (fun _ => 0), true, none, po_X11_init [.inr (.inr (40, 0))] 96 s0) G := hG
  show G 0 [some (.inr (.inr (40, 0))), none, none] [] 96 s0
  have S1 := pm_st_rf [40] s0
  have D2 : pm_dn 40 [(0, 0, 0), (0, 1, 0), (0, 2, 0), (0, 3, 0)] s0 := pm_dn_z hZ (by decide) (by decide)
  refine px_aload_n hG dX11_init_0 rfl ?_
  refine px_obj hG dX11_init_1 lo_X11_1 (Nat.le_of_ble_eq_true rfl) (Nat.le_of_ble_eq_true rfl) ?_
  refine px_aload_n hG dX11_init_4 rfl ?_
  refine px_iconst hG dX11_init_5 ?_
  refine px_putI hG dX11_init_6 (k := 1) ⟨rfl, fl_X11_7, rfl, by decide +kernel⟩ (by decide) (fun s3 (es3 : s3 = pm_up s0 40 0 1 5) => ?_)
  have S4 := pm_st_up S1 es3 (by decide)
  have D5 := pm_dn_up [(0, 1, 5), (0, 0, 0), (0, 2, 0), (0, 3, 0)] D2 es3 (by decide)
  refine px_aload_n hG dX11_init_9 rfl ?_
  refine px_bipush hG dX11_init_10 (by decide) ?_
  refine px_newI hG dX11_init_12 (c := 41) (N := 11) rfl (by decide) (Nat.le_of_ble_eq_true rfl) (fun r i => (S4 41 r i (by decide)).trans (hZ 41 r i (by decide))) (Nat.le_of_ble_eq_true rfl) ?_
  show G 14 [some (.inr (.inr (40, 0))), none, none] [.inr (.inr (41, 0)), .inr (.inr (40, 0))] 97 s3
  refine px_putR hG dX11_init_14 (k := 4) rfl ⟨rfl, fl_X11_13, rfl, by decide +kernel, rfl⟩ (by decide) (fun s6 (es6 : s6 = pm_up s3 40 1 4 1) => ?_)
  have S7 := pm_st_up S4 es6 (by decide)
  have D8 := pm_dn_up [(1, 4, 1), (0, 1, 5), (0, 0, 0), (0, 2, 0), (0, 3, 0)] D5 es6 (by decide)
  refine px_aload_n hG dX11_init_17 rfl ?_
  refine px_bipush hG dX11_init_18 (by decide) ?_
  refine px_newI hG dX11_init_20 (c := 42) (N := 11) rfl (by decide) (Nat.le_of_ble_eq_true rfl) (fun r i => (S7 42 r i (by decide)).trans (hZ 42 r i (by decide))) (Nat.le_of_ble_eq_true rfl) ?_
  show G 22 [some (.inr (.inr (40, 0))), none, none] [.inr (.inr (42, 0)), .inr (.inr (40, 0))] 98 s6
  refine px_putR hG dX11_init_22 (k := 5) rfl ⟨rfl, fl_X11_17, rfl, by decide +kernel, rfl⟩ (by decide) (fun s9 (es9 : s9 = pm_up s6 40 1 5 1) => ?_)
  have S10 := pm_st_up S7 es9 (by decide)
  have D11 := pm_dn_up [(1, 5, 1), (1, 4, 1), (0, 1, 5), (0, 0, 0), (0, 2, 0), (0, 3, 0)] D8 es9 (by decide)
  refine px_aload_n hG dX11_init_25 rfl ?_
  refine px_bipush hG dX11_init_26 (by decide) ?_
  refine px_newI hG dX11_init_28 (c := 43) (N := 11) rfl (by decide) (Nat.le_of_ble_eq_true rfl) (fun r i => (S10 43 r i (by decide)).trans (hZ 43 r i (by decide))) (Nat.le_of_ble_eq_true rfl) ?_
  show G 30 [some (.inr (.inr (40, 0))), none, none] [.inr (.inr (43, 0)), .inr (.inr (40, 0))] 99 s9
  refine px_putR hG dX11_init_30 (k := 6) rfl ⟨rfl, fl_X11_20, rfl, by decide +kernel, rfl⟩ (by decide) (fun s12 (es12 : s12 = pm_up s9 40 1 6 1) => ?_)
  have S13 := pm_st_up S10 es12 (by decide)
  have D14 := pm_dn_up [(1, 6, 1), (1, 5, 1), (1, 4, 1), (0, 1, 5), (0, 0, 0), (0, 2, 0), (0, 3, 0)] D11 es12 (by decide)
  refine px_aload_n hG dX11_init_33 rfl ?_
  refine px_bipush hG dX11_init_34 (by decide) ?_
  refine px_newI hG dX11_init_36 (c := 44) (N := 11) rfl (by decide) (Nat.le_of_ble_eq_true rfl) (fun r i => (S13 44 r i (by decide)).trans (hZ 44 r i (by decide))) (Nat.le_of_ble_eq_true rfl) ?_
  show G 38 [some (.inr (.inr (40, 0))), none, none] [.inr (.inr (44, 0)), .inr (.inr (40, 0))] 100 s12
  refine px_putR hG dX11_init_38 (k := 7) rfl ⟨rfl, fl_X11_23, rfl, by decide +kernel, rfl⟩ (by decide) (fun s15 (es15 : s15 = pm_up s12 40 1 7 1) => ?_)
  have S16 := pm_st_up S13 es15 (by decide)
  have D17 := pm_dn_up [(1, 7, 1), (1, 6, 1), (1, 5, 1), (1, 4, 1), (0, 1, 5), (0, 0, 0), (0, 2, 0), (0, 3, 0)] D14 es15 (by decide)
  refine px_aload_n hG dX11_init_41 rfl ?_
  refine px_bipush hG dX11_init_42 (by decide) ?_
  refine px_newI hG dX11_init_44 (c := 45) (N := 11) rfl (by decide) (Nat.le_of_ble_eq_true rfl) (fun r i => (S16 45 r i (by decide)).trans (hZ 45 r i (by decide))) (Nat.le_of_ble_eq_true rfl) ?_
  show G 46 [some (.inr (.inr (40, 0))), none, none] [.inr (.inr (45, 0)), .inr (.inr (40, 0))] 101 s15
  refine px_putR hG dX11_init_46 (k := 8) rfl ⟨rfl, fl_X11_26, rfl, by decide +kernel, rfl⟩ (by decide) (fun s18 (es18 : s18 = pm_up s15 40 1 8 1) => ?_)
  have S19 := pm_st_up S16 es18 (by decide)
  have D20 := pm_dn_up [(1, 8, 1), (1, 7, 1), (1, 6, 1), (1, 5, 1), (1, 4, 1), (0, 1, 5), (0, 0, 0), (0, 2, 0), (0, 3, 0)] D17 es18 (by decide)
  refine px_aload_n hG dX11_init_49 rfl ?_
  refine px_sipush hG dX11_init_50 (by decide) ?_
  refine px_newJ hG dX11_init_53 (c := 46) (N := 132) rfl (by decide) (Nat.le_of_ble_eq_true rfl) (fun r i => (S19 46 r i (by decide)).trans (hZ 46 r i (by decide))) (Nat.le_of_ble_eq_true rfl) ?_
  show G 55 [some (.inr (.inr (40, 0))), none, none] [.inr (.inr (46, 0)), .inr (.inr (40, 0))] 102 s18
  refine px_putR hG dX11_init_55 (k := 9) rfl ⟨rfl, fl_X11_29, rfl, by decide +kernel, rfl⟩ (by decide) (fun s21 (es21 : s21 = pm_up s18 40 1 9 1) => ?_)
  have S22 := pm_st_up S19 es21 (by decide)
  have D23 := pm_dn_up [(1, 9, 1), (1, 8, 1), (1, 7, 1), (1, 6, 1), (1, 5, 1), (1, 4, 1), (0, 1, 5), (0, 0, 0), (0, 2, 0), (0, 3, 0)] D20 es21 (by decide)
  refine px_aload_n hG dX11_init_58 rfl ?_
  refine px_bipush hG dX11_init_59 (by decide) ?_
  refine px_newI hG dX11_init_61 (c := 47) (N := 12) rfl (by decide) (Nat.le_of_ble_eq_true rfl) (fun r i => (S22 47 r i (by decide)).trans (hZ 47 r i (by decide))) (Nat.le_of_ble_eq_true rfl) ?_
  show G 63 [some (.inr (.inr (40, 0))), none, none] [.inr (.inr (47, 0)), .inr (.inr (40, 0))] 103 s21
  refine px_putR hG dX11_init_63 (k := 10) rfl ⟨rfl, fl_X11_33, rfl, by decide +kernel, rfl⟩ (by decide) (fun s24 (es24 : s24 = pm_up s21 40 1 10 1) => ?_)
  have S25 := pm_st_up S22 es24 (by decide)
  have D26 := pm_dn_up [(1, 10, 1), (1, 9, 1), (1, 8, 1), (1, 7, 1), (1, 6, 1), (1, 5, 1), (1, 4, 1), (0, 1, 5), (0, 0, 0), (0, 2, 0), (0, 3, 0)] D23 es24 (by decide)
  refine px_aload_n hG dX11_init_66 rfl ?_
  refine px_sipush hG dX11_init_67 (by decide) ?_
  refine px_newJ hG dX11_init_70 (c := 48) (N := 144) rfl (by decide) (Nat.le_of_ble_eq_true rfl) (fun r i => (S25 48 r i (by decide)).trans (hZ 48 r i (by decide))) (Nat.le_of_ble_eq_true rfl) ?_
  show G 72 [some (.inr (.inr (40, 0))), none, none] [.inr (.inr (48, 0)), .inr (.inr (40, 0))] 104 s24
  refine px_putR hG dX11_init_72 (k := 11) rfl ⟨rfl, fl_X11_36, rfl, by decide +kernel, rfl⟩ (by decide) (fun s27 (es27 : s27 = pm_up s24 40 1 11 1) => ?_)
  have S28 := pm_st_up S25 es27 (by decide)
  have D29 := pm_dn_up [(1, 11, 1), (1, 10, 1), (1, 9, 1), (1, 8, 1), (1, 7, 1), (1, 6, 1), (1, 5, 1), (1, 4, 1), (0, 1, 5), (0, 0, 0), (0, 2, 0), (0, 3, 0)] D26 es27 (by decide)
  refine px_aload_n hG dX11_init_75 rfl ?_
  refine px_sipush hG dX11_init_76 (by decide) ?_
  refine px_newJ hG dX11_init_79 (c := 49) (N := 156) rfl (by decide) (Nat.le_of_ble_eq_true rfl) (fun r i => (S28 49 r i (by decide)).trans (hZ 49 r i (by decide))) (Nat.le_of_ble_eq_true rfl) ?_
  show G 81 [some (.inr (.inr (40, 0))), none, none] [.inr (.inr (49, 0)), .inr (.inr (40, 0))] 105 s27
  refine px_putR hG dX11_init_81 (k := 12) rfl ⟨rfl, fl_X11_39, rfl, by decide +kernel, rfl⟩ (by decide) (fun s30 (es30 : s30 = pm_up s27 40 1 12 1) => ?_)
  have S31 := pm_st_up S28 es30 (by decide)
  have D32 := pm_dn_up [(1, 12, 1), (1, 11, 1), (1, 10, 1), (1, 9, 1), (1, 8, 1), (1, 7, 1), (1, 6, 1), (1, 5, 1), (1, 4, 1), (0, 1, 5), (0, 0, 0), (0, 2, 0), (0, 3, 0)] D29 es30 (by decide)
  refine px_aload_n hG dX11_init_84 rfl ?_
  refine px_bipush hG dX11_init_85 (by decide) ?_
  refine px_newI hG dX11_init_87 (c := 50) (N := 11) rfl (by decide) (Nat.le_of_ble_eq_true rfl) (fun r i => (S31 50 r i (by decide)).trans (hZ 50 r i (by decide))) (Nat.le_of_ble_eq_true rfl) ?_
  show G 89 [some (.inr (.inr (40, 0))), none, none] [.inr (.inr (50, 0)), .inr (.inr (40, 0))] 106 s30
  refine px_putR hG dX11_init_89 (k := 13) rfl ⟨rfl, fl_X11_42, rfl, by decide +kernel, rfl⟩ (by decide) (fun s33 (es33 : s33 = pm_up s30 40 1 13 1) => ?_)
  have S34 := pm_st_up S31 es33 (by decide)
  have D35 := pm_dn_up [(1, 13, 1), (1, 12, 1), (1, 11, 1), (1, 10, 1), (1, 9, 1), (1, 8, 1), (1, 7, 1), (1, 6, 1), (1, 5, 1), (1, 4, 1), (0, 1, 5), (0, 0, 0), (0, 2, 0), (0, 3, 0)] D32 es33 (by decide)
  refine px_aload_n hG dX11_init_92 rfl ?_
  refine px_bipush hG dX11_init_93 (by decide) ?_
  refine px_newI hG dX11_init_95 (c := 51) (N := 11) rfl (by decide) (Nat.le_of_ble_eq_true rfl) (fun r i => (S34 51 r i (by decide)).trans (hZ 51 r i (by decide))) (Nat.le_of_ble_eq_true rfl) ?_
  show G 97 [some (.inr (.inr (40, 0))), none, none] [.inr (.inr (51, 0)), .inr (.inr (40, 0))] 107 s33
  refine px_putR hG dX11_init_97 (k := 14) rfl ⟨rfl, fl_X11_45, rfl, by decide +kernel, rfl⟩ (by decide) (fun s36 (es36 : s36 = pm_up s33 40 1 14 1) => ?_)
  have S37 := pm_st_up S34 es36 (by decide)
  have D38 := pm_dn_up [(1, 14, 1), (1, 13, 1), (1, 12, 1), (1, 11, 1), (1, 10, 1), (1, 9, 1), (1, 8, 1), (1, 7, 1), (1, 6, 1), (1, 5, 1), (1, 4, 1), (0, 1, 5), (0, 0, 0), (0, 2, 0), (0, 3, 0)] D35 es36 (by decide)
  refine px_aload_n hG dX11_init_100 rfl ?_
  refine px_bipush hG dX11_init_101 (by decide) ?_
  refine px_newI hG dX11_init_103 (c := 52) (N := 11) rfl (by decide) (Nat.le_of_ble_eq_true rfl) (fun r i => (S37 52 r i (by decide)).trans (hZ 52 r i (by decide))) (Nat.le_of_ble_eq_true rfl) ?_
  show G 105 [some (.inr (.inr (40, 0))), none, none] [.inr (.inr (52, 0)), .inr (.inr (40, 0))] 108 s36
  refine px_putR hG dX11_init_105 (k := 15) rfl ⟨rfl, fl_X11_48, rfl, by decide +kernel, rfl⟩ (by decide) (fun s39 (es39 : s39 = pm_up s36 40 1 15 1) => ?_)
  have S40 := pm_st_up S37 es39 (by decide)
  have D41 := pm_dn_up [(1, 15, 1), (1, 14, 1), (1, 13, 1), (1, 12, 1), (1, 11, 1), (1, 10, 1), (1, 9, 1), (1, 8, 1), (1, 7, 1), (1, 6, 1), (1, 5, 1), (1, 4, 1), (0, 1, 5), (0, 0, 0), (0, 2, 0), (0, 3, 0)] D38 es39 (by decide)
  refine px_aload_n hG dX11_init_108 rfl ?_
  refine px_bipush hG dX11_init_109 (by decide) ?_
  refine px_newZ hG dX11_init_111 (c := 53) (N := 11) rfl (by decide) (Nat.le_of_ble_eq_true rfl) (fun r i => (S40 53 r i (by decide)).trans (hZ 53 r i (by decide))) (Nat.le_of_ble_eq_true rfl) ?_
  show G 113 [some (.inr (.inr (40, 0))), none, none] [.inr (.inr (53, 0)), .inr (.inr (40, 0))] 109 s39
  refine px_putR hG dX11_init_113 (k := 16) rfl ⟨rfl, fl_X11_51, rfl, by decide +kernel, rfl⟩ (by decide) (fun s42 (es42 : s42 = pm_up s39 40 1 16 1) => ?_)
  have S43 := pm_st_up S40 es42 (by decide)
  have D44 := pm_dn_up [(1, 16, 1), (1, 15, 1), (1, 14, 1), (1, 13, 1), (1, 12, 1), (1, 11, 1), (1, 10, 1), (1, 9, 1), (1, 8, 1), (1, 7, 1), (1, 6, 1), (1, 5, 1), (1, 4, 1), (0, 1, 5), (0, 0, 0), (0, 2, 0), (0, 3, 0)] D41 es42 (by decide)
  refine px_aload_n hG dX11_init_116 rfl ?_
  refine px_bipush hG dX11_init_117 (by decide) ?_
  refine px_newI hG dX11_init_119 (c := 54) (N := 11) rfl (by decide) (Nat.le_of_ble_eq_true rfl) (fun r i => (S43 54 r i (by decide)).trans (hZ 54 r i (by decide))) (Nat.le_of_ble_eq_true rfl) ?_
  show G 121 [some (.inr (.inr (40, 0))), none, none] [.inr (.inr (54, 0)), .inr (.inr (40, 0))] 110 s42
  refine px_putR hG dX11_init_121 (k := 17) rfl ⟨rfl, fl_X11_55, rfl, by decide +kernel, rfl⟩ (by decide) (fun s45 (es45 : s45 = pm_up s42 40 1 17 1) => ?_)
  have S46 := pm_st_up S43 es45 (by decide)
  have D47 := pm_dn_up [(1, 17, 1), (1, 16, 1), (1, 15, 1), (1, 14, 1), (1, 13, 1), (1, 12, 1), (1, 11, 1), (1, 10, 1), (1, 9, 1), (1, 8, 1), (1, 7, 1), (1, 6, 1), (1, 5, 1), (1, 4, 1), (0, 1, 5), (0, 0, 0), (0, 2, 0), (0, 3, 0)] D44 es45 (by decide)
  refine px_aload_n hG dX11_init_124 rfl ?_
  refine px_bipush hG dX11_init_125 (by decide) ?_
  refine px_newI hG dX11_init_127 (c := 55) (N := 11) rfl (by decide) (Nat.le_of_ble_eq_true rfl) (fun r i => (S46 55 r i (by decide)).trans (hZ 55 r i (by decide))) (Nat.le_of_ble_eq_true rfl) ?_
  show G 129 [some (.inr (.inr (40, 0))), none, none] [.inr (.inr (55, 0)), .inr (.inr (40, 0))] 111 s45
  refine px_putR hG dX11_init_129 (k := 18) rfl ⟨rfl, fl_X11_58, rfl, by decide +kernel, rfl⟩ (by decide) (fun s48 (es48 : s48 = pm_up s45 40 1 18 1) => ?_)
  have S49 := pm_st_up S46 es48 (by decide)
  have D50 := pm_dn_up [(1, 18, 1), (1, 17, 1), (1, 16, 1), (1, 15, 1), (1, 14, 1), (1, 13, 1), (1, 12, 1), (1, 11, 1), (1, 10, 1), (1, 9, 1), (1, 8, 1), (1, 7, 1), (1, 6, 1), (1, 5, 1), (1, 4, 1), (0, 1, 5), (0, 0, 0), (0, 2, 0), (0, 3, 0)] D47 es48 (by decide)
  refine px_aload_n hG dX11_init_132 rfl ?_
  refine px_bipush hG dX11_init_133 (by decide) ?_
  refine px_newI hG dX11_init_135 (c := 56) (N := 11) rfl (by decide) (Nat.le_of_ble_eq_true rfl) (fun r i => (S49 56 r i (by decide)).trans (hZ 56 r i (by decide))) (Nat.le_of_ble_eq_true rfl) ?_
  show G 137 [some (.inr (.inr (40, 0))), none, none] [.inr (.inr (56, 0)), .inr (.inr (40, 0))] 112 s48
  refine px_putR hG dX11_init_137 (k := 19) rfl ⟨rfl, fl_X11_61, rfl, by decide +kernel, rfl⟩ (by decide) (fun s51 (es51 : s51 = pm_up s48 40 1 19 1) => ?_)
  have S52 := pm_st_up S49 es51 (by decide)
  have D53 := pm_dn_up [(1, 19, 1), (1, 18, 1), (1, 17, 1), (1, 16, 1), (1, 15, 1), (1, 14, 1), (1, 13, 1), (1, 12, 1), (1, 11, 1), (1, 10, 1), (1, 9, 1), (1, 8, 1), (1, 7, 1), (1, 6, 1), (1, 5, 1), (1, 4, 1), (0, 1, 5), (0, 0, 0), (0, 2, 0), (0, 3, 0)] D50 es51 (by decide)
  refine px_aload_n hG dX11_init_140 rfl ?_
  refine px_bipush hG dX11_init_141 (by decide) ?_
  refine px_newI hG dX11_init_143 (c := 57) (N := 11) rfl (by decide) (Nat.le_of_ble_eq_true rfl) (fun r i => (S52 57 r i (by decide)).trans (hZ 57 r i (by decide))) (Nat.le_of_ble_eq_true rfl) ?_
  show G 145 [some (.inr (.inr (40, 0))), none, none] [.inr (.inr (57, 0)), .inr (.inr (40, 0))] 113 s51
  refine px_putR hG dX11_init_145 (k := 20) rfl ⟨rfl, fl_X11_64, rfl, by decide +kernel, rfl⟩ (by decide) (fun s54 (es54 : s54 = pm_up s51 40 1 20 1) => ?_)
  have S55 := pm_st_up S52 es54 (by decide)
  have D56 := pm_dn_up [(1, 20, 1), (1, 19, 1), (1, 18, 1), (1, 17, 1), (1, 16, 1), (1, 15, 1), (1, 14, 1), (1, 13, 1), (1, 12, 1), (1, 11, 1), (1, 10, 1), (1, 9, 1), (1, 8, 1), (1, 7, 1), (1, 6, 1), (1, 5, 1), (1, 4, 1), (0, 1, 5), (0, 0, 0), (0, 2, 0), (0, 3, 0)] D53 es54 (by decide)
  refine px_aload_n hG dX11_init_148 rfl ?_
  refine px_bipush hG dX11_init_149 (by decide) ?_
  refine px_newI hG dX11_init_151 (c := 58) (N := 11) rfl (by decide) (Nat.le_of_ble_eq_true rfl) (fun r i => (S55 58 r i (by decide)).trans (hZ 58 r i (by decide))) (Nat.le_of_ble_eq_true rfl) ?_
  show G 153 [some (.inr (.inr (40, 0))), none, none] [.inr (.inr (58, 0)), .inr (.inr (40, 0))] 114 s54
  refine px_putR hG dX11_init_153 (k := 21) rfl ⟨rfl, fl_X11_67, rfl, by decide +kernel, rfl⟩ (by decide) (fun s57 (es57 : s57 = pm_up s54 40 1 21 1) => ?_)
  have S58 := pm_st_up S55 es57 (by decide)
  have D59 := pm_dn_up [(1, 21, 1), (1, 20, 1), (1, 19, 1), (1, 18, 1), (1, 17, 1), (1, 16, 1), (1, 15, 1), (1, 14, 1), (1, 13, 1), (1, 12, 1), (1, 11, 1), (1, 10, 1), (1, 9, 1), (1, 8, 1), (1, 7, 1), (1, 6, 1), (1, 5, 1), (1, 4, 1), (0, 1, 5), (0, 0, 0), (0, 2, 0), (0, 3, 0)] D56 es57 (by decide)
  refine px_aload_n hG dX11_init_156 rfl ?_
  refine px_bipush hG dX11_init_157 (by decide) ?_
  refine px_newI hG dX11_init_159 (c := 59) (N := 11) rfl (by decide) (Nat.le_of_ble_eq_true rfl) (fun r i => (S58 59 r i (by decide)).trans (hZ 59 r i (by decide))) (Nat.le_of_ble_eq_true rfl) ?_
  show G 161 [some (.inr (.inr (40, 0))), none, none] [.inr (.inr (59, 0)), .inr (.inr (40, 0))] 115 s57
  refine px_putR hG dX11_init_161 (k := 22) rfl ⟨rfl, fl_X11_70, rfl, by decide +kernel, rfl⟩ (by decide) (fun s60 (es60 : s60 = pm_up s57 40 1 22 1) => ?_)
  have S61 := pm_st_up S58 es60 (by decide)
  have D62 := pm_dn_up [(1, 22, 1), (1, 21, 1), (1, 20, 1), (1, 19, 1), (1, 18, 1), (1, 17, 1), (1, 16, 1), (1, 15, 1), (1, 14, 1), (1, 13, 1), (1, 12, 1), (1, 11, 1), (1, 10, 1), (1, 9, 1), (1, 8, 1), (1, 7, 1), (1, 6, 1), (1, 5, 1), (1, 4, 1), (0, 1, 5), (0, 0, 0), (0, 2, 0), (0, 3, 0)] D59 es60 (by decide)
  refine px_aload_n hG dX11_init_164 rfl ?_
  refine px_bipush hG dX11_init_165 (by decide) ?_
  refine px_newI hG dX11_init_167 (c := 60) (N := 11) rfl (by decide) (Nat.le_of_ble_eq_true rfl) (fun r i => (S61 60 r i (by decide)).trans (hZ 60 r i (by decide))) (Nat.le_of_ble_eq_true rfl) ?_
  show G 169 [some (.inr (.inr (40, 0))), none, none] [.inr (.inr (60, 0)), .inr (.inr (40, 0))] 116 s60
  refine px_putR hG dX11_init_169 (k := 23) rfl ⟨rfl, fl_X11_73, rfl, by decide +kernel, rfl⟩ (by decide) (fun s63 (es63 : s63 = pm_up s60 40 1 23 1) => ?_)
  have S64 := pm_st_up S61 es63 (by decide)
  have D65 := pm_dn_up [(1, 23, 1), (1, 22, 1), (1, 21, 1), (1, 20, 1), (1, 19, 1), (1, 18, 1), (1, 17, 1), (1, 16, 1), (1, 15, 1), (1, 14, 1), (1, 13, 1), (1, 12, 1), (1, 11, 1), (1, 10, 1), (1, 9, 1), (1, 8, 1), (1, 7, 1), (1, 6, 1), (1, 5, 1), (1, 4, 1), (0, 1, 5), (0, 0, 0), (0, 2, 0), (0, 3, 0)] D62 es63 (by decide)
  refine px_aload_n hG dX11_init_172 rfl ?_
  refine px_sipush hG dX11_init_173 (by decide) ?_
  refine px_newJ hG dX11_init_176 (c := 61) (N := 8064) rfl (by decide) (Nat.le_of_ble_eq_true rfl) (fun r i => (S64 61 r i (by decide)).trans (hZ 61 r i (by decide))) (Nat.le_of_ble_eq_true rfl) ?_
  show G 178 [some (.inr (.inr (40, 0))), none, none] [.inr (.inr (61, 0)), .inr (.inr (40, 0))] 117 s63
  refine px_putR hG dX11_init_178 (k := 24) rfl ⟨rfl, fl_X11_76, rfl, by decide +kernel, rfl⟩ (by decide) (fun s66 (es66 : s66 = pm_up s63 40 1 24 1) => ?_)
  have S67 := pm_st_up S64 es66 (by decide)
  have D68 := pm_dn_up [(1, 24, 1), (1, 23, 1), (1, 22, 1), (1, 21, 1), (1, 20, 1), (1, 19, 1), (1, 18, 1), (1, 17, 1), (1, 16, 1), (1, 15, 1), (1, 14, 1), (1, 13, 1), (1, 12, 1), (1, 11, 1), (1, 10, 1), (1, 9, 1), (1, 8, 1), (1, 7, 1), (1, 6, 1), (1, 5, 1), (1, 4, 1), (0, 1, 5), (0, 0, 0), (0, 2, 0), (0, 3, 0)] D65 es66 (by decide)
  refine px_aload_n hG dX11_init_181 rfl ?_
  refine px_bipush hG dX11_init_182 (by decide) ?_
  refine px_newJ hG dX11_init_184 (c := 62) (N := 12) rfl (by decide) (Nat.le_of_ble_eq_true rfl) (fun r i => (S67 62 r i (by decide)).trans (hZ 62 r i (by decide))) (Nat.le_of_ble_eq_true rfl) ?_
  show G 186 [some (.inr (.inr (40, 0))), none, none] [.inr (.inr (62, 0)), .inr (.inr (40, 0))] 118 s66
  refine px_putR hG dX11_init_186 (k := 25) rfl ⟨rfl, fl_X11_79, rfl, by decide +kernel, rfl⟩ (by decide) (fun s69 (es69 : s69 = pm_up s66 40 1 25 1) => ?_)
  have S70 := pm_st_up S67 es69 (by decide)
  have D71 := pm_dn_up [(1, 25, 1), (1, 24, 1), (1, 23, 1), (1, 22, 1), (1, 21, 1), (1, 20, 1), (1, 19, 1), (1, 18, 1), (1, 17, 1), (1, 16, 1), (1, 15, 1), (1, 14, 1), (1, 13, 1), (1, 12, 1), (1, 11, 1), (1, 10, 1), (1, 9, 1), (1, 8, 1), (1, 7, 1), (1, 6, 1), (1, 5, 1), (1, 4, 1), (0, 1, 5), (0, 0, 0), (0, 2, 0), (0, 3, 0)] D68 es69 (by decide)
  refine px_aload_n hG dX11_init_189 rfl ?_
  refine px_sipush hG dX11_init_190 (by decide) ?_
  refine px_newJ hG dX11_init_193 (c := 63) (N := 144) rfl (by decide) (Nat.le_of_ble_eq_true rfl) (fun r i => (S70 63 r i (by decide)).trans (hZ 63 r i (by decide))) (Nat.le_of_ble_eq_true rfl) ?_
  show G 195 [some (.inr (.inr (40, 0))), none, none] [.inr (.inr (63, 0)), .inr (.inr (40, 0))] 119 s69
  refine px_putR hG dX11_init_195 (k := 26) rfl ⟨rfl, fl_X11_82, rfl, by decide +kernel, rfl⟩ (by decide) (fun s72 (es72 : s72 = pm_up s69 40 1 26 1) => ?_)
  have S73 := pm_st_up S70 es72 (by decide)
  have D74 := pm_dn_up [(1, 26, 1), (1, 25, 1), (1, 24, 1), (1, 23, 1), (1, 22, 1), (1, 21, 1), (1, 20, 1), (1, 19, 1), (1, 18, 1), (1, 17, 1), (1, 16, 1), (1, 15, 1), (1, 14, 1), (1, 13, 1), (1, 12, 1), (1, 11, 1), (1, 10, 1), (1, 9, 1), (1, 8, 1), (1, 7, 1), (1, 6, 1), (1, 5, 1), (1, 4, 1), (0, 1, 5), (0, 0, 0), (0, 2, 0), (0, 3, 0)] D71 es72 (by decide)
  refine px_aload_n hG dX11_init_198 rfl ?_
  refine px_iconst hG dX11_init_199 ?_
  refine px_newI hG dX11_init_200 (c := 64) (N := 4) rfl (by decide) (Nat.le_of_ble_eq_true rfl) (fun r i => (S73 64 r i (by decide)).trans (hZ 64 r i (by decide))) (Nat.le_of_ble_eq_true rfl) ?_
  show G 202 [some (.inr (.inr (40, 0))), none, none] [.inr (.inr (64, 0)), .inr (.inr (40, 0))] 120 s72
  refine px_putR hG dX11_init_202 (k := 27) rfl ⟨rfl, fl_X11_85, rfl, by decide +kernel, rfl⟩ (by decide) (fun s75 (es75 : s75 = pm_up s72 40 1 27 1) => ?_)
  have S76 := pm_st_up S73 es75 (by decide)
  have D77 := pm_dn_up [(1, 27, 1), (1, 26, 1), (1, 25, 1), (1, 24, 1), (1, 23, 1), (1, 22, 1), (1, 21, 1), (1, 20, 1), (1, 19, 1), (1, 18, 1), (1, 17, 1), (1, 16, 1), (1, 15, 1), (1, 14, 1), (1, 13, 1), (1, 12, 1), (1, 11, 1), (1, 10, 1), (1, 9, 1), (1, 8, 1), (1, 7, 1), (1, 6, 1), (1, 5, 1), (1, 4, 1), (0, 1, 5), (0, 0, 0), (0, 2, 0), (0, 3, 0)] D74 es75 (by decide)
  refine px_aload_n hG dX11_init_205 rfl ?_
  refine px_iconst hG dX11_init_206 ?_
  refine px_newI hG dX11_init_207 (c := 65) (N := 4) rfl (by decide) (Nat.le_of_ble_eq_true rfl) (fun r i => (S76 65 r i (by decide)).trans (hZ 65 r i (by decide))) (Nat.le_of_ble_eq_true rfl) ?_
  show G 209 [some (.inr (.inr (40, 0))), none, none] [.inr (.inr (65, 0)), .inr (.inr (40, 0))] 121 s75
  refine px_putR hG dX11_init_209 (k := 28) rfl ⟨rfl, fl_X11_88, rfl, by decide +kernel, rfl⟩ (by decide) (fun s78 (es78 : s78 = pm_up s75 40 1 28 1) => ?_)
  have S79 := pm_st_up S76 es78 (by decide)
  have D80 := pm_dn_up [(1, 28, 1), (1, 27, 1), (1, 26, 1), (1, 25, 1), (1, 24, 1), (1, 23, 1), (1, 22, 1), (1, 21, 1), (1, 20, 1), (1, 19, 1), (1, 18, 1), (1, 17, 1), (1, 16, 1), (1, 15, 1), (1, 14, 1), (1, 13, 1), (1, 12, 1), (1, 11, 1), (1, 10, 1), (1, 9, 1), (1, 8, 1), (1, 7, 1), (1, 6, 1), (1, 5, 1), (1, 4, 1), (0, 1, 5), (0, 0, 0), (0, 2, 0), (0, 3, 0)] D77 es78 (by decide)
  refine px_aload_n hG dX11_init_212 rfl ?_
  refine px_bipush hG dX11_init_213 (by decide) ?_
  refine px_newI hG dX11_init_215 (c := 66) (N := 80) rfl (by decide) (Nat.le_of_ble_eq_true rfl) (fun r i => (S79 66 r i (by decide)).trans (hZ 66 r i (by decide))) (Nat.le_of_ble_eq_true rfl) ?_
  show G 217 [some (.inr (.inr (40, 0))), none, none] [.inr (.inr (66, 0)), .inr (.inr (40, 0))] 122 s78
  refine px_putR hG dX11_init_217 (k := 29) rfl ⟨rfl, fl_X11_91, rfl, by decide +kernel, rfl⟩ (by decide) (fun s81 (es81 : s81 = pm_up s78 40 1 29 1) => ?_)
  have S82 := pm_st_up S79 es81 (by decide)
  have D83 := pm_dn_up [(1, 29, 1), (1, 28, 1), (1, 27, 1), (1, 26, 1), (1, 25, 1), (1, 24, 1), (1, 23, 1), (1, 22, 1), (1, 21, 1), (1, 20, 1), (1, 19, 1), (1, 18, 1), (1, 17, 1), (1, 16, 1), (1, 15, 1), (1, 14, 1), (1, 13, 1), (1, 12, 1), (1, 11, 1), (1, 10, 1), (1, 9, 1), (1, 8, 1), (1, 7, 1), (1, 6, 1), (1, 5, 1), (1, 4, 1), (0, 1, 5), (0, 0, 0), (0, 2, 0), (0, 3, 0)] D80 es81 (by decide)
  have OK : pm_okR 95 122 s81 := fun c r i h1 h2 => by
    have q := pm_cs (P := fun c => c ∈ [40, 41, 42, 43, 44, 45, 46, 47, 48, 49, 50, 51, 52, 53, 54, 55, 56, 57, 58, 59, 60, 61, 62, 63, 64, 65, 66]) (Nat.le_of_ble_eq_true rfl) (by decide +kernel) c h1 h2
    simp only [List.mem_cons, List.not_mem_nil, or_false] at q
    rcases q with rfl | rfl | rfl | rfl | rfl | rfl | rfl | rfl | rfl | rfl | rfl | rfl | rfl | rfl | rfl | rfl | rfl | rfl | rfl | rfl | rfl | rfl | rfl | rfl | rfl | rfl | rfl
    · exact ⟨fun a b => by rw [a, b, show s81 40 0 0 = 0 from D83 (0, 0, 0) (by decide)]; decide, fun a b => by rw [a, b, show s81 40 0 1 = 5 from D83 (0, 1, 5) (by decide)]; decide, fun a b => by rw [a, b, show s81 40 0 2 = 0 from D83 (0, 2, 0) (by decide)]; decide, fun a b => by rw [a, b, show s81 40 0 3 = 0 from D83 (0, 3, 0) (by decide)]; decide, fun a b => by rw [a, b]; exact D83 (1, 4, 1) (by decide), fun a b => by rw [a, b]; exact D83 (1, 5, 1) (by decide), fun a b => by rw [a, b]; exact D83 (1, 6, 1) (by decide), fun a b => by rw [a, b]; exact D83 (1, 7, 1) (by decide), fun a b => by rw [a, b]; exact D83 (1, 8, 1) (by decide), fun a b => by rw [a, b]; exact D83 (1, 9, 1) (by decide), fun a b => by rw [a, b]; exact D83 (1, 10, 1) (by decide), fun a b => by rw [a, b]; exact D83 (1, 11, 1) (by decide), fun a b => by rw [a, b]; exact D83 (1, 12, 1) (by decide), fun a b => by rw [a, b]; exact D83 (1, 13, 1) (by decide), fun a b => by rw [a, b]; exact D83 (1, 14, 1) (by decide), fun a b => by rw [a, b]; exact D83 (1, 15, 1) (by decide), fun a b => by rw [a, b]; exact D83 (1, 16, 1) (by decide), fun a b => by rw [a, b]; exact D83 (1, 17, 1) (by decide), fun a b => by rw [a, b]; exact D83 (1, 18, 1) (by decide), fun a b => by rw [a, b]; exact D83 (1, 19, 1) (by decide), fun a b => by rw [a, b]; exact D83 (1, 20, 1) (by decide), fun a b => by rw [a, b]; exact D83 (1, 21, 1) (by decide), fun a b => by rw [a, b]; exact D83 (1, 22, 1) (by decide), fun a b => by rw [a, b]; exact D83 (1, 23, 1) (by decide), fun a b => by rw [a, b]; exact D83 (1, 24, 1) (by decide), fun a b => by rw [a, b]; exact D83 (1, 25, 1) (by decide), fun a b => by rw [a, b]; exact D83 (1, 26, 1) (by decide), fun a b => by rw [a, b]; exact D83 (1, 27, 1) (by decide), fun a b => by rw [a, b]; exact D83 (1, 28, 1) (by decide), fun a b => by rw [a, b]; exact D83 (1, 29, 1) (by decide)⟩
    · rw [S82 41 r i (by decide), hZ 41 r i (by decide)]
      exact pm_z_41 r i
    · rw [S82 42 r i (by decide), hZ 42 r i (by decide)]
      exact pm_z_42 r i
    · rw [S82 43 r i (by decide), hZ 43 r i (by decide)]
      exact pm_z_43 r i
    · rw [S82 44 r i (by decide), hZ 44 r i (by decide)]
      exact pm_z_44 r i
    · rw [S82 45 r i (by decide), hZ 45 r i (by decide)]
      exact pm_z_45 r i
    · rw [S82 46 r i (by decide), hZ 46 r i (by decide)]
      exact pm_z_46 r i
    · rw [S82 47 r i (by decide), hZ 47 r i (by decide)]
      exact pm_z_47 r i
    · rw [S82 48 r i (by decide), hZ 48 r i (by decide)]
      exact pm_z_48 r i
    · rw [S82 49 r i (by decide), hZ 49 r i (by decide)]
      exact pm_z_49 r i
    · rw [S82 50 r i (by decide), hZ 50 r i (by decide)]
      exact pm_z_50 r i
    · rw [S82 51 r i (by decide), hZ 51 r i (by decide)]
      exact pm_z_51 r i
    · rw [S82 52 r i (by decide), hZ 52 r i (by decide)]
      exact pm_z_52 r i
    · rw [S82 53 r i (by decide), hZ 53 r i (by decide)]
      exact pm_z_53 r i
    · rw [S82 54 r i (by decide), hZ 54 r i (by decide)]
      exact pm_z_54 r i
    · rw [S82 55 r i (by decide), hZ 55 r i (by decide)]
      exact pm_z_55 r i
    · rw [S82 56 r i (by decide), hZ 56 r i (by decide)]
      exact pm_z_56 r i
    · rw [S82 57 r i (by decide), hZ 57 r i (by decide)]
      exact pm_z_57 r i
    · rw [S82 58 r i (by decide), hZ 58 r i (by decide)]
      exact pm_z_58 r i
    · rw [S82 59 r i (by decide), hZ 59 r i (by decide)]
      exact pm_z_59 r i
    · rw [S82 60 r i (by decide), hZ 60 r i (by decide)]
      exact pm_z_60 r i
    · rw [S82 61 r i (by decide), hZ 61 r i (by decide)]
      exact pm_z_61 r i
    · rw [S82 62 r i (by decide), hZ 62 r i (by decide)]
      exact pm_z_62 r i
    · rw [S82 63 r i (by decide), hZ 63 r i (by decide)]
      exact pm_z_63 r i
    · rw [S82 64 r i (by decide), hZ 64 r i (by decide)]
      exact pm_z_64 r i
    · rw [S82 65 r i (by decide), hZ 65 r i (by decide)]
      exact pm_z_65 r i
    · rw [S82 66 r i (by decide), hZ 66 r i (by decide)]
      exact pm_z_66 r i
  have RR : pm_Rng s81 := pm_Rng_R (pm_okR_app hP (pm_lo_st S82 (by decide)) OK)
  refine pm_tail_X11 hG RR (fun i => (S82 46 0 i (by decide)).trans (hZ 46 0 i (by decide))) (fun τ R F q => ?_)
  intro _
  refine ⟨rfl, fun c r i hc => ?_, fun c r i hc => ?_, fun c r i h1 h2 => R c r i, R, ⟨(F 40 0 0 rfl).trans (D83 (0, 0, 0) (by decide)), (F 40 0 1 rfl).trans (D83 (0, 1, 5) (by decide)), (F 40 0 3 rfl).trans (D83 (0, 3, 0) (by decide))⟩, q.1, q.2, fun i => (F 65 0 i rfl).trans ((S82 65 0 i (by decide)).trans (hZ 65 0 i (by decide)))⟩
  · have n1 : c ≠ 46 := fun z => by rw [z] at hc; exact absurd hc (by decide)
    have n2 : c ≠ 64 := fun z => by rw [z] at hc; exact absurd hc (by decide)
    have n3 : c ≠ 40 := fun z => by rw [z] at hc; exact absurd hc (by decide)
    refine (F c r i ?_).trans (S82 c r i ?_)
    · simp [pm_inM, n1.symm, n2.symm]
    · simp [n3]
  · have n1 : c ≠ 46 := fun z => by rw [z] at hc; exact absurd hc (by decide)
    have n2 : c ≠ 64 := fun z => by rw [z] at hc; exact absurd hc (by decide)
    have n3 : c ≠ 40 := fun z => by rw [z] at hc; exact absurd hc (by decide)
    refine (F c r i ?_).trans ((S82 c r i ?_).trans (hZ c r i (by omega)))
    · simp [pm_inM, n1.symm, n2.symm]
    · simp [n3])
