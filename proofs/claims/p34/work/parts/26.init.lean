/-! ===== constructors ===== -/
def pm_ZA (p : Nat) (σ : pm_H) : Prop := ∀ (c : Nat) (r i : Int), p ≤ pm_pos c → σ c r i = 0
def pm_okR (a b : Nat) (τ : pm_H) : Prop := ∀ (c : Nat) (r i : Int), a ≤ pm_pos c → pm_pos c < b → pm_ok c r i (τ c r i)
def pm_lo (p : Nat) (σ τ : pm_H) : Prop := ∀ (c : Nat) (r i : Int), pm_pos c < p → τ c r i = σ c r i
def pm_st (S : List Nat) (σ τ : pm_H) : Prop := ∀ (c : Nat) (r i : Int), c ∉ S → τ c r i = σ c r i
def pm_dn (o : Nat) (L : List (Int × Int × Int)) (τ : pm_H) : Prop := ∀ q ∈ L, τ o q.1 q.2.1 = q.2.2
theorem pm_st_rf (S : List Nat) (σ : pm_H) : pm_st S σ σ := fun _ _ _ _ => rfl
theorem pm_st_mono {S S' : List Nat} {σ τ : pm_H} (h : pm_st S σ τ) (hS : ∀ c ∈ S, c ∈ S') : pm_st S' σ τ := fun c r i hc => h c r i (fun z => hc (hS c z))
theorem pm_st_up {S : List Nat} {σ τ τ' : pm_H} {c : Nat} {r i x : Int} (h : pm_st S σ τ) (e : τ' = pm_up τ c r i x) (hc : c ∈ S) : pm_st S σ τ' := fun c' r' i' h' => (pm_nec e (fun z => h' (by rw [z]; exact hc))).trans (h c' r' i' h')
theorem pm_dn_up {o : Nat} {L : List (Int × Int × Int)} {τ τ' : pm_H} {r i x : Int} (L' : List (Int × Int × Int)) (h : pm_dn o L τ) (e : τ' = pm_up τ o r i x) (hL : ∀ q ∈ L', q = (r, i, x) ∨ (q ∈ L ∧ ¬ (q.1 = r ∧ q.2.1 = i))) : pm_dn o L' τ' := fun q hq => by
  rcases hL q hq with rfl | ⟨h1, h2⟩
  · exact pm_at e
  · rw [e, pm_up_ne (fun z => h2 ⟨z.2.1, z.2.2⟩)]
    exact h q h1
theorem pm_dn_c {o : Nat} {L : List (Int × Int × Int)} {τ τ' : pm_H} (h : pm_dn o L τ) (e : ∀ r i : Int, τ' o r i = τ o r i) : pm_dn o L τ' := fun q hq => (e _ _).trans (h q hq)
theorem pm_dn_z {o : Nat} {L : List (Int × Int × Int)} {τ : pm_H} {p : Nat} (Z : pm_ZA p τ) (ho : p ≤ pm_pos o) (h : ∀ q ∈ L, q.2.2 = 0) : pm_dn o L τ := fun q hq => by rw [h q hq]; exact Z o _ _ ho
theorem pm_lo_st {S : List Nat} {σ τ : pm_H} {p : Nat} (h : pm_st S σ τ) (hS : ∀ c ∈ S, p ≤ pm_pos c) : pm_lo p σ τ := fun c r i hc => h c r i (fun z => by have := hS c z; omega)
theorem pm_ZA_st {S : List Nat} {σ τ : pm_H} {p p' : Nat} (h : pm_st S σ τ) (Z : pm_ZA p σ) (hS : ∀ c ∈ S, pm_pos c < p') (hp : p ≤ p') : pm_ZA p' τ := fun c r i hc => (h c r i (fun z => by have := hS c z; omega)).trans (Z c r i (by omega))
theorem pm_ZA_up {τ τ' : pm_H} {p o : Nat} {r i x : Int} (Z : pm_ZA p τ) (e : τ' = pm_up τ o r i x) (h : pm_pos o < p) : pm_ZA p τ' := fun c r' i' hc => (pm_nec e (fun z => by rw [z] at hc; omega)).trans (Z c r' i' hc)
theorem pm_okR_app {a m b : Nat} {σ τ : pm_H} (h1 : pm_okR a m σ) (h2 : pm_lo m σ τ) (h3 : pm_okR m b τ) : pm_okR a b τ := fun c r i ha hb => by
  by_cases z : pm_pos c < m
  · rw [h2 c r i z]
    exact h1 c r i ha z
  · exact h3 c r i (by omega) hb
theorem pm_okR_up {a b o : Nat} {τ τ' : pm_H} {r i x : Int} (h : pm_okR a b τ) (e : τ' = pm_up τ o r i x) (ho : pm_pos o < a) : pm_okR a b τ' := fun c r' i' ha hb => by
  rw [pm_nec e (fun z => by rw [z] at ha; omega)]
  exact h c r' i' ha hb
theorem pm_pos_lt {c : Nat} (h : pm_pos c < 100000) : c < 67 := by
  rcases Nat.lt_or_ge c 67 with q | q
  · exact q
  · have e : pm_posL.length = 67 := by decide +kernel
    unfold pm_pos at h
    rw [List.getD_eq_getElem?_getD, List.getElem?_eq_none (by omega)] at h
    exact absurd h (by decide)
theorem pm_cs {a b : Nat} {P : Nat → Prop} (hb : b ≤ 122) (h : ∀ c, c < 67 → a ≤ pm_pos c → pm_pos c < b → P c) : ∀ c, a ≤ pm_pos c → pm_pos c < b → P c := fun c h1 h2 => h c (pm_pos_lt (by omega)) h1 h2
theorem pm_pos_1 {c : Nat} (h : c ≠ 0) : 1 ≤ pm_pos c := by
  rcases Nat.lt_or_ge c 67 with q | q
  · have : ∀ c, c < 67 → c ≠ 0 → 1 ≤ pm_pos c := by decide +kernel
    exact this c q h
  · rcases Nat.lt_or_ge (pm_pos c) 1 with y | y
    · have := pm_pos_lt (c := c) (by omega)
      omega
    · exact y
theorem pm_Rng_R {τ : pm_H} (h : pm_okR 0 122 τ) : pm_Rng τ := fun c r i => by
  rcases Nat.lt_or_ge (pm_pos c) 122 with q | q
  · exact h c r i (Nat.zero_le _) q
  · have h67 : 67 ≤ c := by
      rcases Nat.lt_or_ge c 67 with y | y
      · have : ∀ c, c < 67 → pm_pos c < 122 := by decide +kernel
        have := this c y
        omega
      · exact y
    obtain ⟨d, rfl⟩ : ∃ d, c = d + 67 := ⟨c - 67, by omega⟩
    exact trivial
/-! what the constructors of Choices and Spreads leave -/
def pm_CT (s : pm_H) : Prop := ∀ a b : Int, 0 ≤ b → b ≤ a → a ≤ 10 → s 2 a b = pm_C a.toNat b.toNat
theorem pm_CT_c {s t : pm_H} (C : pm_CT s) (e : ∀ r i : Int, t 2 r i = s 2 r i) : pm_CT t := fun a b h0 h1 h2 => (e a b).trans (C a b h0 h1 h2)
def pm_S0 (s : pm_H) : Prop := s 31 0 1 = 0 ∧ (∀ r i : Int, s 32 r i = if r = 0 ∧ i = 0 then 1 else 0) ∧ ∀ r i : Int, s 33 r i = if r = 0 ∧ i = 0 then 1 else 0
theorem pm_S0_c {s t : pm_H} (W : pm_S0 s) (e0 : t 31 0 1 = s 31 0 1) (e2 : ∀ r i : Int, t 32 r i = s 32 r i) (e3 : ∀ r i : Int, t 33 r i = s 33 r i) : pm_S0 t := ⟨e0.trans W.1, fun r i => (e2 r i).trans (W.2.1 r i), fun r i => (e3 r i).trans (W.2.2 r i)⟩
theorem pm_one {s s' : pm_H} {c : Nat} {r i : Int} (e : s' = pm_up s c 0 0 1) (Z : s c r i = 0) : s' c r i = if r = 0 ∧ i = 0 then 1 else 0 := by
  by_cases z : r = 0 ∧ i = 0
  · rw [if_pos z, z.1, z.2]
    exact pm_at e
  · rw [if_neg z, e, pm_up_ne (fun y => z y.2)]
    exact Z
def pm_tb (s : pm_H) (a b : Int) : Prop := (∀ x y : Int, 0 ≤ x → x < a → 0 ≤ y → y ≤ 11 → s 2 x y = pm_C x.toNat y.toNat) ∧ (∀ y : Int, 0 ≤ y → y < b → s 2 a y = pm_C a.toNat y.toNat) ∧ (∀ y : Int, b ≤ y → s 2 a y = 0) ∧ ∀ r i : Int, a < r → s 2 r i = 0
theorem pm_C_in : ∀ a : Nat, a < 11 → ∀ b : Nat, b < 12 → pm_C a b ≤ 1000 := by decide +kernel
theorem pm_tb_0 {s : pm_H} (Z : ∀ r i : Int, s 2 r i = 0) : pm_tb s 0 0 := ⟨fun x y a b => by omega, fun y a b => by omega, fun y _ => Z 0 y, fun r i _ => Z r i⟩
theorem pm_tb_1 {s s' : pm_H} {a : Int} (h : pm_tb s a 0) (e : s' = pm_up s 2 a 0 1) : pm_tb s' a 1 := by
  refine ⟨fun x y h0 h1 h2 h3 => ?_, fun y h0 h1 => ?_, fun y h0 => ?_, fun r i h0 => ?_⟩
  · rw [e, pm_up_ne (fun z => by have := z.2.1; omega)]
    exact h.1 x y h0 h1 h2 h3
  · have : y = 0 := by omega
    subst this
    rw [pm_at e]
    exact (pm_C_c0 _).symm
  · rw [e, pm_up_ne (fun z => by have := z.2.2; omega)]
    exact h.2.2.1 y (by omega)
  · rw [e, pm_up_ne (fun z => by have := z.2.1; omega)]
    exact h.2.2.2 r i h0
theorem pm_Cr {a b : Int} (ha : 1 ≤ a) (hb : 1 ≤ b) : pm_C a.toNat b.toNat = pm_C (a - 1).toNat (b - 1).toNat + pm_C (a - 1).toNat b.toNat := by
  have h1 : a.toNat = (a - 1).toNat + 1 := by omega
  have h2 : b.toNat = (b - 1).toNat + 1 := by omega
  rw [h1, h2]
  simp only [pm_C]
theorem pm_tb_s {s s' : pm_H} {a b : Int} (h : pm_tb s a b) (e : s' = pm_up s 2 a b (pm_wrap (s 2 (a - 1) (b - 1) + s 2 (a - 1) b))) (hb : 1 ≤ b) (ha : b ≤ a) (ha2 : a ≤ 10) : pm_tb s' a (b + 1) := by
  have h1 := h.1 (a - 1) (b - 1) (by omega) (by omega) (by omega) (by omega)
  have h2 := h.1 (a - 1) b (by omega) (by omega) (by omega) (by omega)
  have k1 := pm_C_in (a - 1).toNat (by omega) (b - 1).toNat (by omega)
  have k2 := pm_C_in (a - 1).toNat (by omega) b.toNat (by omega)
  have k3 := pm_C_nn (a - 1).toNat (b - 1).toNat
  have k4 := pm_C_nn (a - 1).toNat b.toNat
  rw [h1, h2, pm_wrap_id ⟨by omega, by omega⟩, ← pm_Cr (by omega) hb] at e
  refine ⟨fun u v h0 h1 h2 h3 => ?_, fun v h0 h1 => ?_, fun v h0 => ?_, fun r i h0 => ?_⟩
  · rw [e, pm_up_ne (fun z => by have := z.2.1; omega)]
    exact h.1 u v h0 h1 h2 h3
  · by_cases z : v = b
    · rw [z, pm_at e]
    · rw [pm_nei e z]
      exact h.2.1 v h0 (by omega)
  · rw [pm_nei e (by omega)]
    exact h.2.2.1 v (by omega)
  · rw [e, pm_up_ne (fun z => by have := z.2.1; omega)]
    exact h.2.2.2 r i h0
theorem pm_tb_n {s : pm_H} {a b : Int} (h : pm_tb s a b) (hb : a < b) (ha : 0 ≤ a) : pm_tb s (a + 1) 0 := by
  refine ⟨fun u v h0 h1 h2 h3 => ?_, fun v h0 h1 => by omega, fun v _ => h.2.2.2 (a + 1) v (by omega), fun r i h0 => h.2.2.2 r i (by omega)⟩
  by_cases z : u = a
  · subst z
    by_cases y : v < b
    · exact h.2.1 v h2 y
    · rw [h.2.2.1 v (by omega), pm_C_z (by omega)]
  · exact h.1 u v h0 (by omega) h2 h3
theorem pm_tb_e {s : pm_H} {a : Int} (h : pm_tb s a 0) (ha : 11 ≤ a) : pm_CT s := fun x y h0 h1 h2 => h.1 x y (by omega) (by omega) h0 (by omega)
theorem pm_z_2 (r i : Int) : pm_ok 2 r i 0 := by show _ ≤ _ ∧ _ ≤ _; omega
theorem pm_z_4 (r i : Int) : pm_ok 4 r i 0 := by show _ ≤ _ ∧ _ ≤ _; omega
theorem pm_z_5 (r i : Int) : pm_ok 5 r i 0 := by show _ ≤ _ ∧ _ ≤ _; omega
theorem pm_z_6 (r i : Int) : pm_ok 6 r i 0 := by show _ ≤ _ ∧ _ ≤ _; omega
theorem pm_z_7 (r i : Int) : pm_ok 7 r i 0 := by show _ ≤ _ ∧ _ ≤ _; omega
theorem pm_z_8 (r i : Int) : pm_ok 8 r i 0 := by show _ ≤ _ ∧ _ ≤ _; omega
theorem pm_z_10 (r i : Int) : pm_ok 10 r i 0 := by show _ ≤ _ ∧ _ ≤ _; omega
theorem pm_z_12 (r i : Int) : pm_ok 12 r i 0 := by show _ ≤ _ ∧ _ ≤ _; omega
theorem pm_z_13 (r i : Int) : pm_ok 13 r i 0 := trivial
theorem pm_z_15 (r i : Int) : pm_ok 15 r i 0 := trivial
theorem pm_z_17 (r i : Int) : pm_ok 17 r i 0 := by show _ ≤ _ ∧ _ ≤ _; omega
theorem pm_z_18 (r i : Int) : pm_ok 18 r i 0 := by show _ ≤ _ ∧ _ ≤ _; omega
theorem pm_z_19 (r i : Int) : pm_ok 19 r i 0 := by show _ ≤ _ ∧ _ ≤ _; omega
theorem pm_z_20 (r i : Int) : pm_ok 20 r i 0 := by show _ ≤ _ ∧ _ ≤ _; omega
theorem pm_z_21 (r i : Int) : pm_ok 21 r i 0 := by show _ ≤ _ ∧ _ ≤ _; omega
theorem pm_z_22 (r i : Int) : pm_ok 22 r i 0 := by show _ ≤ _ ∧ _ ≤ _; omega
theorem pm_z_23 (r i : Int) : pm_ok 23 r i 0 := by show _ ≤ _ ∧ _ ≤ _; omega
theorem pm_z_25 (r i : Int) : pm_ok 25 r i 0 := by show _ ≤ _ ∧ _ ≤ _; omega
theorem pm_z_26 (r i : Int) : pm_ok 26 r i 0 := by show _ ≤ _ ∧ _ ≤ _; omega
theorem pm_z_28 (r i : Int) : pm_ok 28 r i 0 := by show _ ≤ _ ∧ _ ≤ _; omega
theorem pm_z_29 (r i : Int) : pm_ok 29 r i 0 := by show _ ≤ _ ∧ _ ≤ _; omega
theorem pm_z_30 (r i : Int) : pm_ok 30 r i 0 := by show _ ≤ _ ∧ _ ≤ _; omega
theorem pm_z_32 (r i : Int) : pm_ok 32 r i 0 := trivial
theorem pm_z_33 (r i : Int) : pm_ok 33 r i 0 := trivial
theorem pm_z_34 (r i : Int) : pm_ok 34 r i 0 := trivial
theorem pm_z_36 (r i : Int) : pm_ok 36 r i 0 := by show _ ≤ _ ∧ _ ≤ _; omega
theorem pm_z_37 (r i : Int) : pm_ok 37 r i 0 := by show _ ≤ _ ∧ _ ≤ _; omega
theorem pm_z_38 (r i : Int) : pm_ok 38 r i 0 := by show _ ≤ _ ∧ _ ≤ _; omega
theorem pm_z_39 (r i : Int) : pm_ok 39 r i 0 := by show _ ≤ _ ∧ _ ≤ _; omega
theorem pm_z_41 (r i : Int) : pm_ok 41 r i 0 := by show _ ≤ _ ∧ _ ≤ _; omega
theorem pm_z_42 (r i : Int) : pm_ok 42 r i 0 := by show _ ≤ _ ∧ _ ≤ _; omega
theorem pm_z_43 (r i : Int) : pm_ok 43 r i 0 := by show _ ≤ _ ∧ _ ≤ _; omega
theorem pm_z_44 (r i : Int) : pm_ok 44 r i 0 := by show _ ≤ _ ∧ _ ≤ _; omega
theorem pm_z_45 (r i : Int) : pm_ok 45 r i 0 := by show _ ≤ _ ∧ _ ≤ _; omega
theorem pm_z_46 (r i : Int) : pm_ok 46 r i 0 := trivial
theorem pm_z_47 (r i : Int) : pm_ok 47 r i 0 := by show _ ≤ _ ∧ _ ≤ _; omega
theorem pm_z_48 (r i : Int) : pm_ok 48 r i 0 := trivial
theorem pm_z_49 (r i : Int) : pm_ok 49 r i 0 := trivial
theorem pm_z_50 (r i : Int) : pm_ok 50 r i 0 := by show _ ≤ _ ∧ _ ≤ _; omega
theorem pm_z_51 (r i : Int) : pm_ok 51 r i 0 := by show _ ≤ _ ∧ _ ≤ _; omega
theorem pm_z_52 (r i : Int) : pm_ok 52 r i 0 := by show _ ≤ _ ∧ _ ≤ _; omega
theorem pm_z_53 (r i : Int) : pm_ok 53 r i 0 := by show _ ≤ _ ∧ _ ≤ _; omega
theorem pm_z_54 (r i : Int) : pm_ok 54 r i 0 := by show _ ≤ _ ∧ _ ≤ _; omega
theorem pm_z_55 (r i : Int) : pm_ok 55 r i 0 := by show _ ≤ _ ∧ _ ≤ _; omega
theorem pm_z_56 (r i : Int) : pm_ok 56 r i 0 := by show _ ≤ _ ∧ _ ≤ _; omega
theorem pm_z_57 (r i : Int) : pm_ok 57 r i 0 := by show _ ≤ _ ∧ _ ≤ _; omega
theorem pm_z_58 (r i : Int) : pm_ok 58 r i 0 := by show _ ≤ _ ∧ _ ≤ _; omega
theorem pm_z_59 (r i : Int) : pm_ok 59 r i 0 := by show _ ≤ _ ∧ _ ≤ _; omega
theorem pm_z_60 (r i : Int) : pm_ok 60 r i 0 := by show _ ≤ _ ∧ _ ≤ _; omega
theorem pm_z_61 (r i : Int) : pm_ok 61 r i 0 := trivial
theorem pm_z_62 (r i : Int) : pm_ok 62 r i 0 := trivial
theorem pm_z_63 (r i : Int) : pm_ok 63 r i 0 := trivial
theorem pm_z_64 (r i : Int) : pm_ok 64 r i 0 := by show _ ≤ _ ∧ _ ≤ _; omega
theorem pm_z_65 (r i : Int) : pm_ok 65 r i 0 := by show _ ≤ _ ∧ _ ≤ _; omega
theorem pm_z_66 (r i : Int) : pm_ok 66 r i 0 := by show _ ≤ _ ∧ _ ≤ _; omega
theorem ml_X1_9 : pm_ML RX1 9 .int = true := by decide +kernel
theorem ml_X3_15 : pm_ML RX3 15 .int = true := by decide +kernel
theorem ml_X4_9 : pm_ML RX4 9 .long = true := by decide +kernel
theorem ml_X6_18 : pm_ML RX6 18 .int = true := by decide +kernel
theorem ml_X7_15 : pm_ML RX7 15 .long = true := by decide +kernel
def pre_X5_init (as : List pm_V) (n : Nat) (σ : pm_H) : Prop := as = [.inr (.inr (3, 0))] ∧ n = 15 ∧ pm_ZA 14 σ
def po_X5_init (as : List pm_V) (_ : Nat) (σ : pm_H) (r : Option pm_V) (τ : pm_H) : Prop := as = [.inr (.inr (3, 0))] → r = none ∧ pm_lo 14 σ τ ∧ pm_ZA 20 τ ∧ pm_okR 14 20 τ ∧ τ 3 0 0 = 0 ∧ τ 3 0 1 = 5 ∧ τ 3 0 3 = 0
set_option maxRecDepth 20000 in
set_option maxHeartbeats 4000000 in
theorem ct_X5_init : pm_Ct yX5_init cX5_init 1 none 1 5 pre_X5_init po_X5_init := pm_sound (ini := true) (by decide +kernel) pk_X5_init (fun _ => rfl) (by
  rintro as n s0 ⟨rfl, rfl, hZ⟩
  refine ⟨by decide, Nat.le_of_ble_eq_true rfl, fun G hG => ?_⟩
  have hG : pm_Rules (RX5, 1, 20, cX5_init, -1, (fun _ => 0), true, none, po_X5_init [.inr (.inr (3, 0))] 15 s0) G := hG
  show G 0 [some (.inr (.inr (3, 0)))] [] 15 s0
  have S1 := pm_st_rf [3] s0
  have D2 : pm_dn 3 [(0, 0, 0), (0, 1, 0), (0, 2, 0), (0, 3, 0), (0, 4, 0)] s0 := pm_dn_z hZ (by decide) (by decide)
  refine px_aload_n hG dX5_init_0 rfl ?_
  refine px_obj hG dX5_init_1 lo_X5_3 (Nat.le_of_ble_eq_true rfl) (Nat.le_of_ble_eq_true rfl) ?_
  refine px_aload_n hG dX5_init_4 rfl ?_
  refine px_iconst hG dX5_init_5 ?_
  refine px_putI hG dX5_init_6 (k := 0) ⟨rfl, fl_X5_9, rfl, by decide +kernel⟩ (by decide) (fun s3 (es3 : s3 = pm_up s0 3 0 0 0) => ?_)
  have S4 := pm_st_up S1 es3 (by decide)
  have D5 := pm_dn_up [(0, 0, 0), (0, 1, 0), (0, 2, 0), (0, 3, 0), (0, 4, 0)] D2 es3 (by decide)
  refine px_aload_n hG dX5_init_9 rfl ?_
  refine px_iconst hG dX5_init_10 ?_
  refine px_putI hG dX5_init_11 (k := 1) ⟨rfl, fl_X5_15, rfl, by decide +kernel⟩ (by decide) (fun s6 (es6 : s6 = pm_up s3 3 0 1 5) => ?_)
  have S7 := pm_st_up S4 es6 (by decide)
  have D8 := pm_dn_up [(0, 1, 5), (0, 0, 0), (0, 2, 0), (0, 3, 0), (0, 4, 0)] D5 es6 (by decide)
  refine px_aload_n hG dX5_init_14 rfl ?_
  refine px_iconst hG dX5_init_15 ?_
  refine px_putI hG dX5_init_16 (k := 2) ⟨rfl, fl_X5_18, rfl, by decide +kernel⟩ (by decide) (fun s9 (es9 : s9 = pm_up s6 3 0 2 0) => ?_)
  have S10 := pm_st_up S7 es9 (by decide)
  have D11 := pm_dn_up [(0, 2, 0), (0, 1, 5), (0, 0, 0), (0, 3, 0), (0, 4, 0)] D8 es9 (by decide)
  refine px_aload_n hG dX5_init_19 rfl ?_
  refine px_iconst hG dX5_init_20 ?_
  refine px_putI hG dX5_init_21 (k := 3) ⟨rfl, fl_X5_21, rfl, by decide +kernel⟩ (by decide) (fun s12 (es12 : s12 = pm_up s9 3 0 3 0) => ?_)
  have S13 := pm_st_up S10 es12 (by decide)
  have D14 := pm_dn_up [(0, 3, 0), (0, 2, 0), (0, 1, 5), (0, 0, 0), (0, 4, 0)] D11 es12 (by decide)
  refine px_aload_n hG dX5_init_24 rfl ?_
  refine px_iconst hG dX5_init_25 ?_
  refine px_putI hG dX5_init_26 (k := 4) ⟨rfl, fl_X5_24, rfl, by decide +kernel⟩ (by decide) (fun s15 (es15 : s15 = pm_up s12 3 0 4 0) => ?_)
  have S16 := pm_st_up S13 es15 (by decide)
  have D17 := pm_dn_up [(0, 4, 0), (0, 3, 0), (0, 2, 0), (0, 1, 5), (0, 0, 0)] D14 es15 (by decide)
  refine px_aload_n hG dX5_init_29 rfl ?_
  refine px_bipush hG dX5_init_30 (by decide) ?_
  refine px_newI hG dX5_init_32 (c := 4) (N := 11) rfl (by decide) (Nat.le_of_ble_eq_true rfl) (fun r i => (S16 4 r i (by decide)).trans (hZ 4 r i (by decide))) (Nat.le_of_ble_eq_true rfl) ?_
  show G 34 [some (.inr (.inr (3, 0)))] [.inr (.inr (4, 0)), .inr (.inr (3, 0))] 16 s15
  refine px_putR hG dX5_init_34 (k := 5) rfl ⟨rfl, fl_X5_27, rfl, by decide +kernel, rfl⟩ (by decide) (fun s18 (es18 : s18 = pm_up s15 3 1 5 1) => ?_)
  have S19 := pm_st_up S16 es18 (by decide)
  have D20 := pm_dn_up [(1, 5, 1), (0, 4, 0), (0, 3, 0), (0, 2, 0), (0, 1, 5), (0, 0, 0)] D17 es18 (by decide)
  refine px_aload_n hG dX5_init_37 rfl ?_
  refine px_bipush hG dX5_init_38 (by decide) ?_
  refine px_newI hG dX5_init_40 (c := 5) (N := 11) rfl (by decide) (Nat.le_of_ble_eq_true rfl) (fun r i => (S19 5 r i (by decide)).trans (hZ 5 r i (by decide))) (Nat.le_of_ble_eq_true rfl) ?_
  show G 42 [some (.inr (.inr (3, 0)))] [.inr (.inr (5, 0)), .inr (.inr (3, 0))] 17 s18
  refine px_putR hG dX5_init_42 (k := 6) rfl ⟨rfl, fl_X5_31, rfl, by decide +kernel, rfl⟩ (by decide) (fun s21 (es21 : s21 = pm_up s18 3 1 6 1) => ?_)
  have S22 := pm_st_up S19 es21 (by decide)
  have D23 := pm_dn_up [(1, 6, 1), (1, 5, 1), (0, 4, 0), (0, 3, 0), (0, 2, 0), (0, 1, 5), (0, 0, 0)] D20 es21 (by decide)
  refine px_aload_n hG dX5_init_45 rfl ?_
  refine px_bipush hG dX5_init_46 (by decide) ?_
  refine px_newI hG dX5_init_48 (c := 6) (N := 11) rfl (by decide) (Nat.le_of_ble_eq_true rfl) (fun r i => (S22 6 r i (by decide)).trans (hZ 6 r i (by decide))) (Nat.le_of_ble_eq_true rfl) ?_
  show G 50 [some (.inr (.inr (3, 0)))] [.inr (.inr (6, 0)), .inr (.inr (3, 0))] 18 s21
  refine px_putR hG dX5_init_50 (k := 7) rfl ⟨rfl, fl_X5_34, rfl, by decide +kernel, rfl⟩ (by decide) (fun s24 (es24 : s24 = pm_up s21 3 1 7 1) => ?_)
  have S25 := pm_st_up S22 es24 (by decide)
  have D26 := pm_dn_up [(1, 7, 1), (1, 6, 1), (1, 5, 1), (0, 4, 0), (0, 3, 0), (0, 2, 0), (0, 1, 5), (0, 0, 0)] D23 es24 (by decide)
  refine px_aload_n hG dX5_init_53 rfl ?_
  refine px_bipush hG dX5_init_54 (by decide) ?_
  refine px_newI hG dX5_init_56 (c := 7) (N := 11) rfl (by decide) (Nat.le_of_ble_eq_true rfl) (fun r i => (S25 7 r i (by decide)).trans (hZ 7 r i (by decide))) (Nat.le_of_ble_eq_true rfl) ?_
  show G 58 [some (.inr (.inr (3, 0)))] [.inr (.inr (7, 0)), .inr (.inr (3, 0))] 19 s24
  refine px_putR hG dX5_init_58 (k := 8) rfl ⟨rfl, fl_X5_37, rfl, by decide +kernel, rfl⟩ (by decide) (fun s27 (es27 : s27 = pm_up s24 3 1 8 1) => ?_)
  have S28 := pm_st_up S25 es27 (by decide)
  have D29 := pm_dn_up [(1, 8, 1), (1, 7, 1), (1, 6, 1), (1, 5, 1), (0, 4, 0), (0, 3, 0), (0, 2, 0), (0, 1, 5), (0, 0, 0)] D26 es27 (by decide)
  refine px_aload_n hG dX5_init_61 rfl ?_
  refine px_bipush hG dX5_init_62 (by decide) ?_
  refine px_newI hG dX5_init_64 (c := 8) (N := 11) rfl (by decide) (Nat.le_of_ble_eq_true rfl) (fun r i => (S28 8 r i (by decide)).trans (hZ 8 r i (by decide))) (Nat.le_of_ble_eq_true rfl) ?_
  show G 66 [some (.inr (.inr (3, 0)))] [.inr (.inr (8, 0)), .inr (.inr (3, 0))] 20 s27
  refine px_putR hG dX5_init_66 (k := 9) rfl ⟨rfl, fl_X5_40, rfl, by decide +kernel, rfl⟩ (by decide) (fun s30 (es30 : s30 = pm_up s27 3 1 9 1) => ?_)
  have S31 := pm_st_up S28 es30 (by decide)
  have D32 := pm_dn_up [(1, 9, 1), (1, 8, 1), (1, 7, 1), (1, 6, 1), (1, 5, 1), (0, 4, 0), (0, 3, 0), (0, 2, 0), (0, 1, 5), (0, 0, 0)] D29 es30 (by decide)
  have OK : pm_okR 14 20 s30 := fun c r i h1 h2 => by
    have q := pm_cs (P := fun c => c ∈ [3, 4, 5, 6, 7, 8]) (Nat.le_of_ble_eq_true rfl) (by decide +kernel) c h1 h2
    simp only [List.mem_cons, List.not_mem_nil, or_false] at q
    rcases q with rfl | rfl | rfl | rfl | rfl | rfl
    · exact ⟨fun a b => by rw [a, b, show s30 3 0 0 = 0 from D32 (0, 0, 0) (by decide)]; decide, fun a b => by rw [a, b, show s30 3 0 1 = 5 from D32 (0, 1, 5) (by decide)]; decide, fun a b => by rw [a, b, show s30 3 0 2 = 0 from D32 (0, 2, 0) (by decide)]; decide, fun a b => by rw [a, b, show s30 3 0 3 = 0 from D32 (0, 3, 0) (by decide)]; decide, fun a b => by rw [a, b, show s30 3 0 4 = 0 from D32 (0, 4, 0) (by decide)]; decide, fun a b => by rw [a, b]; exact D32 (1, 5, 1) (by decide), fun a b => by rw [a, b]; exact D32 (1, 6, 1) (by decide), fun a b => by rw [a, b]; exact D32 (1, 7, 1) (by decide), fun a b => by rw [a, b]; exact D32 (1, 8, 1) (by decide), fun a b => by rw [a, b]; exact D32 (1, 9, 1) (by decide)⟩
    · rw [S31 4 r i (by decide), hZ 4 r i (by decide)]
      exact pm_z_4 r i
    · rw [S31 5 r i (by decide), hZ 5 r i (by decide)]
      exact pm_z_5 r i
    · rw [S31 6 r i (by decide), hZ 6 r i (by decide)]
      exact pm_z_6 r i
    · rw [S31 7 r i (by decide), hZ 7 r i (by decide)]
      exact pm_z_7 r i
    · rw [S31 8 r i (by decide), hZ 8 r i (by decide)]
      exact pm_z_8 r i
  exact px_vret (st := []) hG dX5_init_69 rfl rfl (fun _ => by exact ⟨rfl, pm_lo_st S31 (by decide), pm_ZA_st S31 hZ (by decide) (by decide), OK, D32 (0, 0, 0) (by decide), D32 (0, 1, 5) (by decide), D32 (0, 3, 0) (by decide)⟩))
def pre_X2_init (as : List pm_V) (n : Nat) (σ : pm_H) : Prop := as = [.inr (.inr (9, 0))] ∧ n = 21 ∧ pm_ZA 20 σ
def po_X2_init (as : List pm_V) (_ : Nat) (σ : pm_H) (r : Option pm_V) (τ : pm_H) : Prop := as = [.inr (.inr (9, 0))] → r = none ∧ pm_lo 20 σ τ ∧ pm_ZA 22 τ ∧ pm_okR 20 22 τ
set_option maxRecDepth 20000 in
set_option maxHeartbeats 4000000 in
theorem ct_X2_init : pm_Ct yX2_init cX2_init 1 none 1 1 pre_X2_init po_X2_init := pm_sound (ini := true) (by decide +kernel) pk_X2_init (fun _ => rfl) (by
  rintro as n s0 ⟨rfl, rfl, hZ⟩
  refine ⟨by decide, Nat.le_of_ble_eq_true rfl, fun G hG => ?_⟩
  have hG : pm_Rules (RX2, 1, 22, cX2_init, -1, (fun _ => 0), true, none, po_X2_init [.inr (.inr (9, 0))] 21 s0) G := hG
  show G 0 [some (.inr (.inr (9, 0)))] [] 21 s0
  have S1 := pm_st_rf [9] s0
  have D2 : pm_dn 9 ([] : List (Int × Int × Int)) s0 := pm_dn_z hZ (by decide) (by decide)
  refine px_aload_n hG dX2_init_0 rfl ?_
  refine px_obj hG dX2_init_1 lo_X2_3 (Nat.le_of_ble_eq_true rfl) (Nat.le_of_ble_eq_true rfl) ?_
  refine px_aload_n hG dX2_init_4 rfl ?_
  refine px_sipush hG dX2_init_5 (by decide) ?_
  refine px_newI hG dX2_init_8 (c := 10) (N := 1024) rfl (by decide) (Nat.le_of_ble_eq_true rfl) (fun r i => (S1 10 r i (by decide)).trans (hZ 10 r i (by decide))) (Nat.le_of_ble_eq_true rfl) ?_
  show G 10 [some (.inr (.inr (9, 0)))] [.inr (.inr (10, 0)), .inr (.inr (9, 0))] 22 s0
  refine px_putR hG dX2_init_10 (k := 0) rfl ⟨rfl, fl_X2_9, rfl, by decide +kernel, rfl⟩ (by decide) (fun s3 (es3 : s3 = pm_up s0 9 1 0 1) => ?_)
  have S4 := pm_st_up S1 es3 (by decide)
  have D5 := pm_dn_up [(1, 0, 1)] D2 es3 (by decide)
  have OK : pm_okR 20 22 s3 := fun c r i h1 h2 => by
    have q := pm_cs (P := fun c => c ∈ [9, 10]) (Nat.le_of_ble_eq_true rfl) (by decide +kernel) c h1 h2
    simp only [List.mem_cons, List.not_mem_nil, or_false] at q
    rcases q with rfl | rfl
    · exact fun a b => by rw [a, b]; exact D5 (1, 0, 1) (by decide)
    · rw [S4 10 r i (by decide), hZ 10 r i (by decide)]
      exact pm_z_10 r i
  exact px_vret (st := []) hG dX2_init_13 rfl rfl (fun _ => by exact ⟨rfl, pm_lo_st S4 (by decide), pm_ZA_st S4 hZ (by decide) (by decide), OK⟩))
def pre_X0_init (as : List pm_V) (n : Nat) (σ : pm_H) : Prop := as = [.inr (.inr (11, 0)), .inr (.inr (1, 0))] ∧ n = 23 ∧ pm_ZA 22 σ
def po_X0_init (as : List pm_V) (_ : Nat) (σ : pm_H) (r : Option pm_V) (τ : pm_H) : Prop := as = [.inr (.inr (11, 0)), .inr (.inr (1, 0))] → r = none ∧ pm_lo 22 σ τ ∧ pm_ZA 25 τ ∧ pm_okR 22 25 τ
set_option maxRecDepth 20000 in
set_option maxHeartbeats 4000000 in
theorem ct_X0_init : pm_Ct yX0_init cX0_init 2 none 1 2 pre_X0_init po_X0_init := pm_sound (ini := true) (by decide +kernel) pk_X0_init (fun _ => rfl) (by
  rintro as n s0 ⟨rfl, rfl, hZ⟩
  refine ⟨by decide, Nat.le_of_ble_eq_true rfl, fun G hG => ?_⟩
  have hG : pm_Rules (RX0, 1, 25, cX0_init, -1, (fun _ => 0), true, none, po_X0_init [.inr (.inr (11, 0)), .inr (.inr (1, 0))] 23 s0) G := hG
  show G 0 [some (.inr (.inr (11, 0))), some (.inr (.inr (1, 0)))] [] 23 s0
  have S1 := pm_st_rf [11] s0
  have D2 : pm_dn 11 ([] : List (Int × Int × Int)) s0 := pm_dn_z hZ (by decide) (by decide)
  refine px_aload_n hG dX0_init_0 rfl ?_
  refine px_obj hG dX0_init_1 lo_X0_3 (Nat.le_of_ble_eq_true rfl) (Nat.le_of_ble_eq_true rfl) ?_
  refine px_aload_n hG dX0_init_4 rfl ?_
  refine px_bipush hG dX0_init_5 (by decide) ?_
  refine px_newI hG dX0_init_7 (c := 12) (N := 11) rfl (by decide) (Nat.le_of_ble_eq_true rfl) (fun r i => (S1 12 r i (by decide)).trans (hZ 12 r i (by decide))) (Nat.le_of_ble_eq_true rfl) ?_
  show G 9 [some (.inr (.inr (11, 0))), some (.inr (.inr (1, 0)))] [.inr (.inr (12, 0)), .inr (.inr (11, 0))] 24 s0
  refine px_putR hG dX0_init_9 (k := 1) rfl ⟨rfl, fl_X0_9, rfl, by decide +kernel, rfl⟩ (by decide) (fun s3 (es3 : s3 = pm_up s0 11 1 1 1) => ?_)
  have S4 := pm_st_up S1 es3 (by decide)
  have D5 := pm_dn_up [(1, 1, 1)] D2 es3 (by decide)
  refine px_aload_n hG dX0_init_12 rfl ?_
  refine px_bipush hG dX0_init_13 (by decide) ?_
  refine px_newJ hG dX0_init_15 (c := 13) (N := 11) rfl (by decide) (Nat.le_of_ble_eq_true rfl) (fun r i => (S4 13 r i (by decide)).trans (hZ 13 r i (by decide))) (Nat.le_of_ble_eq_true rfl) ?_
  show G 17 [some (.inr (.inr (11, 0))), some (.inr (.inr (1, 0)))] [.inr (.inr (13, 0)), .inr (.inr (11, 0))] 25 s3
  refine px_putR hG dX0_init_17 (k := 2) rfl ⟨rfl, fl_X0_15, rfl, by decide +kernel, rfl⟩ (by decide) (fun s6 (es6 : s6 = pm_up s3 11 1 2 1) => ?_)
  have S7 := pm_st_up S4 es6 (by decide)
  have D8 := pm_dn_up [(1, 2, 1), (1, 1, 1)] D5 es6 (by decide)
  refine px_aload_n hG dX0_init_20 rfl ?_
  refine px_aload_n hG dX0_init_21 rfl ?_
  refine px_putR hG dX0_init_22 (k := 0) rfl ⟨rfl, fl_X0_19, rfl, by decide +kernel, rfl⟩ (by decide) (fun s9 (es9 : s9 = pm_up s6 11 1 0 1) => ?_)
  have S10 := pm_st_up S7 es9 (by decide)
  have D11 := pm_dn_up [(1, 0, 1), (1, 2, 1), (1, 1, 1)] D8 es9 (by decide)
  have OK : pm_okR 22 25 s9 := fun c r i h1 h2 => by
    have q := pm_cs (P := fun c => c ∈ [11, 12, 13]) (Nat.le_of_ble_eq_true rfl) (by decide +kernel) c h1 h2
    simp only [List.mem_cons, List.not_mem_nil, or_false] at q
    rcases q with rfl | rfl | rfl
    · exact ⟨fun a b => by rw [a, b]; exact D11 (1, 0, 1) (by decide), fun a b => by rw [a, b]; exact D11 (1, 1, 1) (by decide), fun a b => by rw [a, b]; exact D11 (1, 2, 1) (by decide)⟩
    · rw [S10 12 r i (by decide), hZ 12 r i (by decide)]
      exact pm_z_12 r i
    · rw [S10 13 r i (by decide), hZ 13 r i (by decide)]
      exact pm_z_13 r i
  exact px_vret (st := []) hG dX0_init_25 rfl rfl (fun _ => by exact ⟨rfl, pm_lo_st S10 (by decide), pm_ZA_st S10 hZ (by decide) (by decide), OK⟩))
def pre_X4_init (as : List pm_V) (n : Nat) (σ : pm_H) : Prop := as = [.inr (.inr (14, 0))] ∧ n = 26 ∧ pm_ZA 25 σ
def po_X4_init (as : List pm_V) (_ : Nat) (σ : pm_H) (r : Option pm_V) (τ : pm_H) : Prop := as = [.inr (.inr (14, 0))] → r = none ∧ pm_lo 25 σ τ ∧ pm_ZA 39 τ ∧ pm_okR 25 39 τ
set_option maxRecDepth 20000 in
set_option maxHeartbeats 4000000 in
theorem ct_X4_init : pm_Ct yX4_init cX4_init 1 none 1 13 pre_X4_init po_X4_init := pm_sound (ini := true) (by decide +kernel) pk_X4_init (fun _ => rfl) (by
  rintro as n s0 ⟨rfl, rfl, hZ⟩
  refine ⟨by decide, Nat.le_of_ble_eq_true rfl, fun G hG => ?_⟩
  have hG : pm_Rules (RX4, 1, 39, cX4_init, -1, (fun _ => 0), true, none, po_X4_init [.inr (.inr (14, 0))] 26 s0) G := hG
  show G 0 [some (.inr (.inr (14, 0)))] [] 26 s0
  have S1 := pm_st_rf [14] s0
  have D2 : pm_dn 14 ([] : List (Int × Int × Int)) s0 := pm_dn_z hZ (by decide) (by decide)
  refine px_aload_n hG dX4_init_0 rfl ?_
  refine px_obj hG dX4_init_1 lo_X4_3 (Nat.le_of_ble_eq_true rfl) (Nat.le_of_ble_eq_true rfl) ?_
  refine px_aload_n hG dX4_init_4 rfl ?_
  refine px_bipush hG dX4_init_5 (by decide) ?_
  refine px_bipush hG dX4_init_7 (by decide) ?_
  refine px_mnaJ hG dX4_init_9 (c := 15) (M := 12) (N := 12) ⟨rfl, ml_X4_9⟩ (by decide) (Nat.le_of_ble_eq_true rfl) (fun r i => (S1 15 r i (by decide)).trans (hZ 15 r i (by decide))) ⟨Nat.le_of_ble_eq_true rfl, Nat.le_of_ble_eq_true rfl⟩ ?_
  show G 13 [some (.inr (.inr (14, 0)))] [.inr (.inr (15, (-1))), .inr (.inr (14, 0))] 39 s0
  refine px_putR hG dX4_init_13 (k := 0) rfl ⟨rfl, fl_X4_11, rfl, by decide +kernel, rfl⟩ (by decide) (fun s3 (es3 : s3 = pm_up s0 14 1 0 1) => ?_)
  have S4 := pm_st_up S1 es3 (by decide)
  have D5 := pm_dn_up [(1, 0, 1)] D2 es3 (by decide)
  have OK : pm_okR 25 39 s3 := fun c r i h1 h2 => by
    have q := pm_cs (P := fun c => c ∈ [14, 15]) (Nat.le_of_ble_eq_true rfl) (by decide +kernel) c h1 h2
    simp only [List.mem_cons, List.not_mem_nil, or_false] at q
    rcases q with rfl | rfl
    · exact fun a b => by rw [a, b]; exact D5 (1, 0, 1) (by decide)
    · rw [S4 15 r i (by decide), hZ 15 r i (by decide)]
      exact pm_z_15 r i
  exact px_vret (st := []) hG dX4_init_16 rfl rfl (fun _ => by exact ⟨rfl, pm_lo_st S4 (by decide), pm_ZA_st S4 hZ (by decide) (by decide), OK⟩))
def pre_X8_init (as : List pm_V) (n : Nat) (σ : pm_H) : Prop := as = [.inr (.inr (16, 0))] ∧ n = 40 ∧ pm_ZA 39 σ
def po_X8_init (as : List pm_V) (_ : Nat) (σ : pm_H) (r : Option pm_V) (τ : pm_H) : Prop := as = [.inr (.inr (16, 0))] → r = none ∧ pm_lo 39 σ τ ∧ pm_ZA 47 τ ∧ pm_okR 39 47 τ
set_option maxRecDepth 20000 in
set_option maxHeartbeats 4000000 in
theorem ct_X8_init : pm_Ct yX8_init cX8_init 1 none 1 7 pre_X8_init po_X8_init := pm_sound (ini := true) (by decide +kernel) pk_X8_init (fun _ => rfl) (by
  rintro as n s0 ⟨rfl, rfl, hZ⟩
  refine ⟨by decide, Nat.le_of_ble_eq_true rfl, fun G hG => ?_⟩
  have hG : pm_Rules (RX8, 1, 47, cX8_init, -1, (fun _ => 0), true, none, po_X8_init [.inr (.inr (16, 0))] 40 s0) G := hG
  show G 0 [some (.inr (.inr (16, 0)))] [] 40 s0
  have S1 := pm_st_rf [16] s0
  have D2 : pm_dn 16 [(0, 0, 0)] s0 := pm_dn_z hZ (by decide) (by decide)
  refine px_aload_n hG dX8_init_0 rfl ?_
  refine px_obj hG dX8_init_1 lo_X8_3 (Nat.le_of_ble_eq_true rfl) (Nat.le_of_ble_eq_true rfl) ?_
  refine px_aload_n hG dX8_init_4 rfl ?_
  refine px_iconst hG dX8_init_5 ?_
  refine px_putI hG dX8_init_6 (k := 0) ⟨rfl, fl_X8_9, rfl, by decide +kernel⟩ (by decide) (fun s3 (es3 : s3 = pm_up s0 16 0 0 0) => ?_)
  have S4 := pm_st_up S1 es3 (by decide)
  have D5 := pm_dn_up [(0, 0, 0)] D2 es3 (by decide)
  refine px_aload_n hG dX8_init_9 rfl ?_
  refine px_bipush hG dX8_init_10 (by decide) ?_
  refine px_newI hG dX8_init_12 (c := 17) (N := 11) rfl (by decide) (Nat.le_of_ble_eq_true rfl) (fun r i => (S4 17 r i (by decide)).trans (hZ 17 r i (by decide))) (Nat.le_of_ble_eq_true rfl) ?_
  show G 14 [some (.inr (.inr (16, 0)))] [.inr (.inr (17, 0)), .inr (.inr (16, 0))] 41 s3
  refine px_putR hG dX8_init_14 (k := 1) rfl ⟨rfl, fl_X8_15, rfl, by decide +kernel, rfl⟩ (by decide) (fun s6 (es6 : s6 = pm_up s3 16 1 1 1) => ?_)
  have S7 := pm_st_up S4 es6 (by decide)
  have D8 := pm_dn_up [(1, 1, 1), (0, 0, 0)] D5 es6 (by decide)
  refine px_aload_n hG dX8_init_17 rfl ?_
  refine px_bipush hG dX8_init_18 (by decide) ?_
  refine px_newI hG dX8_init_20 (c := 18) (N := 11) rfl (by decide) (Nat.le_of_ble_eq_true rfl) (fun r i => (S7 18 r i (by decide)).trans (hZ 18 r i (by decide))) (Nat.le_of_ble_eq_true rfl) ?_
  show G 22 [some (.inr (.inr (16, 0)))] [.inr (.inr (18, 0)), .inr (.inr (16, 0))] 42 s6
  refine px_putR hG dX8_init_22 (k := 2) rfl ⟨rfl, fl_X8_19, rfl, by decide +kernel, rfl⟩ (by decide) (fun s9 (es9 : s9 = pm_up s6 16 1 2 1) => ?_)
  have S10 := pm_st_up S7 es9 (by decide)
  have D11 := pm_dn_up [(1, 2, 1), (1, 1, 1), (0, 0, 0)] D8 es9 (by decide)
  refine px_aload_n hG dX8_init_25 rfl ?_
  refine px_bipush hG dX8_init_26 (by decide) ?_
  refine px_newI hG dX8_init_28 (c := 19) (N := 11) rfl (by decide) (Nat.le_of_ble_eq_true rfl) (fun r i => (S10 19 r i (by decide)).trans (hZ 19 r i (by decide))) (Nat.le_of_ble_eq_true rfl) ?_
  show G 30 [some (.inr (.inr (16, 0)))] [.inr (.inr (19, 0)), .inr (.inr (16, 0))] 43 s9
  refine px_putR hG dX8_init_30 (k := 3) rfl ⟨rfl, fl_X8_22, rfl, by decide +kernel, rfl⟩ (by decide) (fun s12 (es12 : s12 = pm_up s9 16 1 3 1) => ?_)
  have S13 := pm_st_up S10 es12 (by decide)
  have D14 := pm_dn_up [(1, 3, 1), (1, 2, 1), (1, 1, 1), (0, 0, 0)] D11 es12 (by decide)
  refine px_aload_n hG dX8_init_33 rfl ?_
  refine px_bipush hG dX8_init_34 (by decide) ?_
  refine px_newI hG dX8_init_36 (c := 20) (N := 11) rfl (by decide) (Nat.le_of_ble_eq_true rfl) (fun r i => (S13 20 r i (by decide)).trans (hZ 20 r i (by decide))) (Nat.le_of_ble_eq_true rfl) ?_
  show G 38 [some (.inr (.inr (16, 0)))] [.inr (.inr (20, 0)), .inr (.inr (16, 0))] 44 s12
  refine px_putR hG dX8_init_38 (k := 4) rfl ⟨rfl, fl_X8_25, rfl, by decide +kernel, rfl⟩ (by decide) (fun s15 (es15 : s15 = pm_up s12 16 1 4 1) => ?_)
  have S16 := pm_st_up S13 es15 (by decide)
  have D17 := pm_dn_up [(1, 4, 1), (1, 3, 1), (1, 2, 1), (1, 1, 1), (0, 0, 0)] D14 es15 (by decide)
  refine px_aload_n hG dX8_init_41 rfl ?_
  refine px_bipush hG dX8_init_42 (by decide) ?_
  refine px_newI hG dX8_init_44 (c := 21) (N := 11) rfl (by decide) (Nat.le_of_ble_eq_true rfl) (fun r i => (S16 21 r i (by decide)).trans (hZ 21 r i (by decide))) (Nat.le_of_ble_eq_true rfl) ?_
  show G 46 [some (.inr (.inr (16, 0)))] [.inr (.inr (21, 0)), .inr (.inr (16, 0))] 45 s15
  refine px_putR hG dX8_init_46 (k := 5) rfl ⟨rfl, fl_X8_28, rfl, by decide +kernel, rfl⟩ (by decide) (fun s18 (es18 : s18 = pm_up s15 16 1 5 1) => ?_)
  have S19 := pm_st_up S16 es18 (by decide)
  have D20 := pm_dn_up [(1, 5, 1), (1, 4, 1), (1, 3, 1), (1, 2, 1), (1, 1, 1), (0, 0, 0)] D17 es18 (by decide)
  refine px_aload_n hG dX8_init_49 rfl ?_
  refine px_bipush hG dX8_init_50 (by decide) ?_
  refine px_newI hG dX8_init_52 (c := 22) (N := 12) rfl (by decide) (Nat.le_of_ble_eq_true rfl) (fun r i => (S19 22 r i (by decide)).trans (hZ 22 r i (by decide))) (Nat.le_of_ble_eq_true rfl) ?_
  show G 54 [some (.inr (.inr (16, 0)))] [.inr (.inr (22, 0)), .inr (.inr (16, 0))] 46 s18
  refine px_putR hG dX8_init_54 (k := 6) rfl ⟨rfl, fl_X8_31, rfl, by decide +kernel, rfl⟩ (by decide) (fun s21 (es21 : s21 = pm_up s18 16 1 6 1) => ?_)
  have S22 := pm_st_up S19 es21 (by decide)
  have D23 := pm_dn_up [(1, 6, 1), (1, 5, 1), (1, 4, 1), (1, 3, 1), (1, 2, 1), (1, 1, 1), (0, 0, 0)] D20 es21 (by decide)
  refine px_aload_n hG dX8_init_57 rfl ?_
  refine px_bipush hG dX8_init_58 (by decide) ?_
  refine px_newI hG dX8_init_60 (c := 23) (N := 11) rfl (by decide) (Nat.le_of_ble_eq_true rfl) (fun r i => (S22 23 r i (by decide)).trans (hZ 23 r i (by decide))) (Nat.le_of_ble_eq_true rfl) ?_
  show G 62 [some (.inr (.inr (16, 0)))] [.inr (.inr (23, 0)), .inr (.inr (16, 0))] 47 s21
  refine px_putR hG dX8_init_62 (k := 7) rfl ⟨rfl, fl_X8_34, rfl, by decide +kernel, rfl⟩ (by decide) (fun s24 (es24 : s24 = pm_up s21 16 1 7 1) => ?_)
  have S25 := pm_st_up S22 es24 (by decide)
  have D26 := pm_dn_up [(1, 7, 1), (1, 6, 1), (1, 5, 1), (1, 4, 1), (1, 3, 1), (1, 2, 1), (1, 1, 1), (0, 0, 0)] D23 es24 (by decide)
  have OK : pm_okR 39 47 s24 := fun c r i h1 h2 => by
    have q := pm_cs (P := fun c => c ∈ [16, 17, 18, 19, 20, 21, 22, 23]) (Nat.le_of_ble_eq_true rfl) (by decide +kernel) c h1 h2
    simp only [List.mem_cons, List.not_mem_nil, or_false] at q
    rcases q with rfl | rfl | rfl | rfl | rfl | rfl | rfl | rfl
    · exact ⟨fun a b => by rw [a, b, show s24 16 0 0 = 0 from D26 (0, 0, 0) (by decide)]; decide, fun a b => by rw [a, b]; exact D26 (1, 1, 1) (by decide), fun a b => by rw [a, b]; exact D26 (1, 2, 1) (by decide), fun a b => by rw [a, b]; exact D26 (1, 3, 1) (by decide), fun a b => by rw [a, b]; exact D26 (1, 4, 1) (by decide), fun a b => by rw [a, b]; exact D26 (1, 5, 1) (by decide), fun a b => by rw [a, b]; exact D26 (1, 6, 1) (by decide), fun a b => by rw [a, b]; exact D26 (1, 7, 1) (by decide)⟩
    · rw [S25 17 r i (by decide), hZ 17 r i (by decide)]
      exact pm_z_17 r i
    · rw [S25 18 r i (by decide), hZ 18 r i (by decide)]
      exact pm_z_18 r i
    · rw [S25 19 r i (by decide), hZ 19 r i (by decide)]
      exact pm_z_19 r i
    · rw [S25 20 r i (by decide), hZ 20 r i (by decide)]
      exact pm_z_20 r i
    · rw [S25 21 r i (by decide), hZ 21 r i (by decide)]
      exact pm_z_21 r i
    · rw [S25 22 r i (by decide), hZ 22 r i (by decide)]
      exact pm_z_22 r i
    · rw [S25 23 r i (by decide), hZ 23 r i (by decide)]
      exact pm_z_23 r i
  exact px_vret (st := []) hG dX8_init_65 rfl rfl (fun _ => by exact ⟨rfl, pm_lo_st S25 (by decide), pm_ZA_st S25 hZ (by decide) (by decide), OK⟩))
def pre_X9_init (as : List pm_V) (n : Nat) (σ : pm_H) : Prop := as = [.inr (.inr (24, 0))] ∧ n = 48 ∧ pm_ZA 47 σ
def po_X9_init (as : List pm_V) (_ : Nat) (σ : pm_H) (r : Option pm_V) (τ : pm_H) : Prop := as = [.inr (.inr (24, 0))] → r = none ∧ pm_lo 47 σ τ ∧ pm_ZA 50 τ ∧ pm_okR 47 50 τ
set_option maxRecDepth 20000 in
set_option maxHeartbeats 4000000 in
theorem ct_X9_init : pm_Ct yX9_init cX9_init 1 none 1 2 pre_X9_init po_X9_init := pm_sound (ini := true) (by decide +kernel) pk_X9_init (fun _ => rfl) (by
  rintro as n s0 ⟨rfl, rfl, hZ⟩
  refine ⟨by decide, Nat.le_of_ble_eq_true rfl, fun G hG => ?_⟩
  have hG : pm_Rules (RX9, 1, 50, cX9_init, -1, (fun _ => 0), true, none, po_X9_init [.inr (.inr (24, 0))] 48 s0) G := hG
  show G 0 [some (.inr (.inr (24, 0)))] [] 48 s0
  have S1 := pm_st_rf [24] s0
  have D2 : pm_dn 24 [(0, 0, 0)] s0 := pm_dn_z hZ (by decide) (by decide)
  refine px_aload_n hG dX9_init_0 rfl ?_
  refine px_obj hG dX9_init_1 lo_X9_3 (Nat.le_of_ble_eq_true rfl) (Nat.le_of_ble_eq_true rfl) ?_
  refine px_aload_n hG dX9_init_4 rfl ?_
  refine px_iconst hG dX9_init_5 ?_
  refine px_putI hG dX9_init_6 (k := 0) ⟨rfl, fl_X9_9, rfl, by decide +kernel⟩ (by decide) (fun s3 (es3 : s3 = pm_up s0 24 0 0 0) => ?_)
  have S4 := pm_st_up S1 es3 (by decide)
  have D5 := pm_dn_up [(0, 0, 0)] D2 es3 (by decide)
  refine px_aload_n hG dX9_init_9 rfl ?_
  refine px_bipush hG dX9_init_10 (by decide) ?_
  refine px_newI hG dX9_init_12 (c := 25) (N := 11) rfl (by decide) (Nat.le_of_ble_eq_true rfl) (fun r i => (S4 25 r i (by decide)).trans (hZ 25 r i (by decide))) (Nat.le_of_ble_eq_true rfl) ?_
  show G 14 [some (.inr (.inr (24, 0)))] [.inr (.inr (25, 0)), .inr (.inr (24, 0))] 49 s3
  refine px_putR hG dX9_init_14 (k := 1) rfl ⟨rfl, fl_X9_15, rfl, by decide +kernel, rfl⟩ (by decide) (fun s6 (es6 : s6 = pm_up s3 24 1 1 1) => ?_)
  have S7 := pm_st_up S4 es6 (by decide)
  have D8 := pm_dn_up [(1, 1, 1), (0, 0, 0)] D5 es6 (by decide)
  refine px_aload_n hG dX9_init_17 rfl ?_
  refine px_bipush hG dX9_init_18 (by decide) ?_
  refine px_newI hG dX9_init_20 (c := 26) (N := 11) rfl (by decide) (Nat.le_of_ble_eq_true rfl) (fun r i => (S7 26 r i (by decide)).trans (hZ 26 r i (by decide))) (Nat.le_of_ble_eq_true rfl) ?_
  show G 22 [some (.inr (.inr (24, 0)))] [.inr (.inr (26, 0)), .inr (.inr (24, 0))] 50 s6
  refine px_putR hG dX9_init_22 (k := 2) rfl ⟨rfl, fl_X9_19, rfl, by decide +kernel, rfl⟩ (by decide) (fun s9 (es9 : s9 = pm_up s6 24 1 2 1) => ?_)
  have S10 := pm_st_up S7 es9 (by decide)
  have D11 := pm_dn_up [(1, 2, 1), (1, 1, 1), (0, 0, 0)] D8 es9 (by decide)
  have OK : pm_okR 47 50 s9 := fun c r i h1 h2 => by
    have q := pm_cs (P := fun c => c ∈ [24, 25, 26]) (Nat.le_of_ble_eq_true rfl) (by decide +kernel) c h1 h2
    simp only [List.mem_cons, List.not_mem_nil, or_false] at q
    rcases q with rfl | rfl | rfl
    · exact ⟨fun a b => by rw [a, b, show s9 24 0 0 = 0 from D11 (0, 0, 0) (by decide)]; decide, fun a b => by rw [a, b]; exact D11 (1, 1, 1) (by decide), fun a b => by rw [a, b]; exact D11 (1, 2, 1) (by decide)⟩
    · rw [S10 25 r i (by decide), hZ 25 r i (by decide)]
      exact pm_z_25 r i
    · rw [S10 26 r i (by decide), hZ 26 r i (by decide)]
      exact pm_z_26 r i
  exact px_vret (st := []) hG dX9_init_25 rfl rfl (fun _ => by exact ⟨rfl, pm_lo_st S10 (by decide), pm_ZA_st S10 hZ (by decide) (by decide), OK⟩))
def pre_X3_init (as : List pm_V) (n : Nat) (σ : pm_H) : Prop := as = [.inr (.inr (27, 0))] ∧ n = 51 ∧ pm_ZA 50 σ
def po_X3_init (as : List pm_V) (_ : Nat) (σ : pm_H) (r : Option pm_V) (τ : pm_H) : Prop := as = [.inr (.inr (27, 0))] → r = none ∧ pm_lo 50 σ τ ∧ pm_ZA 60 τ ∧ pm_okR 50 60 τ
set_option maxRecDepth 20000 in
set_option maxHeartbeats 4000000 in
theorem ct_X3_init : pm_Ct yX3_init cX3_init 1 none 1 9 pre_X3_init po_X3_init := pm_sound (ini := true) (by decide +kernel) pk_X3_init (fun _ => rfl) (by
  rintro as n s0 ⟨rfl, rfl, hZ⟩
  refine ⟨by decide, Nat.le_of_ble_eq_true rfl, fun G hG => ?_⟩
  have hG : pm_Rules (RX3, 1, 60, cX3_init, -1, (fun _ => 0), true, none, po_X3_init [.inr (.inr (27, 0))] 51 s0) G := hG
  show G 0 [some (.inr (.inr (27, 0)))] [] 51 s0
  have S1 := pm_st_rf [27] s0
  have D2 : pm_dn 27 ([] : List (Int × Int × Int)) s0 := pm_dn_z hZ (by decide) (by decide)
  refine px_aload_n hG dX3_init_0 rfl ?_
  refine px_obj hG dX3_init_1 lo_X3_3 (Nat.le_of_ble_eq_true rfl) (Nat.le_of_ble_eq_true rfl) ?_
  refine px_aload_n hG dX3_init_4 rfl ?_
  refine px_bipush hG dX3_init_5 (by decide) ?_
  refine px_newZ hG dX3_init_7 (c := 28) (N := 6) rfl (by decide) (Nat.le_of_ble_eq_true rfl) (fun r i => (S1 28 r i (by decide)).trans (hZ 28 r i (by decide))) (Nat.le_of_ble_eq_true rfl) ?_
  show G 9 [some (.inr (.inr (27, 0)))] [.inr (.inr (28, 0)), .inr (.inr (27, 0))] 52 s0
  refine px_putR hG dX3_init_9 (k := 0) rfl ⟨rfl, fl_X3_9, rfl, by decide +kernel, rfl⟩ (by decide) (fun s3 (es3 : s3 = pm_up s0 27 1 0 1) => ?_)
  have S4 := pm_st_up S1 es3 (by decide)
  have D5 := pm_dn_up [(1, 0, 1)] D2 es3 (by decide)
  refine px_aload_n hG dX3_init_12 rfl ?_
  refine px_bipush hG dX3_init_13 (by decide) ?_
  refine px_bipush hG dX3_init_15 (by decide) ?_
  refine px_mnaI hG dX3_init_17 (c := 29) (M := 6) (N := 121) ⟨rfl, ml_X3_15⟩ (by decide) (Nat.le_of_ble_eq_true rfl) (fun r i => (S4 29 r i (by decide)).trans (hZ 29 r i (by decide))) ⟨Nat.le_of_ble_eq_true rfl, Nat.le_of_ble_eq_true rfl⟩ ?_
  show G 21 [some (.inr (.inr (27, 0)))] [.inr (.inr (29, (-1))), .inr (.inr (27, 0))] 59 s3
  refine px_putR hG dX3_init_21 (k := 1) rfl ⟨rfl, fl_X3_17, rfl, by decide +kernel, rfl⟩ (by decide) (fun s6 (es6 : s6 = pm_up s3 27 1 1 1) => ?_)
  have S7 := pm_st_up S4 es6 (by decide)
  have D8 := pm_dn_up [(1, 1, 1), (1, 0, 1)] D5 es6 (by decide)
  refine px_aload_n hG dX3_init_24 rfl ?_
  refine px_bipush hG dX3_init_25 (by decide) ?_
  refine px_newI hG dX3_init_27 (c := 30) (N := 6) rfl (by decide) (Nat.le_of_ble_eq_true rfl) (fun r i => (S7 30 r i (by decide)).trans (hZ 30 r i (by decide))) (Nat.le_of_ble_eq_true rfl) ?_
  show G 29 [some (.inr (.inr (27, 0)))] [.inr (.inr (30, 0)), .inr (.inr (27, 0))] 60 s6
  refine px_putR hG dX3_init_29 (k := 2) rfl ⟨rfl, fl_X3_20, rfl, by decide +kernel, rfl⟩ (by decide) (fun s9 (es9 : s9 = pm_up s6 27 1 2 1) => ?_)
  have S10 := pm_st_up S7 es9 (by decide)
  have D11 := pm_dn_up [(1, 2, 1), (1, 1, 1), (1, 0, 1)] D8 es9 (by decide)
  have OK : pm_okR 50 60 s9 := fun c r i h1 h2 => by
    have q := pm_cs (P := fun c => c ∈ [27, 28, 29, 30]) (Nat.le_of_ble_eq_true rfl) (by decide +kernel) c h1 h2
    simp only [List.mem_cons, List.not_mem_nil, or_false] at q
    rcases q with rfl | rfl | rfl | rfl
    · exact ⟨fun a b => by rw [a, b]; exact D11 (1, 0, 1) (by decide), fun a b => by rw [a, b]; exact D11 (1, 1, 1) (by decide), fun a b => by rw [a, b]; exact D11 (1, 2, 1) (by decide)⟩
    · rw [S10 28 r i (by decide), hZ 28 r i (by decide)]
      exact pm_z_28 r i
    · rw [S10 29 r i (by decide), hZ 29 r i (by decide)]
      exact pm_z_29 r i
    · rw [S10 30 r i (by decide), hZ 30 r i (by decide)]
      exact pm_z_30 r i
  exact px_vret (st := []) hG dX3_init_32 rfl rfl (fun _ => by exact ⟨rfl, pm_lo_st S10 (by decide), pm_ZA_st S10 hZ (by decide) (by decide), OK⟩))
def pre_X7_init (as : List pm_V) (n : Nat) (σ : pm_H) : Prop := as = [.inr (.inr (31, 0)), .inr (.inr (1, 0))] ∧ n = 61 ∧ pm_ZA 60 σ
def po_X7_init (as : List pm_V) (_ : Nat) (σ : pm_H) (r : Option pm_V) (τ : pm_H) : Prop := as = [.inr (.inr (31, 0)), .inr (.inr (1, 0))] → r = none ∧ pm_lo 60 σ τ ∧ pm_ZA 86 τ ∧ pm_okR 60 86 τ ∧ pm_S0 τ
set_option maxRecDepth 20000 in
set_option maxHeartbeats 4000000 in
theorem ct_X7_init : pm_Ct yX7_init cX7_init 2 none 1 25 pre_X7_init po_X7_init := pm_sound (ini := true) (by decide +kernel) pk_X7_init (fun _ => rfl) (by
  rintro as n s0 ⟨rfl, rfl, hZ⟩
  refine ⟨by decide, Nat.le_of_ble_eq_true rfl, fun G hG => ?_⟩
  have hG : pm_Rules (RX7, 1, 86, cX7_init, -1, (fun _ => 0), true, none, po_X7_init [.inr (.inr (31, 0)), .inr (.inr (1, 0))] 61 s0) G := hG
  show G 0 [some (.inr (.inr (31, 0))), some (.inr (.inr (1, 0)))] [] 61 s0
  have S1 := pm_st_rf [31] s0
  have D2 : pm_dn 31 [(0, 1, 0)] s0 := pm_dn_z hZ (by decide) (by decide)
  refine px_aload_n hG dX7_init_0 rfl ?_
  refine px_obj hG dX7_init_1 lo_X7_3 (Nat.le_of_ble_eq_true rfl) (Nat.le_of_ble_eq_true rfl) ?_
  refine px_aload_n hG dX7_init_4 rfl ?_
  refine px_iconst hG dX7_init_5 ?_
  refine px_putI hG dX7_init_6 (k := 1) ⟨rfl, fl_X7_9, rfl, by decide +kernel⟩ (by decide) (fun s3 (es3 : s3 = pm_up s0 31 0 1 0) => ?_)
  have S4 := pm_st_up S1 es3 (by decide)
  have D5 := pm_dn_up [(0, 1, 0)] D2 es3 (by decide)
  refine px_aload_n hG dX7_init_9 rfl ?_
  refine px_bipush hG dX7_init_10 (by decide) ?_
  refine px_bipush hG dX7_init_12 (by decide) ?_
  refine px_mnaJ hG dX7_init_14 (c := 32) (M := 11) (N := 46) ⟨rfl, ml_X7_15⟩ (by decide) (Nat.le_of_ble_eq_true rfl) (fun r i => (S4 32 r i (by decide)).trans (hZ 32 r i (by decide))) ⟨Nat.le_of_ble_eq_true rfl, Nat.le_of_ble_eq_true rfl⟩ ?_
  show G 18 [some (.inr (.inr (31, 0))), some (.inr (.inr (1, 0)))] [.inr (.inr (32, (-1))), .inr (.inr (31, 0))] 73 s3
  refine px_putR hG dX7_init_18 (k := 2) rfl ⟨rfl, fl_X7_17, rfl, by decide +kernel, rfl⟩ (by decide) (fun s6 (es6 : s6 = pm_up s3 31 1 2 1) => ?_)
  have S7 := pm_st_up S4 es6 (by decide)
  have D8 := pm_dn_up [(1, 2, 1), (0, 1, 0)] D5 es6 (by decide)
  refine px_aload_n hG dX7_init_21 rfl ?_
  refine px_bipush hG dX7_init_22 (by decide) ?_
  refine px_bipush hG dX7_init_24 (by decide) ?_
  refine px_mnaJ hG dX7_init_26 (c := 33) (M := 11) (N := 11) ⟨rfl, ml_X7_15⟩ (by decide) (Nat.le_of_ble_eq_true rfl) (fun r i => (S7 33 r i (by decide)).trans (hZ 33 r i (by decide))) ⟨Nat.le_of_ble_eq_true rfl, Nat.le_of_ble_eq_true rfl⟩ ?_
  show G 30 [some (.inr (.inr (31, 0))), some (.inr (.inr (1, 0)))] [.inr (.inr (33, (-1))), .inr (.inr (31, 0))] 85 s6
  refine px_putR hG dX7_init_30 (k := 3) rfl ⟨rfl, fl_X7_20, rfl, by decide +kernel, rfl⟩ (by decide) (fun s9 (es9 : s9 = pm_up s6 31 1 3 1) => ?_)
  have S10 := pm_st_up S7 es9 (by decide)
  have D11 := pm_dn_up [(1, 3, 1), (1, 2, 1), (0, 1, 0)] D8 es9 (by decide)
  refine px_aload_n hG dX7_init_33 rfl ?_
  refine px_bipush hG dX7_init_34 (by decide) ?_
  refine px_newJ hG dX7_init_36 (c := 34) (N := 11) rfl (by decide) (Nat.le_of_ble_eq_true rfl) (fun r i => (S10 34 r i (by decide)).trans (hZ 34 r i (by decide))) (Nat.le_of_ble_eq_true rfl) ?_
  show G 38 [some (.inr (.inr (31, 0))), some (.inr (.inr (1, 0)))] [.inr (.inr (34, 0)), .inr (.inr (31, 0))] 86 s9
  refine px_putR hG dX7_init_38 (k := 4) rfl ⟨rfl, fl_X7_23, rfl, by decide +kernel, rfl⟩ (by decide) (fun s12 (es12 : s12 = pm_up s9 31 1 4 1) => ?_)
  have S13 := pm_st_up S10 es12 (by decide)
  have D14 := pm_dn_up [(1, 4, 1), (1, 3, 1), (1, 2, 1), (0, 1, 0)] D11 es12 (by decide)
  refine px_aload_n hG dX7_init_41 rfl ?_
  refine px_aload_n hG dX7_init_42 rfl ?_
  refine px_putR hG dX7_init_43 (k := 0) rfl ⟨rfl, fl_X7_27, rfl, by decide +kernel, rfl⟩ (by decide) (fun s15 (es15 : s15 = pm_up s12 31 1 0 1) => ?_)
  have S16 := pm_st_up S13 es15 (by decide)
  have D17 := pm_dn_up [(1, 0, 1), (1, 4, 1), (1, 3, 1), (1, 2, 1), (0, 1, 0)] D14 es15 (by decide)
  refine px_aload_n hG dX7_init_46 rfl ?_
  refine px_getR hG dX7_init_47 (k := 2) ⟨rfl, fl_X7_17, rfl⟩ (by decide) (D17 (1, 2, 1) (by decide)) ?_
  refine px_iconst hG dX7_init_50 ?_
  refine px_aald hG dX7_init_51 (c := 32) ⟨rfl, by decide⟩ (by decide) ⟨by decide, by decide⟩ ?_
  refine px_iconst hG dX7_init_52 ?_
  refine px_lconst hG dX7_init_53 ?_
  show G 54 [some (.inr (.inr (31, 0))), some (.inr (.inr (1, 0)))] [.inr (.inl 1), .inl 0, .inr (.inr (32, 0))] 86 s15
  have S19 := pm_st_mono (S' := [31, 32, 33]) S16 (by decide)
  refine px_last2 hG dX7_init_54 (c := 32) rfl (by decide) ⟨by decide, by decide⟩ ⟨by decide, by decide⟩ (fun s18 (es18 : s18 = pm_up s15 32 0 0 1) => ?_)
  have S20 := pm_st_up S19 es18 (by decide)
  have D21 := pm_dn_c D17 (fun r i => pm_nec (r' := r) (i' := i) es18 (by decide))
  refine px_aload_n hG dX7_init_55 rfl ?_
  refine px_getR hG dX7_init_56 (k := 3) ⟨rfl, fl_X7_20, rfl⟩ (by decide) (D21 (1, 3, 1) (by decide)) ?_
  refine px_iconst hG dX7_init_59 ?_
  refine px_aald hG dX7_init_60 (c := 33) ⟨rfl, by decide⟩ (by decide) ⟨by decide, by decide⟩ ?_
  refine px_iconst hG dX7_init_61 ?_
  refine px_lconst hG dX7_init_62 ?_
  show G 63 [some (.inr (.inr (31, 0))), some (.inr (.inr (1, 0)))] [.inr (.inl 1), .inl 0, .inr (.inr (33, 0))] 86 s18
  refine px_last2 hG dX7_init_63 (c := 33) rfl (by decide) ⟨by decide, by decide⟩ ⟨by decide, by decide⟩ (fun s22 (es22 : s22 = pm_up s18 33 0 0 1) => ?_)
  have S23 := pm_st_up S20 es22 (by decide)
  have D24 := pm_dn_c D21 (fun r i => pm_nec (r' := r) (i' := i) es22 (by decide))
  have OK : pm_okR 60 86 s22 := fun c r i h1 h2 => by
    have q := pm_cs (P := fun c => c ∈ [31, 32, 33, 34]) (Nat.le_of_ble_eq_true rfl) (by decide +kernel) c h1 h2
    simp only [List.mem_cons, List.not_mem_nil, or_false] at q
    rcases q with rfl | rfl | rfl | rfl
    · exact ⟨fun a b => by rw [a, b]; exact D24 (1, 0, 1) (by decide), fun a b => by rw [a, b, show s22 31 0 1 = 0 from D24 (0, 1, 0) (by decide)]; decide, fun a b => by rw [a, b]; exact D24 (1, 2, 1) (by decide), fun a b => by rw [a, b]; exact D24 (1, 3, 1) (by decide), fun a b => by rw [a, b]; exact D24 (1, 4, 1) (by decide)⟩
    · exact trivial
    · exact trivial
    · rw [S23 34 r i (by decide), hZ 34 r i (by decide)]
      exact pm_z_34 r i
  have Z32 : ∀ r i : Int, s15 32 r i = 0 := fun r i => (S16 32 r i (by decide)).trans (hZ 32 r i (by decide))
  have Z33 : ∀ r i : Int, s15 33 r i = 0 := fun r i => (S16 33 r i (by decide)).trans (hZ 33 r i (by decide))
  exact px_vret (st := []) hG dX7_init_64 rfl rfl (fun _ => by exact ⟨rfl, pm_lo_st S23 (by decide), pm_ZA_st S23 hZ (by decide) (by decide), OK, D24 (0, 1, 0) (by decide), fun r i => (pm_nec es22 (by decide)).trans (pm_one es18 (Z32 r i)), fun r i => pm_one es22 ((pm_nec es18 (by decide)).trans (Z33 r i))⟩))
def pre_X6_init (as : List pm_V) (n : Nat) (σ : pm_H) : Prop := as = [.inr (.inr (35, 0))] ∧ n = 87 ∧ pm_ZA 86 σ
def po_X6_init (as : List pm_V) (_ : Nat) (σ : pm_H) (r : Option pm_V) (τ : pm_H) : Prop := as = [.inr (.inr (35, 0))] → r = none ∧ pm_lo 86 σ τ ∧ pm_ZA 94 τ ∧ pm_okR 86 94 τ ∧ (∀ q : Int, 0 ≤ q → q < 4 → τ 36 0 q = -1) ∧ ∀ q : Int, τ 37 0 q = 0
set_option maxRecDepth 20000 in
set_option maxHeartbeats 4000000 in
theorem ct_X6_init : pm_Ct yX6_init cX6_init 2 none 1 7 pre_X6_init po_X6_init := pm_sound (ini := true) (by decide +kernel) pk_X6_init (fun _ => rfl) (by
  rintro as n s0 ⟨rfl, rfl, hZ⟩
  refine ⟨by decide, Nat.le_of_ble_eq_true rfl, fun G hG => ?_⟩
  have hG : pm_Rules (RX6, 1, 94, cX6_init, -1, (fun _ => 0), true, none, po_X6_init [.inr (.inr (35, 0))] 87 s0) G := hG
  show G 0 [some (.inr (.inr (35, 0))), none] [] 87 s0
  have S1 := pm_st_rf [35] s0
  have D2 : pm_dn 35 ([] : List (Int × Int × Int)) s0 := pm_dn_z hZ (by decide) (by decide)
  refine px_aload_n hG dX6_init_0 rfl ?_
  refine px_obj hG dX6_init_1 lo_X6_3 (Nat.le_of_ble_eq_true rfl) (Nat.le_of_ble_eq_true rfl) ?_
  refine px_aload_n hG dX6_init_4 rfl ?_
  refine px_iconst hG dX6_init_5 ?_
  refine px_newI hG dX6_init_6 (c := 36) (N := 4) rfl (by decide) (Nat.le_of_ble_eq_true rfl) (fun r i => (S1 36 r i (by decide)).trans (hZ 36 r i (by decide))) (Nat.le_of_ble_eq_true rfl) ?_
  show G 8 [some (.inr (.inr (35, 0))), none] [.inr (.inr (36, 0)), .inr (.inr (35, 0))] 88 s0
  refine px_putR hG dX6_init_8 (k := 0) rfl ⟨rfl, fl_X6_9, rfl, by decide +kernel, rfl⟩ (by decide) (fun s3 (es3 : s3 = pm_up s0 35 1 0 1) => ?_)
  have S4 := pm_st_up S1 es3 (by decide)
  have D5 := pm_dn_up [(1, 0, 1)] D2 es3 (by decide)
  refine px_aload_n hG dX6_init_11 rfl ?_
  refine px_iconst hG dX6_init_12 ?_
  refine px_newI hG dX6_init_13 (c := 37) (N := 4) rfl (by decide) (Nat.le_of_ble_eq_true rfl) (fun r i => (S4 37 r i (by decide)).trans (hZ 37 r i (by decide))) (Nat.le_of_ble_eq_true rfl) ?_
  show G 15 [some (.inr (.inr (35, 0))), none] [.inr (.inr (37, 0)), .inr (.inr (35, 0))] 89 s3
  refine px_putR hG dX6_init_15 (k := 1) rfl ⟨rfl, fl_X6_15, rfl, by decide +kernel, rfl⟩ (by decide) (fun s6 (es6 : s6 = pm_up s3 35 1 1 1) => ?_)
  have S7 := pm_st_up S4 es6 (by decide)
  have D8 := pm_dn_up [(1, 1, 1), (1, 0, 1)] D5 es6 (by decide)
  refine px_aload_n hG dX6_init_18 rfl ?_
  refine px_iconst hG dX6_init_19 ?_
  refine px_bipush hG dX6_init_20 (by decide) ?_
  refine px_mnaI hG dX6_init_22 (c := 38) (M := 4) (N := 20) ⟨rfl, ml_X6_18⟩ (by decide) (Nat.le_of_ble_eq_true rfl) (fun r i => (S7 38 r i (by decide)).trans (hZ 38 r i (by decide))) ⟨Nat.le_of_ble_eq_true rfl, Nat.le_of_ble_eq_true rfl⟩ ?_
  show G 26 [some (.inr (.inr (35, 0))), none] [.inr (.inr (38, (-1))), .inr (.inr (35, 0))] 94 s6
  refine px_putR hG dX6_init_26 (k := 2) rfl ⟨rfl, fl_X6_20, rfl, by decide +kernel, rfl⟩ (by decide) (fun s9 (es9 : s9 = pm_up s6 35 1 2 1) => ?_)
  have S10 := pm_st_up S7 es9 (by decide)
  have D11 := pm_dn_up [(1, 2, 1), (1, 1, 1), (1, 0, 1)] D8 es9 (by decide)
  refine px_iconst hG dX6_init_29 ?_
  refine px_istore_n hG dX6_init_30 (Nat.le_of_ble_eq_true rfl) (L2 := [some (.inr (.inr (35, 0))), some (.inl 0)]) rfl ?_
  have SQ : ∀ r i : Int, s9 36 r i = 0 := fun r i => (S10 36 r i (by decide)).trans (hZ 36 r i (by decide))
  have L31 : ∀ (N : Nat) (v : Int) (s : pm_H), 0 ≤ v → v ≤ 4 → pm_st [35, 36] s0 s → pm_dn 35 [(1, 2, 1), (1, 1, 1), (1, 0, 1)] s → (∀ r i : Int, -1 ≤ s 36 r i ∧ s 36 r i ≤ 0) → (∀ q : Int, 0 ≤ q → q < v → s 36 0 q = -1) → (10001 - v).toNat < N → G 31 [some (.inr (.inr (35, 0))), some (.inl v)] [] 94 s := by
    intro N
    induction N with
    | zero => intro v s _ _ _ _ _ _ hm; exact absurd hm (Nat.not_lt_zero _)
    | succ N ih =>
      intro v s h0 h4 S D B Q hm
      refine px_iload_n hG dX6_init_31 rfl ?_
      refine px_iconst hG dX6_init_32 ?_
      refine px_ic_ge hG dX6_init_33 (tgt := 49) (by decide) ⟨by omega, by omega⟩ ⟨by omega, by omega⟩ (fun c => ?_) (fun c => ?_)
      · have QQ : ∀ q : Int, 0 ≤ q → q < 4 → s 36 0 q = -1 := fun q a b => Q q a (by omega)
        have OK : pm_okR 86 94 s := fun c r i h1 h2 => by
          have q := pm_cs (P := fun c => c ∈ [35, 36, 37, 38]) (Nat.le_of_ble_eq_true rfl) (by decide +kernel) c h1 h2
          simp only [List.mem_cons, List.not_mem_nil, or_false] at q
          rcases q with rfl | rfl | rfl | rfl
          · exact ⟨fun a b => by rw [a, b]; exact D (1, 0, 1) (by decide), fun a b => by rw [a, b]; exact D (1, 1, 1) (by decide), fun a b => by rw [a, b]; exact D (1, 2, 1) (by decide)⟩
          · exact ⟨(B r i).1, by have := (B r i).2; omega⟩
          · rw [S 37 r i (by decide), hZ 37 r i (by decide)]
            exact pm_z_37 r i
          · rw [S 38 r i (by decide), hZ 38 r i (by decide)]
            exact pm_z_38 r i
        exact px_vret (st := []) hG dX6_init_49 rfl rfl (fun _ => by exact ⟨rfl, pm_lo_st S (by decide), pm_ZA_st S hZ (by decide) (by decide), OK, QQ, fun q => (S 37 0 q (by decide)).trans (hZ 37 0 q (by decide))⟩)
      · refine px_aload_n hG dX6_init_36 rfl ?_
        refine px_getR hG dX6_init_37 (k := 0) ⟨rfl, fl_X6_9, rfl⟩ (by decide) (D (1, 0, 1) (by decide)) ?_
        refine px_iload_n hG dX6_init_40 rfl ?_
        refine px_iconst hG dX6_init_41 ?_
        refine px_iast hG dX6_init_42 (c := 36) rfl (by decide) ⟨by omega, by omega⟩ (fun t (e : t = pm_up s 36 0 v (-1)) => ?_)
        refine px_iinc hG dX6_init_43 (Nat.le_of_ble_eq_true rfl) rfl (L2 := [some (.inr (.inr (35, 0))), some (.inl (v + 1))]) rfl ?_
        refine px_goto hG dX6_init_46 (tgt := 31) (by decide) ?_
        refine ih (v + 1) t (by omega) (by omega) (pm_st_up S e (by decide)) (pm_dn_c D (fun r i => pm_nec (r' := r) (i' := i) e (by decide))) (fun r i => ?_) (fun q a b => ?_) (by omega)
        · by_cases z : r = 0 ∧ i = v
          · rw [z.1, z.2, pm_at e]
            omega
          · rw [e, pm_up_ne (fun y => z y.2)]
            exact B r i
        · by_cases z : q = v
          · rw [z]
            exact pm_at e
          · rw [pm_nei e z]
            exact Q q a (by omega)
  exact L31 _ 0 s9 (by omega) (by omega) (pm_st_mono S10 (by decide)) D11 (fun r i => by rw [SQ r i]; omega) (fun q a b => by omega) (Nat.lt_succ_self _))
def pre_X1_init (as : List pm_V) (n : Nat) (σ : pm_H) : Prop := as = [.inr (.inr (1, 0))] ∧ n = 2 ∧ pm_ZA 1 σ
def po_X1_init (as : List pm_V) (_ : Nat) (σ : pm_H) (r : Option pm_V) (τ : pm_H) : Prop := as = [.inr (.inr (1, 0))] → r = none ∧ pm_lo 1 σ τ ∧ pm_ZA 14 τ ∧ pm_okR 1 14 τ ∧ pm_CT τ
set_option maxRecDepth 20000 in
set_option maxHeartbeats 4000000 in
theorem ct_X1_init : pm_Ct yX1_init cX1_init 3 none 1 12 pre_X1_init po_X1_init := pm_sound (ini := true) (by decide +kernel) pk_X1_init (fun _ => rfl) (by
  rintro as n s0 ⟨rfl, rfl, hZ⟩
  refine ⟨by decide, Nat.le_of_ble_eq_true rfl, fun G hG => ?_⟩
  have hG : pm_Rules (RX1, 1, 14, cX1_init, -1, (fun _ => 0), true, none, po_X1_init [.inr (.inr (1, 0))] 2 s0) G := hG
  show G 0 [some (.inr (.inr (1, 0))), none, none] [] 2 s0
  have S1 := pm_st_rf [1] s0
  have D2 : pm_dn 1 ([] : List (Int × Int × Int)) s0 := pm_dn_z hZ (by decide) (by decide)
  refine px_aload_n hG dX1_init_0 rfl ?_
  refine px_obj hG dX1_init_1 lo_X1_3 (Nat.le_of_ble_eq_true rfl) (Nat.le_of_ble_eq_true rfl) ?_
  refine px_aload_n hG dX1_init_4 rfl ?_
  refine px_bipush hG dX1_init_5 (by decide) ?_
  refine px_bipush hG dX1_init_7 (by decide) ?_
  refine px_mnaI hG dX1_init_9 (c := 2) (M := 11) (N := 11) ⟨rfl, ml_X1_9⟩ (by decide) (Nat.le_of_ble_eq_true rfl) (fun r i => (S1 2 r i (by decide)).trans (hZ 2 r i (by decide))) ⟨Nat.le_of_ble_eq_true rfl, Nat.le_of_ble_eq_true rfl⟩ ?_
  show G 13 [some (.inr (.inr (1, 0))), none, none] [.inr (.inr (2, (-1))), .inr (.inr (1, 0))] 14 s0
  refine px_putR hG dX1_init_13 (k := 0) rfl ⟨rfl, fl_X1_11, rfl, by decide +kernel, rfl⟩ (by decide) (fun s3 (es3 : s3 = pm_up s0 1 1 0 1) => ?_)
  have S4 := pm_st_up S1 es3 (by decide)
  have D5 := pm_dn_up [(1, 0, 1)] D2 es3 (by decide)
  refine px_iconst hG dX1_init_16 ?_
  refine px_istore_n hG dX1_init_17 (Nat.le_of_ble_eq_true rfl) (L2 := [some (.inr (.inr (1, 0))), some (.inl 0), none]) rfl ?_
  have SQ : ∀ r i : Int, s3 2 r i = 0 := fun r i => (S4 2 r i (by decide)).trans (hZ 2 r i (by decide))
  have L18 : ∀ (N : Nat) (v : Int) (s : pm_H), 0 ≤ v → v ≤ 11 → pm_st [1, 2] s0 s → pm_dn 1 [(1, 0, 1)] s → (∀ r i : Int, -2147483648 ≤ s 2 r i ∧ s 2 r i ≤ 2147483647) → pm_tb s v 0 → (10001 - v).toNat < N → G 18 [some (.inr (.inr (1, 0))), some (.inl v), none] [] 14 s := by
    intro N
    induction N with
    | zero => intro v s _ _ _ _ _ _ hm; exact absurd hm (Nat.not_lt_zero _)
    | succ N ih =>
      intro v s h0 h4 S D B P hm
      refine px_iload_n hG dX1_init_18 rfl ?_
      refine px_bipush hG dX1_init_19 (by decide) ?_
      refine px_ic_gt hG dX1_init_21 (tgt := 83) (by decide) ⟨by omega, by omega⟩ ⟨by omega, by omega⟩ (fun c => ?_) (fun c => ?_)
      · have BB := B
        have OK : pm_okR 1 14 s := fun c r i h1 h2 => by
          have q := pm_cs (P := fun c => c ∈ [1, 2]) (Nat.le_of_ble_eq_true rfl) (by decide +kernel) c h1 h2
          simp only [List.mem_cons, List.not_mem_nil, or_false] at q
          rcases q with rfl | rfl
          · exact fun a b => by rw [a, b]; exact D (1, 0, 1) (by decide)
          · exact B r i
        exact px_vret (st := []) hG dX1_init_83 rfl rfl (fun _ => by exact ⟨rfl, pm_lo_st S (by decide), pm_ZA_st S hZ (by decide) (by decide), OK, pm_tb_e P (by omega)⟩)
      · refine px_aload_n hG dX1_init_24 rfl ?_
        refine px_getR hG dX1_init_25 (k := 0) ⟨rfl, fl_X1_11, rfl⟩ (by decide) (D (1, 0, 1) (by decide)) ?_
        refine px_iload_n hG dX1_init_28 rfl ?_
        refine px_aald hG dX1_init_29 (c := 2) ⟨rfl, by decide⟩ (by decide) ⟨by omega, by omega⟩ ?_
        refine px_iconst hG dX1_init_30 ?_
        refine px_iconst hG dX1_init_31 ?_
        refine px_iast2 hG dX1_init_32 (c := 2) rfl (by decide) ⟨by decide, by decide⟩ ⟨by omega, by omega⟩ (fun t (e : t = pm_up s 2 v 0 1) => ?_)
        refine px_iconst hG dX1_init_33 ?_
        refine px_istore_n hG dX1_init_34 (Nat.le_of_ble_eq_true rfl) (L2 := [some (.inr (.inr (1, 0))), some (.inl v), some (.inl 1)]) rfl ?_
        have L35 : ∀ (M : Nat) (b : Int) (s : pm_H), 1 ≤ b → b ≤ 11 → pm_st [1, 2] s0 s → pm_dn 1 [(1, 0, 1)] s → (∀ r i : Int, -2147483648 ≤ s 2 r i ∧ s 2 r i ≤ 2147483647) → pm_tb s v b → (10001 - b).toNat < M → G 35 [some (.inr (.inr (1, 0))), some (.inl v), some (.inl b)] [] 14 s := by
          intro M
          induction M with
          | zero => intro b s _ _ _ _ _ _ hm; exact absurd hm (Nat.not_lt_zero _)
          | succ M ih2 =>
            intro b s b0 b1 S D B P hm2
            refine px_iload_n hG dX1_init_35 rfl ?_
            refine px_iload_n hG dX1_init_36 rfl ?_
            refine px_ic_gt hG dX1_init_37 (tgt := 77) (by decide) ⟨by omega, by omega⟩ ⟨by omega, by omega⟩ (fun c2 => ?_) (fun c2 => ?_)
            · refine px_iinc hG dX1_init_77 (Nat.le_of_ble_eq_true rfl) rfl (L2 := [some (.inr (.inr (1, 0))), some (.inl (v + 1)), some (.inl b)]) rfl ?_
              refine px_goto hG dX1_init_80 (tgt := 18) (by decide) ?_
              refine px_weak hG (L2 := [some (.inr (.inr (1, 0))), some (.inl (v + 1)), none]) ⟨Or.inr rfl, Or.inr rfl, Or.inl rfl, trivial⟩ ?_
              exact ih (v + 1) s (by omega) (by omega) S D B (pm_tb_n P (by omega) (by omega)) (by omega)
            · refine px_aload_n hG dX1_init_40 rfl ?_
              refine px_getR hG dX1_init_41 (k := 0) ⟨rfl, fl_X1_11, rfl⟩ (by decide) (D (1, 0, 1) (by decide)) ?_
              refine px_iload_n hG dX1_init_44 rfl ?_
              refine px_aald hG dX1_init_45 (c := 2) ⟨rfl, by decide⟩ (by decide) ⟨by omega, by omega⟩ ?_
              refine px_iload_n hG dX1_init_46 rfl ?_
              refine px_aload_n hG dX1_init_47 rfl ?_
              refine px_getR hG dX1_init_48 (k := 0) ⟨rfl, fl_X1_11, rfl⟩ (by decide) (D (1, 0, 1) (by decide)) ?_
              refine px_iload_n hG dX1_init_51 rfl ?_
              refine px_iconst hG dX1_init_52 ?_
              refine px_isub hG dX1_init_53 ?_
              refine px_aald hG dX1_init_54 (c := 2) ⟨rfl, by decide⟩ (by decide) ⟨by omega, by omega⟩ ?_
              refine px_iload_n hG dX1_init_55 rfl ?_
              refine px_iconst hG dX1_init_56 ?_
              refine px_isub hG dX1_init_57 ?_
              refine px_iald2 hG dX1_init_58 (c := 2) rfl (by decide) ⟨by omega, by omega⟩ ⟨by omega, by omega⟩ rfl ?_
              refine px_aload_n hG dX1_init_59 rfl ?_
              refine px_getR hG dX1_init_60 (k := 0) ⟨rfl, fl_X1_11, rfl⟩ (by decide) (D (1, 0, 1) (by decide)) ?_
              refine px_iload_n hG dX1_init_63 rfl ?_
              refine px_iconst hG dX1_init_64 ?_
              refine px_isub hG dX1_init_65 ?_
              refine px_aald hG dX1_init_66 (c := 2) ⟨rfl, by decide⟩ (by decide) ⟨by omega, by omega⟩ ?_
              refine px_iload_n hG dX1_init_67 rfl ?_
              refine px_iald2 hG dX1_init_68 (c := 2) rfl (by decide) ⟨by omega, by omega⟩ ⟨by omega, by omega⟩ rfl ?_
              refine px_iadd hG dX1_init_69 ?_
              refine px_norm hG ?_
              refine px_iast2 hG dX1_init_70 (c := 2) rfl (by decide) ⟨by omega, by omega⟩ ⟨by omega, by omega⟩ (fun t (e : t = pm_up s 2 v b (pm_wrap (s 2 (v - 1) (b - 1) + s 2 (v - 1) b))) => ?_)
              refine px_iinc hG dX1_init_71 (Nat.le_of_ble_eq_true rfl) rfl (L2 := [some (.inr (.inr (1, 0))), some (.inl v), some (.inl (b + 1))]) rfl ?_
              refine px_goto hG dX1_init_74 (tgt := 35) (by decide) ?_
              refine ih2 (b + 1) t (by omega) (by omega) (pm_st_up S e (by decide)) (pm_dn_c D (fun r i => pm_nec (r' := r) (i' := i) e (by decide))) (fun r i => ?_) (pm_tb_s P e (by omega) (by omega) (by omega)) (by omega)
              by_cases z : r = v ∧ i = b
              · rw [z.1, z.2, pm_at e]
                exact pm_wrap_in _
              · rw [e, pm_up_ne (fun y => z y.2)]
                exact B r i
        refine L35 _ 1 t (by omega) (by omega) (pm_st_up S e (by decide)) (pm_dn_c D (fun r i => pm_nec (r' := r) (i' := i) e (by decide))) (fun r i => ?_) (pm_tb_1 P e) (Nat.lt_succ_self _)
        by_cases z : r = v ∧ i = 0
        · rw [z.1, z.2, pm_at e]
          omega
        · rw [e, pm_up_ne (fun y => z y.2)]
          exact B r i
  exact L18 _ 0 s3 (by omega) (by omega) (pm_st_mono S4 (by decide)) D5 (fun r i => by rw [SQ r i]; omega) (pm_tb_0 SQ) (Nat.lt_succ_self _))
