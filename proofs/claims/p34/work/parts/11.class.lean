
def pm_sc (f : Int → Int) (v c : Int) : Nat → Int
  | 0 => 0
  | k + 1 => pm_sc f v c k + (if 1 ≤ f ((k : Int) + 1) ∧ (f ((k : Int) + 1) < v ∨ (f ((k : Int) + 1) = v ∧ ((k : Int) + 1) < c)) then 1 else 0)
def pm_gt (f : Int → Int) (p : Int) : Nat → Int
  | 0 => 0
  | k + 1 => pm_gt f p k + (if p < f ((k : Int) + 1) then 1 else 0)
def pm_gd (f : Int → Int) (k : Nat) : Prop := (∀ j : Int, 1 ≤ j → j ≤ k → 1 ≤ f j) ∧ ∀ p : Int, 0 ≤ p → p ≤ k → pm_gt f p k ≤ k - p
def pm_t1 : Nat → Int
  | 0 => 0
  | k + 1 => pm_t1 k + k
theorem pm_sc_nn (f : Int → Int) (v c : Int) (k : Nat) : 0 ≤ pm_sc f v c k := by
  induction k with
  | zero => simp only [pm_sc]; omega
  | succ k ih => simp only [pm_sc]; split <;> omega
theorem pm_sc_le (f : Int → Int) (v c : Int) (k : Nat) : pm_sc f v c k ≤ k := by
  induction k with
  | zero => simp only [pm_sc]; omega
  | succ k ih => simp only [pm_sc]; split <;> omega
theorem pm_sc_0 (f : Int → Int) (k : Nat) : pm_sc f 1 1 k = 0 := by
  induction k with
  | zero => rfl
  | succ k ih => simp only [pm_sc]; rw [if_neg (by omega)]; omega
theorem pm_sc_far {f : Int → Int} {v c : Int} {k : Nat} (h : (k : Int) < c) : pm_sc f v (c + 1) k = pm_sc f v c k := by
  induction k with
  | zero => rfl
  | succ k ih =>
    simp only [pm_sc]
    rw [ih (by omega)]
    split <;> split <;> omega
theorem pm_sc_up {f : Int → Int} {v c : Int} {k : Nat} (h : f c = v) (h1 : 1 ≤ v) (h2 : 1 ≤ c) (h3 : c ≤ k) : pm_sc f v (c + 1) k = pm_sc f v c k + 1 := by
  induction k with
  | zero => omega
  | succ k ih =>
    simp only [pm_sc]
    by_cases q : (k : Int) + 1 = c
    · rw [pm_sc_far (k := k) (by omega), q]
      split <;> split <;> omega
    · rw [ih (by omega)]
      split <;> split <;> omega
theorem pm_sc_st {f : Int → Int} {v c : Int} {k : Nat} (h : f c ≠ v) : pm_sc f v (c + 1) k = pm_sc f v c k := by
  induction k with
  | zero => rfl
  | succ k ih =>
    simp only [pm_sc]
    rw [ih]
    by_cases q : (k : Int) + 1 = c
    · rw [q]
      split <;> split <;> omega
    · split <;> split <;> omega
theorem pm_sc_nx {f : Int → Int} {v c : Int} {k : Nat} (h : (k : Int) < c) : pm_sc f (v + 1) 1 k = pm_sc f v c k := by
  induction k with
  | zero => rfl
  | succ k ih =>
    simp only [pm_sc]
    rw [ih (by omega)]
    split <;> split <;> omega
theorem pm_sc_mono {f : Int → Int} {v c : Int} {k : Nat} (h : 1 ≤ c) : pm_sc f v 1 k ≤ pm_sc f v c k := by
  induction k with
  | zero => exact Int.le_refl _
  | succ k ih =>
    simp only [pm_sc]
    split <;> split <;> omega
theorem pm_sc_add {f : Int → Int} {v : Int} {k : Nat} (h : ∀ j : Int, 1 ≤ j → j ≤ k → 1 ≤ f j) : pm_sc f v 1 k + pm_gt f (v - 1) k = k := by
  induction k with
  | zero => rfl
  | succ k ih =>
    simp only [pm_sc, pm_gt]
    have h1 := ih (fun j a b => h j a (by omega))
    have h2 := h ((k : Int) + 1) (by omega) (by omega)
    split <;> split <;> omega
theorem pm_sc_gd {f : Int → Int} {v c : Int} {k : Nat} (hg : pm_gd f k) (h1 : 1 ≤ v) (h2 : v ≤ k) (h3 : 1 ≤ c) : v - 1 ≤ pm_sc f v c k := by
  have a := pm_sc_add (v := v) hg.1
  have b := hg.2 (v - 1) (by omega) (by omega)
  have c := pm_sc_mono (f := f) (v := v) (k := k) h3
  omega
theorem pm_sc_gdall {f : Int → Int} {v : Int} {k : Nat} (hg : pm_gd f k) (h1 : v = k + 1) : pm_sc f v 1 k = k := by
  have a := pm_sc_add (v := v) hg.1
  have b := hg.2 (v - 1) (by omega) (by omega)
  have c := pm_sc_le f v 1 k
  omega
theorem pm_gt_nn (f : Int → Int) (p : Int) (k : Nat) : 0 ≤ pm_gt f p k := by
  induction k with
  | zero => simp only [pm_gt]; omega
  | succ k ih => simp only [pm_gt]; split <;> omega
theorem pm_gt_le (f : Int → Int) (p : Int) (k : Nat) : pm_gt f p k ≤ k := by
  induction k with
  | zero => simp only [pm_gt]; omega
  | succ k ih => simp only [pm_gt]; split <;> omega
theorem pm_gt_s (f : Int → Int) (p : Int) {a : Int} (h : 1 ≤ a) : pm_gt f p (a + 1 - 1).toNat = pm_gt f p (a - 1).toNat + (if p < f a then 1 else 0) := by
  have e : (a + 1 - 1).toNat = (a - 1).toNat + 1 := by omega
  have e2 : (((a - 1).toNat : Nat) : Int) + 1 = a := by omega
  rw [e]
  simp only [pm_gt]
  rw [e2]
theorem pm_gt_cg {f g : Int → Int} {p : Int} {k : Nat} (h : ∀ i : Int, 1 ≤ i → i ≤ k → f i = g i) : pm_gt f p k = pm_gt g p k := by
  induction k with
  | zero => rfl
  | succ k ih =>
    simp only [pm_gt]
    rw [ih (fun i a b => h i a (by omega)), h ((k : Int) + 1) (by omega) (by omega)]
theorem pm_gt_eq {f g : Int → Int} (h : ∀ i : Int, f i = g i) {p : Int} {k : Nat} : pm_gt f p k = pm_gt g p k := pm_gt_cg (fun i _ _ => h i)
theorem pm_gd_eq {f g : Int → Int} {k : Nat} (hg : pm_gd f k) (h : ∀ i : Int, g i = f i) : pm_gd g k := ⟨fun j a b => by rw [h j]; exact hg.1 j a b, fun p a b => by rw [pm_gt_eq h]; exact hg.2 p a b⟩
theorem pm_gt_mono {f : Int → Int} {p : Int} {a : Nat} (b : Nat) : pm_gt f p a ≤ pm_gt f p (a + b) := by
  induction b with
  | zero => exact Int.le_refl _
  | succ b ih =>
    have e : a + (b + 1) = (a + b) + 1 := by omega
    rw [e]
    simp only [pm_gt]
    split <;> omega
theorem pm_gt_z {g : Int → Int} {p : Int} {a : Nat} (b : Nat) (h : ∀ i : Int, (a : Int) < i → i ≤ (a + b : Nat) → g i ≤ p) : pm_gt g p (a + b) = pm_gt g p a := by
  induction b with
  | zero => rfl
  | succ b ih =>
    have e : a + (b + 1) = (a + b) + 1 := by omega
    rw [e]
    simp only [pm_gt]
    have h1 := h (((a + b : Nat) : Int) + 1) (by omega) (by omega)
    rw [ih (fun i x y => h i x (by omega)), if_neg (by omega)]
    omega
theorem pm_gd_step {f g : Int → Int} {k : Nat} {c : Int} (hg : pm_gd f k) (h1 : 1 ≤ c) (h2 : c ≤ k) (h3 : pm_gt f (f c) (c - 1).toNat + 1 ≤ k - f c) (h : ∀ i : Int, 1 ≤ i → i ≤ k → g i = if i < c then f i else if i = c then f c + 1 else 1) : pm_gd g k := by
  have hc := hg.1 c h1 h2
  refine ⟨fun j a b => ?_, fun p a b => ?_⟩
  · rw [h j a b]
    have := hg.1 j a b
    split
    · exact this
    · split <;> omega
  · by_cases p0 : p = 0
    · have := pm_gt_le g p k
      omega
    obtain ⟨m, hm⟩ : ∃ m : Nat, (c - 1).toNat = m := ⟨_, rfl⟩
    obtain ⟨b, hb⟩ : ∃ b : Nat, k = (m + 1) + b := ⟨k - (m + 1), by omega⟩
    have e1 : ((m : Nat) : Int) + 1 = c := by omega
    have g1 : pm_gt g p k = pm_gt g p (m + 1) := by
      rw [hb]
      refine pm_gt_z b (fun i x y => ?_)
      rw [h i (by omega) (by omega), if_neg (by omega), if_neg (by omega)]
      omega
    have g2 : pm_gt g p m = pm_gt f p m := pm_gt_cg (fun i x y => by rw [h i x (by omega), if_pos (by omega)])
    have g3 : g c = f c + 1 := by rw [h c h1 h2, if_neg (by omega), if_pos rfl]
    have g4 : pm_gt g p (m + 1) = pm_gt f p m + (if p < f c + 1 then 1 else 0) := by
      simp only [pm_gt]
      rw [e1, g2, g3]
    have f1 : pm_gt f p (m + 1) = pm_gt f p m + (if p < f c then 1 else 0) := by
      simp only [pm_gt]
      rw [e1]
    have f2 := pm_gt_mono (f := f) (p := p) (a := m + 1) b
    rw [← hb] at f2
    have f3 := hg.2 p a (by omega)
    rw [hm] at h3
    rw [g1, g4]
    by_cases q : p = f c
    · subst q
      rw [if_pos (by omega)]
      exact h3
    · by_cases q2 : p < f c
      · rw [if_pos (by omega)]
        rw [if_pos q2] at f1
        omega
      · rw [if_neg (by omega)]
        rw [if_neg q2] at f1
        omega
theorem pm_gd_ones {f : Int → Int} {k : Nat} (h : ∀ i : Int, 1 ≤ i → i ≤ k → f i = 1) : pm_gd f k := by
  refine ⟨fun j a b => by rw [h j a b]; omega, fun p a b => ?_⟩
  by_cases q : p = 0
  · have := pm_gt_le f p k
    omega
  · have e := pm_gt_z (g := f) (p := p) (a := 0) k (fun i x y => by rw [h i (by omega) (by omega)]; omega)
    rw [Nat.zero_add] at e
    rw [e]
    simp only [pm_gt]
    omega
theorem pm_t1_s {a : Int} (h : 1 ≤ a) : pm_t1 (a + 1 - 1).toNat = pm_t1 (a - 1).toNat + (a - 1) := by
  have e : (a + 1 - 1).toNat = (a - 1).toNat + 1 := by omega
  rw [e]
  simp only [pm_t1]
  omega
theorem pm_t1_nn (a : Nat) : 0 ≤ pm_t1 a := by
  induction a with
  | zero => exact Int.le_refl _
  | succ a ih => simp only [pm_t1]; omega
theorem pm_t1_a (a b : Nat) : pm_t1 a ≤ pm_t1 (a + b) := by
  induction b with
  | zero => exact Int.le_refl _
  | succ b ih =>
    have e : a + (b + 1) = (a + b) + 1 := by omega
    rw [e]
    simp only [pm_t1]
    omega
theorem pm_t1_m {a b : Nat} : a ≤ b → pm_t1 a ≤ pm_t1 b := fun h => by
  have e := pm_t1_a a (b - a)
  rw [show a + (b - a) = b by omega] at e
  exact e
theorem pm_t1_m2 {a b : Nat} (h : a ≤ b ∨ a ≤ 1) : pm_t1 a ≤ pm_t1 b := by
  rcases h with h | h
  · exact pm_t1_m h
  · have e : pm_t1 1 = 0 := rfl
    have e1 := pm_t1_m h
    have e2 := pm_t1_nn b
    omega
theorem pm_t1_5 {a : Nat} (h : a ≤ 5) : pm_t1 a ≤ 10 := pm_t1_m h
theorem pm_hst {s s1 s2 : pm_H} {v3 v4 x : Int} (e1 : s1 = pm_up s 25 0 (v3 + 1) x) (e2 : s2 = pm_up s1 26 0 (v3 + 1) (v3 + 1 - v4)) (h : ∀ q : Int, 1 ≤ q → q ≤ v3 → 0 ≤ s 26 0 q ∧ s 26 0 q ≤ q - 1) (hv : v4 - 1 ≤ v3) (h4 : 1 ≤ v4) : ∀ q : Int, 1 ≤ q → q ≤ v3 + 1 → 0 ≤ s2 26 0 q ∧ s2 26 0 q ≤ q - 1 := fun q h0 h1 => by
  by_cases z : q = v3 + 1
  · subst z
    rw [pm_at e2]
    omega
  · rw [pm_nei e2 z, pm_nec e1 (by decide)]
    exact h q h0 (by omega)
theorem pm_stp0 {s s1 s0 : pm_H} {c : Nat} {car x : Int} (W : ∀ i : Int, s c 0 i = s0 c 0 i) (e : s1 = pm_up s c 0 car (x + 1)) (hx : s c 0 car = x) : ∀ i : Int, i < car + 1 → s1 c 0 i = if i < car then s0 c 0 i else if i = car then s0 c 0 car + 1 else 1 := fun i h => by
  by_cases q : i = car
  · subst q
    rw [pm_at e, if_neg (by omega), if_pos rfl, ← W, hx]
  · rw [pm_nei e q, if_pos (by omega), W]
theorem pm_stp {s s1 s0 : pm_H} {c : Nat} {car v5 : Int} (U : ∀ i : Int, i < v5 → s c 0 i = if i < car then s0 c 0 i else if i = car then s0 c 0 car + 1 else 1) (e : s1 = pm_up s c 0 v5 1) (h : car < v5) : ∀ i : Int, i < v5 + 1 → s1 c 0 i = if i < car then s0 c 0 i else if i = car then s0 c 0 car + 1 else 1 := fun i hi => by
  by_cases q : i = v5
  · subst q
    rw [pm_at e, if_neg (by omega), if_neg (by omega)]
  · rw [pm_nei e q]
    exact U i (by omega)
/-! ===== Masks, Choices, Book, RisingBook, Tree, Walk ===== -/
theorem pm_zstep {s s' : pm_H} {c : Nat} {v : Int} (h : ∀ i : Int, 0 ≤ i → i < v → s c 0 i = 0) (e : s' = pm_up s c 0 v 0) : ∀ i : Int, 0 ≤ i → i < v + 1 → s' c 0 i = 0 := fun i h0 h1 => by
  by_cases q : i = v
  · subst q
    exact pm_at e
  · rw [pm_nei e q]
    exact h i h0 (by omega)
def pre_X2_moveOn (as : List pm_V) (n : Nat) (σ : pm_H) : Prop := ∃ full sz : Int, as = [.inr (.inr (9, 0)), .inr (.inr (3, 0)), .inl full, .inl sz] ∧ n = 122 ∧ pm_Rng σ ∧ (0 ≤ full ∧ full ≤ 1023 ∧ 0 ≤ sz ∧ sz ≤ 4 ∧ (σ 3 0 0 = 2 → 0 ≤ σ 3 0 2 ∧ σ 3 0 2 ≤ 9))
def po_X2_moveOn (as : List pm_V) (_ : Nat) (σ : pm_H) (r : Option pm_V) (τ : pm_H) : Prop := ∀ full sz : Int, as = [.inr (.inr (9, 0)), .inr (.inr (3, 0)), .inl full, .inl sz] → r = none ∧ pm_Rng τ ∧ pm_Fr [(10, none)] σ τ
set_option maxRecDepth 20000 in
set_option maxHeartbeats 4000000 in
theorem ct_X2_moveOn : pm_Ct yX2_moveOn cX2_moveOn 7 none 2 0 pre_X2_moveOn po_X2_moveOn := pm_sound (ini := false) (by decide +kernel) pk_X2_moveOn (fun h => absurd h (by decide)) (by
  rintro as n s0 ⟨full, sz, rfl, rfl, R0, hpre⟩
  refine ⟨by decide, Nat.le_of_ble_eq_true rfl, fun G hG => ?_⟩
  have hG : pm_Rules (RX2, 2, 122, cX2_moveOn, -1, (fun _ => 0), false, none, po_X2_moveOn [.inr (.inr (9, 0)), .inr (.inr (3, 0)), .inl full, .inl sz] 122 s0) G := hG
  show G 0 [some (.inr (.inr (9, 0))), some (.inr (.inr (3, 0))), some (.inl full), some (.inl sz), none, none, none] [] 122 s0
  refine px_aload_n hG dX2_moveOn_0 rfl ?_
  refine gr_9_0 hG dX2_moveOn_1 fl_X2_9 R0 ?_
  refine px_iload_n hG dX2_moveOn_4 rfl ?_
  refine al_10 hG dX2_moveOn_5 R0 (by omega) (fun x1 ex1 lx1 ux1 => ?_)
  refine px_istore hG dX2_moveOn_6 (Nat.le_of_ble_eq_true rfl) (L2 := [some (.inr (.inr (9, 0))), some (.inr (.inr (3, 0))), some (.inl full), some (.inl sz), some (.inl x1), none, none]) rfl ?_
  refine px_aload_n hG dX2_moveOn_8 rfl ?_
  refine gr_9_0 hG dX2_moveOn_9 fl_X2_9 R0 ?_
  refine px_iload_n hG dX2_moveOn_12 rfl ?_
  refine px_iconst hG dX2_moveOn_13 ?_
  refine as_10 hG dX2_moveOn_14 R0 (by omega) (fun s2 qs2 Rs2 => ?_)
  have Fs2 := pm_Fr_up ((pm_Fr_rf : pm_Fr [(10, none)] s0 s0)) qs2 (M := [(10, none)]) rfl
  refine px_iconst hG dX2_moveOn_15 ?_
  refine px_istore hG dX2_moveOn_16 (Nat.le_of_ble_eq_true rfl) (L2 := [some (.inr (.inr (9, 0))), some (.inr (.inr (3, 0))), some (.inl full), some (.inl sz), some (.inl x1), some (.inl 1), none]) rfl ?_
  have L18 : ∀ (N : Nat) (v5_3 : Int) (s4 : pm_H), pm_Rng s4 → pm_Fr [(10, none)] s0 s4 → ((1 ≤ v5_3 ∧ v5_3 ≤ 10000)) → (10001 - v5_3).toNat < N → G 18 [some (.inr (.inr (9, 0))), some (.inr (.inr (3, 0))), some (.inl full), some (.inl sz), some (.inl x1), some (.inl v5_3), none] [] 122 s4 := by
    intro N
    induction N with
    | zero => intro v5_3 s4 R5 F6 inv8 hm9; exact absurd hm9 (Nat.not_lt_zero _)
    | succ N ih7 =>
      intro v5_3 s4 R5 F6 inv8 hm9
      refine px_iload hG dX2_moveOn_18 rfl ?_
      refine px_aload_n hG dX2_moveOn_20 rfl ?_
      refine gi_3_1 hG dX2_moveOn_21 fl_X2_15 R5 (fun x10 ex10 lx10 ux10 => ?_)
      have ex10 : s0 3 0 1 = x10 := (F6 3 0 1 rfl).symm.trans ex10
      refine px_ic_gt hG dX2_moveOn_24 (tgt := 67) (by decide) ⟨by omega, by omega⟩ ⟨by omega, by omega⟩ (fun c11 => ?_) (fun c11 => ?_)
      · exact px_vret (st := []) hG dX2_moveOn_67 rfl rfl (fun full_1 sz_1 ee => by cases ee; exact ⟨rfl, R5, F6⟩)
      · refine px_aload_n hG dX2_moveOn_27 rfl ?_
        refine px_iload_n hG dX2_moveOn_28 rfl ?_
        refine px_aload_n hG dX2_moveOn_29 rfl ?_
        refine px_iload_n hG dX2_moveOn_30 rfl ?_
        refine px_iload hG dX2_moveOn_31 rfl ?_
        refine jv2 hG dX2_moveOn_33 ct_X5_firstFree lk_X2_31 ⟨rfl, rfl⟩ (by decide) ⟨Nat.le_of_ble_eq_true rfl, Nat.le_of_ble_eq_true rfl, Nat.le_of_ble_eq_true rfl⟩ (Nat.le_of_ble_eq_true rfl) ⟨full, v5_3, rfl, rfl, R5, ⟨by omega, by omega, by rw [F6 3 0 0 rfl, F6 3 0 2 rfl]; exact hpre.2.2.2.2⟩⟩ (fun r12 t13 pr12 => ?_)
        obtain ⟨x14, rfl, rfl, br12⟩ := pr12 _ _ rfl
        show G 36 [some (.inr (.inr (9, 0))), some (.inr (.inr (3, 0))), some (.inl full), some (.inl sz), some (.inl x1), some (.inl v5_3), none] [.inl x14, .inl full, .inr (.inr (3, 0))] 122 s4
        refine px_iload_n hG dX2_moveOn_36 rfl ?_
        refine jv3 hG dX2_moveOn_37 ct_X5_bodyAt lk_X2_35 ⟨rfl, rfl⟩ (by decide) ⟨Nat.le_of_ble_eq_true rfl, Nat.le_of_ble_eq_true rfl, Nat.le_of_ble_eq_true rfl⟩ (Nat.le_of_ble_eq_true rfl) ⟨full, x14, sz, rfl, rfl, R5, by omega⟩ (fun r15 t16 pr15 => ?_)
        obtain ⟨x17, rfl, rfl, br15⟩ := pr15 _ _ _ rfl
        show G 40 [some (.inr (.inr (9, 0))), some (.inr (.inr (3, 0))), some (.inl full), some (.inl sz), some (.inl x1), some (.inl v5_3), none] [.inl x17] 122 s4
        refine px_istore hG dX2_moveOn_40 (Nat.le_of_ble_eq_true rfl) (L2 := [some (.inr (.inr (9, 0))), some (.inr (.inr (3, 0))), some (.inl full), some (.inl sz), some (.inl x1), some (.inl v5_3), some (.inl x17)]) rfl ?_
        refine px_iload hG dX2_moveOn_42 rfl ?_
        refine px_if_eq hG dX2_moveOn_44 (tgt := 61) (by decide) ⟨by omega, by omega⟩ (fun c18 => ?_) (fun c18 => ?_)
        · refine px_iinc hG dX2_moveOn_61 (Nat.le_of_ble_eq_true rfl) rfl (L2 := [some (.inr (.inr (9, 0))), some (.inr (.inr (3, 0))), some (.inl full), some (.inl sz), some (.inl x1), some (.inl (v5_3 + 1)), some (.inl x17)]) rfl ?_
          refine px_goto hG dX2_moveOn_64 (tgt := 18) (by decide) ?_
          refine px_weak hG (L2 := [some (.inr (.inr (9, 0))), some (.inr (.inr (3, 0))), some (.inl full), some (.inl sz), some (.inl x1), some (.inl (v5_3 + 1)), none]) ⟨Or.inr rfl, Or.inr rfl, Or.inr rfl, Or.inr rfl, Or.inr rfl, Or.inr rfl, Or.inl rfl, trivial⟩ ?_
          exact ih7 (v5_3 + 1) s4 R5 F6 (by omega) (by omega)
        · refine px_aload_n hG dX2_moveOn_47 rfl ?_
          refine gr_9_0 hG dX2_moveOn_48 fl_X2_9 R5 ?_
          refine px_iload_n hG dX2_moveOn_51 rfl ?_
          refine px_iload hG dX2_moveOn_52 rfl ?_
          refine px_ior hG dX2_moveOn_54 ?_
          generalize hx19 : pm_ior full x17 = x19
          have bx19 := pm_or10 (by omega) (by omega) hx19
          refine px_dup2 hG dX2_moveOn_55 ?_
          refine al_10 hG dX2_moveOn_56 R5 (by omega) (fun x20 ex20 lx20 ux20 => ?_)
          refine px_iload hG dX2_moveOn_57 rfl ?_
          refine px_iadd hG dX2_moveOn_59 ?_
          refine as_10 hG dX2_moveOn_60 R5 (by omega) (fun s21 qs21 Rs21 => ?_)
          have Fs21 := pm_Fr_up (F6) qs21 (M := [(10, none)]) rfl
          refine px_iinc hG dX2_moveOn_61 (Nat.le_of_ble_eq_true rfl) rfl (L2 := [some (.inr (.inr (9, 0))), some (.inr (.inr (3, 0))), some (.inl full), some (.inl sz), some (.inl x1), some (.inl (v5_3 + 1)), some (.inl x17)]) rfl ?_
          refine px_goto hG dX2_moveOn_64 (tgt := 18) (by decide) ?_
          refine px_weak hG (L2 := [some (.inr (.inr (9, 0))), some (.inr (.inr (3, 0))), some (.inl full), some (.inl sz), some (.inl x1), some (.inl (v5_3 + 1)), none]) ⟨Or.inr rfl, Or.inr rfl, Or.inr rfl, Or.inr rfl, Or.inr rfl, Or.inr rfl, Or.inl rfl, trivial⟩ ?_
          exact ih7 (v5_3 + 1) s21 Rs21 Fs21 (by omega) (by omega)
  exact L18 _ 1 s2 Rs2 Fs2 (by omega) (Nat.lt_succ_self _))
def pre_X2_goodRows (as : List pm_V) (n : Nat) (σ : pm_H) : Prop := as = [.inr (.inr (9, 0)), .inr (.inr (3, 0))] ∧ n = 122 ∧ pm_Rng σ ∧ ((σ 3 0 0 = 2 → 0 ≤ σ 3 0 2 ∧ σ 3 0 2 ≤ 9))
def po_X2_goodRows (as : List pm_V) (_ : Nat) (σ : pm_H) (r : Option pm_V) (τ : pm_H) : Prop := as = [.inr (.inr (9, 0)), .inr (.inr (3, 0))] → ∃ v : Int, r = some (.inl v) ∧ pm_Rng τ ∧ pm_Fr [(10, none)] σ τ
set_option maxRecDepth 20000 in
set_option maxHeartbeats 4000000 in
theorem ct_X2_goodRows : pm_Ct yX2_goodRows cX2_goodRows 5 (some .int) 3 0 pre_X2_goodRows po_X2_goodRows := pm_sound (ini := false) (by decide +kernel) pk_X2_goodRows (fun h => absurd h (by decide)) (by
  rintro as n s0 ⟨rfl, rfl, R0, hpre⟩
  refine ⟨by decide, Nat.le_of_ble_eq_true rfl, fun G hG => ?_⟩
  have hG : pm_Rules (RX2, 3, 122, cX2_goodRows, -1, (fun _ => 0), false, (some .int), po_X2_goodRows [.inr (.inr (9, 0)), .inr (.inr (3, 0))] 122 s0) G := hG
  show G 0 [some (.inr (.inr (9, 0))), some (.inr (.inr (3, 0))), none, none, none] [] 122 s0
  refine px_iconst hG dX2_goodRows_0 ?_
  refine px_aload_n hG dX2_goodRows_1 rfl ?_
  refine gi_3_1 hG dX2_goodRows_2 fl_X2_15 R0 (fun x1 ex1 lx1 ux1 => ?_)
  refine px_ishl hG dX2_goodRows_5 ?_
  generalize hx2 : pm_ishl 1 x1 = x2
  have bx2 := pm_shl1n (by omega) hx2
  refine px_istore_n hG dX2_goodRows_6 (Nat.le_of_ble_eq_true rfl) (L2 := [some (.inr (.inr (9, 0))), some (.inr (.inr (3, 0))), some (.inl x2), none, none]) rfl ?_
  refine px_iconst hG dX2_goodRows_7 ?_
  refine px_istore_n hG dX2_goodRows_8 (Nat.le_of_ble_eq_true rfl) (L2 := [some (.inr (.inr (9, 0))), some (.inr (.inr (3, 0))), some (.inl x2), some (.inl 0), none]) rfl ?_
  have L9 : ∀ (N : Nat) (v3_3 : Int) (s4 : pm_H), pm_Rng s4 → pm_Fr [(10, none)] s0 s4 → s4 3 0 1 = x1 → ((0 ≤ v3_3 ∧ v3_3 ≤ 10000)) → (10001 - v3_3).toNat < N → G 9 [some (.inr (.inr (9, 0))), some (.inr (.inr (3, 0))), some (.inl x2), some (.inl v3_3), none] [] 122 s4 := by
    intro N
    induction N with
    | zero => intro v3_3 s4 R5 F6 k8 inv9 hm10; exact absurd hm10 (Nat.not_lt_zero _)
    | succ N ih7 =>
      intro v3_3 s4 R5 F6 k8 inv9 hm10
      refine px_iload_n hG dX2_goodRows_9 rfl ?_
      refine px_iload_n hG dX2_goodRows_10 rfl ?_
      have J27_12 : ((v3_3 ≥ x2)) → G 27 [some (.inr (.inr (9, 0))), some (.inr (.inr (3, 0))), some (.inl x2), none, none] [] 122 s4 := by
        intro inv13
        refine px_aload_n hG dX2_goodRows_27 rfl ?_
        refine gr_9_0 hG dX2_goodRows_28 fl_X2_9 R5 ?_
        refine px_iconst hG dX2_goodRows_31 ?_
        refine px_iconst hG dX2_goodRows_32 ?_
        refine as_10 hG dX2_goodRows_33 R5 (by omega) (fun s14 qs14 Rs14 => ?_)
        have Fs14 := pm_Fr_up (F6) qs14 (M := [(10, none)]) rfl
        have k15 : s14 3 0 1 = x1 := (pm_nec qs14 (by decide)).trans k8
        refine px_iconst hG dX2_goodRows_34 ?_
        refine px_istore_n hG dX2_goodRows_35 (Nat.le_of_ble_eq_true rfl) (L2 := [some (.inr (.inr (9, 0))), some (.inr (.inr (3, 0))), some (.inl x2), some (.inl 1), none]) rfl ?_
        have L36 : ∀ (N : Nat) (v3_16 : Int) (s17 : pm_H), pm_Rng s17 → pm_Fr [(10, none)] s0 s17 → s17 3 0 1 = x1 → ((1 ≤ v3_16 ∧ v3_16 ≤ 10000)) → (10001 - v3_16).toNat < N → G 36 [some (.inr (.inr (9, 0))), some (.inr (.inr (3, 0))), some (.inl x2), some (.inl v3_16), none] [] 122 s17 := by
          intro N
          induction N with
          | zero => intro v3_16 s17 R18 F19 k21 inv22 hm23; exact absurd hm23 (Nat.not_lt_zero _)
          | succ N ih20 =>
            intro v3_16 s17 R18 F19 k21 inv22 hm23
            refine px_iload_n hG dX2_goodRows_36 rfl ?_
            refine px_aload_n hG dX2_goodRows_37 rfl ?_
            refine gi_3_3 hG dX2_goodRows_38 fl_X2_21 R18 (fun x24 ex24 lx24 ux24 => ?_)
            have ex24 : s0 3 0 3 = x24 := (F19 3 0 3 rfl).symm.trans ex24
            have J89_26 : ((v3_16 > x24)) → G 89 [some (.inr (.inr (9, 0))), none, some (.inl x2), none, none] [] 122 s17 := by
              intro inv27
              refine px_iconst hG dX2_goodRows_89 ?_
              refine px_istore_n hG dX2_goodRows_90 (Nat.le_of_ble_eq_true rfl) (L2 := [some (.inr (.inr (9, 0))), none, some (.inl x2), some (.inl 0), none]) rfl ?_
              refine px_iconst hG dX2_goodRows_91 ?_
              refine px_istore hG dX2_goodRows_92 (Nat.le_of_ble_eq_true rfl) (L2 := [some (.inr (.inr (9, 0))), none, some (.inl x2), some (.inl 0), some (.inl 0)]) rfl ?_
              have L94 : ∀ (N : Nat) (v3_28 : Int) (v4_29 : Int), ((0 ≤ v4_29 ∧ v4_29 ≤ 10000)) → (10001 - v4_29).toNat < N → G 94 [some (.inr (.inr (9, 0))), none, some (.inl x2), some (.inl v3_28), some (.inl v4_29)] [] 122 s17 := by
                intro N
                induction N with
                | zero => intro v3_28 v4_29 inv31 hm32; exact absurd hm32 (Nat.not_lt_zero _)
                | succ N ih30 =>
                  intro v3_28 v4_29 inv31 hm32
                  refine px_iload hG dX2_goodRows_94 rfl ?_
                  refine px_iload_n hG dX2_goodRows_96 rfl ?_
                  refine px_ic_ge hG dX2_goodRows_97 (tgt := 116) (by decide) ⟨by omega, by omega⟩ ⟨by omega, by omega⟩ (fun c33 => ?_) (fun c33 => ?_)
                  · refine px_iload_n hG dX2_goodRows_116 rfl ?_
                    exact px_iret (st := []) hG dX2_goodRows_117 rfl rfl (fun _ => by exact ⟨_, rfl, R18, F19⟩)
                  · refine px_iload_n hG dX2_goodRows_100 rfl ?_
                    refine px_aload_n hG dX2_goodRows_101 rfl ?_
                    refine gr_9_0 hG dX2_goodRows_102 fl_X2_9 R18 ?_
                    refine px_iload hG dX2_goodRows_105 rfl ?_
                    refine al_10 hG dX2_goodRows_107 R18 (by omega) (fun x34 ex34 lx34 ux34 => ?_)
                    refine px_iadd hG dX2_goodRows_108 ?_
                    refine px_istore_n hG dX2_goodRows_109 (Nat.le_of_ble_eq_true rfl) (L2 := [some (.inr (.inr (9, 0))), none, some (.inl x2), some (.inl (v3_28 + x34)), some (.inl v4_29)]) rfl ?_
                    refine px_iinc hG dX2_goodRows_110 (Nat.le_of_ble_eq_true rfl) rfl (L2 := [some (.inr (.inr (9, 0))), none, some (.inl x2), some (.inl (v3_28 + x34)), some (.inl (v4_29 + 1))]) rfl ?_
                    refine px_goto hG dX2_goodRows_113 (tgt := 94) (by decide) ?_
                    exact ih30 (v3_28 + x34) (v4_29 + 1) (by omega) (by omega)
              exact L94 _ 0 0 (by omega) (Nat.lt_succ_self _)
            refine px_ic_gt hG dX2_goodRows_41 (tgt := 89) (by decide) ⟨by omega, by omega⟩ ⟨by omega, by omega⟩ (fun c25 => ?_) (fun c25 => ?_)
            · refine px_weak hG (L2 := [some (.inr (.inr (9, 0))), none, some (.inl x2), none, none]) ⟨Or.inr rfl, Or.inl rfl, Or.inr rfl, Or.inl rfl, Or.inr rfl, trivial⟩ ?_
              exact J89_26  (by omega)
            · refine px_iload_n hG dX2_goodRows_44 rfl ?_
              refine px_iconst hG dX2_goodRows_45 ?_
              refine px_isub hG dX2_goodRows_46 ?_
              refine px_istore hG dX2_goodRows_47 (Nat.le_of_ble_eq_true rfl) (L2 := [some (.inr (.inr (9, 0))), some (.inr (.inr (3, 0))), some (.inl x2), some (.inl v3_16), some (.inl (x2 - 1))]) rfl ?_
              have L49 : ∀ (N : Nat) (v4_35 : Int) (s36 : pm_H), pm_Rng s36 → pm_Fr [(10, none)] s0 s36 → s36 3 0 1 = x1 → ((-10000 ≤ v4_35 ∧ v4_35 ≤ x2 - 1)) → (v4_35 + 10001).toNat < N → G 49 [some (.inr (.inr (9, 0))), some (.inr (.inr (3, 0))), some (.inl x2), some (.inl v3_16), some (.inl v4_35)] [] 122 s36 := by
                intro N
                induction N with
                | zero => intro v4_35 s36 R37 F38 k40 inv41 hm42; exact absurd hm42 (Nat.not_lt_zero _)
                | succ N ih39 =>
                  intro v4_35 s36 R37 F38 k40 inv41 hm42
                  refine px_iload hG dX2_goodRows_49 rfl ?_
                  refine px_if_lt hG dX2_goodRows_51 (tgt := 83) (by decide) ⟨by omega, by omega⟩ (fun c43 => ?_) (fun c43 => ?_)
                  · refine px_iinc hG dX2_goodRows_83 (Nat.le_of_ble_eq_true rfl) rfl (L2 := [some (.inr (.inr (9, 0))), some (.inr (.inr (3, 0))), some (.inl x2), some (.inl (v3_16 + 1)), some (.inl v4_35)]) rfl ?_
                    refine px_goto hG dX2_goodRows_86 (tgt := 36) (by decide) ?_
                    refine px_weak hG (L2 := [some (.inr (.inr (9, 0))), some (.inr (.inr (3, 0))), some (.inl x2), some (.inl (v3_16 + 1)), none]) ⟨Or.inr rfl, Or.inr rfl, Or.inr rfl, Or.inr rfl, Or.inl rfl, trivial⟩ ?_
                    exact ih20 (v3_16 + 1) s36 R37 F38 k40 (by omega) (by omega)
                  · refine px_aload_n hG dX2_goodRows_54 rfl ?_
                    refine gr_9_0 hG dX2_goodRows_55 fl_X2_9 R37 ?_
                    refine px_iload hG dX2_goodRows_58 rfl ?_
                    refine al_10 hG dX2_goodRows_60 R37 (by omega) (fun x44 ex44 lx44 ux44 => ?_)
                    refine px_ifA_eq hG dX2_goodRows_61 (tgt := 77) (by decide) ?_ ?_
                    · refine px_iinc hG dX2_goodRows_77 (Nat.le_of_ble_eq_true rfl) rfl (L2 := [some (.inr (.inr (9, 0))), some (.inr (.inr (3, 0))), some (.inl x2), some (.inl v3_16), some (.inl (v4_35 + -1))]) rfl ?_
                      refine px_goto hG dX2_goodRows_80 (tgt := 49) (by decide) ?_
                      exact ih39 (v4_35 + -1) s36 R37 F38 k40 (by omega) (by omega)
                    · refine px_aload_n hG dX2_goodRows_64 rfl ?_
                      refine px_aload_n hG dX2_goodRows_65 rfl ?_
                      refine px_iload hG dX2_goodRows_66 rfl ?_
                      refine px_aload_n hG dX2_goodRows_68 rfl ?_
                      refine gr_3_6 hG dX2_goodRows_69 fl_X2_24 R37 ?_
                      refine px_iload_n hG dX2_goodRows_72 rfl ?_
                      refine al_5 hG dX2_goodRows_73 R37 (by omega) (fun x46 ex46 lx46 ux46 => ?_)
                      refine jv3 hG dX2_goodRows_74 ct_X2_moveOn lk_X2_27 ⟨rfl, rfl⟩ (by decide) ⟨Nat.le_of_ble_eq_true rfl, Nat.le_of_ble_eq_true rfl, Nat.le_of_ble_eq_true rfl⟩ (Nat.le_of_ble_eq_true rfl) ⟨v4_35, x46, rfl, rfl, R37, ⟨by omega, by omega, by omega, by omega, by rw [F38 3 0 0 rfl, F38 3 0 2 rfl]; exact hpre⟩⟩ (fun r47 t49 pr47 => ?_)
                      obtain ⟨rfl, Rt49, Ft49⟩ := pr47 _ _ rfl
                      have Ff51 := pm_Fr_tr F38 Ft49 (M := [(10, none)]) rfl
                      have k52 : t49 3 0 1 = x1 := (Ft49 3 0 1 rfl).trans k40
                      show G 77 [some (.inr (.inr (9, 0))), some (.inr (.inr (3, 0))), some (.inl x2), some (.inl v3_16), some (.inl v4_35)] [] 122 t49
                      refine px_iinc hG dX2_goodRows_77 (Nat.le_of_ble_eq_true rfl) rfl (L2 := [some (.inr (.inr (9, 0))), some (.inr (.inr (3, 0))), some (.inl x2), some (.inl v3_16), some (.inl (v4_35 + -1))]) rfl ?_
                      refine px_goto hG dX2_goodRows_80 (tgt := 49) (by decide) ?_
                      exact ih39 (v4_35 + -1) t49 Rt49 Ff51 k52 (by omega) (by omega)
              exact L49 _ (x2 - 1) s17 R18 F19 k21 (by omega) (Nat.lt_succ_self _)
        exact L36 _ 1 s14 Rs14 Fs14 k15 (by omega) (Nat.lt_succ_self _)
      refine px_ic_ge hG dX2_goodRows_11 (tgt := 27) (by decide) ⟨by omega, by omega⟩ ⟨by omega, by omega⟩ (fun c11 => ?_) (fun c11 => ?_)
      · refine px_weak hG (L2 := [some (.inr (.inr (9, 0))), some (.inr (.inr (3, 0))), some (.inl x2), none, none]) ⟨Or.inr rfl, Or.inr rfl, Or.inr rfl, Or.inl rfl, Or.inr rfl, trivial⟩ ?_
        exact J27_12  (by omega)
      · refine px_aload_n hG dX2_goodRows_14 rfl ?_
        refine gr_9_0 hG dX2_goodRows_15 fl_X2_9 R5 ?_
        refine px_iload_n hG dX2_goodRows_18 rfl ?_
        refine px_iconst hG dX2_goodRows_19 ?_
        refine as_10 hG dX2_goodRows_20 R5 (by omega) (fun s53 qs53 Rs53 => ?_)
        have Fs53 := pm_Fr_up (F6) qs53 (M := [(10, none)]) rfl
        have k54 : s53 3 0 1 = x1 := (pm_nec qs53 (by decide)).trans k8
        refine px_iinc hG dX2_goodRows_21 (Nat.le_of_ble_eq_true rfl) rfl (L2 := [some (.inr (.inr (9, 0))), some (.inr (.inr (3, 0))), some (.inl x2), some (.inl (v3_3 + 1)), none]) rfl ?_
        refine px_goto hG dX2_goodRows_24 (tgt := 9) (by decide) ?_
        exact ih7 (v3_3 + 1) s53 Rs53 Fs53 k54 (by omega) (by omega)
  exact L9 _ 0 s0 R0 pm_Fr_rf ex1 (by omega) (Nat.lt_succ_self _))
def pre_X1_of (as : List pm_V) (n : Nat) (σ : pm_H) : Prop := ∃ al so : Int, as = [.inr (.inr (1, 0)), .inl al, .inl so] ∧ n = 122 ∧ pm_Rng σ ∧ (pm_in al ∧ pm_in so)
def po_X1_of (as : List pm_V) (_ : Nat) (σ : pm_H) (r : Option pm_V) (τ : pm_H) : Prop := ∀ al so : Int, as = [.inr (.inr (1, 0)), .inl al, .inl so] → ∃ v : Int, r = some (.inl v) ∧ σ = τ ∧ (pm_in v)
set_option maxRecDepth 20000 in
set_option maxHeartbeats 4000000 in
theorem ct_X1_of : pm_Ct yX1_of cX1_of 3 (some .int) 0 0 pre_X1_of po_X1_of := pm_sound (ini := false) (by decide +kernel) pk_X1_of (fun h => absurd h (by decide)) (by
  rintro as n s0 ⟨al, so, rfl, rfl, R0, hpre⟩
  refine ⟨by decide, Nat.le_of_ble_eq_true rfl, fun G hG => ?_⟩
  have hG : pm_Rules (RX1, 0, 122, cX1_of, -1, (fun _ => 0), false, (some .int), po_X1_of [.inr (.inr (1, 0)), .inl al, .inl so] 122 s0) G := hG
  show G 0 [some (.inr (.inr (1, 0))), some (.inl al), some (.inl so)] [] 122 s0
  refine px_iload_n hG dX1_of_0 rfl ?_
  refine px_if_lt hG dX1_of_1 (tgt := 15) (by decide) ⟨by omega, by omega⟩ (fun c1 => ?_) (fun c1 => ?_)
  · refine px_iconst hG dX1_of_15 ?_
    refine px_goto hG dX1_of_16 (tgt := 27) (by decide) ?_
    exact px_iret (st := []) hG dX1_of_27 rfl rfl (fun al_1 so_1 ee => by cases ee; exact ⟨_, rfl, rfl, by omega⟩)
  · refine px_iload_n hG dX1_of_4 rfl ?_
    refine px_iload_n hG dX1_of_5 rfl ?_
    refine px_ic_gt hG dX1_of_6 (tgt := 15) (by decide) ⟨by omega, by omega⟩ ⟨by omega, by omega⟩ (fun c2 => ?_) (fun c2 => ?_)
    · refine px_iconst hG dX1_of_15 ?_
      refine px_goto hG dX1_of_16 (tgt := 27) (by decide) ?_
      exact px_iret (st := []) hG dX1_of_27 rfl rfl (fun al_1 so_1 ee => by cases ee; exact ⟨_, rfl, rfl, by omega⟩)
    · refine px_iload_n hG dX1_of_9 rfl ?_
      refine px_bipush hG dX1_of_10 (by decide) ?_
      refine px_ic_le hG dX1_of_12 (tgt := 19) (by decide) ⟨by omega, by omega⟩ ⟨by omega, by omega⟩ (fun c3 => ?_) (fun c3 => ?_)
      · refine px_aload_n hG dX1_of_19 rfl ?_
        refine gr_1_0 hG dX1_of_20 fl_X1_11 R0 ?_
        refine px_iload_n hG dX1_of_23 rfl ?_
        refine aa_2 hG dX1_of_24 (by omega) ?_
        refine px_iload_n hG dX1_of_25 rfl ?_
        refine al_2 hG dX1_of_26 R0 (by omega) (by omega) (fun x4 ex4 lx4 ux4 => ?_)
        exact px_iret (st := []) hG dX1_of_27 rfl rfl (fun al_1 so_1 ee => by cases ee; exact ⟨_, rfl, rfl, by omega⟩)
      · refine px_iconst hG dX1_of_15 ?_
        refine px_goto hG dX1_of_16 (tgt := 27) (by decide) ?_
        exact px_iret (st := []) hG dX1_of_27 rfl rfl (fun al_1 so_1 ee => by cases ee; exact ⟨_, rfl, rfl, by omega⟩))
def pre_X10_power (as : List pm_V) (n : Nat) (σ : pm_H) : Prop := ∃ bs ex : Int, as = [.inr (.inl bs), .inl ex] ∧ n = 122 ∧ pm_Rng σ ∧ (-100 ≤ ex ∧ ex ≤ 100)
def po_X10_power (as : List pm_V) (_ : Nat) (σ : pm_H) (r : Option pm_V) (τ : pm_H) : Prop := ∀ bs ex : Int, as = [.inr (.inl bs), .inl ex] → ∃ v : Int, r = some (.inr (.inl v)) ∧ σ = τ
set_option maxRecDepth 20000 in
set_option maxHeartbeats 4000000 in
theorem ct_X10_power : pm_Ct yX10_power cX10_power 6 (some .long) 0 0 pre_X10_power po_X10_power := pm_sound (ini := false) (by decide +kernel) pk_X10_power (fun h => absurd h (by decide)) (by
  rintro as n s0 ⟨bs, ex, rfl, rfl, R0, hpre⟩
  refine ⟨by decide, Nat.le_of_ble_eq_true rfl, fun G hG => ?_⟩
  have hG : pm_Rules (RX10, 0, 122, cX10_power, -1, (fun _ => 0), false, (some .long), po_X10_power [.inr (.inl bs), .inl ex] 122 s0) G := hG
  show G 0 [some (.inr (.inl bs)), none, some (.inl ex), none, none, none] [] 122 s0
  refine px_lconst hG dX10_power_0 ?_
  show G 1 [some (.inr (.inl bs)), none, some (.inl ex), none, none, none] [.inr (.inl 1)] 122 s0
  refine px_lstore_n hG dX10_power_1 (Nat.le_of_ble_eq_true rfl) (L2 := [some (.inr (.inl bs)), none, some (.inl ex), some (.inr (.inl 1)), none, none]) rfl ?_
  refine px_iconst hG dX10_power_2 ?_
  refine px_istore hG dX10_power_3 (Nat.le_of_ble_eq_true rfl) (L2 := [some (.inr (.inl bs)), none, some (.inl ex), some (.inr (.inl 1)), none, some (.inl 0)]) rfl ?_
  have L5 : ∀ (N : Nat) (v3_1 : Int) (v5_2 : Int), ((0 ≤ v5_2 ∧ v5_2 ≤ 10000)) → (10001 - v5_2).toNat < N → G 5 [some (.inr (.inl bs)), none, some (.inl ex), some (.inr (.inl v3_1)), none, some (.inl v5_2)] [] 122 s0 := by
    intro N
    induction N with
    | zero => intro v3_1 v5_2 inv4 hm5; exact absurd hm5 (Nat.not_lt_zero _)
    | succ N ih3 =>
      intro v3_1 v5_2 inv4 hm5
      refine px_iload hG dX10_power_5 rfl ?_
      refine px_iload_n hG dX10_power_7 rfl ?_
      refine px_ic_ge hG dX10_power_8 (tgt := 21) (by decide) ⟨by omega, by omega⟩ ⟨by omega, by omega⟩ (fun c6 => ?_) (fun c6 => ?_)
      · refine px_lload_n hG dX10_power_21 rfl ?_
        exact px_lret (st := []) hG dX10_power_22 rfl rfl (fun bs_1 ex_1 ee => by cases ee; exact ⟨_, rfl, rfl⟩)
      · refine px_lload_n hG dX10_power_11 rfl ?_
        refine px_lload_n hG dX10_power_12 rfl ?_
        refine px_lmul hG dX10_power_13 ?_
        refine px_lstore_n hG dX10_power_14 (Nat.le_of_ble_eq_true rfl) (L2 := [some (.inr (.inl bs)), none, some (.inl ex), some (.inr (.inl (v3_1 * bs))), none, some (.inl v5_2)]) rfl ?_
        refine px_iinc hG dX10_power_15 (Nat.le_of_ble_eq_true rfl) rfl (L2 := [some (.inr (.inl bs)), none, some (.inl ex), some (.inr (.inl (v3_1 * bs))), none, some (.inl (v5_2 + 1))]) rfl ?_
        refine px_goto hG dX10_power_18 (tgt := 5) (by decide) ?_
        exact ih3 (v3_1 * bs) (v5_2 + 1) (by omega) (by omega)
  exact L5 _ 1 0 (by omega) (Nat.lt_succ_self _))
def pre_X0_howMany (as : List pm_V) (n : Nat) (σ : pm_H) : Prop := ∃ n1 k1 : Int, as = [.inr (.inr (11, 0)), .inl n1, .inl k1] ∧ n = 122 ∧ pm_Rng σ ∧ (1 ≤ n1 ∧ n1 ≤ 10 ∧ 0 ≤ k1 ∧ k1 ≤ 10)
def po_X0_howMany (as : List pm_V) (_ : Nat) (σ : pm_H) (r : Option pm_V) (τ : pm_H) : Prop := ∀ n1 k1 : Int, as = [.inr (.inr (11, 0)), .inl n1, .inl k1] → ∃ v : Int, r = some (.inr (.inl v)) ∧ σ = τ
set_option maxRecDepth 20000 in
set_option maxHeartbeats 4000000 in
theorem ct_X0_howMany : pm_Ct yX0_howMany cX0_howMany 3 (some .long) 1 0 pre_X0_howMany po_X0_howMany := pm_sound (ini := false) (by decide +kernel) pk_X0_howMany (fun h => absurd h (by decide)) (by
  rintro as n s0 ⟨n1, k1, rfl, rfl, R0, hpre⟩
  refine ⟨by decide, Nat.le_of_ble_eq_true rfl, fun G hG => ?_⟩
  have hG : pm_Rules (RX0, 1, 122, cX0_howMany, -1, (fun _ => 0), false, (some .long), po_X0_howMany [.inr (.inr (11, 0)), .inl n1, .inl k1] 122 s0) G := hG
  show G 0 [some (.inr (.inr (11, 0))), some (.inl n1), some (.inl k1)] [] 122 s0
  refine px_iload_n hG dX0_howMany_0 rfl ?_
  refine px_if_ne hG dX0_howMany_1 (tgt := 8) (by decide) ⟨by omega, by omega⟩ (fun c1 => ?_) (fun c1 => ?_)
  · refine px_iload_n hG dX0_howMany_8 rfl ?_
    refine px_iconst hG dX0_howMany_9 ?_
    refine px_iadd hG dX0_howMany_10 ?_
    refine px_iload_n hG dX0_howMany_11 rfl ?_
    refine px_isub hG dX0_howMany_12 ?_
    refine px_i2l hG dX0_howMany_13 ⟨by omega, by omega⟩ ?_
    refine px_iload_n hG dX0_howMany_14 rfl ?_
    refine px_iconst hG dX0_howMany_15 ?_
    refine px_iadd hG dX0_howMany_16 ?_
    refine px_i2l hG dX0_howMany_17 ⟨by omega, by omega⟩ ?_
    refine px_iload_n hG dX0_howMany_18 rfl ?_
    refine px_iconst hG dX0_howMany_19 ?_
    refine px_isub hG dX0_howMany_20 ?_
    refine js2 hG dX0_howMany_21 ct_X10_power lk_X0_23 ⟨Nat.le_of_ble_eq_true rfl, Nat.le_of_ble_eq_true rfl, Nat.le_of_ble_eq_true rfl⟩ (Nat.le_of_ble_eq_true rfl) ⟨(n1 + 1), (k1 - 1), rfl, rfl, R0, by omega⟩ (fun r2 t3 pr2 => ?_)
    obtain ⟨z4, rfl, rfl⟩ := pr2 _ _ rfl
    show G 24 [some (.inr (.inr (11, 0))), some (.inl n1), some (.inl k1)] [.inr (.inl z4), .inr (.inl ((n1 + 1) - k1))] 122 s0
    refine px_lmul hG dX0_howMany_24 ?_
    exact px_lret (st := []) hG dX0_howMany_25 rfl rfl (fun n1_1 k1_1 ee => by cases ee; exact ⟨_, rfl, rfl⟩)
  · refine px_lconst hG dX0_howMany_4 ?_
    show G 5 [some (.inr (.inr (11, 0))), some (.inl n1), some (.inl k1)] [.inr (.inl 1)] 122 s0
    refine px_goto hG dX0_howMany_5 (tgt := 25) (by decide) ?_
    exact px_lret (st := []) hG dX0_howMany_25 rfl rfl (fun n1_1 k1_1 ee => by cases ee; exact ⟨_, rfl, rfl⟩))
def pre_X0_primeRows (as : List pm_V) (n : Nat) (σ : pm_H) : Prop := ∃ n1 : Int, as = [.inr (.inr (11, 0)), .inl n1] ∧ n = 122 ∧ pm_Rng σ ∧ (1 ≤ n1 ∧ n1 ≤ 10)
def po_X0_primeRows (as : List pm_V) (_ : Nat) (σ : pm_H) (r : Option pm_V) (τ : pm_H) : Prop := ∀ n1 : Int, as = [.inr (.inr (11, 0)), .inl n1] → ∃ v : Int, r = some (.inr (.inl v)) ∧ σ = τ
set_option maxRecDepth 20000 in
set_option maxHeartbeats 4000000 in
theorem ct_X0_primeRows : pm_Ct yX0_primeRows cX0_primeRows 2 (some .long) 1 0 pre_X0_primeRows po_X0_primeRows := pm_sound (ini := false) (by decide +kernel) pk_X0_primeRows (fun h => absurd h (by decide)) (by
  rintro as n s0 ⟨n1, rfl, rfl, R0, hpre⟩
  refine ⟨by decide, Nat.le_of_ble_eq_true rfl, fun G hG => ?_⟩
  have hG : pm_Rules (RX0, 1, 122, cX0_primeRows, -1, (fun _ => 0), false, (some .long), po_X0_primeRows [.inr (.inr (11, 0)), .inl n1] 122 s0) G := hG
  show G 0 [some (.inr (.inr (11, 0))), some (.inl n1)] [] 122 s0
  refine px_iload_n hG dX0_primeRows_0 rfl ?_
  refine px_iconst hG dX0_primeRows_1 ?_
  refine px_isub hG dX0_primeRows_2 ?_
  refine px_i2l hG dX0_primeRows_3 ⟨by omega, by omega⟩ ?_
  refine px_iload_n hG dX0_primeRows_4 rfl ?_
  refine px_iconst hG dX0_primeRows_5 ?_
  refine px_isub hG dX0_primeRows_6 ?_
  refine js2 hG dX0_primeRows_7 ct_X10_power lk_X0_23 ⟨Nat.le_of_ble_eq_true rfl, Nat.le_of_ble_eq_true rfl, Nat.le_of_ble_eq_true rfl⟩ (Nat.le_of_ble_eq_true rfl) ⟨(n1 - 1), (n1 - 1), rfl, rfl, R0, by omega⟩ (fun r1 t2 pr1 => ?_)
  obtain ⟨z3, rfl, rfl⟩ := pr1 _ _ rfl
  show G 10 [some (.inr (.inr (11, 0))), some (.inl n1)] [.inr (.inl z3)] 122 s0
  exact px_lret (st := []) hG dX0_primeRows_10 rfl rfl (fun n1_1 ee => by cases ee; exact ⟨_, rfl, rfl⟩))
def pre_X0_forgetWishers (as : List pm_V) (n : Nat) (σ : pm_H) : Prop := as = [.inr (.inr (11, 0))] ∧ n = 122 ∧ pm_Rng σ
def po_X0_forgetWishers (as : List pm_V) (_ : Nat) (σ : pm_H) (r : Option pm_V) (τ : pm_H) : Prop := as = [.inr (.inr (11, 0))] → r = none ∧ pm_Rng τ ∧ pm_Fr [(12, none)] σ τ ∧ (∀ i : Int, 0 ≤ i → i ≤ 10 → τ 12 0 i = 0)
set_option maxRecDepth 20000 in
set_option maxHeartbeats 4000000 in
theorem ct_X0_forgetWishers : pm_Ct yX0_forgetWishers cX0_forgetWishers 2 none 0 0 pre_X0_forgetWishers po_X0_forgetWishers := pm_sound (ini := false) (by decide +kernel) pk_X0_forgetWishers (fun h => absurd h (by decide)) (by
  rintro as n s0 ⟨rfl, rfl, R0⟩
  refine ⟨by decide, Nat.le_of_ble_eq_true rfl, fun G hG => ?_⟩
  have hG : pm_Rules (RX0, 0, 122, cX0_forgetWishers, -1, (fun _ => 0), false, none, po_X0_forgetWishers [.inr (.inr (11, 0))] 122 s0) G := hG
  show G 0 [some (.inr (.inr (11, 0))), none] [] 122 s0
  refine px_iconst hG dX0_forgetWishers_0 ?_
  refine px_istore_n hG dX0_forgetWishers_1 (Nat.le_of_ble_eq_true rfl) (L2 := [some (.inr (.inr (11, 0))), some (.inl 0)]) rfl ?_
  have L2 : ∀ (N : Nat) (v1_1 : Int) (s2 : pm_H), pm_Rng s2 → pm_Fr [(12, none)] s0 s2 → ((0 ≤ v1_1 ∧ v1_1 ≤ 10000) ∧ (∀ i : Int, 0 ≤ i → i < v1_1 → s2 12 0 i = 0)) → (10001 - v1_1).toNat < N → G 2 [some (.inr (.inr (11, 0))), some (.inl v1_1)] [] 122 s2 := by
    intro N
    induction N with
    | zero => intro v1_1 s2 R3 F4 inv6 hm7; exact absurd hm7 (Nat.not_lt_zero _)
    | succ N ih5 =>
      intro v1_1 s2 R3 F4 inv6 hm7
      have W := inv6.2
      refine px_iload_n hG dX0_forgetWishers_2 rfl ?_
      refine px_bipush hG dX0_forgetWishers_3 (by decide) ?_
      refine px_ic_gt hG dX0_forgetWishers_5 (tgt := 21) (by decide) ⟨by omega, by omega⟩ ⟨by omega, by omega⟩ (fun c8 => ?_) (fun c8 => ?_)
      · exact px_vret (st := []) hG dX0_forgetWishers_21 rfl rfl (fun _ => by exact ⟨rfl, R3, F4, fun i h0 h1 => W i h0 (by omega)⟩)
      · refine px_aload_n hG dX0_forgetWishers_8 rfl ?_
        refine gr_11_1 hG dX0_forgetWishers_9 fl_X0_9 R3 ?_
        refine px_iload_n hG dX0_forgetWishers_12 rfl ?_
        refine px_iconst hG dX0_forgetWishers_13 ?_
        refine as_12 hG dX0_forgetWishers_14 R3 (by omega) (by omega) (fun s9 qs9 Rs9 => ?_)
        have Fs9 := pm_Fr_up (F4) qs9 (M := [(12, none)]) rfl
        have E := qs9
        refine px_iinc hG dX0_forgetWishers_15 (Nat.le_of_ble_eq_true rfl) rfl (L2 := [some (.inr (.inr (11, 0))), some (.inl (v1_1 + 1))]) rfl ?_
        refine px_goto hG dX0_forgetWishers_18 (tgt := 2) (by decide) ?_
        exact ih5 (v1_1 + 1) s9 Rs9 Fs9 (⟨by omega, fun i h0 h1 => pm_zstep W E i h0 h1⟩) (by omega)
  exact L2 _ 0 s0 R0 pm_Fr_rf (⟨by omega, fun i h0 h1 => by omega⟩) (Nat.lt_succ_self _))
def pre_X0_wishHere (as : List pm_V) (n : Nat) (σ : pm_H) : Prop := ∃ so op : Int, as = [.inr (.inr (11, 0)), .inl so, .inl op] ∧ n = 122 ∧ pm_Rng σ ∧ (0 ≤ so ∧ so ≤ 10 ∧ 0 ≤ op ∧ op ≤ 10)
def po_X0_wishHere (as : List pm_V) (_ : Nat) (σ : pm_H) (r : Option pm_V) (τ : pm_H) : Prop := ∀ so op : Int, as = [.inr (.inr (11, 0)), .inl so, .inl op] → ∃ v : Int, r = some (.inr (.inl v)) ∧ σ = τ
set_option maxRecDepth 20000 in
set_option maxHeartbeats 4000000 in
theorem ct_X0_wishHere : pm_Ct yX0_wishHere cX0_wishHere 6 (some .long) 1 0 pre_X0_wishHere po_X0_wishHere := pm_sound (ini := false) (by decide +kernel) pk_X0_wishHere (fun h => absurd h (by decide)) (by
  rintro as n s0 ⟨so, op, rfl, rfl, R0, hpre⟩
  refine ⟨by decide, Nat.le_of_ble_eq_true rfl, fun G hG => ?_⟩
  have hG : pm_Rules (RX0, 1, 122, cX0_wishHere, -1, (fun _ => 0), false, (some .long), po_X0_wishHere [.inr (.inr (11, 0)), .inl so, .inl op] 122 s0) G := hG
  show G 0 [some (.inr (.inr (11, 0))), some (.inl so), some (.inl op), none, none, none] [] 122 s0
  refine px_lconst hG dX0_wishHere_0 ?_
  show G 1 [some (.inr (.inr (11, 0))), some (.inl so), some (.inl op), none, none, none] [.inr (.inl 0)] 122 s0
  refine px_lstore_n hG dX0_wishHere_1 (Nat.le_of_ble_eq_true rfl) (L2 := [some (.inr (.inr (11, 0))), some (.inl so), some (.inl op), some (.inr (.inl 0)), none, none]) rfl ?_
  refine px_iconst hG dX0_wishHere_2 ?_
  refine px_istore hG dX0_wishHere_3 (Nat.le_of_ble_eq_true rfl) (L2 := [some (.inr (.inr (11, 0))), some (.inl so), some (.inl op), some (.inr (.inl 0)), none, some (.inl 0)]) rfl ?_
  have L5 : ∀ (N : Nat) (v3_1 : Int) (v5_2 : Int), ((0 ≤ v5_2 ∧ v5_2 ≤ 10000)) → (10001 - v5_2).toNat < N → G 5 [some (.inr (.inr (11, 0))), some (.inl so), some (.inl op), some (.inr (.inl v3_1)), none, some (.inl v5_2)] [] 122 s0 := by
    intro N
    induction N with
    | zero => intro v3_1 v5_2 inv4 hm5; exact absurd hm5 (Nat.not_lt_zero _)
    | succ N ih3 =>
      intro v3_1 v5_2 inv4 hm5
      refine px_iload hG dX0_wishHere_5 rfl ?_
      refine px_iload_n hG dX0_wishHere_7 rfl ?_
      refine px_ic_gt hG dX0_wishHere_8 (tgt := 44) (by decide) ⟨by omega, by omega⟩ ⟨by omega, by omega⟩ (fun c6 => ?_) (fun c6 => ?_)
      · refine px_lload_n hG dX0_wishHere_44 rfl ?_
        exact px_lret (st := []) hG dX0_wishHere_45 rfl rfl (fun so_1 op_1 ee => by cases ee; exact ⟨_, rfl, rfl⟩)
      · refine px_lload_n hG dX0_wishHere_11 rfl ?_
        refine px_aload_n hG dX0_wishHere_12 rfl ?_
        refine gr_11_2 hG dX0_wishHere_13 fl_X0_15 R0 ?_
        refine px_iload hG dX0_wishHere_16 rfl ?_
        refine al_13 hG dX0_wishHere_18 (by omega) (fun z7 ez7 => ?_)
        refine px_aload_n hG dX0_wishHere_19 rfl ?_
        refine gr_11_0 hG dX0_wishHere_20 fl_X0_19 R0 ?_
        refine px_iload_n hG dX0_wishHere_23 rfl ?_
        refine px_iload hG dX0_wishHere_24 rfl ?_
        refine px_isub hG dX0_wishHere_26 ?_
        refine px_iload_n hG dX0_wishHere_27 rfl ?_
        refine px_iload hG dX0_wishHere_28 rfl ?_
        refine px_isub hG dX0_wishHere_30 ?_
        refine jv2 hG dX0_wishHere_31 ct_X1_of lk_X0_45 ⟨rfl, rfl⟩ (by decide) ⟨Nat.le_of_ble_eq_true rfl, Nat.le_of_ble_eq_true rfl, Nat.le_of_ble_eq_true rfl⟩ (Nat.le_of_ble_eq_true rfl) ⟨(op - v5_2), (so - v5_2), rfl, rfl, R0, by omega⟩ (fun r8 t9 pr8 => ?_)
        obtain ⟨x10, rfl, rfl, br8⟩ := pr8 _ _ rfl
        show G 34 [some (.inr (.inr (11, 0))), some (.inl so), some (.inl op), some (.inr (.inl v3_1)), none, some (.inl v5_2)] [.inl x10, .inr (.inl z7), .inr (.inl v3_1)] 122 s0
        refine px_i2l hG dX0_wishHere_34 ⟨by omega, by omega⟩ ?_
        refine px_lmul hG dX0_wishHere_35 ?_
        refine px_ladd hG dX0_wishHere_36 ?_
        refine px_lstore_n hG dX0_wishHere_37 (Nat.le_of_ble_eq_true rfl) (L2 := [some (.inr (.inr (11, 0))), some (.inl so), some (.inl op), some (.inr (.inl (v3_1 + (z7 * x10)))), none, some (.inl v5_2)]) rfl ?_
        refine px_iinc hG dX0_wishHere_38 (Nat.le_of_ble_eq_true rfl) rfl (L2 := [some (.inr (.inr (11, 0))), some (.inl so), some (.inl op), some (.inr (.inl (v3_1 + (z7 * x10)))), none, some (.inl (v5_2 + 1))]) rfl ?_
        refine px_goto hG dX0_wishHere_41 (tgt := 5) (by decide) ?_
        exact ih3 (v3_1 + (z7 * x10)) (v5_2 + 1) (by omega) (by omega)
  exact L5 _ 0 0 (by omega) (Nat.lt_succ_self _))
def pre_X0_endings (as : List pm_V) (n : Nat) (σ : pm_H) : Prop := ∃ n1 op : Int, as = [.inr (.inr (11, 0)), .inl n1, .inl op] ∧ n = 122 ∧ pm_Rng σ ∧ (1 ≤ n1 ∧ n1 ≤ 10 ∧ 0 ≤ op ∧ op ≤ 10)
def po_X0_endings (as : List pm_V) (_ : Nat) (σ : pm_H) (r : Option pm_V) (τ : pm_H) : Prop := ∀ n1 op : Int, as = [.inr (.inr (11, 0)), .inl n1, .inl op] → ∃ v : Int, r = some (.inr (.inl v)) ∧ pm_Rng τ ∧ pm_Fr [(13, none)] σ τ
set_option maxRecDepth 20000 in
set_option maxHeartbeats 4000000 in
theorem ct_X0_endings : pm_Ct yX0_endings cX0_endings 6 (some .long) 2 0 pre_X0_endings po_X0_endings := pm_sound (ini := false) (by decide +kernel) pk_X0_endings (fun h => absurd h (by decide)) (by
  rintro as n s0 ⟨n1, op, rfl, rfl, R0, hpre⟩
  refine ⟨by decide, Nat.le_of_ble_eq_true rfl, fun G hG => ?_⟩
  have hG : pm_Rules (RX0, 2, 122, cX0_endings, -1, (fun _ => 0), false, (some .long), po_X0_endings [.inr (.inr (11, 0)), .inl n1, .inl op] 122 s0) G := hG
  show G 0 [some (.inr (.inr (11, 0))), some (.inl n1), some (.inl op), none, none, none] [] 122 s0
  refine px_iconst hG dX0_endings_0 ?_
  refine px_istore_n hG dX0_endings_1 (Nat.le_of_ble_eq_true rfl) (L2 := [some (.inr (.inr (11, 0))), some (.inl n1), some (.inl op), some (.inl 1), none, none]) rfl ?_
  have L2 : ∀ (N : Nat) (v3_1 : Int) (s2 : pm_H), pm_Rng s2 → pm_Fr [(13, none)] s0 s2 → ((1 ≤ v3_1 ∧ v3_1 ≤ 10000)) → (10001 - v3_1).toNat < N → G 2 [some (.inr (.inr (11, 0))), some (.inl n1), some (.inl op), some (.inl v3_1), none, none] [] 122 s2 := by
    intro N
    induction N with
    | zero => intro v3_1 s2 R3 F4 inv6 hm7; exact absurd hm7 (Nat.not_lt_zero _)
    | succ N ih5 =>
      intro v3_1 s2 R3 F4 inv6 hm7
      refine px_iload_n hG dX0_endings_2 rfl ?_
      refine px_iload_n hG dX0_endings_3 rfl ?_
      have J20_9 : ((v3_1 > op)) → G 20 [some (.inr (.inr (11, 0))), some (.inl n1), some (.inl op), none, none, none] [] 122 s2 := by
        intro inv10
        refine px_aload_n hG dX0_endings_20 rfl ?_
        refine gr_11_2 hG dX0_endings_21 fl_X0_15 R3 ?_
        refine px_iconst hG dX0_endings_24 ?_
        refine px_lconst hG dX0_endings_25 ?_
        show G 26 [some (.inr (.inr (11, 0))), some (.inl n1), some (.inl op), none, none, none] [.inr (.inl 1), .inl 0, .inr (.inr (13, 0))] 122 s2
        refine as_13 hG dX0_endings_26 R3 (by omega) (fun s11 qs11 Rs11 => ?_)
        have Fs11 := pm_Fr_up (F4) qs11 (M := [(13, none)]) rfl
        refine px_iconst hG dX0_endings_27 ?_
        refine px_istore_n hG dX0_endings_28 (Nat.le_of_ble_eq_true rfl) (L2 := [some (.inr (.inr (11, 0))), some (.inl n1), some (.inl op), some (.inl 0), none, none]) rfl ?_
        refine px_iload_n hG dX0_endings_29 rfl ?_
        refine px_istore hG dX0_endings_30 (Nat.le_of_ble_eq_true rfl) (L2 := [some (.inr (.inr (11, 0))), some (.inl n1), some (.inl op), some (.inl 0), some (.inl n1), none]) rfl ?_
        have L32 : ∀ (N : Nat) (v3_12 : Int) (v4_13 : Int) (s14 : pm_H), pm_Rng s14 → pm_Fr [(13, none)] s0 s14 → ((-10000 ≤ v4_13 ∧ v4_13 ≤ n1) ∧ (-12 * (n1 - v4_13) ≤ v3_12 ∧ v3_12 ≤ n1 - v4_13)) → (v4_13 + 10001).toNat < N → G 32 [some (.inr (.inr (11, 0))), none, some (.inl op), some (.inl v3_12), some (.inl v4_13), none] [] 122 s14 := by
          intro N
          induction N with
          | zero => intro v3_12 v4_13 s14 R15 F16 inv18 hm19; exact absurd hm19 (Nat.not_lt_zero _)
          | succ N ih17 =>
            intro v3_12 v4_13 s14 R15 F16 inv18 hm19
            refine px_iload hG dX0_endings_32 rfl ?_
            refine px_iconst hG dX0_endings_34 ?_
            refine px_ic_lt hG dX0_endings_35 (tgt := 94) (by decide) ⟨by omega, by omega⟩ ⟨by omega, by omega⟩ (fun c20 => ?_) (fun c20 => ?_)
            · refine px_aload_n hG dX0_endings_94 rfl ?_
              refine gr_11_2 hG dX0_endings_95 fl_X0_15 R15 ?_
              refine px_iload_n hG dX0_endings_98 rfl ?_
              refine al_13 hG dX0_endings_99 (by omega) (fun z21 ez21 => ?_)
              exact px_lret (st := []) hG dX0_endings_100 rfl rfl (fun n1_1 op_1 ee => by cases ee; exact ⟨_, rfl, R15, F16⟩)
            · refine px_iload_n hG dX0_endings_38 rfl ?_
              refine px_iconst hG dX0_endings_39 ?_
              refine px_aload_n hG dX0_endings_40 rfl ?_
              refine gr_11_1 hG dX0_endings_41 fl_X0_9 R15 ?_
              refine px_iload hG dX0_endings_44 rfl ?_
              refine al_12 hG dX0_endings_46 R15 (by omega) (fun x22 ex22 lx22 ux22 => ?_)
              refine px_isub hG dX0_endings_47 ?_
              refine px_iadd hG dX0_endings_48 ?_
              refine px_istore_n hG dX0_endings_49 (Nat.le_of_ble_eq_true rfl) (L2 := [some (.inr (.inr (11, 0))), none, some (.inl op), some (.inl (v3_12 + (1 - x22))), some (.inl v4_13), none]) rfl ?_
              refine px_iload_n hG dX0_endings_50 rfl ?_
              refine px_istore hG dX0_endings_51 (Nat.le_of_ble_eq_true rfl) (L2 := [some (.inr (.inr (11, 0))), none, some (.inl op), some (.inl (v3_12 + (1 - x22))), some (.inl v4_13), some (.inl op)]) rfl ?_
              have L53 : ∀ (N : Nat) (v5_23 : Int) (s24 : pm_H), pm_Rng s24 → pm_Fr [(13, none)] s0 s24 → ((-10000 ≤ v5_23 ∧ v5_23 ≤ op)) → (v5_23 + 10001).toNat < N → G 53 [some (.inr (.inr (11, 0))), none, some (.inl op), some (.inl (v3_12 + (1 - x22))), some (.inl v4_13), some (.inl v5_23)] [] 122 s24 := by
                intro N
                induction N with
                | zero => intro v5_23 s24 R25 F26 inv28 hm29; exact absurd hm29 (Nat.not_lt_zero _)
                | succ N ih27 =>
                  intro v5_23 s24 R25 F26 inv28 hm29
                  refine px_iload hG dX0_endings_53 rfl ?_
                  refine px_if_lt hG dX0_endings_55 (tgt := 88) (by decide) ⟨by omega, by omega⟩ (fun c30 => ?_) (fun c30 => ?_)
                  · refine px_iinc hG dX0_endings_88 (Nat.le_of_ble_eq_true rfl) rfl (L2 := [some (.inr (.inr (11, 0))), none, some (.inl op), some (.inl (v3_12 + (1 - x22))), some (.inl (v4_13 + -1)), some (.inl v5_23)]) rfl ?_
                    refine px_goto hG dX0_endings_91 (tgt := 32) (by decide) ?_
                    refine px_weak hG (L2 := [some (.inr (.inr (11, 0))), none, some (.inl op), some (.inl (v3_12 + (1 - x22))), some (.inl (v4_13 + -1)), none]) ⟨Or.inr rfl, Or.inr rfl, Or.inr rfl, Or.inr rfl, Or.inr rfl, Or.inl rfl, trivial⟩ ?_
                    exact ih17 (v3_12 + (1 - x22)) (v4_13 + -1) s24 R25 F26 (⟨by omega, by omega⟩) (by omega)
                  · refine px_aload_n hG dX0_endings_58 rfl ?_
                    refine gr_11_2 hG dX0_endings_59 fl_X0_15 R25 ?_
                    refine px_iload hG dX0_endings_62 rfl ?_
                    refine px_iload hG dX0_endings_64 rfl ?_
                    refine px_iload_n hG dX0_endings_66 rfl ?_
                    refine px_ic_le hG dX0_endings_67 (tgt := 74) (by decide) ⟨by omega, by omega⟩ ⟨by omega, by omega⟩ (fun c31 => ?_) (fun c31 => ?_)
                    · refine px_aload_n hG dX0_endings_74 rfl ?_
                      refine px_iload hG dX0_endings_75 rfl ?_
                      refine px_iload_n hG dX0_endings_77 rfl ?_
                      refine jv2 hG dX0_endings_78 ct_X0_wishHere lk_X0_42 ⟨rfl, rfl⟩ (by decide) ⟨Nat.le_of_ble_eq_true rfl, Nat.le_of_ble_eq_true rfl, Nat.le_of_ble_eq_true rfl⟩ (Nat.le_of_ble_eq_true rfl) ⟨v5_23, op, rfl, rfl, R25, by omega⟩ (fun r32 t33 pr32 => ?_)
                      obtain ⟨z34, rfl, rfl⟩ := pr32 _ _ rfl
                      show G 81 [some (.inr (.inr (11, 0))), none, some (.inl op), some (.inl (v3_12 + (1 - x22))), some (.inl v4_13), some (.inl v5_23)] [.inr (.inl z34), .inl v5_23, .inr (.inr (13, 0))] 122 s24
                      refine as_13 hG dX0_endings_81 R25 (by omega) (fun s35 qs35 Rs35 => ?_)
                      have Fs35 := pm_Fr_up (F26) qs35 (M := [(13, none)]) rfl
                      refine px_iinc hG dX0_endings_82 (Nat.le_of_ble_eq_true rfl) rfl (L2 := [some (.inr (.inr (11, 0))), none, some (.inl op), some (.inl (v3_12 + (1 - x22))), some (.inl v4_13), some (.inl (v5_23 + -1))]) rfl ?_
                      refine px_goto hG dX0_endings_85 (tgt := 53) (by decide) ?_
                      exact ih27 (v5_23 + -1) s35 Rs35 Fs35 (by omega) (by omega)
                    · refine px_lconst hG dX0_endings_70 ?_
                      show G 71 [some (.inr (.inr (11, 0))), none, some (.inl op), some (.inl (v3_12 + (1 - x22))), some (.inl v4_13), some (.inl v5_23)] [.inr (.inl 0), .inl v5_23, .inr (.inr (13, 0))] 122 s24
                      refine px_goto hG dX0_endings_71 (tgt := 81) (by decide) ?_
                      refine as_13 hG dX0_endings_81 R25 (by omega) (fun s36 qs36 Rs36 => ?_)
                      have Fs36 := pm_Fr_up (F26) qs36 (M := [(13, none)]) rfl
                      refine px_iinc hG dX0_endings_82 (Nat.le_of_ble_eq_true rfl) rfl (L2 := [some (.inr (.inr (11, 0))), none, some (.inl op), some (.inl (v3_12 + (1 - x22))), some (.inl v4_13), some (.inl (v5_23 + -1))]) rfl ?_
                      refine px_goto hG dX0_endings_85 (tgt := 53) (by decide) ?_
                      exact ih27 (v5_23 + -1) s36 Rs36 Fs36 (by omega) (by omega)
              exact L53 _ op s14 R15 F16 (by omega) (Nat.lt_succ_self _)
        refine px_weak hG (L2 := [some (.inr (.inr (11, 0))), none, some (.inl op), some (.inl 0), some (.inl n1), none]) ⟨Or.inr rfl, Or.inl rfl, Or.inr rfl, Or.inr rfl, Or.inr rfl, Or.inr rfl, trivial⟩ ?_
        exact L32 _ 0 n1 s11 Rs11 Fs11 (⟨by omega, by omega⟩) (Nat.lt_succ_self _)
      refine px_ic_gt hG dX0_endings_4 (tgt := 20) (by decide) ⟨by omega, by omega⟩ ⟨by omega, by omega⟩ (fun c8 => ?_) (fun c8 => ?_)
      · refine px_weak hG (L2 := [some (.inr (.inr (11, 0))), some (.inl n1), some (.inl op), none, none, none]) ⟨Or.inr rfl, Or.inr rfl, Or.inr rfl, Or.inl rfl, Or.inr rfl, Or.inr rfl, trivial⟩ ?_
        exact J20_9  (by omega)
      · refine px_aload_n hG dX0_endings_7 rfl ?_
        refine gr_11_2 hG dX0_endings_8 fl_X0_15 R3 ?_
        refine px_iload_n hG dX0_endings_11 rfl ?_
        refine px_lconst hG dX0_endings_12 ?_
        show G 13 [some (.inr (.inr (11, 0))), some (.inl n1), some (.inl op), some (.inl v3_1), none, none] [.inr (.inl 0), .inl v3_1, .inr (.inr (13, 0))] 122 s2
        refine as_13 hG dX0_endings_13 R3 (by omega) (fun s37 qs37 Rs37 => ?_)
        have Fs37 := pm_Fr_up (F4) qs37 (M := [(13, none)]) rfl
        refine px_iinc hG dX0_endings_14 (Nat.le_of_ble_eq_true rfl) rfl (L2 := [some (.inr (.inr (11, 0))), some (.inl n1), some (.inl op), some (.inl (v3_1 + 1)), none, none]) rfl ?_
        refine px_goto hG dX0_endings_17 (tgt := 2) (by decide) ?_
        exact ih5 (v3_1 + 1) s37 Rs37 Fs37 (by omega) (by omega)
  exact L2 _ 1 s0 R0 pm_Fr_rf (by omega) (Nat.lt_succ_self _))
def pre_X0_rowsWith (as : List pm_V) (n : Nat) (σ : pm_H) : Prop := ∃ v1 n1 op : Int, as = [.inr (.inr (11, 0)), .inl v1, .inl n1, .inl op] ∧ n = 122 ∧ pm_Rng σ ∧ (0 ≤ v1 ∧ v1 ≤ 10 ∧ 1 ≤ n1 ∧ n1 ≤ 10 ∧ 0 ≤ op ∧ op ≤ 10 ∧ pm_wb σ 12 11)
def po_X0_rowsWith (as : List pm_V) (_ : Nat) (σ : pm_H) (r : Option pm_V) (τ : pm_H) : Prop := ∀ v1 n1 op : Int, as = [.inr (.inr (11, 0)), .inl v1, .inl n1, .inl op] → ∃ v : Int, r = some (.inr (.inl v)) ∧ pm_Rng τ ∧ pm_Fr [(12, none), (13, none)] σ τ ∧ (∀ i : Int, τ 12 0 i = σ 12 0 i)
set_option maxRecDepth 20000 in
set_option maxHeartbeats 4000000 in
theorem ct_X0_rowsWith : pm_Ct yX0_rowsWith cX0_rowsWith 6 (some .long) 3 0 pre_X0_rowsWith po_X0_rowsWith := pm_sound (ini := false) (by decide +kernel) pk_X0_rowsWith (fun h => absurd h (by decide)) (by
  rintro as n s0 ⟨v1, n1, op, rfl, rfl, R0, hpre⟩
  refine ⟨by decide, Nat.le_of_ble_eq_true rfl, fun G hG => ?_⟩
  have hG : pm_Rules (RX0, 3, 122, cX0_rowsWith, -1, (fun _ => 0), false, (some .long), po_X0_rowsWith [.inr (.inr (11, 0)), .inl v1, .inl n1, .inl op] 122 s0) G := hG
  show G 0 [some (.inr (.inr (11, 0))), some (.inl v1), some (.inl n1), some (.inl op), none, none] [] 122 s0
  refine px_aload_n hG dX0_rowsWith_0 rfl ?_
  refine gr_11_1 hG dX0_rowsWith_1 fl_X0_9 R0 ?_
  refine px_iload_n hG dX0_rowsWith_4 rfl ?_
  refine px_dup2 hG dX0_rowsWith_5 ?_
  refine al_12 hG dX0_rowsWith_6 R0 (by omega) (fun x1 ex1 lx1 ux1 => ?_)
  have X1 := ex1
  have Y1 := pm_wb_at hpre.2.2.2.2.2.2 X1 (by omega) (by omega)
  refine px_iconst hG dX0_rowsWith_7 ?_
  refine px_iadd hG dX0_rowsWith_8 ?_
  refine as_12 hG dX0_rowsWith_9 R0 (by omega) (by omega) (fun s2 qs2 Rs2 => ?_)
  have Fs2 := pm_Fr_up ((pm_Fr_rf : pm_Fr [(12, none), (13, none)] s0 s0)) qs2 (M := [(12, none), (13, none)]) rfl
  have E1 := qs2
  refine px_aload_n hG dX0_rowsWith_10 rfl ?_
  refine px_iload_n hG dX0_rowsWith_11 rfl ?_
  refine px_iload_n hG dX0_rowsWith_12 rfl ?_
  refine jv2 hG dX0_rowsWith_13 ct_X0_endings lk_X0_38 ⟨rfl, rfl⟩ (by decide) ⟨Nat.le_of_ble_eq_true rfl, Nat.le_of_ble_eq_true rfl, Nat.le_of_ble_eq_true rfl⟩ (Nat.le_of_ble_eq_true rfl) ⟨n1, op, rfl, rfl, Rs2, by omega⟩ (fun r3 t5 pr3 => ?_)
  obtain ⟨z6, rfl, Rt5, Ft5⟩ := pr3 _ _ rfl
  have Ff7 := pm_Fr_tr Fs2 Ft5 (M := [(12, none), (13, none)]) rfl
  show G 16 [some (.inr (.inr (11, 0))), some (.inl v1), some (.inl n1), some (.inl op), none, none] [.inr (.inl z6)] 122 t5
  have E2 := fun i => Ft5 12 0 i rfl
  refine px_lstore hG dX0_rowsWith_16 (Nat.le_of_ble_eq_true rfl) (L2 := [some (.inr (.inr (11, 0))), some (.inl v1), some (.inl n1), some (.inl op), some (.inr (.inl z6)), none]) rfl ?_
  refine px_aload_n hG dX0_rowsWith_18 rfl ?_
  refine gr_11_1 hG dX0_rowsWith_19 fl_X0_9 Rt5 ?_
  refine px_iload_n hG dX0_rowsWith_22 rfl ?_
  refine px_dup2 hG dX0_rowsWith_23 ?_
  refine al_12 hG dX0_rowsWith_24 Rt5 (by omega) (fun x8 ex8 lx8 ux8 => ?_)
  have X2 := ex8
  have Y2 := E2 v1
  have Y3 := pm_at E1
  refine px_iconst hG dX0_rowsWith_25 ?_
  refine px_isub hG dX0_rowsWith_26 ?_
  refine as_12 hG dX0_rowsWith_27 Rt5 (by omega) (by omega) (fun s9 qs9 Rs9 => ?_)
  have Fs9 := pm_Fr_up (Ff7) qs9 (M := [(12, none), (13, none)]) rfl
  have E3 := qs9
  refine px_lload hG dX0_rowsWith_28 rfl ?_
  exact px_lret (st := []) hG dX0_rowsWith_30 rfl rfl (fun v1_1 n1_1 op_1 ee => by cases ee; exact ⟨_, rfl, Rs9, Fs9, pm_incdec E1 E2 E3 X1 X2⟩))
def pre_X0_numberOf (as : List pm_V) (n : Nat) (σ : pm_H) : Prop := ∃ n1 k1 : Int, as = [.inr (.inr (11, 0)), .inr (.inr (4, 0)), .inl n1, .inl k1] ∧ n = 122 ∧ pm_Rng σ ∧ (1 ≤ n1 ∧ n1 ≤ 10 ∧ 0 ≤ k1 ∧ k1 ≤ 10)
def po_X0_numberOf (as : List pm_V) (_ : Nat) (σ : pm_H) (r : Option pm_V) (τ : pm_H) : Prop := ∀ n1 k1 : Int, as = [.inr (.inr (11, 0)), .inr (.inr (4, 0)), .inl n1, .inl k1] → ∃ v : Int, r = some (.inr (.inl v)) ∧ pm_Rng τ ∧ pm_Fr [(12, none), (13, none)] σ τ
set_option maxRecDepth 20000 in
set_option maxHeartbeats 4000000 in
theorem ct_X0_numberOf : pm_Ct yX0_numberOf cX0_numberOf 8 (some .long) 4 0 pre_X0_numberOf po_X0_numberOf := pm_sound (ini := false) (by decide +kernel) pk_X0_numberOf (fun h => absurd h (by decide)) (by
  rintro as n s0 ⟨n1, k1, rfl, rfl, R0, hpre⟩
  refine ⟨by decide, Nat.le_of_ble_eq_true rfl, fun G hG => ?_⟩
  have hG : pm_Rules (RX0, 4, 122, cX0_numberOf, -1, (fun _ => 0), false, (some .long), po_X0_numberOf [.inr (.inr (11, 0)), .inr (.inr (4, 0)), .inl n1, .inl k1] 122 s0) G := hG
  show G 0 [some (.inr (.inr (11, 0))), some (.inr (.inr (4, 0))), some (.inl n1), some (.inl k1), none, none, none, none] [] 122 s0
  refine px_aload_n hG dX0_numberOf_0 rfl ?_
  refine jv0 hG dX0_numberOf_1 ct_X0_forgetWishers lk_X0_27 ⟨rfl, rfl⟩ (by decide) ⟨Nat.le_of_ble_eq_true rfl, Nat.le_of_ble_eq_true rfl, Nat.le_of_ble_eq_true rfl⟩ (Nat.le_of_ble_eq_true rfl) ⟨rfl, rfl, R0⟩ (fun r1 t3 pr1 => ?_)
  obtain ⟨rfl, Rt3, Ft3, br1⟩ := pr1 rfl
  have Ff5 := pm_Fr_mono Ft3 (M := [(12, none), (13, none)]) rfl
  show G 4 [some (.inr (.inr (11, 0))), some (.inr (.inr (4, 0))), some (.inl n1), some (.inl k1), none, none, none, none] [] 122 t3
  have W := br1
  refine px_lconst hG dX0_numberOf_4 ?_
  show G 5 [some (.inr (.inr (11, 0))), some (.inr (.inr (4, 0))), some (.inl n1), some (.inl k1), none, none, none, none] [.inr (.inl 0)] 122 t3
  refine px_lstore hG dX0_numberOf_5 (Nat.le_of_ble_eq_true rfl) (L2 := [some (.inr (.inr (11, 0))), some (.inr (.inr (4, 0))), some (.inl n1), some (.inl k1), some (.inr (.inl 0)), none, none, none]) rfl ?_
  refine px_iconst hG dX0_numberOf_7 ?_
  refine px_istore hG dX0_numberOf_8 (Nat.le_of_ble_eq_true rfl) (L2 := [some (.inr (.inr (11, 0))), some (.inr (.inr (4, 0))), some (.inl n1), some (.inl k1), some (.inr (.inl 0)), none, some (.inl 1), none]) rfl ?_
  have L10 : ∀ (N : Nat) (v4_6 : Int) (v6_7 : Int) (s8 : pm_H), pm_Rng s8 → pm_Fr [(12, none), (13, none)] s0 s8 → ((1 ≤ v6_7 ∧ v6_7 ≤ 10000) ∧ (v6_7 ≤ 11 ∧ pm_wb s8 12 (v6_7 - 1))) → (10001 - v6_7).toNat < N → G 10 [some (.inr (.inr (11, 0))), some (.inr (.inr (4, 0))), some (.inl n1), some (.inl k1), some (.inr (.inl v4_6)), none, some (.inl v6_7), none] [] 122 s8 := by
    intro N
    induction N with
    | zero => intro v4_6 v6_7 s8 R9 F10 inv12 hm13; exact absurd hm13 (Nat.not_lt_zero _)
    | succ N ih11 =>
      intro v4_6 v6_7 s8 R9 F10 inv12 hm13
      have W := (inv12.2).2
      have W0 := (inv12.2).1
      refine px_iload hG dX0_numberOf_10 rfl ?_
      refine px_iload_n hG dX0_numberOf_12 rfl ?_
      refine px_ic_gt hG dX0_numberOf_13 (tgt := 69) (by decide) ⟨by omega, by omega⟩ ⟨by omega, by omega⟩ (fun c14 => ?_) (fun c14 => ?_)
      · refine px_lload hG dX0_numberOf_69 rfl ?_
        exact px_lret (st := []) hG dX0_numberOf_71 rfl rfl (fun n1_1 k1_1 ee => by cases ee; exact ⟨_, rfl, R9, F10⟩)
      · refine px_iconst hG dX0_numberOf_16 ?_
        refine px_istore hG dX0_numberOf_17 (Nat.le_of_ble_eq_true rfl) (L2 := [some (.inr (.inr (11, 0))), some (.inr (.inr (4, 0))), some (.inl n1), some (.inl k1), some (.inr (.inl v4_6)), none, some (.inl v6_7), some (.inl 1)]) rfl ?_
        have L19 : ∀ (N : Nat) (v4_15 : Int) (v7_16 : Int) (s17 : pm_H), pm_Rng s17 → pm_Fr [(12, none), (13, none)] s0 s17 → ((1 ≤ v7_16 ∧ v7_16 ≤ 10000) ∧ (pm_wb s17 12 (v6_7 - 1))) → (10001 - v7_16).toNat < N → G 19 [some (.inr (.inr (11, 0))), some (.inr (.inr (4, 0))), some (.inl n1), some (.inl k1), some (.inr (.inl v4_15)), none, some (.inl v6_7), some (.inl v7_16)] [] 122 s17 := by
          intro N
          induction N with
          | zero => intro v4_15 v7_16 s17 R18 F19 inv21 hm22; exact absurd hm22 (Nat.not_lt_zero _)
          | succ N ih20 =>
            intro v4_15 v7_16 s17 R18 F19 inv21 hm22
            have W := inv21.2
            refine px_iload hG dX0_numberOf_19 rfl ?_
            refine px_aload_n hG dX0_numberOf_21 rfl ?_
            refine px_iload hG dX0_numberOf_22 rfl ?_
            refine al_4 hG dX0_numberOf_24 R18 (by omega) (fun x23 ex23 lx23 ux23 => ?_)
            have J50_25 : ((v7_16 ≥ x23)) → G 50 [some (.inr (.inr (11, 0))), some (.inr (.inr (4, 0))), some (.inl n1), some (.inl k1), some (.inr (.inl v4_15)), none, some (.inl v6_7), none] [] 122 s17 := by
              intro inv26
              refine px_aload_n hG dX0_numberOf_50 rfl ?_
              refine gr_11_1 hG dX0_numberOf_51 fl_X0_9 R18 ?_
              refine px_aload_n hG dX0_numberOf_54 rfl ?_
              refine px_iload hG dX0_numberOf_55 rfl ?_
              refine al_4 hG dX0_numberOf_57 R18 (by omega) (fun x27 ex27 lx27 ux27 => ?_)
              refine px_dup2 hG dX0_numberOf_58 ?_
              refine al_12 hG dX0_numberOf_59 R18 (by omega) (fun x28 ex28 lx28 ux28 => ?_)
              have X := ex28
              have Y := pm_wb_at W X (by omega) (by omega)
              refine px_iconst hG dX0_numberOf_60 ?_
              refine px_iadd hG dX0_numberOf_61 ?_
              refine as_12 hG dX0_numberOf_62 R18 (by omega) (by omega) (fun s29 qs29 Rs29 => ?_)
              have Fs29 := pm_Fr_up (F19) qs29 (M := [(12, none), (13, none)]) rfl
              have W := pm_wb_up W qs29 X (by omega) (by omega)
              refine px_iinc hG dX0_numberOf_63 (Nat.le_of_ble_eq_true rfl) rfl (L2 := [some (.inr (.inr (11, 0))), some (.inr (.inr (4, 0))), some (.inl n1), some (.inl k1), some (.inr (.inl v4_15)), none, some (.inl (v6_7 + 1)), none]) rfl ?_
              refine px_goto hG dX0_numberOf_66 (tgt := 10) (by decide) ?_
              exact ih11 v4_15 (v6_7 + 1) s29 Rs29 Fs29 (⟨by omega, ⟨by omega, pm_wb_mono W (by omega)⟩⟩) (by omega)
            refine px_ic_ge hG dX0_numberOf_25 (tgt := 50) (by decide) ⟨by omega, by omega⟩ ⟨by omega, by omega⟩ (fun c24 => ?_) (fun c24 => ?_)
            · refine px_weak hG (L2 := [some (.inr (.inr (11, 0))), some (.inr (.inr (4, 0))), some (.inl n1), some (.inl k1), some (.inr (.inl v4_15)), none, some (.inl v6_7), none]) ⟨Or.inr rfl, Or.inr rfl, Or.inr rfl, Or.inr rfl, Or.inr rfl, Or.inr rfl, Or.inr rfl, Or.inl rfl, trivial⟩ ?_
              exact J50_25  (by omega)
            · refine px_lload hG dX0_numberOf_28 rfl ?_
              refine px_aload_n hG dX0_numberOf_30 rfl ?_
              refine px_iload hG dX0_numberOf_31 rfl ?_
              refine px_iload_n hG dX0_numberOf_33 rfl ?_
              refine px_iload_n hG dX0_numberOf_34 rfl ?_
              refine px_iload hG dX0_numberOf_35 rfl ?_
              refine px_isub hG dX0_numberOf_37 ?_
              refine jv3 hG dX0_numberOf_38 ct_X0_rowsWith lk_X0_30 ⟨rfl, rfl⟩ (by decide) ⟨Nat.le_of_ble_eq_true rfl, Nat.le_of_ble_eq_true rfl, Nat.le_of_ble_eq_true rfl⟩ (Nat.le_of_ble_eq_true rfl) ⟨v7_16, n1, (k1 - v6_7), rfl, rfl, R18, ⟨by omega, by omega, by omega, by omega, by omega, by omega, pm_wb_mono W (by omega)⟩⟩ (fun r30 t32 pr30 => ?_)
              obtain ⟨z33, rfl, Rt32, Ft32, br30⟩ := pr30 _ _ _ rfl
              have Ff34 := pm_Fr_tr F19 Ft32 (M := [(12, none), (13, none)]) rfl
              show G 41 [some (.inr (.inr (11, 0))), some (.inr (.inr (4, 0))), some (.inl n1), some (.inl k1), some (.inr (.inl v4_15)), none, some (.inl v6_7), some (.inl v7_16)] [.inr (.inl z33), .inr (.inl v4_15)] 122 t32
              have W := pm_wb_eq br30 W
              refine px_ladd hG dX0_numberOf_41 ?_
              refine px_lstore hG dX0_numberOf_42 (Nat.le_of_ble_eq_true rfl) (L2 := [some (.inr (.inr (11, 0))), some (.inr (.inr (4, 0))), some (.inl n1), some (.inl k1), some (.inr (.inl (v4_15 + z33))), none, some (.inl v6_7), some (.inl v7_16)]) rfl ?_
              refine px_iinc hG dX0_numberOf_44 (Nat.le_of_ble_eq_true rfl) rfl (L2 := [some (.inr (.inr (11, 0))), some (.inr (.inr (4, 0))), some (.inl n1), some (.inl k1), some (.inr (.inl (v4_15 + z33))), none, some (.inl v6_7), some (.inl (v7_16 + 1))]) rfl ?_
              refine px_goto hG dX0_numberOf_47 (tgt := 19) (by decide) ?_
              exact ih20 (v4_15 + z33) (v7_16 + 1) t32 Rt32 Ff34 (⟨by omega, W⟩) (by omega)
        exact L19 _ v4_6 1 s8 R9 F10 (⟨by omega, W⟩) (Nat.lt_succ_self _)
  exact L10 _ 0 1 t3 Rt3 Ff5 (⟨by omega, ⟨by omega, pm_wb_0 W (by omega)⟩⟩) (Nat.lt_succ_self _))
def pre_X0_fillRow (as : List pm_V) (n : Nat) (σ : pm_H) : Prop := ∃ n1 k1 r1 : Int, as = [.inr (.inr (11, 0)), .inr (.inr (39, 0)), .inl n1, .inl k1, .inr (.inl r1)] ∧ n = 122 ∧ pm_Rng σ ∧ (1 ≤ n1 ∧ n1 ≤ 10 ∧ 0 ≤ k1 ∧ k1 ≤ 10)
def po_X0_fillRow (as : List pm_V) (_ : Nat) (σ : pm_H) (r : Option pm_V) (τ : pm_H) : Prop := ∀ n1 k1 r1 : Int, as = [.inr (.inr (11, 0)), .inr (.inr (39, 0)), .inl n1, .inl k1, .inr (.inl r1)] → r = none ∧ pm_Rng τ ∧ pm_Fr [(12, none), (13, none), (39, none)] σ τ
set_option maxRecDepth 20000 in
set_option maxHeartbeats 4000000 in
theorem ct_X0_fillRow : pm_Ct yX0_fillRow cX0_fillRow 12 none 4 0 pre_X0_fillRow po_X0_fillRow := pm_sound (ini := false) (by decide +kernel) pk_X0_fillRow (fun h => absurd h (by decide)) (by
  rintro as n s0 ⟨n1, k1, r1, rfl, rfl, R0, hpre⟩
  refine ⟨by decide, Nat.le_of_ble_eq_true rfl, fun G hG => ?_⟩
  have hG : pm_Rules (RX0, 4, 122, cX0_fillRow, -1, (fun _ => 0), false, none, po_X0_fillRow [.inr (.inr (11, 0)), .inr (.inr (39, 0)), .inl n1, .inl k1, .inr (.inl r1)] 122 s0) G := hG
  show G 0 [some (.inr (.inr (11, 0))), some (.inr (.inr (39, 0))), some (.inl n1), some (.inl k1), some (.inr (.inl r1)), none, none, none, none, none, none, none] [] 122 s0
  refine px_aload_n hG dX0_fillRow_0 rfl ?_
  refine jv0 hG dX0_fillRow_1 ct_X0_forgetWishers lk_X0_27 ⟨rfl, rfl⟩ (by decide) ⟨Nat.le_of_ble_eq_true rfl, Nat.le_of_ble_eq_true rfl, Nat.le_of_ble_eq_true rfl⟩ (Nat.le_of_ble_eq_true rfl) ⟨rfl, rfl, R0⟩ (fun r1 t3 pr1 => ?_)
  obtain ⟨rfl, Rt3, Ft3, br1⟩ := pr1 rfl
  have Ff5 := pm_Fr_mono Ft3 (M := [(12, none), (13, none), (39, none)]) rfl
  show G 4 [some (.inr (.inr (11, 0))), some (.inr (.inr (39, 0))), some (.inl n1), some (.inl k1), some (.inr (.inl r1)), none, none, none, none, none, none, none] [] 122 t3
  have W := br1
  refine px_lload hG dX0_fillRow_4 rfl ?_
  refine px_lstore hG dX0_fillRow_6 (Nat.le_of_ble_eq_true rfl) (L2 := [some (.inr (.inr (11, 0))), some (.inr (.inr (39, 0))), some (.inl n1), some (.inl k1), some (.inr (.inl r1)), none, some (.inr (.inl r1)), none, none, none, none, none]) rfl ?_
  refine px_iconst hG dX0_fillRow_8 ?_
  refine px_istore hG dX0_fillRow_9 (Nat.le_of_ble_eq_true rfl) (L2 := [some (.inr (.inr (11, 0))), some (.inr (.inr (39, 0))), some (.inl n1), some (.inl k1), some (.inr (.inl r1)), none, some (.inr (.inl r1)), none, some (.inl 1), none, none, none]) rfl ?_
  have L11 : ∀ (N : Nat) (v6_6 : Int) (v8_7 : Int) (s8 : pm_H), pm_Rng s8 → pm_Fr [(12, none), (13, none), (39, none)] s0 s8 → ((1 ≤ v8_7 ∧ v8_7 ≤ 10000) ∧ (v8_7 ≤ 11 ∧ pm_wb s8 12 (v8_7 - 1))) → (10001 - v8_7).toNat < N → G 11 [some (.inr (.inr (11, 0))), some (.inr (.inr (39, 0))), some (.inl n1), some (.inl k1), none, none, some (.inr (.inl v6_6)), none, some (.inl v8_7), none, none, none] [] 122 s8 := by
    intro N
    induction N with
    | zero => intro v6_6 v8_7 s8 R9 F10 inv12 hm13; exact absurd hm13 (Nat.not_lt_zero _)
    | succ N ih11 =>
      intro v6_6 v8_7 s8 R9 F10 inv12 hm13
      have W := (inv12.2).2
      have W0 := (inv12.2).1
      refine px_iload hG dX0_fillRow_11 rfl ?_
      refine px_iload_n hG dX0_fillRow_13 rfl ?_
      refine px_ic_gt hG dX0_fillRow_14 (tgt := 96) (by decide) ⟨by omega, by omega⟩ ⟨by omega, by omega⟩ (fun c14 => ?_) (fun c14 => ?_)
      · exact px_vret (st := []) hG dX0_fillRow_96 rfl rfl (fun n1_1 k1_1 r1_1 ee => by cases ee; exact ⟨rfl, R9, F10⟩)
      · refine px_iconst hG dX0_fillRow_17 ?_
        refine px_istore hG dX0_fillRow_18 (Nat.le_of_ble_eq_true rfl) (L2 := [some (.inr (.inr (11, 0))), some (.inr (.inr (39, 0))), some (.inl n1), some (.inl k1), none, none, some (.inr (.inl v6_6)), none, some (.inl v8_7), some (.inl 1), none, none]) rfl ?_
        refine px_aload_n hG dX0_fillRow_20 rfl ?_
        refine px_iload hG dX0_fillRow_21 rfl ?_
        refine px_iload_n hG dX0_fillRow_23 rfl ?_
        refine px_iload_n hG dX0_fillRow_24 rfl ?_
        refine px_iload hG dX0_fillRow_25 rfl ?_
        refine px_isub hG dX0_fillRow_27 ?_
        refine jv3 hG dX0_fillRow_28 ct_X0_rowsWith lk_X0_30 ⟨rfl, rfl⟩ (by decide) ⟨Nat.le_of_ble_eq_true rfl, Nat.le_of_ble_eq_true rfl, Nat.le_of_ble_eq_true rfl⟩ (Nat.le_of_ble_eq_true rfl) ⟨1, n1, (k1 - v8_7), rfl, rfl, R9, ⟨by omega, by omega, by omega, by omega, by omega, by omega, pm_wb_mono W (by omega)⟩⟩ (fun r15 t17 pr15 => ?_)
        obtain ⟨z18, rfl, Rt17, Ft17, br15⟩ := pr15 _ _ _ rfl
        have Ff19 := pm_Fr_tr F10 Ft17 (M := [(12, none), (13, none), (39, none)]) rfl
        show G 31 [some (.inr (.inr (11, 0))), some (.inr (.inr (39, 0))), some (.inl n1), some (.inl k1), none, none, some (.inr (.inl v6_6)), none, some (.inl v8_7), some (.inl 1), none, none] [.inr (.inl z18)] 122 t17
        have W := pm_wb_eq br15 W
        refine px_lstore hG dX0_fillRow_31 (Nat.le_of_ble_eq_true rfl) (L2 := [some (.inr (.inr (11, 0))), some (.inr (.inr (39, 0))), some (.inl n1), some (.inl k1), none, none, some (.inr (.inl v6_6)), none, some (.inl v8_7), some (.inl 1), some (.inr (.inl z18)), none]) rfl ?_
        have L33 : ∀ (N : Nat) (v6_20 : Int) (v9_21 : Int) (v10_22 : Int) (s23 : pm_H), pm_Rng s23 → pm_Fr [(12, none), (13, none), (39, none)] s0 s23 → ((1 ≤ v9_21 ∧ v9_21 ≤ 10000) ∧ (v9_21 ≤ n1 ∧ pm_wb s23 12 (v8_7 - 1))) → (10001 - v9_21).toNat < N → G 33 [some (.inr (.inr (11, 0))), some (.inr (.inr (39, 0))), some (.inl n1), some (.inl k1), none, none, some (.inr (.inl v6_20)), none, some (.inl v8_7), some (.inl v9_21), some (.inr (.inl v10_22)), none] [] 122 s23 := by
          intro N
          induction N with
          | zero => intro v6_20 v9_21 v10_22 s23 R24 F25 inv27 hm28; exact absurd hm28 (Nat.not_lt_zero _)
          | succ N ih26 =>
            intro v6_20 v9_21 v10_22 s23 R24 F25 inv27 hm28
            have W := (inv27.2).2
            have W1 := (inv27.2).1
            refine px_lload hG dX0_fillRow_33 rfl ?_
            refine px_lload hG dX0_fillRow_35 rfl ?_
            refine px_lcmpA hG dX0_fillRow_37 (fun x29 bx29 cx29 => ?_)
            have J73_31 : ((x29 < 0) ∨ (¬ (x29 < 0) ∧ v9_21 ≥ n1)) → G 73 [some (.inr (.inr (11, 0))), some (.inr (.inr (39, 0))), some (.inl n1), some (.inl k1), none, none, some (.inr (.inl v6_20)), none, some (.inl v8_7), some (.inl v9_21), none, none] [] 122 s23 := by
              intro inv32
              refine px_aload_n hG dX0_fillRow_73 rfl ?_
              refine px_iload hG dX0_fillRow_74 rfl ?_
              refine px_iload hG dX0_fillRow_76 rfl ?_
              refine as_39 hG dX0_fillRow_78 R24 (by omega) (by omega) (fun s33 qs33 Rs33 => ?_)
              have Fs33 := pm_Fr_up (F25) qs33 (M := [(12, none), (13, none), (39, none)]) rfl
              have W := pm_wb_eq (fun i => pm_nec qs33 (by decide)) W
              refine px_aload_n hG dX0_fillRow_79 rfl ?_
              refine gr_11_1 hG dX0_fillRow_80 fl_X0_9 Rs33 ?_
              refine px_iload hG dX0_fillRow_83 rfl ?_
              refine px_dup2 hG dX0_fillRow_85 ?_
              refine al_12 hG dX0_fillRow_86 Rs33 (by omega) (fun x34 ex34 lx34 ux34 => ?_)
              have X := ex34
              have Y := pm_wb_at W X (by omega) (by omega)
              refine px_iconst hG dX0_fillRow_87 ?_
              refine px_iadd hG dX0_fillRow_88 ?_
              refine as_12 hG dX0_fillRow_89 Rs33 (by omega) (by omega) (fun s35 qs35 Rs35 => ?_)
              have Fs35 := pm_Fr_up (Fs33) qs35 (M := [(12, none), (13, none), (39, none)]) rfl
              have W := pm_wb_up W qs35 X (by omega) (by omega)
              refine px_iinc hG dX0_fillRow_90 (Nat.le_of_ble_eq_true rfl) rfl (L2 := [some (.inr (.inr (11, 0))), some (.inr (.inr (39, 0))), some (.inl n1), some (.inl k1), none, none, some (.inr (.inl v6_20)), none, some (.inl (v8_7 + 1)), some (.inl v9_21), none, none]) rfl ?_
              refine px_goto hG dX0_fillRow_93 (tgt := 11) (by decide) ?_
              refine px_weak hG (L2 := [some (.inr (.inr (11, 0))), some (.inr (.inr (39, 0))), some (.inl n1), some (.inl k1), none, none, some (.inr (.inl v6_20)), none, some (.inl (v8_7 + 1)), none, none, none]) ⟨Or.inr rfl, Or.inr rfl, Or.inr rfl, Or.inr rfl, Or.inr rfl, Or.inr rfl, Or.inr rfl, Or.inr rfl, Or.inr rfl, Or.inl rfl, Or.inr rfl, Or.inr rfl, trivial⟩ ?_
              exact ih11 v6_20 (v8_7 + 1) s35 Rs35 Fs35 (⟨by omega, ⟨by omega, pm_wb_mono W (by omega)⟩⟩) (by omega)
            refine px_if_lt hG dX0_fillRow_38 (tgt := 73) (by decide) ⟨by omega, by omega⟩ (fun c30 => ?_) (fun c30 => ?_)
            · refine px_weak hG (L2 := [some (.inr (.inr (11, 0))), some (.inr (.inr (39, 0))), some (.inl n1), some (.inl k1), none, none, some (.inr (.inl v6_20)), none, some (.inl v8_7), some (.inl v9_21), none, none]) ⟨Or.inr rfl, Or.inr rfl, Or.inr rfl, Or.inr rfl, Or.inr rfl, Or.inr rfl, Or.inr rfl, Or.inr rfl, Or.inr rfl, Or.inr rfl, Or.inl rfl, Or.inr rfl, trivial⟩ ?_
              exact J73_31  (by omega)
            · refine px_iload hG dX0_fillRow_41 rfl ?_
              refine px_iload_n hG dX0_fillRow_43 rfl ?_
              refine px_ic_ge hG dX0_fillRow_44 (tgt := 73) (by decide) ⟨by omega, by omega⟩ ⟨by omega, by omega⟩ (fun c36 => ?_) (fun c36 => ?_)
              · refine px_weak hG (L2 := [some (.inr (.inr (11, 0))), some (.inr (.inr (39, 0))), some (.inl n1), some (.inl k1), none, none, some (.inr (.inl v6_20)), none, some (.inl v8_7), some (.inl v9_21), none, none]) ⟨Or.inr rfl, Or.inr rfl, Or.inr rfl, Or.inr rfl, Or.inr rfl, Or.inr rfl, Or.inr rfl, Or.inr rfl, Or.inr rfl, Or.inr rfl, Or.inl rfl, Or.inr rfl, trivial⟩ ?_
                exact J73_31  (by omega)
              · refine px_lload hG dX0_fillRow_47 rfl ?_
                refine px_lload hG dX0_fillRow_49 rfl ?_
                refine px_lsub hG dX0_fillRow_51 ?_
                refine px_lstore hG dX0_fillRow_52 (Nat.le_of_ble_eq_true rfl) (L2 := [some (.inr (.inr (11, 0))), some (.inr (.inr (39, 0))), some (.inl n1), some (.inl k1), none, none, some (.inr (.inl (v6_20 - v10_22))), none, some (.inl v8_7), some (.inl v9_21), some (.inr (.inl v10_22)), none]) rfl ?_
                refine px_iinc hG dX0_fillRow_54 (Nat.le_of_ble_eq_true rfl) rfl (L2 := [some (.inr (.inr (11, 0))), some (.inr (.inr (39, 0))), some (.inl n1), some (.inl k1), none, none, some (.inr (.inl (v6_20 - v10_22))), none, some (.inl v8_7), some (.inl (v9_21 + 1)), some (.inr (.inl v10_22)), none]) rfl ?_
                refine px_aload_n hG dX0_fillRow_57 rfl ?_
                refine px_iload hG dX0_fillRow_58 rfl ?_
                refine px_iload_n hG dX0_fillRow_60 rfl ?_
                refine px_iload_n hG dX0_fillRow_61 rfl ?_
                refine px_iload hG dX0_fillRow_62 rfl ?_
                refine px_isub hG dX0_fillRow_64 ?_
                refine jv3 hG dX0_fillRow_65 ct_X0_rowsWith lk_X0_30 ⟨rfl, rfl⟩ (by decide) ⟨Nat.le_of_ble_eq_true rfl, Nat.le_of_ble_eq_true rfl, Nat.le_of_ble_eq_true rfl⟩ (Nat.le_of_ble_eq_true rfl) ⟨(v9_21 + 1), n1, (k1 - v8_7), rfl, rfl, R24, ⟨by omega, by omega, by omega, by omega, by omega, by omega, pm_wb_mono W (by omega)⟩⟩ (fun r37 t39 pr37 => ?_)
                obtain ⟨z40, rfl, Rt39, Ft39, br37⟩ := pr37 _ _ _ rfl
                have Ff41 := pm_Fr_tr F25 Ft39 (M := [(12, none), (13, none), (39, none)]) rfl
                show G 68 [some (.inr (.inr (11, 0))), some (.inr (.inr (39, 0))), some (.inl n1), some (.inl k1), none, none, some (.inr (.inl (v6_20 - v10_22))), none, some (.inl v8_7), some (.inl (v9_21 + 1)), some (.inr (.inl v10_22)), none] [.inr (.inl z40)] 122 t39
                have W := pm_wb_eq br37 W
                refine px_lstore hG dX0_fillRow_68 (Nat.le_of_ble_eq_true rfl) (L2 := [some (.inr (.inr (11, 0))), some (.inr (.inr (39, 0))), some (.inl n1), some (.inl k1), none, none, some (.inr (.inl (v6_20 - v10_22))), none, some (.inl v8_7), some (.inl (v9_21 + 1)), some (.inr (.inl z40)), none]) rfl ?_
                refine px_goto hG dX0_fillRow_70 (tgt := 33) (by decide) ?_
                exact ih26 (v6_20 - v10_22) (v9_21 + 1) z40 t39 Rt39 Ff41 (⟨by omega, ⟨by omega, W⟩⟩) (by omega)
        exact L33 _ v6_6 1 z18 t17 Rt17 Ff19 (⟨by omega, ⟨by omega, W⟩⟩) (Nat.lt_succ_self _)
  refine px_weak hG (L2 := [some (.inr (.inr (11, 0))), some (.inr (.inr (39, 0))), some (.inl n1), some (.inl k1), none, none, some (.inr (.inl r1)), none, some (.inl 1), none, none, none]) ⟨Or.inr rfl, Or.inr rfl, Or.inr rfl, Or.inr rfl, Or.inl rfl, Or.inr rfl, Or.inr rfl, Or.inr rfl, Or.inr rfl, Or.inr rfl, Or.inr rfl, Or.inr rfl, trivial⟩ ?_
  exact L11 _ r1 1 t3 Rt3 Ff5 (⟨by omega, ⟨by omega, pm_wb_0 W (by omega)⟩⟩) (Nat.lt_succ_self _))
def pre_X0_canWishOneMore (as : List pm_V) (n : Nat) (σ : pm_H) : Prop := ∃ n1 car : Int, as = [.inr (.inr (11, 0)), .inr (.inr (4, 0)), .inl n1, .inl car] ∧ n = 122 ∧ pm_Rng σ ∧ (1 ≤ n1 ∧ n1 ≤ 10 ∧ 1 ≤ car ∧ car ≤ 10)
def po_X0_canWishOneMore (as : List pm_V) (_ : Nat) (σ : pm_H) (r : Option pm_V) (τ : pm_H) : Prop := ∀ n1 car : Int, as = [.inr (.inr (11, 0)), .inr (.inr (4, 0)), .inl n1, .inl car] → ∃ v : Int, r = some (.inl v) ∧ σ = τ ∧ ((v = 0 ∨ v = 1) ∧ (v = 1 → σ 4 0 car + 1 ≤ n1 ∧ pm_gt (σ 4 0) (σ 4 0 car) (car - 1).toNat + 1 ≤ n1 - σ 4 0 car))
set_option maxRecDepth 20000 in
set_option maxHeartbeats 4000000 in
theorem ct_X0_canWishOneMore : pm_Ct yX0_canWishOneMore cX0_canWishOneMore 6 (some .boolean) 0 0 pre_X0_canWishOneMore po_X0_canWishOneMore := pm_sound (ini := false) (by decide +kernel) pk_X0_canWishOneMore (fun h => absurd h (by decide)) (by
  rintro as n s0 ⟨n1, car, rfl, rfl, R0, hpre⟩
  refine ⟨by decide, Nat.le_of_ble_eq_true rfl, fun G hG => ?_⟩
  have hG : pm_Rules (RX0, 0, 122, cX0_canWishOneMore, -1, (fun _ => 0), false, (some .boolean), po_X0_canWishOneMore [.inr (.inr (11, 0)), .inr (.inr (4, 0)), .inl n1, .inl car] 122 s0) G := hG
  show G 0 [some (.inr (.inr (11, 0))), some (.inr (.inr (4, 0))), some (.inl n1), some (.inl car), none, none] [] 122 s0
  refine px_iconst hG dX0_canWishOneMore_0 ?_
  refine px_istore hG dX0_canWishOneMore_1 (Nat.le_of_ble_eq_true rfl) (L2 := [some (.inr (.inr (11, 0))), some (.inr (.inr (4, 0))), some (.inl n1), some (.inl car), some (.inl 1), none]) rfl ?_
  refine px_iconst hG dX0_canWishOneMore_3 ?_
  refine px_istore hG dX0_canWishOneMore_4 (Nat.le_of_ble_eq_true rfl) (L2 := [some (.inr (.inr (11, 0))), some (.inr (.inr (4, 0))), some (.inl n1), some (.inl car), some (.inl 1), some (.inl 1)]) rfl ?_
  have L6 : ∀ (N : Nat) (v4_1 : Int) (v5_2 : Int), ((1 ≤ v5_2 ∧ v5_2 ≤ 10000) ∧ (v4_1 = 1 + pm_gt (s0 4 0) (s0 4 0 car) (v5_2 - 1).toNat ∧ 1 ≤ v4_1 ∧ v4_1 ≤ v5_2 ∧ v5_2 ≤ car)) → (10001 - v5_2).toNat < N → G 6 [none, some (.inr (.inr (4, 0))), some (.inl n1), some (.inl car), some (.inl v4_1), some (.inl v5_2)] [] 122 s0 := by
    intro N
    induction N with
    | zero => intro v4_1 v5_2 inv4 hm5; exact absurd hm5 (Nat.not_lt_zero _)
    | succ N ih3 =>
      intro v4_1 v5_2 inv4 hm5
      have U := (inv4.2).1
      refine px_iload hG dX0_canWishOneMore_6 rfl ?_
      refine px_iload_n hG dX0_canWishOneMore_8 rfl ?_
      refine px_ic_ge hG dX0_canWishOneMore_9 (tgt := 31) (by decide) ⟨by omega, by omega⟩ ⟨by omega, by omega⟩ (fun c6 => ?_) (fun c6 => ?_)
      · have Q : v5_2 = car := by omega
        rw [Q] at U
        refine px_iload hG dX0_canWishOneMore_31 rfl ?_
        refine px_iload_n hG dX0_canWishOneMore_33 rfl ?_
        refine px_aload_n hG dX0_canWishOneMore_34 rfl ?_
        refine px_iload_n hG dX0_canWishOneMore_35 rfl ?_
        refine al_4 hG dX0_canWishOneMore_36 R0 (by omega) (fun x7 ex7 lx7 ux7 => ?_)
        refine px_isub hG dX0_canWishOneMore_37 ?_
        refine px_ic_gt hG dX0_canWishOneMore_38 (tgt := 45) (by decide) ⟨by omega, by omega⟩ ⟨by omega, by omega⟩ (fun c8 => ?_) (fun c8 => ?_)
        · refine px_iconst hG dX0_canWishOneMore_45 ?_
          exact px_zret (st := []) hG dX0_canWishOneMore_46 rfl (by omega) rfl (fun n1_1 car_1 ee => by cases ee; exact ⟨_, rfl, rfl, by omega⟩)
        · refine px_iconst hG dX0_canWishOneMore_41 ?_
          refine px_goto hG dX0_canWishOneMore_42 (tgt := 46) (by decide) ?_
          exact px_zret (st := []) hG dX0_canWishOneMore_46 rfl (by omega) rfl (fun n1_1 car_1 ee => by cases ee; exact ⟨_, rfl, rfl, by omega⟩)
      · have V := pm_gt_s (s0 4 0) (s0 4 0 car) (a := v5_2) (by omega)
        refine px_aload_n hG dX0_canWishOneMore_12 rfl ?_
        refine px_iload hG dX0_canWishOneMore_13 rfl ?_
        refine al_4 hG dX0_canWishOneMore_15 R0 (by omega) (fun x9 ex9 lx9 ux9 => ?_)
        have X1 := ex9
        refine px_aload_n hG dX0_canWishOneMore_16 rfl ?_
        refine px_iload_n hG dX0_canWishOneMore_17 rfl ?_
        refine al_4 hG dX0_canWishOneMore_18 R0 (by omega) (fun x10 ex10 lx10 ux10 => ?_)
        have X2 := ex10
        refine px_ic_le hG dX0_canWishOneMore_19 (tgt := 25) (by decide) ⟨by omega, by omega⟩ ⟨by omega, by omega⟩ (fun c11 => ?_) (fun c11 => ?_)
        · refine px_iinc hG dX0_canWishOneMore_25 (Nat.le_of_ble_eq_true rfl) rfl (L2 := [none, some (.inr (.inr (4, 0))), some (.inl n1), some (.inl car), some (.inl v4_1), some (.inl (v5_2 + 1))]) rfl ?_
          refine px_goto hG dX0_canWishOneMore_28 (tgt := 6) (by decide) ?_
          exact ih3 v4_1 (v5_2 + 1) (⟨by omega, by first | exact ⟨by omega, by omega, by omega, by omega⟩ | (rw [if_neg (by omega)] at V; exact ⟨by omega, by omega, by omega, by omega⟩)⟩) (by omega)
        · rw [if_pos (by omega)] at V
          refine px_iinc hG dX0_canWishOneMore_22 (Nat.le_of_ble_eq_true rfl) rfl (L2 := [none, some (.inr (.inr (4, 0))), some (.inl n1), some (.inl car), some (.inl (v4_1 + 1)), some (.inl v5_2)]) rfl ?_
          refine px_iinc hG dX0_canWishOneMore_25 (Nat.le_of_ble_eq_true rfl) rfl (L2 := [none, some (.inr (.inr (4, 0))), some (.inl n1), some (.inl car), some (.inl (v4_1 + 1)), some (.inl (v5_2 + 1))]) rfl ?_
          refine px_goto hG dX0_canWishOneMore_28 (tgt := 6) (by decide) ?_
          exact ih3 (v4_1 + 1) (v5_2 + 1) (⟨by omega, by first | exact ⟨by omega, by omega, by omega, by omega⟩ | (rw [if_neg (by omega)] at V; exact ⟨by omega, by omega, by omega, by omega⟩)⟩) (by omega)
  refine px_weak hG (L2 := [none, some (.inr (.inr (4, 0))), some (.inl n1), some (.inl car), some (.inl 1), some (.inl 1)]) ⟨Or.inl rfl, Or.inr rfl, Or.inr rfl, Or.inr rfl, Or.inr rfl, Or.inr rfl, trivial⟩ ?_
  exact L6 _ 1 1 (⟨by omega, ⟨rfl, by omega, by omega, by omega⟩⟩) (Nat.lt_succ_self _))
def pre_X0_stepOn (as : List pm_V) (n : Nat) (σ : pm_H) : Prop := ∃ n1 k1 : Int, as = [.inr (.inr (11, 0)), .inr (.inr (4, 0)), .inl n1, .inl k1] ∧ n = 122 ∧ pm_Rng σ ∧ (1 ≤ n1 ∧ n1 ≤ 10 ∧ 0 ≤ k1 ∧ k1 ≤ 10)
def po_X0_stepOn (as : List pm_V) (_ : Nat) (σ : pm_H) (r : Option pm_V) (τ : pm_H) : Prop := ∀ n1 k1 : Int, as = [.inr (.inr (11, 0)), .inr (.inr (4, 0)), .inl n1, .inl k1] → ∃ v : Int, r = some (.inl v) ∧ pm_Rng τ ∧ pm_Fr [(4, none)] σ τ ∧ ((v = 0 ∨ v = 1) ∧ (n1 = k1 → pm_gd (σ 4 0) n1.toNat → pm_gd (τ 4 0) n1.toNat))
set_option maxRecDepth 20000 in
set_option maxHeartbeats 4000000 in
theorem ct_X0_stepOn : pm_Ct yX0_stepOn cX0_stepOn 6 (some .boolean) 1 0 pre_X0_stepOn po_X0_stepOn := pm_sound (ini := false) (by decide +kernel) pk_X0_stepOn (fun h => absurd h (by decide)) (by
  rintro as n s0 ⟨n1, k1, rfl, rfl, R0, hpre⟩
  refine ⟨by decide, Nat.le_of_ble_eq_true rfl, fun G hG => ?_⟩
  have hG : pm_Rules (RX0, 1, 122, cX0_stepOn, -1, (fun _ => 0), false, (some .boolean), po_X0_stepOn [.inr (.inr (11, 0)), .inr (.inr (4, 0)), .inl n1, .inl k1] 122 s0) G := hG
  show G 0 [some (.inr (.inr (11, 0))), some (.inr (.inr (4, 0))), some (.inl n1), some (.inl k1), none, none] [] 122 s0
  refine px_iload_n hG dX0_stepOn_0 rfl ?_
  refine px_istore hG dX0_stepOn_1 (Nat.le_of_ble_eq_true rfl) (L2 := [some (.inr (.inr (11, 0))), some (.inr (.inr (4, 0))), some (.inl n1), some (.inl k1), some (.inl k1), none]) rfl ?_
  have L3 : ∀ (N : Nat) (v4_1 : Int) (s2 : pm_H), pm_Rng s2 → pm_Fr [(4, none)] s0 s2 → ((-10000 ≤ v4_1 ∧ v4_1 ≤ k1) ∧ (∀ i : Int, s2 4 0 i = s0 4 0 i)) → (v4_1 + 10001).toNat < N → G 3 [some (.inr (.inr (11, 0))), some (.inr (.inr (4, 0))), some (.inl n1), some (.inl k1), some (.inl v4_1), none] [] 122 s2 := by
    intro N
    induction N with
    | zero => intro v4_1 s2 R3 F4 inv6 hm7; exact absurd hm7 (Nat.not_lt_zero _)
    | succ N ih5 =>
      intro v4_1 s2 R3 F4 inv6 hm7
      have W := inv6.2
      refine px_iload hG dX0_stepOn_3 rfl ?_
      refine px_iconst hG dX0_stepOn_5 ?_
      refine px_ic_lt hG dX0_stepOn_6 (tgt := 59) (by decide) ⟨by omega, by omega⟩ ⟨by omega, by omega⟩ (fun c8 => ?_) (fun c8 => ?_)
      · refine px_iconst hG dX0_stepOn_59 ?_
        exact px_zret (st := []) hG dX0_stepOn_60 rfl (by omega) rfl (fun n1_1 k1_1 ee => by cases ee; exact ⟨_, rfl, R3, F4, ⟨by omega, fun _ hg => pm_gd_eq hg W⟩⟩)
      · refine px_aload_n hG dX0_stepOn_9 rfl ?_
        refine px_aload_n hG dX0_stepOn_10 rfl ?_
        refine px_iload_n hG dX0_stepOn_11 rfl ?_
        refine px_iload hG dX0_stepOn_12 rfl ?_
        refine jv3 hG dX0_stepOn_14 ct_X0_canWishOneMore lk_X0_34 ⟨rfl, rfl⟩ (by decide) ⟨Nat.le_of_ble_eq_true rfl, Nat.le_of_ble_eq_true rfl, Nat.le_of_ble_eq_true rfl⟩ (Nat.le_of_ble_eq_true rfl) ⟨n1, v4_1, rfl, rfl, R3, by omega⟩ (fun r9 t10 pr9 => ?_)
        obtain ⟨x11, rfl, rfl, br9⟩ := pr9 _ _ rfl
        show G 17 [some (.inr (.inr (11, 0))), some (.inr (.inr (4, 0))), some (.inl n1), some (.inl k1), some (.inl v4_1), none] [.inl x11] 122 s2
        have CW := br9
        refine px_if_eq hG dX0_stepOn_17 (tgt := 53) (by decide) ⟨by omega, by omega⟩ (fun c12 => ?_) (fun c12 => ?_)
        · refine px_iinc hG dX0_stepOn_53 (Nat.le_of_ble_eq_true rfl) rfl (L2 := [some (.inr (.inr (11, 0))), some (.inr (.inr (4, 0))), some (.inl n1), some (.inl k1), some (.inl (v4_1 + -1)), none]) rfl ?_
          refine px_goto hG dX0_stepOn_56 (tgt := 3) (by decide) ?_
          exact ih5 (v4_1 + -1) s2 R3 F4 (⟨by omega, W⟩) (by omega)
        · have CW2 := CW.2 (by omega)
          rw [W v4_1] at CW2
          rw [pm_gt_eq W] at CW2
          have GS : ∀ (g : Int → Int), n1 = k1 → pm_gd (s0 4 0) n1.toNat → (∀ i : Int, 1 ≤ i → i ≤ n1.toNat → g i = if i < v4_1 then s0 4 0 i else if i = v4_1 then s0 4 0 v4_1 + 1 else 1) → pm_gd g n1.toNat := fun g hn hg h => pm_gd_step hg (by omega) (by omega) (by omega) h
          refine px_aload_n hG dX0_stepOn_20 rfl ?_
          refine px_iload hG dX0_stepOn_21 rfl ?_
          refine px_dup2 hG dX0_stepOn_23 ?_
          refine al_4 hG dX0_stepOn_24 R3 (by omega) (fun x13 ex13 lx13 ux13 => ?_)
          have X1 := ex13
          refine px_iconst hG dX0_stepOn_25 ?_
          refine px_iadd hG dX0_stepOn_26 ?_
          refine as_4 hG dX0_stepOn_27 R3 (by omega) (by omega) (fun s14 qs14 Rs14 => ?_)
          have Fs14 := pm_Fr_up (F4) qs14 (M := [(4, none)]) rfl
          have E1 := qs14
          refine px_iload hG dX0_stepOn_28 rfl ?_
          refine px_iconst hG dX0_stepOn_30 ?_
          refine px_iadd hG dX0_stepOn_31 ?_
          refine px_istore hG dX0_stepOn_32 (Nat.le_of_ble_eq_true rfl) (L2 := [some (.inr (.inr (11, 0))), some (.inr (.inr (4, 0))), some (.inl n1), some (.inl k1), some (.inl v4_1), some (.inl (v4_1 + 1))]) rfl ?_
          have L34 : ∀ (N : Nat) (v5_15 : Int) (s16 : pm_H), pm_Rng s16 → pm_Fr [(4, none)] s0 s16 → ((v4_1 + 1 ≤ v5_15 ∧ v5_15 ≤ 10000) ∧ (∀ i : Int, i < v5_15 → s16 4 0 i = if i < v4_1 then s0 4 0 i else if i = v4_1 then s0 4 0 v4_1 + 1 else 1)) → (10001 - v5_15).toNat < N → G 34 [none, some (.inr (.inr (4, 0))), none, some (.inl k1), none, some (.inl v5_15)] [] 122 s16 := by
            intro N
            induction N with
            | zero => intro v5_15 s16 R17 F18 inv20 hm21; exact absurd hm21 (Nat.not_lt_zero _)
            | succ N ih19 =>
              intro v5_15 s16 R17 F18 inv20 hm21
              have U := inv20.2
              refine px_iload hG dX0_stepOn_34 rfl ?_
              refine px_iload_n hG dX0_stepOn_36 rfl ?_
              refine px_ic_gt hG dX0_stepOn_37 (tgt := 51) (by decide) ⟨by omega, by omega⟩ ⟨by omega, by omega⟩ (fun c22 => ?_) (fun c22 => ?_)
              · refine px_iconst hG dX0_stepOn_51 ?_
                exact px_zret (st := []) hG dX0_stepOn_52 rfl (by omega) rfl (fun n1_1 k1_1 ee => by cases ee; exact ⟨_, rfl, R17, F18, ⟨by omega, fun hn hg => GS _ hn hg (fun i h0 h1 => U i (by omega))⟩⟩)
              · refine px_aload_n hG dX0_stepOn_40 rfl ?_
                refine px_iload hG dX0_stepOn_41 rfl ?_
                refine px_iconst hG dX0_stepOn_43 ?_
                refine as_4 hG dX0_stepOn_44 R17 (by omega) (by omega) (fun s23 qs23 Rs23 => ?_)
                have Fs23 := pm_Fr_up (F18) qs23 (M := [(4, none)]) rfl
                have E2 := qs23
                refine px_iinc hG dX0_stepOn_45 (Nat.le_of_ble_eq_true rfl) rfl (L2 := [none, some (.inr (.inr (4, 0))), none, some (.inl k1), none, some (.inl (v5_15 + 1))]) rfl ?_
                refine px_goto hG dX0_stepOn_48 (tgt := 34) (by decide) ?_
                exact ih19 (v5_15 + 1) s23 Rs23 Fs23 (⟨by omega, fun i h => pm_stp U E2 (by omega) i h⟩) (by omega)
          refine px_weak hG (L2 := [none, some (.inr (.inr (4, 0))), none, some (.inl k1), none, some (.inl (v4_1 + 1))]) ⟨Or.inl rfl, Or.inr rfl, Or.inl rfl, Or.inr rfl, Or.inl rfl, Or.inr rfl, trivial⟩ ?_
          exact L34 _ (v4_1 + 1) s14 Rs14 Fs14 (⟨by omega, fun i h => pm_stp0 W E1 X1 i h⟩) (Nat.lt_succ_self _)
  exact L3 _ k1 s0 R0 pm_Fr_rf (⟨by omega, fun _ => rfl⟩) (Nat.lt_succ_self _))
def pre_X0_canWishOneMoreP (as : List pm_V) (n : Nat) (σ : pm_H) : Prop := ∃ n1 car : Int, as = [.inr (.inr (11, 0)), .inr (.inr (30, 0)), .inl n1, .inl car] ∧ n = 122 ∧ pm_Rng σ ∧ (1 ≤ n1 ∧ n1 ≤ 10 ∧ 1 ≤ car ∧ car ≤ 5)
def po_X0_canWishOneMoreP (as : List pm_V) (_ : Nat) (σ : pm_H) (r : Option pm_V) (τ : pm_H) : Prop := ∀ n1 car : Int, as = [.inr (.inr (11, 0)), .inr (.inr (30, 0)), .inl n1, .inl car] → ∃ v : Int, r = some (.inl v) ∧ σ = τ ∧ ((v = 0 ∨ v = 1) ∧ (v = 1 → σ 30 0 car + 1 ≤ n1 ∧ pm_gt (σ 30 0) (σ 30 0 car) (car - 1).toNat + 1 ≤ n1 - σ 30 0 car))
set_option maxRecDepth 20000 in
set_option maxHeartbeats 4000000 in
theorem ct_X0_canWishOneMoreP : pm_Ct yX0_canWishOneMore cX0_canWishOneMore 6 (some .boolean) 0 0 pre_X0_canWishOneMoreP po_X0_canWishOneMoreP := pm_sound (ini := false) (by decide +kernel) pk_X0_canWishOneMore (fun h => absurd h (by decide)) (by
  rintro as n s0 ⟨n1, car, rfl, rfl, R0, hpre⟩
  refine ⟨by decide, Nat.le_of_ble_eq_true rfl, fun G hG => ?_⟩
  have hG : pm_Rules (RX0, 0, 122, cX0_canWishOneMore, -1, (fun _ => 0), false, (some .boolean), po_X0_canWishOneMoreP [.inr (.inr (11, 0)), .inr (.inr (30, 0)), .inl n1, .inl car] 122 s0) G := hG
  show G 0 [some (.inr (.inr (11, 0))), some (.inr (.inr (30, 0))), some (.inl n1), some (.inl car), none, none] [] 122 s0
  refine px_iconst hG dX0_canWishOneMore_0 ?_
  refine px_istore hG dX0_canWishOneMore_1 (Nat.le_of_ble_eq_true rfl) (L2 := [some (.inr (.inr (11, 0))), some (.inr (.inr (30, 0))), some (.inl n1), some (.inl car), some (.inl 1), none]) rfl ?_
  refine px_iconst hG dX0_canWishOneMore_3 ?_
  refine px_istore hG dX0_canWishOneMore_4 (Nat.le_of_ble_eq_true rfl) (L2 := [some (.inr (.inr (11, 0))), some (.inr (.inr (30, 0))), some (.inl n1), some (.inl car), some (.inl 1), some (.inl 1)]) rfl ?_
  have L6 : ∀ (N : Nat) (v4_1 : Int) (v5_2 : Int), ((1 ≤ v5_2 ∧ v5_2 ≤ 10000) ∧ (v4_1 = 1 + pm_gt (s0 30 0) (s0 30 0 car) (v5_2 - 1).toNat ∧ 1 ≤ v4_1 ∧ v4_1 ≤ v5_2 ∧ v5_2 ≤ car)) → (10001 - v5_2).toNat < N → G 6 [none, some (.inr (.inr (30, 0))), some (.inl n1), some (.inl car), some (.inl v4_1), some (.inl v5_2)] [] 122 s0 := by
    intro N
    induction N with
    | zero => intro v4_1 v5_2 inv4 hm5; exact absurd hm5 (Nat.not_lt_zero _)
    | succ N ih3 =>
      intro v4_1 v5_2 inv4 hm5
      have U := (inv4.2).1
      refine px_iload hG dX0_canWishOneMore_6 rfl ?_
      refine px_iload_n hG dX0_canWishOneMore_8 rfl ?_
      refine px_ic_ge hG dX0_canWishOneMore_9 (tgt := 31) (by decide) ⟨by omega, by omega⟩ ⟨by omega, by omega⟩ (fun c6 => ?_) (fun c6 => ?_)
      · have Q : v5_2 = car := by omega
        rw [Q] at U
        refine px_iload hG dX0_canWishOneMore_31 rfl ?_
        refine px_iload_n hG dX0_canWishOneMore_33 rfl ?_
        refine px_aload_n hG dX0_canWishOneMore_34 rfl ?_
        refine px_iload_n hG dX0_canWishOneMore_35 rfl ?_
        refine al_30 hG dX0_canWishOneMore_36 R0 (by omega) (fun x7 ex7 lx7 ux7 => ?_)
        refine px_isub hG dX0_canWishOneMore_37 ?_
        refine px_ic_gt hG dX0_canWishOneMore_38 (tgt := 45) (by decide) ⟨by omega, by omega⟩ ⟨by omega, by omega⟩ (fun c8 => ?_) (fun c8 => ?_)
        · refine px_iconst hG dX0_canWishOneMore_45 ?_
          exact px_zret (st := []) hG dX0_canWishOneMore_46 rfl (by omega) rfl (fun n1_1 car_1 ee => by cases ee; exact ⟨_, rfl, rfl, by omega⟩)
        · refine px_iconst hG dX0_canWishOneMore_41 ?_
          refine px_goto hG dX0_canWishOneMore_42 (tgt := 46) (by decide) ?_
          exact px_zret (st := []) hG dX0_canWishOneMore_46 rfl (by omega) rfl (fun n1_1 car_1 ee => by cases ee; exact ⟨_, rfl, rfl, by omega⟩)
      · have V := pm_gt_s (s0 30 0) (s0 30 0 car) (a := v5_2) (by omega)
        refine px_aload_n hG dX0_canWishOneMore_12 rfl ?_
        refine px_iload hG dX0_canWishOneMore_13 rfl ?_
        refine al_30 hG dX0_canWishOneMore_15 R0 (by omega) (fun x9 ex9 lx9 ux9 => ?_)
        have X1 := ex9
        refine px_aload_n hG dX0_canWishOneMore_16 rfl ?_
        refine px_iload_n hG dX0_canWishOneMore_17 rfl ?_
        refine al_30 hG dX0_canWishOneMore_18 R0 (by omega) (fun x10 ex10 lx10 ux10 => ?_)
        have X2 := ex10
        refine px_ic_le hG dX0_canWishOneMore_19 (tgt := 25) (by decide) ⟨by omega, by omega⟩ ⟨by omega, by omega⟩ (fun c11 => ?_) (fun c11 => ?_)
        · refine px_iinc hG dX0_canWishOneMore_25 (Nat.le_of_ble_eq_true rfl) rfl (L2 := [none, some (.inr (.inr (30, 0))), some (.inl n1), some (.inl car), some (.inl v4_1), some (.inl (v5_2 + 1))]) rfl ?_
          refine px_goto hG dX0_canWishOneMore_28 (tgt := 6) (by decide) ?_
          exact ih3 v4_1 (v5_2 + 1) (⟨by omega, by first | exact ⟨by omega, by omega, by omega, by omega⟩ | (rw [if_neg (by omega)] at V; exact ⟨by omega, by omega, by omega, by omega⟩)⟩) (by omega)
        · rw [if_pos (by omega)] at V
          refine px_iinc hG dX0_canWishOneMore_22 (Nat.le_of_ble_eq_true rfl) rfl (L2 := [none, some (.inr (.inr (30, 0))), some (.inl n1), some (.inl car), some (.inl (v4_1 + 1)), some (.inl v5_2)]) rfl ?_
          refine px_iinc hG dX0_canWishOneMore_25 (Nat.le_of_ble_eq_true rfl) rfl (L2 := [none, some (.inr (.inr (30, 0))), some (.inl n1), some (.inl car), some (.inl (v4_1 + 1)), some (.inl (v5_2 + 1))]) rfl ?_
          refine px_goto hG dX0_canWishOneMore_28 (tgt := 6) (by decide) ?_
          exact ih3 (v4_1 + 1) (v5_2 + 1) (⟨by omega, by first | exact ⟨by omega, by omega, by omega, by omega⟩ | (rw [if_neg (by omega)] at V; exact ⟨by omega, by omega, by omega, by omega⟩)⟩) (by omega)
  refine px_weak hG (L2 := [none, some (.inr (.inr (30, 0))), some (.inl n1), some (.inl car), some (.inl 1), some (.inl 1)]) ⟨Or.inl rfl, Or.inr rfl, Or.inr rfl, Or.inr rfl, Or.inr rfl, Or.inr rfl, trivial⟩ ?_
  exact L6 _ 1 1 (⟨by omega, ⟨rfl, by omega, by omega, by omega⟩⟩) (Nat.lt_succ_self _))
def pre_X0_stepOnP (as : List pm_V) (n : Nat) (σ : pm_H) : Prop := ∃ n1 k1 : Int, as = [.inr (.inr (11, 0)), .inr (.inr (30, 0)), .inl n1, .inl k1] ∧ n = 122 ∧ pm_Rng σ ∧ (1 ≤ n1 ∧ n1 ≤ 10 ∧ 0 ≤ k1 ∧ k1 ≤ 5)
def po_X0_stepOnP (as : List pm_V) (_ : Nat) (σ : pm_H) (r : Option pm_V) (τ : pm_H) : Prop := ∀ n1 k1 : Int, as = [.inr (.inr (11, 0)), .inr (.inr (30, 0)), .inl n1, .inl k1] → ∃ v : Int, r = some (.inl v) ∧ pm_Rng τ ∧ pm_Fr [(30, none)] σ τ ∧ ((v = 0 ∨ v = 1) ∧ (n1 = k1 → pm_gd (σ 30 0) n1.toNat → pm_gd (τ 30 0) n1.toNat))
set_option maxRecDepth 20000 in
set_option maxHeartbeats 4000000 in
theorem ct_X0_stepOnP : pm_Ct yX0_stepOn cX0_stepOn 6 (some .boolean) 1 0 pre_X0_stepOnP po_X0_stepOnP := pm_sound (ini := false) (by decide +kernel) pk_X0_stepOn (fun h => absurd h (by decide)) (by
  rintro as n s0 ⟨n1, k1, rfl, rfl, R0, hpre⟩
  refine ⟨by decide, Nat.le_of_ble_eq_true rfl, fun G hG => ?_⟩
  have hG : pm_Rules (RX0, 1, 122, cX0_stepOn, -1, (fun _ => 0), false, (some .boolean), po_X0_stepOnP [.inr (.inr (11, 0)), .inr (.inr (30, 0)), .inl n1, .inl k1] 122 s0) G := hG
  show G 0 [some (.inr (.inr (11, 0))), some (.inr (.inr (30, 0))), some (.inl n1), some (.inl k1), none, none] [] 122 s0
  refine px_iload_n hG dX0_stepOn_0 rfl ?_
  refine px_istore hG dX0_stepOn_1 (Nat.le_of_ble_eq_true rfl) (L2 := [some (.inr (.inr (11, 0))), some (.inr (.inr (30, 0))), some (.inl n1), some (.inl k1), some (.inl k1), none]) rfl ?_
  have L3 : ∀ (N : Nat) (v4_1 : Int) (s2 : pm_H), pm_Rng s2 → pm_Fr [(30, none)] s0 s2 → ((-10000 ≤ v4_1 ∧ v4_1 ≤ k1) ∧ (∀ i : Int, s2 30 0 i = s0 30 0 i)) → (v4_1 + 10001).toNat < N → G 3 [some (.inr (.inr (11, 0))), some (.inr (.inr (30, 0))), some (.inl n1), some (.inl k1), some (.inl v4_1), none] [] 122 s2 := by
    intro N
    induction N with
    | zero => intro v4_1 s2 R3 F4 inv6 hm7; exact absurd hm7 (Nat.not_lt_zero _)
    | succ N ih5 =>
      intro v4_1 s2 R3 F4 inv6 hm7
      have W := inv6.2
      refine px_iload hG dX0_stepOn_3 rfl ?_
      refine px_iconst hG dX0_stepOn_5 ?_
      refine px_ic_lt hG dX0_stepOn_6 (tgt := 59) (by decide) ⟨by omega, by omega⟩ ⟨by omega, by omega⟩ (fun c8 => ?_) (fun c8 => ?_)
      · refine px_iconst hG dX0_stepOn_59 ?_
        exact px_zret (st := []) hG dX0_stepOn_60 rfl (by omega) rfl (fun n1_1 k1_1 ee => by cases ee; exact ⟨_, rfl, R3, F4, ⟨by omega, fun _ hg => pm_gd_eq hg W⟩⟩)
      · refine px_aload_n hG dX0_stepOn_9 rfl ?_
        refine px_aload_n hG dX0_stepOn_10 rfl ?_
        refine px_iload_n hG dX0_stepOn_11 rfl ?_
        refine px_iload hG dX0_stepOn_12 rfl ?_
        refine jv3 hG dX0_stepOn_14 ct_X0_canWishOneMoreP lk_X0_34 ⟨rfl, rfl⟩ (by decide) ⟨Nat.le_of_ble_eq_true rfl, Nat.le_of_ble_eq_true rfl, Nat.le_of_ble_eq_true rfl⟩ (Nat.le_of_ble_eq_true rfl) ⟨n1, v4_1, rfl, rfl, R3, by omega⟩ (fun r9 t10 pr9 => ?_)
        obtain ⟨x11, rfl, rfl, br9⟩ := pr9 _ _ rfl
        show G 17 [some (.inr (.inr (11, 0))), some (.inr (.inr (30, 0))), some (.inl n1), some (.inl k1), some (.inl v4_1), none] [.inl x11] 122 s2
        have CW := br9
        refine px_if_eq hG dX0_stepOn_17 (tgt := 53) (by decide) ⟨by omega, by omega⟩ (fun c12 => ?_) (fun c12 => ?_)
        · refine px_iinc hG dX0_stepOn_53 (Nat.le_of_ble_eq_true rfl) rfl (L2 := [some (.inr (.inr (11, 0))), some (.inr (.inr (30, 0))), some (.inl n1), some (.inl k1), some (.inl (v4_1 + -1)), none]) rfl ?_
          refine px_goto hG dX0_stepOn_56 (tgt := 3) (by decide) ?_
          exact ih5 (v4_1 + -1) s2 R3 F4 (⟨by omega, W⟩) (by omega)
        · have CW2 := CW.2 (by omega)
          rw [W v4_1] at CW2
          rw [pm_gt_eq W] at CW2
          have GS : ∀ (g : Int → Int), n1 = k1 → pm_gd (s0 30 0) n1.toNat → (∀ i : Int, 1 ≤ i → i ≤ n1.toNat → g i = if i < v4_1 then s0 30 0 i else if i = v4_1 then s0 30 0 v4_1 + 1 else 1) → pm_gd g n1.toNat := fun g hn hg h => pm_gd_step hg (by omega) (by omega) (by omega) h
          refine px_aload_n hG dX0_stepOn_20 rfl ?_
          refine px_iload hG dX0_stepOn_21 rfl ?_
          refine px_dup2 hG dX0_stepOn_23 ?_
          refine al_30 hG dX0_stepOn_24 R3 (by omega) (fun x13 ex13 lx13 ux13 => ?_)
          have X1 := ex13
          refine px_iconst hG dX0_stepOn_25 ?_
          refine px_iadd hG dX0_stepOn_26 ?_
          refine as_30 hG dX0_stepOn_27 R3 (by omega) (by omega) (fun s14 qs14 Rs14 => ?_)
          have Fs14 := pm_Fr_up (F4) qs14 (M := [(30, none)]) rfl
          have E1 := qs14
          refine px_iload hG dX0_stepOn_28 rfl ?_
          refine px_iconst hG dX0_stepOn_30 ?_
          refine px_iadd hG dX0_stepOn_31 ?_
          refine px_istore hG dX0_stepOn_32 (Nat.le_of_ble_eq_true rfl) (L2 := [some (.inr (.inr (11, 0))), some (.inr (.inr (30, 0))), some (.inl n1), some (.inl k1), some (.inl v4_1), some (.inl (v4_1 + 1))]) rfl ?_
          have L34 : ∀ (N : Nat) (v5_15 : Int) (s16 : pm_H), pm_Rng s16 → pm_Fr [(30, none)] s0 s16 → ((v4_1 + 1 ≤ v5_15 ∧ v5_15 ≤ 10000) ∧ (∀ i : Int, i < v5_15 → s16 30 0 i = if i < v4_1 then s0 30 0 i else if i = v4_1 then s0 30 0 v4_1 + 1 else 1)) → (10001 - v5_15).toNat < N → G 34 [none, some (.inr (.inr (30, 0))), none, some (.inl k1), none, some (.inl v5_15)] [] 122 s16 := by
            intro N
            induction N with
            | zero => intro v5_15 s16 R17 F18 inv20 hm21; exact absurd hm21 (Nat.not_lt_zero _)
            | succ N ih19 =>
              intro v5_15 s16 R17 F18 inv20 hm21
              have U := inv20.2
              refine px_iload hG dX0_stepOn_34 rfl ?_
              refine px_iload_n hG dX0_stepOn_36 rfl ?_
              refine px_ic_gt hG dX0_stepOn_37 (tgt := 51) (by decide) ⟨by omega, by omega⟩ ⟨by omega, by omega⟩ (fun c22 => ?_) (fun c22 => ?_)
              · refine px_iconst hG dX0_stepOn_51 ?_
                exact px_zret (st := []) hG dX0_stepOn_52 rfl (by omega) rfl (fun n1_1 k1_1 ee => by cases ee; exact ⟨_, rfl, R17, F18, ⟨by omega, fun hn hg => GS _ hn hg (fun i h0 h1 => U i (by omega))⟩⟩)
              · refine px_aload_n hG dX0_stepOn_40 rfl ?_
                refine px_iload hG dX0_stepOn_41 rfl ?_
                refine px_iconst hG dX0_stepOn_43 ?_
                refine as_30 hG dX0_stepOn_44 R17 (by omega) (by omega) (fun s23 qs23 Rs23 => ?_)
                have Fs23 := pm_Fr_up (F18) qs23 (M := [(30, none)]) rfl
                have E2 := qs23
                refine px_iinc hG dX0_stepOn_45 (Nat.le_of_ble_eq_true rfl) rfl (L2 := [none, some (.inr (.inr (30, 0))), none, some (.inl k1), none, some (.inl (v5_15 + 1))]) rfl ?_
                refine px_goto hG dX0_stepOn_48 (tgt := 34) (by decide) ?_
                exact ih19 (v5_15 + 1) s23 Rs23 Fs23 (⟨by omega, fun i h => pm_stp U E2 (by omega) i h⟩) (by omega)
          refine px_weak hG (L2 := [none, some (.inr (.inr (30, 0))), none, some (.inl k1), none, some (.inl (v4_1 + 1))]) ⟨Or.inl rfl, Or.inr rfl, Or.inl rfl, Or.inr rfl, Or.inl rfl, Or.inr rfl, trivial⟩ ?_
          exact L34 _ (v4_1 + 1) s14 Rs14 Fs14 (⟨by omega, fun i h => pm_stp0 W E1 X1 i h⟩) (Nat.lt_succ_self _)
  exact L3 _ k1 s0 R0 pm_Fr_rf (⟨by omega, fun _ => rfl⟩) (Nat.lt_succ_self _))
def pre_X4_fillEndings (as : List pm_V) (n : Nat) (σ : pm_H) : Prop := ∃ n1 k1 : Int, as = [.inr (.inr (14, 0)), .inl n1, .inl k1] ∧ n = 122 ∧ pm_Rng σ ∧ (1 ≤ n1 ∧ n1 ≤ 10 ∧ 0 ≤ k1 ∧ k1 ≤ n1)
def po_X4_fillEndings (as : List pm_V) (_ : Nat) (σ : pm_H) (r : Option pm_V) (τ : pm_H) : Prop := ∀ n1 k1 : Int, as = [.inr (.inr (14, 0)), .inl n1, .inl k1] → r = none ∧ pm_Rng τ ∧ pm_Fr [(15, none)] σ τ
set_option maxRecDepth 20000 in
set_option maxHeartbeats 4000000 in
theorem ct_X4_fillEndings : pm_Ct yX4_fillEndings cX4_fillEndings 5 none 0 0 pre_X4_fillEndings po_X4_fillEndings := pm_sound (ini := false) (by decide +kernel) pk_X4_fillEndings (fun h => absurd h (by decide)) (by
  rintro as n s0 ⟨n1, k1, rfl, rfl, R0, hpre⟩
  refine ⟨by decide, Nat.le_of_ble_eq_true rfl, fun G hG => ?_⟩
  have hG : pm_Rules (RX4, 0, 122, cX4_fillEndings, -1, (fun _ => 0), false, none, po_X4_fillEndings [.inr (.inr (14, 0)), .inl n1, .inl k1] 122 s0) G := hG
  show G 0 [some (.inr (.inr (14, 0))), some (.inl n1), some (.inl k1), none, none] [] 122 s0
  refine px_iconst hG dX4_fillEndings_0 ?_
  refine px_istore_n hG dX4_fillEndings_1 (Nat.le_of_ble_eq_true rfl) (L2 := [some (.inr (.inr (14, 0))), some (.inl n1), some (.inl k1), some (.inl 1), none]) rfl ?_
  have L2 : ∀ (N : Nat) (v3_1 : Int) (s2 : pm_H), pm_Rng s2 → pm_Fr [(15, none)] s0 s2 → ((1 ≤ v3_1 ∧ v3_1 ≤ 10000)) → (10001 - v3_1).toNat < N → G 2 [some (.inr (.inr (14, 0))), some (.inl n1), some (.inl k1), some (.inl v3_1), none] [] 122 s2 := by
    intro N
    induction N with
    | zero => intro v3_1 s2 R3 F4 inv6 hm7; exact absurd hm7 (Nat.not_lt_zero _)
    | succ N ih5 =>
      intro v3_1 s2 R3 F4 inv6 hm7
      refine px_iload_n hG dX4_fillEndings_2 rfl ?_
      refine px_iload_n hG dX4_fillEndings_3 rfl ?_
      refine px_iconst hG dX4_fillEndings_4 ?_
      refine px_iadd hG dX4_fillEndings_5 ?_
      have J26_9 : ((v3_1 > (n1 + 1))) → G 26 [some (.inr (.inr (14, 0))), some (.inl n1), some (.inl k1), none, none] [] 122 s2 := by
        intro inv10
        refine px_iload_n hG dX4_fillEndings_26 rfl ?_
        refine px_istore_n hG dX4_fillEndings_27 (Nat.le_of_ble_eq_true rfl) (L2 := [some (.inr (.inr (14, 0))), some (.inl n1), some (.inl k1), some (.inl k1), none]) rfl ?_
        have L28 : ∀ (N : Nat) (v3_11 : Int) (s12 : pm_H), pm_Rng s12 → pm_Fr [(15, none)] s0 s12 → ((-10000 ≤ v3_11 ∧ v3_11 ≤ k1)) → (v3_11 + 10001).toNat < N → G 28 [some (.inr (.inr (14, 0))), some (.inl n1), some (.inl k1), some (.inl v3_11), none] [] 122 s12 := by
          intro N
          induction N with
          | zero => intro v3_11 s12 R13 F14 inv16 hm17; exact absurd hm17 (Nat.not_lt_zero _)
          | succ N ih15 =>
            intro v3_11 s12 R13 F14 inv16 hm17
            refine px_iload_n hG dX4_fillEndings_28 rfl ?_
            refine px_iconst hG dX4_fillEndings_29 ?_
            refine px_ic_lt hG dX4_fillEndings_30 (tgt := 102) (by decide) ⟨by omega, by omega⟩ ⟨by omega, by omega⟩ (fun c18 => ?_) (fun c18 => ?_)
            · exact px_vret (st := []) hG dX4_fillEndings_102 rfl rfl (fun n1_1 k1_1 ee => by cases ee; exact ⟨rfl, R13, F14⟩)
            · refine px_iload_n hG dX4_fillEndings_33 rfl ?_
              refine px_iconst hG dX4_fillEndings_34 ?_
              refine px_iadd hG dX4_fillEndings_35 ?_
              refine px_istore hG dX4_fillEndings_36 (Nat.le_of_ble_eq_true rfl) (L2 := [some (.inr (.inr (14, 0))), some (.inl n1), some (.inl k1), some (.inl v3_11), some (.inl (n1 + 1))]) rfl ?_
              have L38 : ∀ (N : Nat) (v4_19 : Int) (s20 : pm_H), pm_Rng s20 → pm_Fr [(15, none)] s0 s20 → ((-10000 ≤ v4_19 ∧ v4_19 ≤ n1 + 1)) → (v4_19 + 10001).toNat < N → G 38 [some (.inr (.inr (14, 0))), some (.inl n1), some (.inl k1), some (.inl v3_11), some (.inl v4_19)] [] 122 s20 := by
                intro N
                induction N with
                | zero => intro v4_19 s20 R21 F22 inv24 hm25; exact absurd hm25 (Nat.not_lt_zero _)
                | succ N ih23 =>
                  intro v4_19 s20 R21 F22 inv24 hm25
                  refine px_iload hG dX4_fillEndings_38 rfl ?_
                  refine px_iconst hG dX4_fillEndings_40 ?_
                  refine px_ic_lt hG dX4_fillEndings_41 (tgt := 96) (by decide) ⟨by omega, by omega⟩ ⟨by omega, by omega⟩ (fun c26 => ?_) (fun c26 => ?_)
                  · refine px_iinc hG dX4_fillEndings_96 (Nat.le_of_ble_eq_true rfl) rfl (L2 := [some (.inr (.inr (14, 0))), some (.inl n1), some (.inl k1), some (.inl (v3_11 + -1)), some (.inl v4_19)]) rfl ?_
                    refine px_goto hG dX4_fillEndings_99 (tgt := 28) (by decide) ?_
                    refine px_weak hG (L2 := [some (.inr (.inr (14, 0))), some (.inl n1), some (.inl k1), some (.inl (v3_11 + -1)), none]) ⟨Or.inr rfl, Or.inr rfl, Or.inr rfl, Or.inr rfl, Or.inl rfl, trivial⟩ ?_
                    exact ih15 (v3_11 + -1) s20 R21 F22 (by omega) (by omega)
                  · refine px_aload_n hG dX4_fillEndings_44 rfl ?_
                    refine gr_14_0 hG dX4_fillEndings_45 fl_X4_11 R21 ?_
                    refine px_iload_n hG dX4_fillEndings_48 rfl ?_
                    refine aa_15 hG dX4_fillEndings_49 (by omega) ?_
                    refine px_iload hG dX4_fillEndings_50 rfl ?_
                    refine px_iload hG dX4_fillEndings_52 rfl ?_
                    refine px_iload_n hG dX4_fillEndings_54 rfl ?_
                    refine px_iload_n hG dX4_fillEndings_55 rfl ?_
                    refine px_isub hG dX4_fillEndings_56 ?_
                    refine px_iload_n hG dX4_fillEndings_57 rfl ?_
                    refine px_iadd hG dX4_fillEndings_58 ?_
                    refine px_ic_le hG dX4_fillEndings_59 (tgt := 66) (by decide) ⟨by omega, by omega⟩ ⟨by omega, by omega⟩ (fun c27 => ?_) (fun c27 => ?_)
                    · refine px_aload_n hG dX4_fillEndings_66 rfl ?_
                      refine gr_14_0 hG dX4_fillEndings_67 fl_X4_11 R21 ?_
                      refine px_iload_n hG dX4_fillEndings_70 rfl ?_
                      refine aa_15 hG dX4_fillEndings_71 (by omega) ?_
                      refine px_iload hG dX4_fillEndings_72 rfl ?_
                      refine px_iconst hG dX4_fillEndings_74 ?_
                      refine px_iadd hG dX4_fillEndings_75 ?_
                      refine al_15 hG dX4_fillEndings_76 (by omega) (by omega) (fun z28 ez28 => ?_)
                      refine px_aload_n hG dX4_fillEndings_77 rfl ?_
                      refine gr_14_0 hG dX4_fillEndings_78 fl_X4_11 R21 ?_
                      refine px_iload_n hG dX4_fillEndings_81 rfl ?_
                      refine px_iconst hG dX4_fillEndings_82 ?_
                      refine px_iadd hG dX4_fillEndings_83 ?_
                      refine aa_15 hG dX4_fillEndings_84 (by omega) ?_
                      refine px_iload hG dX4_fillEndings_85 rfl ?_
                      refine al_15 hG dX4_fillEndings_87 (by omega) (by omega) (fun z29 ez29 => ?_)
                      refine px_ladd hG dX4_fillEndings_88 ?_
                      refine as_15 hG dX4_fillEndings_89 R21 (by omega) (by omega) (fun s30 qs30 Rs30 => ?_)
                      have Fs30 := pm_Fr_up (F22) qs30 (M := [(15, none)]) rfl
                      refine px_iinc hG dX4_fillEndings_90 (Nat.le_of_ble_eq_true rfl) rfl (L2 := [some (.inr (.inr (14, 0))), some (.inl n1), some (.inl k1), some (.inl v3_11), some (.inl (v4_19 + -1))]) rfl ?_
                      refine px_goto hG dX4_fillEndings_93 (tgt := 38) (by decide) ?_
                      exact ih23 (v4_19 + -1) s30 Rs30 Fs30 (by omega) (by omega)
                    · refine px_lconst hG dX4_fillEndings_62 ?_
                      show G 63 [some (.inr (.inr (14, 0))), some (.inl n1), some (.inl k1), some (.inl v3_11), some (.inl v4_19)] [.inr (.inl 0), .inl v4_19, .inr (.inr (15, v3_11))] 122 s20
                      refine px_goto hG dX4_fillEndings_63 (tgt := 89) (by decide) ?_
                      refine as_15 hG dX4_fillEndings_89 R21 (by omega) (by omega) (fun s31 qs31 Rs31 => ?_)
                      have Fs31 := pm_Fr_up (F22) qs31 (M := [(15, none)]) rfl
                      refine px_iinc hG dX4_fillEndings_90 (Nat.le_of_ble_eq_true rfl) rfl (L2 := [some (.inr (.inr (14, 0))), some (.inl n1), some (.inl k1), some (.inl v3_11), some (.inl (v4_19 + -1))]) rfl ?_
                      refine px_goto hG dX4_fillEndings_93 (tgt := 38) (by decide) ?_
                      exact ih23 (v4_19 + -1) s31 Rs31 Fs31 (by omega) (by omega)
              exact L38 _ (n1 + 1) s12 R13 F14 (by omega) (Nat.lt_succ_self _)
        exact L28 _ k1 s2 R3 F4 (by omega) (Nat.lt_succ_self _)
      refine px_ic_gt hG dX4_fillEndings_6 (tgt := 26) (by decide) ⟨by omega, by omega⟩ ⟨by omega, by omega⟩ (fun c8 => ?_) (fun c8 => ?_)
      · refine px_weak hG (L2 := [some (.inr (.inr (14, 0))), some (.inl n1), some (.inl k1), none, none]) ⟨Or.inr rfl, Or.inr rfl, Or.inr rfl, Or.inl rfl, Or.inr rfl, trivial⟩ ?_
        exact J26_9  (by omega)
      · refine px_aload_n hG dX4_fillEndings_9 rfl ?_
        refine gr_14_0 hG dX4_fillEndings_10 fl_X4_11 R3 ?_
        refine px_iload_n hG dX4_fillEndings_13 rfl ?_
        refine px_iconst hG dX4_fillEndings_14 ?_
        refine px_iadd hG dX4_fillEndings_15 ?_
        refine aa_15 hG dX4_fillEndings_16 (by omega) ?_
        refine px_iload_n hG dX4_fillEndings_17 rfl ?_
        refine px_lconst hG dX4_fillEndings_18 ?_
        show G 19 [some (.inr (.inr (14, 0))), some (.inl n1), some (.inl k1), some (.inl v3_1), none] [.inr (.inl 1), .inl v3_1, .inr (.inr (15, k1 + 1))] 122 s2
        refine as_15 hG dX4_fillEndings_19 R3 (by omega) (by omega) (fun s32 qs32 Rs32 => ?_)
        have Fs32 := pm_Fr_up (F4) qs32 (M := [(15, none)]) rfl
        refine px_iinc hG dX4_fillEndings_20 (Nat.le_of_ble_eq_true rfl) rfl (L2 := [some (.inr (.inr (14, 0))), some (.inl n1), some (.inl k1), some (.inl (v3_1 + 1)), none]) rfl ?_
        refine px_goto hG dX4_fillEndings_23 (tgt := 2) (by decide) ?_
        exact ih5 (v3_1 + 1) s32 Rs32 Fs32 (by omega) (by omega)
  exact L2 _ 1 s0 R0 pm_Fr_rf (by omega) (Nat.lt_succ_self _))
def pre_X4_howMany (as : List pm_V) (n : Nat) (σ : pm_H) : Prop := ∃ n1 k1 : Int, as = [.inr (.inr (14, 0)), .inl n1, .inl k1] ∧ n = 122 ∧ pm_Rng σ ∧ (1 ≤ n1 ∧ n1 ≤ 10 ∧ 0 ≤ k1 ∧ k1 ≤ n1)
def po_X4_howMany (as : List pm_V) (_ : Nat) (σ : pm_H) (r : Option pm_V) (τ : pm_H) : Prop := ∀ n1 k1 : Int, as = [.inr (.inr (14, 0)), .inl n1, .inl k1] → ∃ v : Int, r = some (.inr (.inl v)) ∧ pm_Rng τ ∧ pm_Fr [(15, none)] σ τ
set_option maxRecDepth 20000 in
set_option maxHeartbeats 4000000 in
theorem ct_X4_howMany : pm_Ct yX4_howMany cX4_howMany 3 (some .long) 1 0 pre_X4_howMany po_X4_howMany := pm_sound (ini := false) (by decide +kernel) pk_X4_howMany (fun h => absurd h (by decide)) (by
  rintro as n s0 ⟨n1, k1, rfl, rfl, R0, hpre⟩
  refine ⟨by decide, Nat.le_of_ble_eq_true rfl, fun G hG => ?_⟩
  have hG : pm_Rules (RX4, 1, 122, cX4_howMany, -1, (fun _ => 0), false, (some .long), po_X4_howMany [.inr (.inr (14, 0)), .inl n1, .inl k1] 122 s0) G := hG
  show G 0 [some (.inr (.inr (14, 0))), some (.inl n1), some (.inl k1)] [] 122 s0
  refine px_aload_n hG dX4_howMany_0 rfl ?_
  refine px_iload_n hG dX4_howMany_1 rfl ?_
  refine px_iload_n hG dX4_howMany_2 rfl ?_
  refine jv2 hG dX4_howMany_3 ct_X4_fillEndings lk_X4_16 ⟨rfl, rfl⟩ (by decide) ⟨Nat.le_of_ble_eq_true rfl, Nat.le_of_ble_eq_true rfl, Nat.le_of_ble_eq_true rfl⟩ (Nat.le_of_ble_eq_true rfl) ⟨n1, k1, rfl, rfl, R0, by omega⟩ (fun r1 t3 pr1 => ?_)
  obtain ⟨rfl, Rt3, Ft3⟩ := pr1 _ _ rfl
  have Ff5 := pm_Fr_mono Ft3 (M := [(15, none)]) rfl
  show G 6 [some (.inr (.inr (14, 0))), some (.inl n1), some (.inl k1)] [] 122 t3
  refine px_aload_n hG dX4_howMany_6 rfl ?_
  refine gr_14_0 hG dX4_howMany_7 fl_X4_11 Rt3 ?_
  refine px_iconst hG dX4_howMany_10 ?_
  refine aa_15 hG dX4_howMany_11 (by omega) ?_
  refine px_iconst hG dX4_howMany_12 ?_
  refine al_15 hG dX4_howMany_13 (by omega) (by omega) (fun z6 ez6 => ?_)
  exact px_lret (st := []) hG dX4_howMany_14 rfl rfl (fun n1_1 k1_1 ee => by cases ee; exact ⟨_, rfl, Rt3, Ff5⟩))
def pre_X4_numberOf (as : List pm_V) (n : Nat) (σ : pm_H) : Prop := ∃ n1 k1 : Int, as = [.inr (.inr (14, 0)), .inr (.inr (4, 0)), .inl n1, .inl k1] ∧ n = 122 ∧ pm_Rng σ ∧ (1 ≤ n1 ∧ n1 ≤ 10 ∧ 0 ≤ k1 ∧ k1 ≤ n1)
def po_X4_numberOf (as : List pm_V) (_ : Nat) (σ : pm_H) (r : Option pm_V) (τ : pm_H) : Prop := ∀ n1 k1 : Int, as = [.inr (.inr (14, 0)), .inr (.inr (4, 0)), .inl n1, .inl k1] → ∃ v : Int, r = some (.inr (.inl v)) ∧ pm_Rng τ ∧ pm_Fr [(15, none)] σ τ
set_option maxRecDepth 20000 in
set_option maxHeartbeats 4000000 in
theorem ct_X4_numberOf : pm_Ct yX4_numberOf cX4_numberOf 9 (some .long) 1 0 pre_X4_numberOf po_X4_numberOf := pm_sound (ini := false) (by decide +kernel) pk_X4_numberOf (fun h => absurd h (by decide)) (by
  rintro as n s0 ⟨n1, k1, rfl, rfl, R0, hpre⟩
  refine ⟨by decide, Nat.le_of_ble_eq_true rfl, fun G hG => ?_⟩
  have hG : pm_Rules (RX4, 1, 122, cX4_numberOf, -1, (fun _ => 0), false, (some .long), po_X4_numberOf [.inr (.inr (14, 0)), .inr (.inr (4, 0)), .inl n1, .inl k1] 122 s0) G := hG
  show G 0 [some (.inr (.inr (14, 0))), some (.inr (.inr (4, 0))), some (.inl n1), some (.inl k1), none, none, none, none, none] [] 122 s0
  refine px_aload_n hG dX4_numberOf_0 rfl ?_
  refine px_iload_n hG dX4_numberOf_1 rfl ?_
  refine px_iload_n hG dX4_numberOf_2 rfl ?_
  refine jv2 hG dX4_numberOf_3 ct_X4_fillEndings lk_X4_16 ⟨rfl, rfl⟩ (by decide) ⟨Nat.le_of_ble_eq_true rfl, Nat.le_of_ble_eq_true rfl, Nat.le_of_ble_eq_true rfl⟩ (Nat.le_of_ble_eq_true rfl) ⟨n1, k1, rfl, rfl, R0, by omega⟩ (fun r1 t3 pr1 => ?_)
  obtain ⟨rfl, Rt3, Ft3⟩ := pr1 _ _ rfl
  have Ff5 := pm_Fr_mono Ft3 (M := [(15, none)]) rfl
  show G 6 [some (.inr (.inr (14, 0))), some (.inr (.inr (4, 0))), some (.inl n1), some (.inl k1), none, none, none, none, none] [] 122 t3
  refine px_lconst hG dX4_numberOf_6 ?_
  show G 7 [some (.inr (.inr (14, 0))), some (.inr (.inr (4, 0))), some (.inl n1), some (.inl k1), none, none, none, none, none] [.inr (.inl 0)] 122 t3
  refine px_lstore hG dX4_numberOf_7 (Nat.le_of_ble_eq_true rfl) (L2 := [some (.inr (.inr (14, 0))), some (.inr (.inr (4, 0))), some (.inl n1), some (.inl k1), some (.inr (.inl 0)), none, none, none, none]) rfl ?_
  refine px_iconst hG dX4_numberOf_9 ?_
  refine px_istore hG dX4_numberOf_10 (Nat.le_of_ble_eq_true rfl) (L2 := [some (.inr (.inr (14, 0))), some (.inr (.inr (4, 0))), some (.inl n1), some (.inl k1), some (.inr (.inl 0)), none, some (.inl 1), none, none]) rfl ?_
  refine px_iconst hG dX4_numberOf_12 ?_
  refine px_istore hG dX4_numberOf_13 (Nat.le_of_ble_eq_true rfl) (L2 := [some (.inr (.inr (14, 0))), some (.inr (.inr (4, 0))), some (.inl n1), some (.inl k1), some (.inr (.inl 0)), none, some (.inl 1), some (.inl 1), none]) rfl ?_
  have L15 : ∀ (N : Nat) (v4_6 : Int) (v6_7 : Int) (v7_8 : Int), ((1 ≤ v7_8 ∧ v7_8 ≤ 10000) ∧ (0 ≤ v6_7 ∧ v6_7 ≤ 10)) → (10001 - v7_8).toNat < N → G 15 [some (.inr (.inr (14, 0))), some (.inr (.inr (4, 0))), none, some (.inl k1), some (.inr (.inl v4_6)), none, some (.inl v6_7), some (.inl v7_8), none] [] 122 t3 := by
    intro N
    induction N with
    | zero => intro v4_6 v6_7 v7_8 inv10 hm11; exact absurd hm11 (Nat.not_lt_zero _)
    | succ N ih9 =>
      intro v4_6 v6_7 v7_8 inv10 hm11
      refine px_iload hG dX4_numberOf_15 rfl ?_
      refine px_iload_n hG dX4_numberOf_17 rfl ?_
      refine px_ic_gt hG dX4_numberOf_18 (tgt := 69) (by decide) ⟨by omega, by omega⟩ ⟨by omega, by omega⟩ (fun c12 => ?_) (fun c12 => ?_)
      · refine px_lload hG dX4_numberOf_69 rfl ?_
        exact px_lret (st := []) hG dX4_numberOf_71 rfl rfl (fun n1_1 k1_1 ee => by cases ee; exact ⟨_, rfl, Rt3, Ff5⟩)
      · refine px_iload hG dX4_numberOf_21 rfl ?_
        refine px_istore hG dX4_numberOf_23 (Nat.le_of_ble_eq_true rfl) (L2 := [some (.inr (.inr (14, 0))), some (.inr (.inr (4, 0))), none, some (.inl k1), some (.inr (.inl v4_6)), none, some (.inl v6_7), some (.inl v7_8), some (.inl v6_7)]) rfl ?_
        have L25 : ∀ (N : Nat) (v4_13 : Int) (v8_14 : Int), ((v6_7 ≤ v8_14 ∧ v8_14 ≤ 10000)) → (10001 - v8_14).toNat < N → G 25 [some (.inr (.inr (14, 0))), some (.inr (.inr (4, 0))), none, some (.inl k1), some (.inr (.inl v4_13)), none, none, some (.inl v7_8), some (.inl v8_14)] [] 122 t3 := by
          intro N
          induction N with
          | zero => intro v4_13 v8_14 inv16 hm17; exact absurd hm17 (Nat.not_lt_zero _)
          | succ N ih15 =>
            intro v4_13 v8_14 inv16 hm17
            refine px_iload hG dX4_numberOf_25 rfl ?_
            refine px_aload_n hG dX4_numberOf_27 rfl ?_
            refine px_iload hG dX4_numberOf_28 rfl ?_
            refine al_4 hG dX4_numberOf_30 Rt3 (by omega) (fun x18 ex18 lx18 ux18 => ?_)
            have J57_20 : ((v8_14 ≥ x18)) → G 57 [some (.inr (.inr (14, 0))), some (.inr (.inr (4, 0))), none, some (.inl k1), some (.inr (.inl v4_13)), none, none, some (.inl v7_8), none] [] 122 t3 := by
              intro inv21
              refine px_aload_n hG dX4_numberOf_57 rfl ?_
              refine px_iload hG dX4_numberOf_58 rfl ?_
              refine al_4 hG dX4_numberOf_60 Rt3 (by omega) (fun x22 ex22 lx22 ux22 => ?_)
              refine px_istore hG dX4_numberOf_61 (Nat.le_of_ble_eq_true rfl) (L2 := [some (.inr (.inr (14, 0))), some (.inr (.inr (4, 0))), none, some (.inl k1), some (.inr (.inl v4_13)), none, some (.inl x22), some (.inl v7_8), none]) rfl ?_
              refine px_iinc hG dX4_numberOf_63 (Nat.le_of_ble_eq_true rfl) rfl (L2 := [some (.inr (.inr (14, 0))), some (.inr (.inr (4, 0))), none, some (.inl k1), some (.inr (.inl v4_13)), none, some (.inl x22), some (.inl (v7_8 + 1)), none]) rfl ?_
              refine px_goto hG dX4_numberOf_66 (tgt := 15) (by decide) ?_
              exact ih9 v4_13 x22 (v7_8 + 1) (⟨by omega, by omega⟩) (by omega)
            refine px_ic_ge hG dX4_numberOf_31 (tgt := 57) (by decide) ⟨by omega, by omega⟩ ⟨by omega, by omega⟩ (fun c19 => ?_) (fun c19 => ?_)
            · refine px_weak hG (L2 := [some (.inr (.inr (14, 0))), some (.inr (.inr (4, 0))), none, some (.inl k1), some (.inr (.inl v4_13)), none, none, some (.inl v7_8), none]) ⟨Or.inr rfl, Or.inr rfl, Or.inr rfl, Or.inr rfl, Or.inr rfl, Or.inr rfl, Or.inr rfl, Or.inr rfl, Or.inl rfl, trivial⟩ ?_
              exact J57_20  (by omega)
            · refine px_lload hG dX4_numberOf_34 rfl ?_
              refine px_aload_n hG dX4_numberOf_36 rfl ?_
              refine gr_14_0 hG dX4_numberOf_37 fl_X4_11 Rt3 ?_
              refine px_iload hG dX4_numberOf_40 rfl ?_
              refine px_iconst hG dX4_numberOf_42 ?_
              refine px_iadd hG dX4_numberOf_43 ?_
              refine aa_15 hG dX4_numberOf_44 (by omega) ?_
              refine px_iload hG dX4_numberOf_45 rfl ?_
              refine al_15 hG dX4_numberOf_47 (by omega) (by omega) (fun z23 ez23 => ?_)
              refine px_ladd hG dX4_numberOf_48 ?_
              refine px_lstore hG dX4_numberOf_49 (Nat.le_of_ble_eq_true rfl) (L2 := [some (.inr (.inr (14, 0))), some (.inr (.inr (4, 0))), none, some (.inl k1), some (.inr (.inl (v4_13 + z23))), none, none, some (.inl v7_8), some (.inl v8_14)]) rfl ?_
              refine px_iinc hG dX4_numberOf_51 (Nat.le_of_ble_eq_true rfl) rfl (L2 := [some (.inr (.inr (14, 0))), some (.inr (.inr (4, 0))), none, some (.inl k1), some (.inr (.inl (v4_13 + z23))), none, none, some (.inl v7_8), some (.inl (v8_14 + 1))]) rfl ?_
              refine px_goto hG dX4_numberOf_54 (tgt := 25) (by decide) ?_
              exact ih15 (v4_13 + z23) (v8_14 + 1) (by omega) (by omega)
        refine px_weak hG (L2 := [some (.inr (.inr (14, 0))), some (.inr (.inr (4, 0))), none, some (.inl k1), some (.inr (.inl v4_6)), none, none, some (.inl v7_8), some (.inl v6_7)]) ⟨Or.inr rfl, Or.inr rfl, Or.inr rfl, Or.inr rfl, Or.inr rfl, Or.inr rfl, Or.inl rfl, Or.inr rfl, Or.inr rfl, trivial⟩ ?_
        exact L25 _ v4_6 v6_7 (by omega) (Nat.lt_succ_self _)
  refine px_weak hG (L2 := [some (.inr (.inr (14, 0))), some (.inr (.inr (4, 0))), none, some (.inl k1), some (.inr (.inl 0)), none, some (.inl 1), some (.inl 1), none]) ⟨Or.inr rfl, Or.inr rfl, Or.inl rfl, Or.inr rfl, Or.inr rfl, Or.inr rfl, Or.inr rfl, Or.inr rfl, Or.inr rfl, trivial⟩ ?_
  exact L15 _ 0 1 1 (⟨by omega, by omega⟩) (Nat.lt_succ_self _))
def pre_X4_fillRow (as : List pm_V) (n : Nat) (σ : pm_H) : Prop := ∃ n1 k1 r1 : Int, as = [.inr (.inr (14, 0)), .inr (.inr (39, 0)), .inl n1, .inl k1, .inr (.inl r1)] ∧ n = 122 ∧ pm_Rng σ ∧ (1 ≤ n1 ∧ n1 ≤ 10 ∧ 0 ≤ k1 ∧ k1 ≤ n1)
def po_X4_fillRow (as : List pm_V) (_ : Nat) (σ : pm_H) (r : Option pm_V) (τ : pm_H) : Prop := ∀ n1 k1 r1 : Int, as = [.inr (.inr (14, 0)), .inr (.inr (39, 0)), .inl n1, .inl k1, .inr (.inl r1)] → r = none ∧ pm_Rng τ ∧ pm_Fr [(15, none), (39, none)] σ τ
set_option maxRecDepth 20000 in
set_option maxHeartbeats 4000000 in
theorem ct_X4_fillRow : pm_Ct yX4_fillRow cX4_fillRow 10 none 1 0 pre_X4_fillRow po_X4_fillRow := pm_sound (ini := false) (by decide +kernel) pk_X4_fillRow (fun h => absurd h (by decide)) (by
  rintro as n s0 ⟨n1, k1, r1, rfl, rfl, R0, hpre⟩
  refine ⟨by decide, Nat.le_of_ble_eq_true rfl, fun G hG => ?_⟩
  have hG : pm_Rules (RX4, 1, 122, cX4_fillRow, -1, (fun _ => 0), false, none, po_X4_fillRow [.inr (.inr (14, 0)), .inr (.inr (39, 0)), .inl n1, .inl k1, .inr (.inl r1)] 122 s0) G := hG
  show G 0 [some (.inr (.inr (14, 0))), some (.inr (.inr (39, 0))), some (.inl n1), some (.inl k1), some (.inr (.inl r1)), none, none, none, none, none] [] 122 s0
  refine px_aload_n hG dX4_fillRow_0 rfl ?_
  refine px_iload_n hG dX4_fillRow_1 rfl ?_
  refine px_iload_n hG dX4_fillRow_2 rfl ?_
  refine jv2 hG dX4_fillRow_3 ct_X4_fillEndings lk_X4_16 ⟨rfl, rfl⟩ (by decide) ⟨Nat.le_of_ble_eq_true rfl, Nat.le_of_ble_eq_true rfl, Nat.le_of_ble_eq_true rfl⟩ (Nat.le_of_ble_eq_true rfl) ⟨n1, k1, rfl, rfl, R0, by omega⟩ (fun r1 t3 pr1 => ?_)
  obtain ⟨rfl, Rt3, Ft3⟩ := pr1 _ _ rfl
  have Ff5 := pm_Fr_mono Ft3 (M := [(15, none), (39, none)]) rfl
  show G 6 [some (.inr (.inr (14, 0))), some (.inr (.inr (39, 0))), some (.inl n1), some (.inl k1), some (.inr (.inl r1)), none, none, none, none, none] [] 122 t3
  refine px_lload hG dX4_fillRow_6 rfl ?_
  refine px_lstore hG dX4_fillRow_8 (Nat.le_of_ble_eq_true rfl) (L2 := [some (.inr (.inr (14, 0))), some (.inr (.inr (39, 0))), some (.inl n1), some (.inl k1), some (.inr (.inl r1)), none, some (.inr (.inl r1)), none, none, none]) rfl ?_
  refine px_iconst hG dX4_fillRow_10 ?_
  refine px_istore hG dX4_fillRow_11 (Nat.le_of_ble_eq_true rfl) (L2 := [some (.inr (.inr (14, 0))), some (.inr (.inr (39, 0))), some (.inl n1), some (.inl k1), some (.inr (.inl r1)), none, some (.inr (.inl r1)), none, some (.inl 1), none]) rfl ?_
  refine px_iconst hG dX4_fillRow_13 ?_
  refine px_istore hG dX4_fillRow_14 (Nat.le_of_ble_eq_true rfl) (L2 := [some (.inr (.inr (14, 0))), some (.inr (.inr (39, 0))), some (.inl n1), some (.inl k1), some (.inr (.inl r1)), none, some (.inr (.inl r1)), none, some (.inl 1), some (.inl 1)]) rfl ?_
  have L16 : ∀ (N : Nat) (v6_6 : Int) (v8_7 : Int) (v9_8 : Int) (s9 : pm_H), pm_Rng s9 → pm_Fr [(15, none), (39, none)] s0 s9 → ((1 ≤ v8_7 ∧ v8_7 ≤ 10000) ∧ (1 ≤ v9_8 ∧ v9_8 ≤ 10000) ∧ (v8_7 ≤ n1 - k1 + v9_8)) → (10001 - v9_8).toNat < N → G 16 [some (.inr (.inr (14, 0))), some (.inr (.inr (39, 0))), some (.inl n1), some (.inl k1), none, none, some (.inr (.inl v6_6)), none, some (.inl v8_7), some (.inl v9_8)] [] 122 s9 := by
    intro N
    induction N with
    | zero => intro v6_6 v8_7 v9_8 s9 R10 F11 inv13 hm14; exact absurd hm14 (Nat.not_lt_zero _)
    | succ N ih12 =>
      intro v6_6 v8_7 v9_8 s9 R10 F11 inv13 hm14
      refine px_iload hG dX4_fillRow_16 rfl ?_
      refine px_iload_n hG dX4_fillRow_18 rfl ?_
      refine px_ic_gt hG dX4_fillRow_19 (tgt := 86) (by decide) ⟨by omega, by omega⟩ ⟨by omega, by omega⟩ (fun c15 => ?_) (fun c15 => ?_)
      · exact px_vret (st := []) hG dX4_fillRow_86 rfl rfl (fun n1_1 k1_1 r1_1 ee => by cases ee; exact ⟨rfl, R10, F11⟩)
      · have L22 : ∀ (N : Nat) (v6_16 : Int) (v8_17 : Int), ((v8_7 ≤ v8_17 ∧ v8_17 ≤ 10000) ∧ (v8_17 ≤ n1 - k1 + v9_8)) → (10001 - v8_17).toNat < N → G 22 [some (.inr (.inr (14, 0))), some (.inr (.inr (39, 0))), some (.inl n1), some (.inl k1), none, none, some (.inr (.inl v6_16)), none, some (.inl v8_17), some (.inl v9_8)] [] 122 s9 := by
          intro N
          induction N with
          | zero => intro v6_16 v8_17 inv19 hm20; exact absurd hm20 (Nat.not_lt_zero _)
          | succ N ih18 =>
            intro v6_16 v8_17 inv19 hm20
            refine px_lload hG dX4_fillRow_22 rfl ?_
            refine px_aload_n hG dX4_fillRow_24 rfl ?_
            refine gr_14_0 hG dX4_fillRow_25 fl_X4_11 R10 ?_
            refine px_iload hG dX4_fillRow_28 rfl ?_
            refine px_iconst hG dX4_fillRow_30 ?_
            refine px_iadd hG dX4_fillRow_31 ?_
            refine aa_15 hG dX4_fillRow_32 (by omega) ?_
            refine px_iload hG dX4_fillRow_33 rfl ?_
            refine al_15 hG dX4_fillRow_35 (by omega) (by omega) (fun z21 ez21 => ?_)
            refine px_lcmpA hG dX4_fillRow_36 (fun x22 bx22 cx22 => ?_)
            have J74_24 : ((x22 < 0) ∨ (¬ (x22 < 0) ∧ v8_17 ≥ ((n1 - k1) + v9_8))) → G 74 [some (.inr (.inr (14, 0))), some (.inr (.inr (39, 0))), some (.inl n1), some (.inl k1), none, none, some (.inr (.inl v6_16)), none, some (.inl v8_17), some (.inl v9_8)] [] 122 s9 := by
              intro inv25
              refine px_aload_n hG dX4_fillRow_74 rfl ?_
              refine px_iload hG dX4_fillRow_75 rfl ?_
              refine px_iload hG dX4_fillRow_77 rfl ?_
              refine as_39 hG dX4_fillRow_79 R10 (by omega) (by omega) (fun s26 qs26 Rs26 => ?_)
              have Fs26 := pm_Fr_up (F11) qs26 (M := [(15, none), (39, none)]) rfl
              refine px_iinc hG dX4_fillRow_80 (Nat.le_of_ble_eq_true rfl) rfl (L2 := [some (.inr (.inr (14, 0))), some (.inr (.inr (39, 0))), some (.inl n1), some (.inl k1), none, none, some (.inr (.inl v6_16)), none, some (.inl v8_17), some (.inl (v9_8 + 1))]) rfl ?_
              refine px_goto hG dX4_fillRow_83 (tgt := 16) (by decide) ?_
              exact ih12 v6_16 v8_17 (v9_8 + 1) s26 Rs26 Fs26 (⟨by omega, by omega, by omega⟩) (by omega)
            refine px_if_lt hG dX4_fillRow_37 (tgt := 74) (by decide) ⟨by omega, by omega⟩ (fun c23 => ?_) (fun c23 => ?_)
            · exact J74_24  (by omega)
            · refine px_iload hG dX4_fillRow_40 rfl ?_
              refine px_iload_n hG dX4_fillRow_42 rfl ?_
              refine px_iload_n hG dX4_fillRow_43 rfl ?_
              refine px_isub hG dX4_fillRow_44 ?_
              refine px_iload hG dX4_fillRow_45 rfl ?_
              refine px_iadd hG dX4_fillRow_47 ?_
              refine px_ic_ge hG dX4_fillRow_48 (tgt := 74) (by decide) ⟨by omega, by omega⟩ ⟨by omega, by omega⟩ (fun c27 => ?_) (fun c27 => ?_)
              · exact J74_24  (by omega)
              · refine px_lload hG dX4_fillRow_51 rfl ?_
                refine px_aload_n hG dX4_fillRow_53 rfl ?_
                refine gr_14_0 hG dX4_fillRow_54 fl_X4_11 R10 ?_
                refine px_iload hG dX4_fillRow_57 rfl ?_
                refine px_iconst hG dX4_fillRow_59 ?_
                refine px_iadd hG dX4_fillRow_60 ?_
                refine aa_15 hG dX4_fillRow_61 (by omega) ?_
                refine px_iload hG dX4_fillRow_62 rfl ?_
                refine al_15 hG dX4_fillRow_64 (by omega) (by omega) (fun z28 ez28 => ?_)
                refine px_lsub hG dX4_fillRow_65 ?_
                refine px_lstore hG dX4_fillRow_66 (Nat.le_of_ble_eq_true rfl) (L2 := [some (.inr (.inr (14, 0))), some (.inr (.inr (39, 0))), some (.inl n1), some (.inl k1), none, none, some (.inr (.inl (v6_16 - z28))), none, some (.inl v8_17), some (.inl v9_8)]) rfl ?_
                refine px_iinc hG dX4_fillRow_68 (Nat.le_of_ble_eq_true rfl) rfl (L2 := [some (.inr (.inr (14, 0))), some (.inr (.inr (39, 0))), some (.inl n1), some (.inl k1), none, none, some (.inr (.inl (v6_16 - z28))), none, some (.inl (v8_17 + 1)), some (.inl v9_8)]) rfl ?_
                refine px_goto hG dX4_fillRow_71 (tgt := 22) (by decide) ?_
                exact ih18 (v6_16 - z28) (v8_17 + 1) (⟨by omega, by omega⟩) (by omega)
        exact L22 _ v6_6 v8_7 (⟨by omega, by omega⟩) (Nat.lt_succ_self _)
  refine px_weak hG (L2 := [some (.inr (.inr (14, 0))), some (.inr (.inr (39, 0))), some (.inl n1), some (.inl k1), none, none, some (.inr (.inl r1)), none, some (.inl 1), some (.inl 1)]) ⟨Or.inr rfl, Or.inr rfl, Or.inr rfl, Or.inr rfl, Or.inl rfl, Or.inr rfl, Or.inr rfl, Or.inr rfl, Or.inr rfl, Or.inr rfl, trivial⟩ ?_
  exact L16 _ r1 1 1 t3 Rt3 Ff5 (⟨by omega, by omega, by omega⟩) (Nat.lt_succ_self _))
def pre_X8_hangCars (as : List pm_V) (n : Nat) (σ : pm_H) : Prop := as = [.inr (.inr (16, 0)), .inr (.inr (4, 0))] ∧ n = 122 ∧ pm_Rng σ ∧ (1 ≤ σ 16 0 0)
def po_X8_hangCars (as : List pm_V) (_ : Nat) (σ : pm_H) (r : Option pm_V) (τ : pm_H) : Prop := as = [.inr (.inr (16, 0)), .inr (.inr (4, 0))] → r = none ∧ pm_Rng τ ∧ pm_Fr [(17, none), (18, none), (19, none), (21, none), (22, none)] σ τ
set_option maxRecDepth 20000 in
set_option maxHeartbeats 4000000 in
theorem ct_X8_hangCars : pm_Ct yX8_hangCars cX8_hangCars 5 none 0 0 pre_X8_hangCars po_X8_hangCars := pm_sound (ini := false) (by decide +kernel) pk_X8_hangCars (fun h => absurd h (by decide)) (by
  rintro as n s0 ⟨rfl, rfl, R0, hpre⟩
  refine ⟨by decide, Nat.le_of_ble_eq_true rfl, fun G hG => ?_⟩
  have hG : pm_Rules (RX8, 0, 122, cX8_hangCars, -1, (fun _ => 0), false, none, po_X8_hangCars [.inr (.inr (16, 0)), .inr (.inr (4, 0))] 122 s0) G := hG
  show G 0 [some (.inr (.inr (16, 0))), some (.inr (.inr (4, 0))), none, none, none] [] 122 s0
  refine px_aload_n hG dX8_hangCars_0 rfl ?_
  refine gr_16_6 hG dX8_hangCars_1 fl_X8_31 R0 ?_
  refine px_iconst hG dX8_hangCars_4 ?_
  refine px_iconst hG dX8_hangCars_5 ?_
  refine as_22 hG dX8_hangCars_6 R0 (by omega) (by omega) (fun s1 qs1 Rs1 => ?_)
  have Fs1 := pm_Fr_up ((pm_Fr_rf : pm_Fr [(17, none), (18, none), (19, none), (21, none), (22, none)] s0 s0)) qs1 (M := [(17, none), (18, none), (19, none), (21, none), (22, none)]) rfl
  refine px_aload_n hG dX8_hangCars_7 rfl ?_
  refine gr_16_2 hG dX8_hangCars_8 fl_X8_19 Rs1 ?_
  refine px_iconst hG dX8_hangCars_11 ?_
  refine px_iconst hG dX8_hangCars_12 ?_
  refine as_18 hG dX8_hangCars_13 Rs1 (by omega) (fun s2 qs2 Rs2 => ?_)
  have Fs2 := pm_Fr_up (Fs1) qs2 (M := [(17, none), (18, none), (19, none), (21, none), (22, none)]) rfl
  refine px_iconst hG dX8_hangCars_14 ?_
  refine px_istore_n hG dX8_hangCars_15 (Nat.le_of_ble_eq_true rfl) (L2 := [some (.inr (.inr (16, 0))), some (.inr (.inr (4, 0))), some (.inl 1), none, none]) rfl ?_
  refine px_iconst hG dX8_hangCars_16 ?_
  refine px_istore_n hG dX8_hangCars_17 (Nat.le_of_ble_eq_true rfl) (L2 := [some (.inr (.inr (16, 0))), some (.inr (.inr (4, 0))), some (.inl 1), some (.inl 1), none]) rfl ?_
  have L18 : ∀ (N : Nat) (v2_3 : Int) (v3_4 : Int) (s5 : pm_H), pm_Rng s5 → pm_Fr [(17, none), (18, none), (19, none), (21, none), (22, none)] s0 s5 → ((1 ≤ v2_3 ∧ v2_3 ≤ 10000) ∧ (1 ≤ v3_4 ∧ v3_4 ≤ 10000) ∧ (v2_3 = 1 + pm_sc (s0 4 0) v3_4 1 (s0 16 0 0).toNat ∧ 1 ≤ v3_4 ∧ v3_4 ≤ s0 16 0 0 + 1)) → (10001 - v3_4).toNat < N → G 18 [some (.inr (.inr (16, 0))), some (.inr (.inr (4, 0))), some (.inl v2_3), some (.inl v3_4), none] [] 122 s5 := by
    intro N
    induction N with
    | zero => intro v2_3 v3_4 s5 R6 F7 inv9 hm10; exact absurd hm10 (Nat.not_lt_zero _)
    | succ N ih8 =>
      intro v2_3 v3_4 s5 R6 F7 inv9 hm10
      have W := inv9.2.2
      have WB := pm_sc_le (s0 4 0) v3_4 1 (s0 16 0 0).toNat
      refine px_iload_n hG dX8_hangCars_18 rfl ?_
      refine px_aload_n hG dX8_hangCars_19 rfl ?_
      refine gi_16_0 hG dX8_hangCars_20 fl_X8_9 R6 (fun x11 ex11 lx11 ux11 => ?_)
      have ex11 : s0 16 0 0 = x11 := (F7 16 0 0 rfl).symm.trans ex11
      refine px_ic_gt hG dX8_hangCars_23 (tgt := 125) (by decide) ⟨by omega, by omega⟩ ⟨by omega, by omega⟩ (fun c12 => ?_) (fun c12 => ?_)
      · exact px_vret (st := []) hG dX8_hangCars_125 rfl rfl (fun _ => by exact ⟨rfl, R6, F7⟩)
      · refine px_iconst hG dX8_hangCars_26 ?_
        refine px_istore hG dX8_hangCars_27 (Nat.le_of_ble_eq_true rfl) (L2 := [some (.inr (.inr (16, 0))), some (.inr (.inr (4, 0))), some (.inl v2_3), some (.inl v3_4), some (.inl 1)]) rfl ?_
        have L29 : ∀ (N : Nat) (v2_13 : Int) (v4_14 : Int) (s15 : pm_H), pm_Rng s15 → pm_Fr [(17, none), (18, none), (19, none), (21, none), (22, none)] s0 s15 → ((v2_3 ≤ v2_13 ∧ v2_13 ≤ 10000) ∧ (1 ≤ v4_14 ∧ v4_14 ≤ 10000) ∧ (v2_13 = 1 + pm_sc (s0 4 0) v3_4 v4_14 (s0 16 0 0).toNat ∧ v4_14 ≤ s0 16 0 0 + 1)) → (10001 - v4_14).toNat < N → G 29 [some (.inr (.inr (16, 0))), some (.inr (.inr (4, 0))), some (.inl v2_13), some (.inl v3_4), some (.inl v4_14)] [] 122 s15 := by
          intro N
          induction N with
          | zero => intro v2_13 v4_14 s15 R16 F17 inv19 hm20; exact absurd hm20 (Nat.not_lt_zero _)
          | succ N ih18 =>
            intro v2_13 v4_14 s15 R16 F17 inv19 hm20
            have U := inv19.2.2
            have UB := pm_sc_le (s0 4 0) v3_4 v4_14 (s0 16 0 0).toNat
            have UN := pm_sc_nn (s0 4 0) v3_4 v4_14 (s0 16 0 0).toNat
            refine px_iload hG dX8_hangCars_29 rfl ?_
            refine px_aload_n hG dX8_hangCars_31 rfl ?_
            refine gi_16_0 hG dX8_hangCars_32 fl_X8_9 R16 (fun x21 ex21 lx21 ux21 => ?_)
            have ex21 : s0 16 0 0 = x21 := (F17 16 0 0 rfl).symm.trans ex21
            refine px_ic_gt hG dX8_hangCars_35 (tgt := 119) (by decide) ⟨by omega, by omega⟩ ⟨by omega, by omega⟩ (fun c22 => ?_) (fun c22 => ?_)
            · have NX := pm_sc_nx (f := s0 4 0) (v := v3_4) (c := v4_14) (k := (s0 16 0 0).toNat) (by omega)
              refine px_iinc hG dX8_hangCars_119 (Nat.le_of_ble_eq_true rfl) rfl (L2 := [some (.inr (.inr (16, 0))), some (.inr (.inr (4, 0))), some (.inl v2_13), some (.inl (v3_4 + 1)), some (.inl v4_14)]) rfl ?_
              refine px_goto hG dX8_hangCars_122 (tgt := 18) (by decide) ?_
              refine px_weak hG (L2 := [some (.inr (.inr (16, 0))), some (.inr (.inr (4, 0))), some (.inl v2_13), some (.inl (v3_4 + 1)), none]) ⟨Or.inr rfl, Or.inr rfl, Or.inr rfl, Or.inr rfl, Or.inl rfl, trivial⟩ ?_
              exact ih8 v2_13 (v3_4 + 1) s15 R16 F17 (⟨by omega, by omega, ⟨by omega, by omega, by omega⟩⟩) (by omega)
            · refine px_aload_n hG dX8_hangCars_38 rfl ?_
              refine px_iload hG dX8_hangCars_39 rfl ?_
              refine al_4 hG dX8_hangCars_41 R16 (by omega) (fun x23 ex23 lx23 ux23 => ?_)
              have X1 := (F17 4 0 v4_14 rfl).symm.trans ex23
              refine px_iload_n hG dX8_hangCars_42 rfl ?_
              refine px_ic_ne hG dX8_hangCars_43 (tgt := 113) (by decide) ⟨by omega, by omega⟩ ⟨by omega, by omega⟩ (fun c24 => ?_) (fun c24 => ?_)
              · refine px_iinc hG dX8_hangCars_113 (Nat.le_of_ble_eq_true rfl) rfl (L2 := [some (.inr (.inr (16, 0))), some (.inr (.inr (4, 0))), some (.inl v2_13), some (.inl v3_4), some (.inl (v4_14 + 1))]) rfl ?_
                refine px_goto hG dX8_hangCars_116 (tgt := 29) (by decide) ?_
                exact ih18 v2_13 (v4_14 + 1) s15 R16 F17 (⟨by omega, by omega, by first | exact ⟨by omega, by omega⟩ | exact ⟨by rw [pm_sc_st (by omega)]; omega, by omega⟩⟩) (by omega)
              · have V := pm_sc_up (f := s0 4 0) (v := v3_4) (c := v4_14) (k := (s0 16 0 0).toNat) (by omega) (by omega) (by omega) (by omega)
                have VB := pm_sc_le (s0 4 0) v3_4 (v4_14 + 1) (s0 16 0 0).toNat
                refine px_iinc hG dX8_hangCars_46 (Nat.le_of_ble_eq_true rfl) rfl (L2 := [some (.inr (.inr (16, 0))), some (.inr (.inr (4, 0))), some (.inl (v2_13 + 1)), some (.inl v3_4), some (.inl v4_14)]) rfl ?_
                refine px_aload_n hG dX8_hangCars_49 rfl ?_
                refine gr_16_6 hG dX8_hangCars_50 fl_X8_31 R16 ?_
                refine px_iload_n hG dX8_hangCars_53 rfl ?_
                refine px_iload hG dX8_hangCars_54 rfl ?_
                refine as_22 hG dX8_hangCars_56 R16 (by omega) (by omega) (fun s25 qs25 Rs25 => ?_)
                have Fs25 := pm_Fr_up (F17) qs25 (M := [(17, none), (18, none), (19, none), (21, none), (22, none)]) rfl
                refine px_aload_n hG dX8_hangCars_57 rfl ?_
                refine gr_16_5 hG dX8_hangCars_58 fl_X8_28 Rs25 ?_
                refine px_iload hG dX8_hangCars_61 rfl ?_
                refine px_iload_n hG dX8_hangCars_63 rfl ?_
                refine as_21 hG dX8_hangCars_64 Rs25 (by omega) (fun s26 qs26 Rs26 => ?_)
                have Fs26 := pm_Fr_up (Fs25) qs26 (M := [(17, none), (18, none), (19, none), (21, none), (22, none)]) rfl
                refine px_aload_n hG dX8_hangCars_65 rfl ?_
                refine gr_16_1 hG dX8_hangCars_66 fl_X8_15 Rs26 ?_
                refine px_iload hG dX8_hangCars_69 rfl ?_
                refine px_aload_n hG dX8_hangCars_71 rfl ?_
                refine gr_16_6 hG dX8_hangCars_72 fl_X8_31 Rs26 ?_
                refine px_iload_n hG dX8_hangCars_75 rfl ?_
                refine al_22 hG dX8_hangCars_76 Rs26 (by omega) (fun x27 ex27 lx27 ux27 => ?_)
                refine as_17 hG dX8_hangCars_77 Rs26 (by omega) (by omega) (fun s28 qs28 Rs28 => ?_)
                have Fs28 := pm_Fr_up (Fs26) qs28 (M := [(17, none), (18, none), (19, none), (21, none), (22, none)]) rfl
                refine px_aload_n hG dX8_hangCars_78 rfl ?_
                refine gr_16_2 hG dX8_hangCars_79 fl_X8_19 Rs28 ?_
                refine px_iload hG dX8_hangCars_82 rfl ?_
                refine px_aload_n hG dX8_hangCars_84 rfl ?_
                refine gr_16_2 hG dX8_hangCars_85 fl_X8_19 Rs28 ?_
                refine px_aload_n hG dX8_hangCars_88 rfl ?_
                refine gr_16_6 hG dX8_hangCars_89 fl_X8_31 Rs28 ?_
                refine px_iload_n hG dX8_hangCars_92 rfl ?_
                refine al_22 hG dX8_hangCars_93 Rs28 (by omega) (fun x29 ex29 lx29 ux29 => ?_)
                refine al_18 hG dX8_hangCars_94 Rs28 (by omega) (fun x30 ex30 lx30 ux30 => ?_)
                refine px_iconst hG dX8_hangCars_95 ?_
                refine px_iadd hG dX8_hangCars_96 ?_
                refine as_18 hG dX8_hangCars_97 Rs28 (by omega) (fun s31 qs31 Rs31 => ?_)
                have Fs31 := pm_Fr_up (Fs28) qs31 (M := [(17, none), (18, none), (19, none), (21, none), (22, none)]) rfl
                refine px_aload_n hG dX8_hangCars_98 rfl ?_
                refine gr_16_3 hG dX8_hangCars_99 fl_X8_22 Rs31 ?_
                refine px_aload_n hG dX8_hangCars_102 rfl ?_
                refine gr_16_6 hG dX8_hangCars_103 fl_X8_31 Rs31 ?_
                refine px_iload_n hG dX8_hangCars_106 rfl ?_
                refine al_22 hG dX8_hangCars_107 Rs31 (by omega) (fun x32 ex32 lx32 ux32 => ?_)
                refine px_dup2 hG dX8_hangCars_108 ?_
                refine al_19 hG dX8_hangCars_109 Rs31 (by omega) (fun x33 ex33 lx33 ux33 => ?_)
                refine px_iconst hG dX8_hangCars_110 ?_
                refine px_iadd hG dX8_hangCars_111 ?_
                refine as_19 hG dX8_hangCars_112 Rs31 (by omega) (fun s34 qs34 Rs34 => ?_)
                have Fs34 := pm_Fr_up (Fs31) qs34 (M := [(17, none), (18, none), (19, none), (21, none), (22, none)]) rfl
                refine px_iinc hG dX8_hangCars_113 (Nat.le_of_ble_eq_true rfl) rfl (L2 := [some (.inr (.inr (16, 0))), some (.inr (.inr (4, 0))), some (.inl (v2_13 + 1)), some (.inl v3_4), some (.inl (v4_14 + 1))]) rfl ?_
                refine px_goto hG dX8_hangCars_116 (tgt := 29) (by decide) ?_
                exact ih18 (v2_13 + 1) (v4_14 + 1) s34 Rs34 Fs34 (⟨by omega, by omega, by first | exact ⟨by omega, by omega⟩ | exact ⟨by rw [pm_sc_st (by omega)]; omega, by omega⟩⟩) (by omega)
        exact L29 _ v2_3 1 s5 R6 F7 (⟨by omega, by omega, ⟨W.1, by omega⟩⟩) (Nat.lt_succ_self _)
  exact L18 _ 1 1 s2 Rs2 Fs2 (⟨by omega, by omega, ⟨by rw [pm_sc_0]; rfl, by omega, by omega⟩⟩) (Nat.lt_succ_self _))
def pre_X8_build (as : List pm_V) (n : Nat) (σ : pm_H) : Prop := ∃ n1 : Int, as = [.inr (.inr (16, 0)), .inr (.inr (4, 0)), .inl n1] ∧ n = 122 ∧ pm_Rng σ ∧ (1 ≤ n1 ∧ n1 ≤ 10)
def po_X8_build (as : List pm_V) (_ : Nat) (σ : pm_H) (r : Option pm_V) (τ : pm_H) : Prop := ∀ n1 : Int, as = [.inr (.inr (16, 0)), .inr (.inr (4, 0)), .inl n1] → r = none ∧ pm_Rng τ ∧ pm_Fr [(16, some 0), (17, none), (18, none), (19, none), (20, none), (21, none), (22, none)] σ τ ∧ (τ 16 0 0 = n1)
set_option maxRecDepth 20000 in
set_option maxHeartbeats 4000000 in
theorem ct_X8_build : pm_Ct yX8_build cX8_build 4 none 1 0 pre_X8_build po_X8_build := pm_sound (ini := false) (by decide +kernel) pk_X8_build (fun h => absurd h (by decide)) (by
  rintro as n s0 ⟨n1, rfl, rfl, R0, hpre⟩
  refine ⟨by decide, Nat.le_of_ble_eq_true rfl, fun G hG => ?_⟩
  have hG : pm_Rules (RX8, 1, 122, cX8_build, -1, (fun _ => 0), false, none, po_X8_build [.inr (.inr (16, 0)), .inr (.inr (4, 0)), .inl n1] 122 s0) G := hG
  show G 0 [some (.inr (.inr (16, 0))), some (.inr (.inr (4, 0))), some (.inl n1), none] [] 122 s0
  refine px_aload_n hG dX8_build_0 rfl ?_
  refine px_iload_n hG dX8_build_1 rfl ?_
  refine pi_16_0 hG dX8_build_2 fl_X8_9 R0 (by omega) (fun s1 qs1 Rs1 => ?_)
  have Fs1 := pm_Fr_up ((pm_Fr_rf : pm_Fr [(16, some 0), (17, none), (18, none), (19, none), (20, none), (21, none), (22, none)] s0 s0)) qs1 (M := [(16, some 0), (17, none), (18, none), (19, none), (20, none), (21, none), (22, none)]) rfl
  have k2 : s1 16 0 0 = n1 := pm_at qs1
  refine px_iconst hG dX8_build_5 ?_
  refine px_istore_n hG dX8_build_6 (Nat.le_of_ble_eq_true rfl) (L2 := [some (.inr (.inr (16, 0))), some (.inr (.inr (4, 0))), some (.inl n1), some (.inl 0)]) rfl ?_
  have L7 : ∀ (N : Nat) (v3_3 : Int) (s4 : pm_H), pm_Rng s4 → pm_Fr [(16, some 0), (17, none), (18, none), (19, none), (20, none), (21, none), (22, none)] s0 s4 → s4 16 0 0 = n1 → ((0 ≤ v3_3 ∧ v3_3 ≤ 10000)) → (10001 - v3_3).toNat < N → G 7 [some (.inr (.inr (16, 0))), some (.inr (.inr (4, 0))), none, some (.inl v3_3)] [] 122 s4 := by
    intro N
    induction N with
    | zero => intro v3_3 s4 R5 F6 k8 inv9 hm10; exact absurd hm10 (Nat.not_lt_zero _)
    | succ N ih7 =>
      intro v3_3 s4 R5 F6 k8 inv9 hm10
      refine px_iload_n hG dX8_build_7 rfl ?_
      refine px_aload_n hG dX8_build_8 rfl ?_
      refine gi_16_0 hG dX8_build_9 fl_X8_9 R5 (fun x11 ex11 lx11 ux11 => ?_)
      have J35_13 : ((v3_3 > x11)) → G 35 [some (.inr (.inr (16, 0))), some (.inr (.inr (4, 0))), none, none] [] 122 s4 := by
        intro inv14
        refine px_aload_n hG dX8_build_35 rfl ?_
        refine px_aload_n hG dX8_build_36 rfl ?_
        refine jv1 hG dX8_build_37 ct_X8_hangCars lk_X8_37 ⟨rfl, rfl⟩ (by decide) ⟨Nat.le_of_ble_eq_true rfl, Nat.le_of_ble_eq_true rfl, Nat.le_of_ble_eq_true rfl⟩ (Nat.le_of_ble_eq_true rfl) ⟨rfl, rfl, R5, by omega⟩ (fun r15 t17 pr15 => ?_)
        obtain ⟨rfl, Rt17, Ft17⟩ := pr15 rfl
        have Ff19 := pm_Fr_tr F6 Ft17 (M := [(16, some 0), (17, none), (18, none), (19, none), (20, none), (21, none), (22, none)]) rfl
        have k20 : t17 16 0 0 = n1 := (Ft17 16 0 0 rfl).trans k8
        show G 40 [some (.inr (.inr (16, 0))), some (.inr (.inr (4, 0))), none, none] [] 122 t17
        refine px_aload_n hG dX8_build_40 rfl ?_
        refine gi_16_0 hG dX8_build_41 fl_X8_9 Rt17 (fun x21 ex21 lx21 ux21 => ?_)
        refine px_iconst hG dX8_build_44 ?_
        refine px_iadd hG dX8_build_45 ?_
        refine px_istore_n hG dX8_build_46 (Nat.le_of_ble_eq_true rfl) (L2 := [some (.inr (.inr (16, 0))), some (.inr (.inr (4, 0))), none, some (.inl (x21 + 1))]) rfl ?_
        have L47 : ∀ (N : Nat) (v3_22 : Int) (s23 : pm_H), pm_Rng s23 → pm_Fr [(16, some 0), (17, none), (18, none), (19, none), (20, none), (21, none), (22, none)] s0 s23 → s23 16 0 0 = n1 → ((-10000 ≤ v3_22 ∧ v3_22 ≤ x21 + 1)) → (v3_22 + 10001).toNat < N → G 47 [some (.inr (.inr (16, 0))), none, none, some (.inl v3_22)] [] 122 s23 := by
          intro N
          induction N with
          | zero => intro v3_22 s23 R24 F25 k27 inv28 hm29; exact absurd hm29 (Nat.not_lt_zero _)
          | succ N ih26 =>
            intro v3_22 s23 R24 F25 k27 inv28 hm29
            refine px_iload_n hG dX8_build_47 rfl ?_
            refine px_iconst hG dX8_build_48 ?_
            refine px_ic_lt hG dX8_build_49 (tgt := 90) (by decide) ⟨by omega, by omega⟩ ⟨by omega, by omega⟩ (fun c30 => ?_) (fun c30 => ?_)
            · exact px_vret (st := []) hG dX8_build_90 rfl rfl (fun n1_1 ee => by cases ee; exact ⟨rfl, R24, F25, by omega⟩)
            · refine px_aload_n hG dX8_build_52 rfl ?_
              refine gr_16_4 hG dX8_build_53 fl_X8_25 R24 ?_
              refine px_aload_n hG dX8_build_56 rfl ?_
              refine gr_16_1 hG dX8_build_57 fl_X8_15 R24 ?_
              refine px_aload_n hG dX8_build_60 rfl ?_
              refine gr_16_6 hG dX8_build_61 fl_X8_31 R24 ?_
              refine px_iload_n hG dX8_build_64 rfl ?_
              refine al_22 hG dX8_build_65 R24 (by omega) (fun x31 ex31 lx31 ux31 => ?_)
              refine al_17 hG dX8_build_66 R24 (by omega) (fun x32 ex32 lx32 ux32 => ?_)
              refine px_dup2 hG dX8_build_67 ?_
              refine al_20 hG dX8_build_68 R24 (by omega) (fun x33 ex33 lx33 ux33 => ?_)
              refine px_aload_n hG dX8_build_69 rfl ?_
              refine gr_16_4 hG dX8_build_70 fl_X8_25 R24 ?_
              refine px_aload_n hG dX8_build_73 rfl ?_
              refine gr_16_6 hG dX8_build_74 fl_X8_31 R24 ?_
              refine px_iload_n hG dX8_build_77 rfl ?_
              refine al_22 hG dX8_build_78 R24 (by omega) (fun x34 ex34 lx34 ux34 => ?_)
              refine al_20 hG dX8_build_79 R24 (by omega) (fun x35 ex35 lx35 ux35 => ?_)
              refine px_iconst hG dX8_build_80 ?_
              refine px_iadd hG dX8_build_81 ?_
              refine px_iadd hG dX8_build_82 ?_
              refine as_20 hG dX8_build_83 R24 (by omega) (fun s36 qs36 Rs36 => ?_)
              have Fs36 := pm_Fr_up (F25) qs36 (M := [(16, some 0), (17, none), (18, none), (19, none), (20, none), (21, none), (22, none)]) rfl
              have k37 : s36 16 0 0 = n1 := (pm_nec qs36 (by decide)).trans k27
              refine px_iinc hG dX8_build_84 (Nat.le_of_ble_eq_true rfl) rfl (L2 := [some (.inr (.inr (16, 0))), none, none, some (.inl (v3_22 + -1))]) rfl ?_
              refine px_goto hG dX8_build_87 (tgt := 47) (by decide) ?_
              exact ih26 (v3_22 + -1) s36 Rs36 Fs36 k37 (by omega) (by omega)
        refine px_weak hG (L2 := [some (.inr (.inr (16, 0))), none, none, some (.inl (x21 + 1))]) ⟨Or.inr rfl, Or.inl rfl, Or.inr rfl, Or.inr rfl, trivial⟩ ?_
        exact L47 _ (x21 + 1) t17 Rt17 Ff19 k20 (by omega) (Nat.lt_succ_self _)
      refine px_ic_gt hG dX8_build_12 (tgt := 35) (by decide) ⟨by omega, by omega⟩ ⟨by omega, by omega⟩ (fun c12 => ?_) (fun c12 => ?_)
      · refine px_weak hG (L2 := [some (.inr (.inr (16, 0))), some (.inr (.inr (4, 0))), none, none]) ⟨Or.inr rfl, Or.inr rfl, Or.inr rfl, Or.inl rfl, trivial⟩ ?_
        exact J35_13  (by omega)
      · refine px_aload_n hG dX8_build_15 rfl ?_
        refine gr_16_3 hG dX8_build_16 fl_X8_22 R5 ?_
        refine px_iload_n hG dX8_build_19 rfl ?_
        refine px_iconst hG dX8_build_20 ?_
        refine as_19 hG dX8_build_21 R5 (by omega) (fun s38 qs38 Rs38 => ?_)
        have Fs38 := pm_Fr_up (F6) qs38 (M := [(16, some 0), (17, none), (18, none), (19, none), (20, none), (21, none), (22, none)]) rfl
        have k39 : s38 16 0 0 = n1 := (pm_nec qs38 (by decide)).trans k8
        refine px_aload_n hG dX8_build_22 rfl ?_
        refine gr_16_4 hG dX8_build_23 fl_X8_25 Rs38 ?_
        refine px_iload_n hG dX8_build_26 rfl ?_
        refine px_iconst hG dX8_build_27 ?_
        refine as_20 hG dX8_build_28 Rs38 (by omega) (fun s40 qs40 Rs40 => ?_)
        have Fs40 := pm_Fr_up (Fs38) qs40 (M := [(16, some 0), (17, none), (18, none), (19, none), (20, none), (21, none), (22, none)]) rfl
        have k41 : s40 16 0 0 = n1 := (pm_nec qs40 (by decide)).trans k39
        refine px_iinc hG dX8_build_29 (Nat.le_of_ble_eq_true rfl) rfl (L2 := [some (.inr (.inr (16, 0))), some (.inr (.inr (4, 0))), none, some (.inl (v3_3 + 1))]) rfl ?_
        refine px_goto hG dX8_build_32 (tgt := 7) (by decide) ?_
        exact ih7 (v3_3 + 1) s40 Rs40 Fs40 k41 (by omega) (by omega)
  refine px_weak hG (L2 := [some (.inr (.inr (16, 0))), some (.inr (.inr (4, 0))), none, some (.inl 0)]) ⟨Or.inr rfl, Or.inr rfl, Or.inl rfl, Or.inr rfl, trivial⟩ ?_
  exact L7 _ 0 s1 Rs1 Fs1 k2 (by omega) (Nat.lt_succ_self _))
def pre_X8_inversions (as : List pm_V) (n : Nat) (σ : pm_H) : Prop := as = [.inr (.inr (16, 0))] ∧ n = 122 ∧ pm_Rng σ
def po_X8_inversions (as : List pm_V) (_ : Nat) (σ : pm_H) (r : Option pm_V) (τ : pm_H) : Prop := as = [.inr (.inr (16, 0))] → ∃ v : Int, r = some (.inl v) ∧ σ = τ
set_option maxRecDepth 20000 in
set_option maxHeartbeats 4000000 in
theorem ct_X8_inversions : pm_Ct yX8_inversions cX8_inversions 5 (some .int) 0 0 pre_X8_inversions po_X8_inversions := pm_sound (ini := false) (by decide +kernel) pk_X8_inversions (fun h => absurd h (by decide)) (by
  rintro as n s0 ⟨rfl, rfl, R0⟩
  refine ⟨by decide, Nat.le_of_ble_eq_true rfl, fun G hG => ?_⟩
  have hG : pm_Rules (RX8, 0, 122, cX8_inversions, -1, (fun _ => 0), false, (some .int), po_X8_inversions [.inr (.inr (16, 0))] 122 s0) G := hG
  show G 0 [some (.inr (.inr (16, 0))), none, none, none, none] [] 122 s0
  refine px_iconst hG dX8_inversions_0 ?_
  refine px_istore_n hG dX8_inversions_1 (Nat.le_of_ble_eq_true rfl) (L2 := [some (.inr (.inr (16, 0))), some (.inl 0), none, none, none]) rfl ?_
  refine px_iconst hG dX8_inversions_2 ?_
  refine px_istore_n hG dX8_inversions_3 (Nat.le_of_ble_eq_true rfl) (L2 := [some (.inr (.inr (16, 0))), some (.inl 0), some (.inl 1), none, none]) rfl ?_
  have L4 : ∀ (N : Nat) (v1_1 : Int) (v2_2 : Int), ((1 ≤ v2_2 ∧ v2_2 ≤ 10000)) → (10001 - v2_2).toNat < N → G 4 [some (.inr (.inr (16, 0))), some (.inl v1_1), some (.inl v2_2), none, none] [] 122 s0 := by
    intro N
    induction N with
    | zero => intro v1_1 v2_2 inv4 hm5; exact absurd hm5 (Nat.not_lt_zero _)
    | succ N ih3 =>
      intro v1_1 v2_2 inv4 hm5
      refine px_iload_n hG dX8_inversions_4 rfl ?_
      refine px_aload_n hG dX8_inversions_5 rfl ?_
      refine gi_16_0 hG dX8_inversions_6 fl_X8_9 R0 (fun x6 ex6 lx6 ux6 => ?_)
      refine px_ic_gt hG dX8_inversions_9 (tgt := 60) (by decide) ⟨by omega, by omega⟩ ⟨by omega, by omega⟩ (fun c7 => ?_) (fun c7 => ?_)
      · refine px_iload_n hG dX8_inversions_60 rfl ?_
        exact px_iret (st := []) hG dX8_inversions_61 rfl rfl (fun _ => by exact ⟨_, rfl, rfl⟩)
      · refine px_aload_n hG dX8_inversions_12 rfl ?_
        refine gr_16_1 hG dX8_inversions_13 fl_X8_15 R0 ?_
        refine px_iload_n hG dX8_inversions_16 rfl ?_
        refine al_17 hG dX8_inversions_17 R0 (by omega) (fun x8 ex8 lx8 ux8 => ?_)
        refine px_istore_n hG dX8_inversions_18 (Nat.le_of_ble_eq_true rfl) (L2 := [some (.inr (.inr (16, 0))), some (.inl v1_1), some (.inl v2_2), some (.inl x8), none]) rfl ?_
        refine px_iconst hG dX8_inversions_19 ?_
        refine px_istore hG dX8_inversions_20 (Nat.le_of_ble_eq_true rfl) (L2 := [some (.inr (.inr (16, 0))), some (.inl v1_1), some (.inl v2_2), some (.inl x8), some (.inl 1)]) rfl ?_
        have L22 : ∀ (N : Nat) (v1_9 : Int) (v3_10 : Int) (v4_11 : Int), ((1 ≤ v4_11 ∧ v4_11 ≤ 2147483647 ∧ 0 ≤ v3_10 ∧ v3_10 ≤ 10)) → (2147483647 - v4_11).toNat < N → G 22 [some (.inr (.inr (16, 0))), some (.inl v1_9), some (.inl v2_2), some (.inl v3_10), some (.inl v4_11)] [] 122 s0 := by
          intro N
          induction N with
          | zero => intro v1_9 v3_10 v4_11 inv13 hm14; exact absurd hm14 (Nat.not_lt_zero _)
          | succ N ih12 =>
            intro v1_9 v3_10 v4_11 inv13 hm14
            refine px_iload hG dX8_inversions_22 rfl ?_
            refine px_aload_n hG dX8_inversions_24 rfl ?_
            refine gr_16_2 hG dX8_inversions_25 fl_X8_19 R0 ?_
            refine px_iload_n hG dX8_inversions_28 rfl ?_
            refine al_18 hG dX8_inversions_29 R0 (by omega) (fun x15 ex15 lx15 ux15 => ?_)
            refine px_ic_ge hG dX8_inversions_30 (tgt := 54) (by decide) ⟨by omega, by omega⟩ ⟨by omega, by omega⟩ (fun c16 => ?_) (fun c16 => ?_)
            · refine px_iinc hG dX8_inversions_54 (Nat.le_of_ble_eq_true rfl) rfl (L2 := [some (.inr (.inr (16, 0))), some (.inl v1_9), some (.inl (v2_2 + 1)), some (.inl v3_10), some (.inl v4_11)]) rfl ?_
              refine px_goto hG dX8_inversions_57 (tgt := 4) (by decide) ?_
              refine px_weak hG (L2 := [some (.inr (.inr (16, 0))), some (.inl v1_9), some (.inl (v2_2 + 1)), none, none]) ⟨Or.inr rfl, Or.inr rfl, Or.inr rfl, Or.inl rfl, Or.inl rfl, trivial⟩ ?_
              exact ih3 v1_9 (v2_2 + 1) (by omega) (by omega)
            · refine px_iload_n hG dX8_inversions_33 rfl ?_
              refine px_iload_n hG dX8_inversions_34 rfl ?_
              have J41_19 : ∀ (j18 : Int), ((v3_10 ≤ v2_2 ∧ j18 = v1_9) ∨ (¬ (v3_10 ≤ v2_2) ∧ j18 = v1_9 + 1)) → G 41 [some (.inr (.inr (16, 0))), some (.inl j18), some (.inl v2_2), some (.inl v3_10), some (.inl v4_11)] [] 122 s0 := by
                intro j18 inv20
                refine px_aload_n hG dX8_inversions_41 rfl ?_
                refine gr_16_1 hG dX8_inversions_42 fl_X8_15 R0 ?_
                refine px_iload_n hG dX8_inversions_45 rfl ?_
                refine al_17 hG dX8_inversions_46 R0 (by omega) (fun x21 ex21 lx21 ux21 => ?_)
                refine px_istore_n hG dX8_inversions_47 (Nat.le_of_ble_eq_true rfl) (L2 := [some (.inr (.inr (16, 0))), some (.inl j18), some (.inl v2_2), some (.inl x21), some (.inl v4_11)]) rfl ?_
                refine px_iinc hG dX8_inversions_48 (Nat.le_of_ble_eq_true rfl) rfl (L2 := [some (.inr (.inr (16, 0))), some (.inl j18), some (.inl v2_2), some (.inl x21), some (.inl (v4_11 + 1))]) rfl ?_
                refine px_goto hG dX8_inversions_51 (tgt := 22) (by decide) ?_
                exact ih12 j18 x21 (v4_11 + 1) (by omega) (by omega)
              refine px_ic_le hG dX8_inversions_35 (tgt := 41) (by decide) ⟨by omega, by omega⟩ ⟨by omega, by omega⟩ (fun c17 => ?_) (fun c17 => ?_)
              · exact J41_19 v1_9 (by omega)
              · refine px_iinc hG dX8_inversions_38 (Nat.le_of_ble_eq_true rfl) rfl (L2 := [some (.inr (.inr (16, 0))), some (.inl (v1_9 + 1)), some (.inl v2_2), some (.inl v3_10), some (.inl v4_11)]) rfl ?_
                exact J41_19 (v1_9 + 1) (by omega)
        exact L22 _ v1_1 x8 1 (by omega) (Nat.lt_succ_self _)
  exact L4 _ 0 1 (by omega) (Nat.lt_succ_self _))
def pre_X8_greatestWithOne (as : List pm_V) (n : Nat) (σ : pm_H) : Prop := as = [.inr (.inr (16, 0))] ∧ n = 122 ∧ pm_Rng σ
def po_X8_greatestWithOne (as : List pm_V) (_ : Nat) (σ : pm_H) (r : Option pm_V) (τ : pm_H) : Prop := as = [.inr (.inr (16, 0))] → ∃ v : Int, r = some (.inl v) ∧ σ = τ ∧ (0 ≤ v ∧ v ≤ 10)
set_option maxRecDepth 20000 in
set_option maxHeartbeats 4000000 in
theorem ct_X8_greatestWithOne : pm_Ct yX8_greatestWithOne cX8_greatestWithOne 2 (some .int) 0 0 pre_X8_greatestWithOne po_X8_greatestWithOne := pm_sound (ini := false) (by decide +kernel) pk_X8_greatestWithOne (fun h => absurd h (by decide)) (by
  rintro as n s0 ⟨rfl, rfl, R0⟩
  refine ⟨by decide, Nat.le_of_ble_eq_true rfl, fun G hG => ?_⟩
  have hG : pm_Rules (RX8, 0, 122, cX8_greatestWithOne, -1, (fun _ => 0), false, (some .int), po_X8_greatestWithOne [.inr (.inr (16, 0))] 122 s0) G := hG
  show G 0 [some (.inr (.inr (16, 0))), none] [] 122 s0
  refine px_aload_n hG dX8_greatestWithOne_0 rfl ?_
  refine gi_16_0 hG dX8_greatestWithOne_1 fl_X8_9 R0 (fun x1 ex1 lx1 ux1 => ?_)
  refine px_istore_n hG dX8_greatestWithOne_4 (Nat.le_of_ble_eq_true rfl) (L2 := [some (.inr (.inr (16, 0))), some (.inl x1)]) rfl ?_
  have L5 : ∀ (N : Nat) (v1_2 : Int), ((-10000 ≤ v1_2 ∧ v1_2 ≤ x1)) → (v1_2 + 10001).toNat < N → G 5 [some (.inr (.inr (16, 0))), some (.inl v1_2)] [] 122 s0 := by
    intro N
    induction N with
    | zero => intro v1_2 inv4 hm5; exact absurd hm5 (Nat.not_lt_zero _)
    | succ N ih3 =>
      intro v1_2 inv4 hm5
      refine px_iload_n hG dX8_greatestWithOne_5 rfl ?_
      refine px_if_le hG dX8_greatestWithOne_6 (tgt := 27) (by decide) ⟨by omega, by omega⟩ (fun c6 => ?_) (fun c6 => ?_)
      · refine px_iconst hG dX8_greatestWithOne_27 ?_
        exact px_iret (st := []) hG dX8_greatestWithOne_28 rfl rfl (fun _ => by exact ⟨_, rfl, rfl, by omega⟩)
      · refine px_aload_n hG dX8_greatestWithOne_9 rfl ?_
        refine gr_16_7 hG dX8_greatestWithOne_10 fl_X8_34 R0 ?_
        refine px_iload_n hG dX8_greatestWithOne_13 rfl ?_
        refine al_23 hG dX8_greatestWithOne_14 R0 (by omega) (fun x7 ex7 lx7 ux7 => ?_)
        refine px_iconst hG dX8_greatestWithOne_15 ?_
        refine px_ic_ne hG dX8_greatestWithOne_16 (tgt := 21) (by decide) ⟨by omega, by omega⟩ ⟨by omega, by omega⟩ (fun c8 => ?_) (fun c8 => ?_)
        · refine px_iinc hG dX8_greatestWithOne_21 (Nat.le_of_ble_eq_true rfl) rfl (L2 := [some (.inr (.inr (16, 0))), some (.inl (v1_2 + -1))]) rfl ?_
          refine px_goto hG dX8_greatestWithOne_24 (tgt := 5) (by decide) ?_
          exact ih3 (v1_2 + -1) (by omega) (by omega)
        · refine px_iload_n hG dX8_greatestWithOne_19 rfl ?_
          exact px_iret (st := []) hG dX8_greatestWithOne_20 rfl rfl (fun _ => by exact ⟨_, rfl, rfl, by omega⟩)
  exact L5 _ x1 (by omega) (Nat.lt_succ_self _))
def pre_X8_strike (as : List pm_V) (n : Nat) (σ : pm_H) : Prop := ∃ nd nb : Int, as = [.inr (.inr (16, 0)), .inl nd, .inl nb] ∧ n = 122 ∧ pm_Rng σ ∧ (0 ≤ nd ∧ nd ≤ 10 ∧ 0 ≤ nb ∧ nb ≤ 10)
def po_X8_strike (as : List pm_V) (_ : Nat) (σ : pm_H) (r : Option pm_V) (τ : pm_H) : Prop := ∀ nd nb : Int, as = [.inr (.inr (16, 0)), .inl nd, .inl nb] → r = none ∧ pm_Rng τ ∧ pm_Fr [(23, none)] σ τ
set_option maxRecDepth 20000 in
set_option maxHeartbeats 4000000 in
theorem ct_X8_strike : pm_Ct yX8_strike cX8_strike 3 none 0 0 pre_X8_strike po_X8_strike := pm_sound (ini := false) (by decide +kernel) pk_X8_strike (fun h => absurd h (by decide)) (by
  rintro as n s0 ⟨nd, nb, rfl, rfl, R0, hpre⟩
  refine ⟨by decide, Nat.le_of_ble_eq_true rfl, fun G hG => ?_⟩
  have hG : pm_Rules (RX8, 0, 122, cX8_strike, -1, (fun _ => 0), false, none, po_X8_strike [.inr (.inr (16, 0)), .inl nd, .inl nb] 122 s0) G := hG
  show G 0 [some (.inr (.inr (16, 0))), some (.inl nd), some (.inl nb)] [] 122 s0
  refine px_aload_n hG dX8_strike_0 rfl ?_
  refine gr_16_7 hG dX8_strike_1 fl_X8_34 R0 ?_
  refine px_iload_n hG dX8_strike_4 rfl ?_
  refine px_iconst hG dX8_strike_5 ?_
  refine as_23 hG dX8_strike_6 R0 (by omega) (fun s1 qs1 Rs1 => ?_)
  have Fs1 := pm_Fr_up ((pm_Fr_rf : pm_Fr [(23, none)] s0 s0)) qs1 (M := [(23, none)]) rfl
  refine px_aload_n hG dX8_strike_7 rfl ?_
  refine gr_16_7 hG dX8_strike_8 fl_X8_34 Rs1 ?_
  refine px_iload_n hG dX8_strike_11 rfl ?_
  refine px_dup2 hG dX8_strike_12 ?_
  refine al_23 hG dX8_strike_13 Rs1 (by omega) (fun x2 ex2 lx2 ux2 => ?_)
  refine px_iconst hG dX8_strike_14 ?_
  refine px_isub hG dX8_strike_15 ?_
  refine as_23 hG dX8_strike_16 Rs1 (by omega) (fun s3 qs3 Rs3 => ?_)
  have Fs3 := pm_Fr_up (Fs1) qs3 (M := [(23, none)]) rfl
  exact px_vret (st := []) hG dX8_strike_17 rfl rfl (fun nd_1 nb_1 ee => by cases ee; exact ⟨rfl, Rs3, Fs3⟩))
def pre_X8_codeNumber (as : List pm_V) (n : Nat) (σ : pm_H) : Prop := ∃ i1 : Int, as = [.inr (.inr (16, 0)), .inl i1] ∧ n = 122 ∧ pm_Rng σ ∧ (0 ≤ i1 ∧ i1 ≤ 8)
def po_X8_codeNumber (as : List pm_V) (_ : Nat) (σ : pm_H) (r : Option pm_V) (τ : pm_H) : Prop := ∀ i1 : Int, as = [.inr (.inr (16, 0)), .inl i1] → ∃ v : Int, r = some (.inl v) ∧ pm_Rng τ ∧ pm_Fr [(23, none)] σ τ ∧ (0 ≤ v ∧ v ≤ 10)
set_option maxRecDepth 20000 in
set_option maxHeartbeats 4000000 in
theorem ct_X8_codeNumber : pm_Ct yX8_codeNumber cX8_codeNumber 4 (some .int) 1 0 pre_X8_codeNumber po_X8_codeNumber := pm_sound (ini := false) (by decide +kernel) pk_X8_codeNumber (fun h => absurd h (by decide)) (by
  rintro as n s0 ⟨i1, rfl, rfl, R0, hpre⟩
  refine ⟨by decide, Nat.le_of_ble_eq_true rfl, fun G hG => ?_⟩
  have hG : pm_Rules (RX8, 1, 122, cX8_codeNumber, -1, (fun _ => 0), false, (some .int), po_X8_codeNumber [.inr (.inr (16, 0)), .inl i1] 122 s0) G := hG
  show G 0 [some (.inr (.inr (16, 0))), some (.inl i1), none, none] [] 122 s0
  refine px_aload_n hG dX8_codeNumber_0 rfl ?_
  refine gr_16_7 hG dX8_codeNumber_1 fl_X8_34 R0 ?_
  refine px_iconst hG dX8_codeNumber_4 ?_
  refine px_aload_n hG dX8_codeNumber_5 rfl ?_
  refine gr_16_3 hG dX8_codeNumber_6 fl_X8_22 R0 ?_
  refine px_iconst hG dX8_codeNumber_9 ?_
  refine al_19 hG dX8_codeNumber_10 R0 (by omega) (fun x1 ex1 lx1 ux1 => ?_)
  refine as_23 hG dX8_codeNumber_11 R0 (by omega) (fun s2 qs2 Rs2 => ?_)
  have Fs2 := pm_Fr_up ((pm_Fr_rf : pm_Fr [(23, none)] s0 s0)) qs2 (M := [(23, none)]) rfl
  refine px_iconst hG dX8_codeNumber_12 ?_
  refine px_istore_n hG dX8_codeNumber_13 (Nat.le_of_ble_eq_true rfl) (L2 := [some (.inr (.inr (16, 0))), some (.inl i1), some (.inl 1), none]) rfl ?_
  have L14 : ∀ (N : Nat) (v2_3 : Int) (s4 : pm_H), pm_Rng s4 → pm_Fr [(23, none)] s0 s4 → ((1 ≤ v2_3 ∧ v2_3 ≤ 10000)) → (10001 - v2_3).toNat < N → G 14 [some (.inr (.inr (16, 0))), some (.inl i1), some (.inl v2_3), none] [] 122 s4 := by
    intro N
    induction N with
    | zero => intro v2_3 s4 R5 F6 inv8 hm9; exact absurd hm9 (Nat.not_lt_zero _)
    | succ N ih7 =>
      intro v2_3 s4 R5 F6 inv8 hm9
      refine px_iload_n hG dX8_codeNumber_14 rfl ?_
      refine px_aload_n hG dX8_codeNumber_15 rfl ?_
      refine gi_16_0 hG dX8_codeNumber_16 fl_X8_9 R5 (fun x10 ex10 lx10 ux10 => ?_)
      have ex10 : s0 16 0 0 = x10 := (F6 16 0 0 rfl).symm.trans ex10
      have J42_12 : ((v2_3 > x10)) → G 42 [some (.inr (.inr (16, 0))), some (.inl i1), none, none] [] 122 s4 := by
        intro inv13
        refine px_iconst hG dX8_codeNumber_42 ?_
        refine px_istore_n hG dX8_codeNumber_43 (Nat.le_of_ble_eq_true rfl) (L2 := [some (.inr (.inr (16, 0))), some (.inl i1), some (.inl 0), none]) rfl ?_
        refine px_iconst hG dX8_codeNumber_44 ?_
        refine px_istore_n hG dX8_codeNumber_45 (Nat.le_of_ble_eq_true rfl) (L2 := [some (.inr (.inr (16, 0))), some (.inl i1), some (.inl 0), some (.inl 0)]) rfl ?_
        have L46 : ∀ (N : Nat) (v2_14 : Int) (v3_15 : Int) (s16 : pm_H), pm_Rng s16 → pm_Fr [(23, none)] s0 s16 → ((0 ≤ v3_15 ∧ v3_15 ≤ 10000) ∧ (0 ≤ v2_14 ∧ v2_14 ≤ 10)) → (10001 - v3_15).toNat < N → G 46 [some (.inr (.inr (16, 0))), some (.inl i1), some (.inl v2_14), some (.inl v3_15)] [] 122 s16 := by
          intro N
          induction N with
          | zero => intro v2_14 v3_15 s16 R17 F18 inv20 hm21; exact absurd hm21 (Nat.not_lt_zero _)
          | succ N ih19 =>
            intro v2_14 v3_15 s16 R17 F18 inv20 hm21
            refine px_iload_n hG dX8_codeNumber_46 rfl ?_
            refine px_iload_n hG dX8_codeNumber_47 rfl ?_
            refine px_ic_gt hG dX8_codeNumber_48 (tgt := 76) (by decide) ⟨by omega, by omega⟩ ⟨by omega, by omega⟩ (fun c22 => ?_) (fun c22 => ?_)
            · refine px_iload_n hG dX8_codeNumber_76 rfl ?_
              exact px_iret (st := []) hG dX8_codeNumber_77 rfl rfl (fun i1_1 ee => by cases ee; exact ⟨_, rfl, R17, F18, by omega⟩)
            · refine px_aload_n hG dX8_codeNumber_51 rfl ?_
              refine gr_16_1 hG dX8_codeNumber_52 fl_X8_15 R17 ?_
              refine px_aload_n hG dX8_codeNumber_55 rfl ?_
              refine jv0 hG dX8_codeNumber_56 ct_X8_greatestWithOne lk_X8_41 ⟨rfl, rfl⟩ (by decide) ⟨Nat.le_of_ble_eq_true rfl, Nat.le_of_ble_eq_true rfl, Nat.le_of_ble_eq_true rfl⟩ (Nat.le_of_ble_eq_true rfl) ⟨rfl, rfl, R17⟩ (fun r23 t24 pr23 => ?_)
              obtain ⟨x25, rfl, rfl, br23⟩ := pr23 rfl
              show G 59 [some (.inr (.inr (16, 0))), some (.inl i1), some (.inl v2_14), some (.inl v3_15)] [.inl x25, .inr (.inr (17, 0))] 122 s16
              refine al_17 hG dX8_codeNumber_59 R17 (by omega) (fun x26 ex26 lx26 ux26 => ?_)
              refine px_istore_n hG dX8_codeNumber_60 (Nat.le_of_ble_eq_true rfl) (L2 := [some (.inr (.inr (16, 0))), some (.inl i1), some (.inl x26), some (.inl v3_15)]) rfl ?_
              refine px_aload_n hG dX8_codeNumber_61 rfl ?_
              refine px_aload_n hG dX8_codeNumber_62 rfl ?_
              refine jv0 hG dX8_codeNumber_63 ct_X8_greatestWithOne lk_X8_41 ⟨rfl, rfl⟩ (by decide) ⟨Nat.le_of_ble_eq_true rfl, Nat.le_of_ble_eq_true rfl, Nat.le_of_ble_eq_true rfl⟩ (Nat.le_of_ble_eq_true rfl) ⟨rfl, rfl, R17⟩ (fun r27 t28 pr27 => ?_)
              obtain ⟨x29, rfl, rfl, br27⟩ := pr27 rfl
              show G 66 [some (.inr (.inr (16, 0))), some (.inl i1), some (.inl x26), some (.inl v3_15)] [.inl x29, .inr (.inr (16, 0))] 122 s16
              refine px_iload_n hG dX8_codeNumber_66 rfl ?_
              refine jv2 hG dX8_codeNumber_67 ct_X8_strike lk_X8_45 ⟨rfl, rfl⟩ (by decide) ⟨Nat.le_of_ble_eq_true rfl, Nat.le_of_ble_eq_true rfl, Nat.le_of_ble_eq_true rfl⟩ (Nat.le_of_ble_eq_true rfl) ⟨x29, x26, rfl, rfl, R17, by omega⟩ (fun r30 t32 pr30 => ?_)
              obtain ⟨rfl, Rt32, Ft32⟩ := pr30 _ _ rfl
              have Ff34 := pm_Fr_tr F18 Ft32 (M := [(23, none)]) rfl
              show G 70 [some (.inr (.inr (16, 0))), some (.inl i1), some (.inl x26), some (.inl v3_15)] [] 122 t32
              refine px_iinc hG dX8_codeNumber_70 (Nat.le_of_ble_eq_true rfl) rfl (L2 := [some (.inr (.inr (16, 0))), some (.inl i1), some (.inl x26), some (.inl (v3_15 + 1))]) rfl ?_
              refine px_goto hG dX8_codeNumber_73 (tgt := 46) (by decide) ?_
              exact ih19 x26 (v3_15 + 1) t32 Rt32 Ff34 (⟨by omega, by omega⟩) (by omega)
        exact L46 _ 0 0 s4 R5 F6 (⟨by omega, by omega⟩) (Nat.lt_succ_self _)
      refine px_ic_gt hG dX8_codeNumber_19 (tgt := 42) (by decide) ⟨by omega, by omega⟩ ⟨by omega, by omega⟩ (fun c11 => ?_) (fun c11 => ?_)
      · refine px_weak hG (L2 := [some (.inr (.inr (16, 0))), some (.inl i1), none, none]) ⟨Or.inr rfl, Or.inr rfl, Or.inl rfl, Or.inr rfl, trivial⟩ ?_
        exact J42_12  (by omega)
      · refine px_aload_n hG dX8_codeNumber_22 rfl ?_
        refine gr_16_7 hG dX8_codeNumber_23 fl_X8_34 R5 ?_
        refine px_iload_n hG dX8_codeNumber_26 rfl ?_
        refine px_aload_n hG dX8_codeNumber_27 rfl ?_
        refine gr_16_3 hG dX8_codeNumber_28 fl_X8_22 R5 ?_
        refine px_iload_n hG dX8_codeNumber_31 rfl ?_
        refine al_19 hG dX8_codeNumber_32 R5 (by omega) (fun x35 ex35 lx35 ux35 => ?_)
        refine px_iconst hG dX8_codeNumber_33 ?_
        refine px_iadd hG dX8_codeNumber_34 ?_
        refine as_23 hG dX8_codeNumber_35 R5 (by omega) (fun s36 qs36 Rs36 => ?_)
        have Fs36 := pm_Fr_up (F6) qs36 (M := [(23, none)]) rfl
        refine px_iinc hG dX8_codeNumber_36 (Nat.le_of_ble_eq_true rfl) rfl (L2 := [some (.inr (.inr (16, 0))), some (.inl i1), some (.inl (v2_3 + 1)), none]) rfl ?_
        refine px_goto hG dX8_codeNumber_39 (tgt := 14) (by decide) ?_
        exact ih7 (v2_3 + 1) s36 Rs36 Fs36 (by omega) (by omega)
  exact L14 _ 1 s2 Rs2 Fs2 (by omega) (Nat.lt_succ_self _))
def pre_X8_parentsOfCode (as : List pm_V) (n : Nat) (σ : pm_H) : Prop := ∃ n1 : Int, as = [.inr (.inr (16, 0)), .inr (.inr (39, 0)), .inl n1] ∧ n = 122 ∧ pm_Rng σ ∧ (1 ≤ n1 ∧ n1 ≤ 10)
def po_X8_parentsOfCode (as : List pm_V) (_ : Nat) (σ : pm_H) (r : Option pm_V) (τ : pm_H) : Prop := ∀ n1 : Int, as = [.inr (.inr (16, 0)), .inr (.inr (39, 0)), .inl n1] → r = none ∧ pm_Rng τ ∧ pm_Fr [(16, some 0), (17, none), (23, none)] σ τ ∧ (τ 16 0 0 = n1)
set_option maxRecDepth 20000 in
set_option maxHeartbeats 4000000 in
theorem ct_X8_parentsOfCode : pm_Ct yX8_parentsOfCode cX8_parentsOfCode 5 none 1 0 pre_X8_parentsOfCode po_X8_parentsOfCode := pm_sound (ini := false) (by decide +kernel) pk_X8_parentsOfCode (fun h => absurd h (by decide)) (by
  rintro as n s0 ⟨n1, rfl, rfl, R0, hpre⟩
  refine ⟨by decide, Nat.le_of_ble_eq_true rfl, fun G hG => ?_⟩
  have hG : pm_Rules (RX8, 1, 122, cX8_parentsOfCode, -1, (fun _ => 0), false, none, po_X8_parentsOfCode [.inr (.inr (16, 0)), .inr (.inr (39, 0)), .inl n1] 122 s0) G := hG
  show G 0 [some (.inr (.inr (16, 0))), some (.inr (.inr (39, 0))), some (.inl n1), none, none] [] 122 s0
  refine px_aload_n hG dX8_parentsOfCode_0 rfl ?_
  refine px_iload_n hG dX8_parentsOfCode_1 rfl ?_
  refine pi_16_0 hG dX8_parentsOfCode_2 fl_X8_9 R0 (by omega) (fun s1 qs1 Rs1 => ?_)
  have Fs1 := pm_Fr_up ((pm_Fr_rf : pm_Fr [(16, some 0), (17, none), (23, none)] s0 s0)) qs1 (M := [(16, some 0), (17, none), (23, none)]) rfl
  have k2 : s1 16 0 0 = n1 := pm_at qs1
  refine px_iconst hG dX8_parentsOfCode_5 ?_
  refine px_istore_n hG dX8_parentsOfCode_6 (Nat.le_of_ble_eq_true rfl) (L2 := [some (.inr (.inr (16, 0))), some (.inr (.inr (39, 0))), some (.inl n1), some (.inl 0), none]) rfl ?_
  have L7 : ∀ (N : Nat) (v3_3 : Int) (s4 : pm_H), pm_Rng s4 → pm_Fr [(16, some 0), (17, none), (23, none)] s0 s4 → s4 16 0 0 = n1 → ((0 ≤ v3_3 ∧ v3_3 ≤ 10000)) → (10001 - v3_3).toNat < N → G 7 [some (.inr (.inr (16, 0))), some (.inr (.inr (39, 0))), none, some (.inl v3_3), none] [] 122 s4 := by
    intro N
    induction N with
    | zero => intro v3_3 s4 R5 F6 k8 inv9 hm10; exact absurd hm10 (Nat.not_lt_zero _)
    | succ N ih7 =>
      intro v3_3 s4 R5 F6 k8 inv9 hm10
      refine px_iload_n hG dX8_parentsOfCode_7 rfl ?_
      refine px_aload_n hG dX8_parentsOfCode_8 rfl ?_
      refine gi_16_0 hG dX8_parentsOfCode_9 fl_X8_9 R5 (fun x11 ex11 lx11 ux11 => ?_)
      have J28_13 : ((v3_3 > x11)) → G 28 [some (.inr (.inr (16, 0))), some (.inr (.inr (39, 0))), none, none, none] [] 122 s4 := by
        intro inv14
        refine px_iconst hG dX8_parentsOfCode_28 ?_
        refine px_istore_n hG dX8_parentsOfCode_29 (Nat.le_of_ble_eq_true rfl) (L2 := [some (.inr (.inr (16, 0))), some (.inr (.inr (39, 0))), none, some (.inl 1), none]) rfl ?_
        have L30 : ∀ (N : Nat) (v3_15 : Int) (s16 : pm_H), pm_Rng s16 → pm_Fr [(16, some 0), (17, none), (23, none)] s0 s16 → s16 16 0 0 = n1 → ((1 ≤ v3_15 ∧ v3_15 ≤ 10000)) → (10001 - v3_15).toNat < N → G 30 [some (.inr (.inr (16, 0))), some (.inr (.inr (39, 0))), none, some (.inl v3_15), none] [] 122 s16 := by
          intro N
          induction N with
          | zero => intro v3_15 s16 R17 F18 k20 inv21 hm22; exact absurd hm22 (Nat.not_lt_zero _)
          | succ N ih19 =>
            intro v3_15 s16 R17 F18 k20 inv21 hm22
            refine px_iload_n hG dX8_parentsOfCode_30 rfl ?_
            refine px_aload_n hG dX8_parentsOfCode_31 rfl ?_
            refine gi_16_0 hG dX8_parentsOfCode_32 fl_X8_9 R17 (fun x23 ex23 lx23 ux23 => ?_)
            have J56_25 : ((v3_15 ≥ x23)) → G 56 [some (.inr (.inr (16, 0))), some (.inr (.inr (39, 0))), none, none, none] [] 122 s16 := by
              intro inv26
              refine px_iconst hG dX8_parentsOfCode_56 ?_
              refine px_istore_n hG dX8_parentsOfCode_57 (Nat.le_of_ble_eq_true rfl) (L2 := [some (.inr (.inr (16, 0))), some (.inr (.inr (39, 0))), none, some (.inl 1), none]) rfl ?_
              have L58 : ∀ (N : Nat) (v3_27 : Int) (s28 : pm_H), pm_Rng s28 → pm_Fr [(16, some 0), (17, none), (23, none)] s0 s28 → s28 16 0 0 = n1 → ((1 ≤ v3_27 ∧ v3_27 ≤ 10000)) → (10001 - v3_27).toNat < N → G 58 [some (.inr (.inr (16, 0))), some (.inr (.inr (39, 0))), none, some (.inl v3_27), none] [] 122 s28 := by
                intro N
                induction N with
                | zero => intro v3_27 s28 R29 F30 k32 inv33 hm34; exact absurd hm34 (Nat.not_lt_zero _)
                | succ N ih31 =>
                  intro v3_27 s28 R29 F30 k32 inv33 hm34
                  refine px_iload_n hG dX8_parentsOfCode_58 rfl ?_
                  refine px_aload_n hG dX8_parentsOfCode_59 rfl ?_
                  refine gi_16_0 hG dX8_parentsOfCode_60 fl_X8_9 R29 (fun x35 ex35 lx35 ux35 => ?_)
                  have J97_37 : ((v3_27 ≥ x35)) → G 97 [some (.inr (.inr (16, 0))), none, none, none, none] [] 122 s28 := by
                    intro inv38
                    refine px_aload_n hG dX8_parentsOfCode_97 rfl ?_
                    refine gr_16_1 hG dX8_parentsOfCode_98 fl_X8_15 R29 ?_
                    refine px_aload_n hG dX8_parentsOfCode_101 rfl ?_
                    refine jv0 hG dX8_parentsOfCode_102 ct_X8_greatestWithOne lk_X8_41 ⟨rfl, rfl⟩ (by decide) ⟨Nat.le_of_ble_eq_true rfl, Nat.le_of_ble_eq_true rfl, Nat.le_of_ble_eq_true rfl⟩ (Nat.le_of_ble_eq_true rfl) ⟨rfl, rfl, R29⟩ (fun r39 t40 pr39 => ?_)
                    obtain ⟨x41, rfl, rfl, br39⟩ := pr39 rfl
                    show G 105 [some (.inr (.inr (16, 0))), none, none, none, none] [.inl x41, .inr (.inr (17, 0))] 122 s28
                    refine px_iconst hG dX8_parentsOfCode_105 ?_
                    refine as_17 hG dX8_parentsOfCode_106 R29 (by omega) (by omega) (fun s42 qs42 Rs42 => ?_)
                    have Fs42 := pm_Fr_up (F30) qs42 (M := [(16, some 0), (17, none), (23, none)]) rfl
                    have k43 : s42 16 0 0 = n1 := (pm_nec qs42 (by decide)).trans k32
                    exact px_vret (st := []) hG dX8_parentsOfCode_107 rfl rfl (fun n1_1 ee => by cases ee; exact ⟨rfl, Rs42, Fs42, by omega⟩)
                  refine px_ic_ge hG dX8_parentsOfCode_63 (tgt := 97) (by decide) ⟨by omega, by omega⟩ ⟨by omega, by omega⟩ (fun c36 => ?_) (fun c36 => ?_)
                  · refine px_weak hG (L2 := [some (.inr (.inr (16, 0))), none, none, none, none]) ⟨Or.inr rfl, Or.inl rfl, Or.inr rfl, Or.inl rfl, Or.inr rfl, trivial⟩ ?_
                    exact J97_37  (by omega)
                  · refine px_aload_n hG dX8_parentsOfCode_66 rfl ?_
                    refine jv0 hG dX8_parentsOfCode_67 ct_X8_greatestWithOne lk_X8_41 ⟨rfl, rfl⟩ (by decide) ⟨Nat.le_of_ble_eq_true rfl, Nat.le_of_ble_eq_true rfl, Nat.le_of_ble_eq_true rfl⟩ (Nat.le_of_ble_eq_true rfl) ⟨rfl, rfl, R29⟩ (fun r44 t45 pr44 => ?_)
                    obtain ⟨x46, rfl, rfl, br44⟩ := pr44 rfl
                    show G 70 [some (.inr (.inr (16, 0))), some (.inr (.inr (39, 0))), none, some (.inl v3_27), none] [.inl x46] 122 s28
                    refine px_istore hG dX8_parentsOfCode_70 (Nat.le_of_ble_eq_true rfl) (L2 := [some (.inr (.inr (16, 0))), some (.inr (.inr (39, 0))), none, some (.inl v3_27), some (.inl x46)]) rfl ?_
                    refine px_aload_n hG dX8_parentsOfCode_72 rfl ?_
                    refine gr_16_1 hG dX8_parentsOfCode_73 fl_X8_15 R29 ?_
                    refine px_iload hG dX8_parentsOfCode_76 rfl ?_
                    refine px_aload_n hG dX8_parentsOfCode_78 rfl ?_
                    refine px_iload_n hG dX8_parentsOfCode_79 rfl ?_
                    refine al_39 hG dX8_parentsOfCode_80 R29 (by omega) (fun x47 ex47 lx47 ux47 => ?_)
                    refine as_17 hG dX8_parentsOfCode_81 R29 (by omega) (by omega) (fun s48 qs48 Rs48 => ?_)
                    have Fs48 := pm_Fr_up (F30) qs48 (M := [(16, some 0), (17, none), (23, none)]) rfl
                    have k49 : s48 16 0 0 = n1 := (pm_nec qs48 (by decide)).trans k32
                    refine px_aload_n hG dX8_parentsOfCode_82 rfl ?_
                    refine px_iload hG dX8_parentsOfCode_83 rfl ?_
                    refine px_aload_n hG dX8_parentsOfCode_85 rfl ?_
                    refine px_iload_n hG dX8_parentsOfCode_86 rfl ?_
                    refine al_39 hG dX8_parentsOfCode_87 Rs48 (by omega) (fun x50 ex50 lx50 ux50 => ?_)
                    refine jv2 hG dX8_parentsOfCode_88 ct_X8_strike lk_X8_45 ⟨rfl, rfl⟩ (by decide) ⟨Nat.le_of_ble_eq_true rfl, Nat.le_of_ble_eq_true rfl, Nat.le_of_ble_eq_true rfl⟩ (Nat.le_of_ble_eq_true rfl) ⟨x46, x50, rfl, rfl, Rs48, by omega⟩ (fun r51 t53 pr51 => ?_)
                    obtain ⟨rfl, Rt53, Ft53⟩ := pr51 _ _ rfl
                    have Ff55 := pm_Fr_tr Fs48 Ft53 (M := [(16, some 0), (17, none), (23, none)]) rfl
                    have k56 : t53 16 0 0 = n1 := (Ft53 16 0 0 rfl).trans k49
                    show G 91 [some (.inr (.inr (16, 0))), some (.inr (.inr (39, 0))), none, some (.inl v3_27), some (.inl x46)] [] 122 t53
                    refine px_iinc hG dX8_parentsOfCode_91 (Nat.le_of_ble_eq_true rfl) rfl (L2 := [some (.inr (.inr (16, 0))), some (.inr (.inr (39, 0))), none, some (.inl (v3_27 + 1)), some (.inl x46)]) rfl ?_
                    refine px_goto hG dX8_parentsOfCode_94 (tgt := 58) (by decide) ?_
                    refine px_weak hG (L2 := [some (.inr (.inr (16, 0))), some (.inr (.inr (39, 0))), none, some (.inl (v3_27 + 1)), none]) ⟨Or.inr rfl, Or.inr rfl, Or.inr rfl, Or.inr rfl, Or.inl rfl, trivial⟩ ?_
                    exact ih31 (v3_27 + 1) t53 Rt53 Ff55 k56 (by omega) (by omega)
              exact L58 _ 1 s16 R17 F18 k20 (by omega) (Nat.lt_succ_self _)
            refine px_ic_ge hG dX8_parentsOfCode_35 (tgt := 56) (by decide) ⟨by omega, by omega⟩ ⟨by omega, by omega⟩ (fun c24 => ?_) (fun c24 => ?_)
            · refine px_weak hG (L2 := [some (.inr (.inr (16, 0))), some (.inr (.inr (39, 0))), none, none, none]) ⟨Or.inr rfl, Or.inr rfl, Or.inr rfl, Or.inl rfl, Or.inr rfl, trivial⟩ ?_
              exact J56_25  (by omega)
            · refine px_aload_n hG dX8_parentsOfCode_38 rfl ?_
              refine gr_16_7 hG dX8_parentsOfCode_39 fl_X8_34 R17 ?_
              refine px_aload_n hG dX8_parentsOfCode_42 rfl ?_
              refine px_iload_n hG dX8_parentsOfCode_43 rfl ?_
              refine al_39 hG dX8_parentsOfCode_44 R17 (by omega) (fun x57 ex57 lx57 ux57 => ?_)
              refine px_dup2 hG dX8_parentsOfCode_45 ?_
              refine al_23 hG dX8_parentsOfCode_46 R17 (by omega) (fun x58 ex58 lx58 ux58 => ?_)
              refine px_iconst hG dX8_parentsOfCode_47 ?_
              refine px_iadd hG dX8_parentsOfCode_48 ?_
              refine as_23 hG dX8_parentsOfCode_49 R17 (by omega) (fun s59 qs59 Rs59 => ?_)
              have Fs59 := pm_Fr_up (F18) qs59 (M := [(16, some 0), (17, none), (23, none)]) rfl
              have k60 : s59 16 0 0 = n1 := (pm_nec qs59 (by decide)).trans k20
              refine px_iinc hG dX8_parentsOfCode_50 (Nat.le_of_ble_eq_true rfl) rfl (L2 := [some (.inr (.inr (16, 0))), some (.inr (.inr (39, 0))), none, some (.inl (v3_15 + 1)), none]) rfl ?_
              refine px_goto hG dX8_parentsOfCode_53 (tgt := 30) (by decide) ?_
              exact ih19 (v3_15 + 1) s59 Rs59 Fs59 k60 (by omega) (by omega)
        exact L30 _ 1 s4 R5 F6 k8 (by omega) (Nat.lt_succ_self _)
      refine px_ic_gt hG dX8_parentsOfCode_12 (tgt := 28) (by decide) ⟨by omega, by omega⟩ ⟨by omega, by omega⟩ (fun c12 => ?_) (fun c12 => ?_)
      · refine px_weak hG (L2 := [some (.inr (.inr (16, 0))), some (.inr (.inr (39, 0))), none, none, none]) ⟨Or.inr rfl, Or.inr rfl, Or.inr rfl, Or.inl rfl, Or.inr rfl, trivial⟩ ?_
        exact J28_13  (by omega)
      · refine px_aload_n hG dX8_parentsOfCode_15 rfl ?_
        refine gr_16_7 hG dX8_parentsOfCode_16 fl_X8_34 R5 ?_
        refine px_iload_n hG dX8_parentsOfCode_19 rfl ?_
        refine px_iconst hG dX8_parentsOfCode_20 ?_
        refine as_23 hG dX8_parentsOfCode_21 R5 (by omega) (fun s61 qs61 Rs61 => ?_)
        have Fs61 := pm_Fr_up (F6) qs61 (M := [(16, some 0), (17, none), (23, none)]) rfl
        have k62 : s61 16 0 0 = n1 := (pm_nec qs61 (by decide)).trans k8
        refine px_iinc hG dX8_parentsOfCode_22 (Nat.le_of_ble_eq_true rfl) rfl (L2 := [some (.inr (.inr (16, 0))), some (.inr (.inr (39, 0))), none, some (.inl (v3_3 + 1)), none]) rfl ?_
        refine px_goto hG dX8_parentsOfCode_25 (tgt := 7) (by decide) ?_
        exact ih7 (v3_3 + 1) s61 Rs61 Fs61 k62 (by omega) (by omega)
  refine px_weak hG (L2 := [some (.inr (.inr (16, 0))), some (.inr (.inr (39, 0))), none, some (.inl 0), none]) ⟨Or.inr rfl, Or.inr rfl, Or.inl rfl, Or.inr rfl, Or.inr rfl, trivial⟩ ?_
  exact L7 _ 0 s1 Rs1 Fs1 k2 (by omega) (Nat.lt_succ_self _))
def pre_X8_takeParents (as : List pm_V) (n : Nat) (σ : pm_H) : Prop := ∃ n1 : Int, as = [.inr (.inr (16, 0)), .inr (.inr (39, 0)), .inl n1] ∧ n = 122 ∧ pm_Rng σ ∧ (1 ≤ n1 ∧ n1 ≤ 10)
def po_X8_takeParents (as : List pm_V) (_ : Nat) (σ : pm_H) (r : Option pm_V) (τ : pm_H) : Prop := ∀ n1 : Int, as = [.inr (.inr (16, 0)), .inr (.inr (39, 0)), .inl n1] → r = none ∧ pm_Rng τ ∧ pm_Fr [(16, some 0), (17, none)] σ τ ∧ (τ 16 0 0 = n1)
set_option maxRecDepth 20000 in
set_option maxHeartbeats 4000000 in
theorem ct_X8_takeParents : pm_Ct yX8_takeParents cX8_takeParents 4 none 0 0 pre_X8_takeParents po_X8_takeParents := pm_sound (ini := false) (by decide +kernel) pk_X8_takeParents (fun h => absurd h (by decide)) (by
  rintro as n s0 ⟨n1, rfl, rfl, R0, hpre⟩
  refine ⟨by decide, Nat.le_of_ble_eq_true rfl, fun G hG => ?_⟩
  have hG : pm_Rules (RX8, 0, 122, cX8_takeParents, -1, (fun _ => 0), false, none, po_X8_takeParents [.inr (.inr (16, 0)), .inr (.inr (39, 0)), .inl n1] 122 s0) G := hG
  show G 0 [some (.inr (.inr (16, 0))), some (.inr (.inr (39, 0))), some (.inl n1), none] [] 122 s0
  refine px_aload_n hG dX8_takeParents_0 rfl ?_
  refine px_iload_n hG dX8_takeParents_1 rfl ?_
  refine pi_16_0 hG dX8_takeParents_2 fl_X8_9 R0 (by omega) (fun s1 qs1 Rs1 => ?_)
  have Fs1 := pm_Fr_up ((pm_Fr_rf : pm_Fr [(16, some 0), (17, none)] s0 s0)) qs1 (M := [(16, some 0), (17, none)]) rfl
  have k2 : s1 16 0 0 = n1 := pm_at qs1
  refine px_iconst hG dX8_takeParents_5 ?_
  refine px_istore_n hG dX8_takeParents_6 (Nat.le_of_ble_eq_true rfl) (L2 := [some (.inr (.inr (16, 0))), some (.inr (.inr (39, 0))), some (.inl n1), some (.inl 1)]) rfl ?_
  have L7 : ∀ (N : Nat) (v3_3 : Int) (s4 : pm_H), pm_Rng s4 → pm_Fr [(16, some 0), (17, none)] s0 s4 → s4 16 0 0 = n1 → ((1 ≤ v3_3 ∧ v3_3 ≤ 10000)) → (10001 - v3_3).toNat < N → G 7 [some (.inr (.inr (16, 0))), some (.inr (.inr (39, 0))), none, some (.inl v3_3)] [] 122 s4 := by
    intro N
    induction N with
    | zero => intro v3_3 s4 R5 F6 k8 inv9 hm10; exact absurd hm10 (Nat.not_lt_zero _)
    | succ N ih7 =>
      intro v3_3 s4 R5 F6 k8 inv9 hm10
      refine px_iload_n hG dX8_takeParents_7 rfl ?_
      refine px_aload_n hG dX8_takeParents_8 rfl ?_
      refine gi_16_0 hG dX8_takeParents_9 fl_X8_9 R5 (fun x11 ex11 lx11 ux11 => ?_)
      refine px_ic_gt hG dX8_takeParents_12 (tgt := 30) (by decide) ⟨by omega, by omega⟩ ⟨by omega, by omega⟩ (fun c12 => ?_) (fun c12 => ?_)
      · exact px_vret (st := []) hG dX8_takeParents_30 rfl rfl (fun n1_1 ee => by cases ee; exact ⟨rfl, R5, F6, by omega⟩)
      · refine px_aload_n hG dX8_takeParents_15 rfl ?_
        refine gr_16_1 hG dX8_takeParents_16 fl_X8_15 R5 ?_
        refine px_iload_n hG dX8_takeParents_19 rfl ?_
        refine px_aload_n hG dX8_takeParents_20 rfl ?_
        refine px_iload_n hG dX8_takeParents_21 rfl ?_
        refine al_39 hG dX8_takeParents_22 R5 (by omega) (fun x13 ex13 lx13 ux13 => ?_)
        refine as_17 hG dX8_takeParents_23 R5 (by omega) (by omega) (fun s14 qs14 Rs14 => ?_)
        have Fs14 := pm_Fr_up (F6) qs14 (M := [(16, some 0), (17, none)]) rfl
        have k15 : s14 16 0 0 = n1 := (pm_nec qs14 (by decide)).trans k8
        refine px_iinc hG dX8_takeParents_24 (Nat.le_of_ble_eq_true rfl) rfl (L2 := [some (.inr (.inr (16, 0))), some (.inr (.inr (39, 0))), none, some (.inl (v3_3 + 1))]) rfl ?_
        refine px_goto hG dX8_takeParents_27 (tgt := 7) (by decide) ?_
        exact ih7 (v3_3 + 1) s14 Rs14 Fs14 k15 (by omega) (by omega)
  refine px_weak hG (L2 := [some (.inr (.inr (16, 0))), some (.inr (.inr (39, 0))), none, some (.inl 1)]) ⟨Or.inr rfl, Or.inr rfl, Or.inl rfl, Or.inr rfl, trivial⟩ ?_
  exact L7 _ 1 s1 Rs1 Fs1 k2 (by omega) (Nat.lt_succ_self _))
def pre_X8_wishesOfParents (as : List pm_V) (n : Nat) (σ : pm_H) : Prop := as = [.inr (.inr (16, 0)), .inr (.inr (39, 0))] ∧ n = 122 ∧ pm_Rng σ
def po_X8_wishesOfParents (as : List pm_V) (_ : Nat) (σ : pm_H) (r : Option pm_V) (τ : pm_H) : Prop := as = [.inr (.inr (16, 0)), .inr (.inr (39, 0))] → ∃ v : Int, r = some (.inl v) ∧ pm_Rng τ ∧ pm_Fr [(22, none), (39, none)] σ τ ∧ ((v = 0 ∨ v = 1))
set_option maxRecDepth 20000 in
set_option maxHeartbeats 4000000 in
theorem ct_X8_wishesOfParents : pm_Ct yX8_wishesOfParents cX8_wishesOfParents 5 (some .boolean) 0 0 pre_X8_wishesOfParents po_X8_wishesOfParents := pm_sound (ini := false) (by decide +kernel) pk_X8_wishesOfParents (fun h => absurd h (by decide)) (by
  rintro as n s0 ⟨rfl, rfl, R0⟩
  refine ⟨by decide, Nat.le_of_ble_eq_true rfl, fun G hG => ?_⟩
  have hG : pm_Rules (RX8, 0, 122, cX8_wishesOfParents, -1, (fun _ => 0), false, (some .boolean), po_X8_wishesOfParents [.inr (.inr (16, 0)), .inr (.inr (39, 0))] 122 s0) G := hG
  show G 0 [some (.inr (.inr (16, 0))), some (.inr (.inr (39, 0))), none, none, none] [] 122 s0
  have B := pb_16_0 R0
  refine px_aload_n hG dX8_wishesOfParents_0 rfl ?_
  refine gr_16_6 hG dX8_wishesOfParents_1 fl_X8_31 R0 ?_
  refine px_iconst hG dX8_wishesOfParents_4 ?_
  refine px_iconst hG dX8_wishesOfParents_5 ?_
  refine as_22 hG dX8_wishesOfParents_6 R0 (by omega) (by omega) (fun s1 qs1 Rs1 => ?_)
  have Fs1 := pm_Fr_up ((pm_Fr_rf : pm_Fr [(22, none), (39, none)] s0 s0)) qs1 (M := [(22, none), (39, none)]) rfl
  refine px_iconst hG dX8_wishesOfParents_7 ?_
  refine px_istore_n hG dX8_wishesOfParents_8 (Nat.le_of_ble_eq_true rfl) (L2 := [some (.inr (.inr (16, 0))), some (.inr (.inr (39, 0))), some (.inl 1), none, none]) rfl ?_
  refine px_iconst hG dX8_wishesOfParents_9 ?_
  refine px_istore_n hG dX8_wishesOfParents_10 (Nat.le_of_ble_eq_true rfl) (L2 := [some (.inr (.inr (16, 0))), some (.inr (.inr (39, 0))), some (.inl 1), some (.inl 1), none]) rfl ?_
  have L11 : ∀ (N : Nat) (v2_2 : Int) (v3_3 : Int) (s4 : pm_H), pm_Rng s4 → pm_Fr [(22, none), (39, none)] s0 s4 → ((1 ≤ v2_2 ∧ v2_2 ≤ 10000) ∧ (1 ≤ v3_3 ∧ v3_3 ≤ 10000) ∧ (v2_2 ≤ s0 16 0 0 + 1)) → (10001 - v3_3).toNat < N → G 11 [some (.inr (.inr (16, 0))), some (.inr (.inr (39, 0))), some (.inl v2_2), some (.inl v3_3), none] [] 122 s4 := by
    intro N
    induction N with
    | zero => intro v2_2 v3_3 s4 R5 F6 inv8 hm9; exact absurd hm9 (Nat.not_lt_zero _)
    | succ N ih7 =>
      intro v2_2 v3_3 s4 R5 F6 inv8 hm9
      refine px_iload_n hG dX8_wishesOfParents_11 rfl ?_
      refine px_aload_n hG dX8_wishesOfParents_12 rfl ?_
      refine gi_16_0 hG dX8_wishesOfParents_13 fl_X8_9 R5 (fun x10 ex10 lx10 ux10 => ?_)
      have ex10 : s0 16 0 0 = x10 := (F6 16 0 0 rfl).symm.trans ex10
      have J88_12 : ((v3_3 > x10) ∨ (¬ (v3_3 > x10) ∧ v3_3 > v2_2)) → G 88 [some (.inr (.inr (16, 0))), none, some (.inl v2_2), none, none] [] 122 s4 := by
        intro inv13
        refine px_iload_n hG dX8_wishesOfParents_88 rfl ?_
        refine px_aload_n hG dX8_wishesOfParents_89 rfl ?_
        refine gi_16_0 hG dX8_wishesOfParents_90 fl_X8_9 R5 (fun x14 ex14 lx14 ux14 => ?_)
        have ex14 : s0 16 0 0 = x14 := (F6 16 0 0 rfl).symm.trans ex14
        refine px_iconst hG dX8_wishesOfParents_93 ?_
        refine px_iadd hG dX8_wishesOfParents_94 ?_
        refine px_ic_ne hG dX8_wishesOfParents_95 (tgt := 102) (by decide) ⟨by omega, by omega⟩ ⟨by omega, by omega⟩ (fun c15 => ?_) (fun c15 => ?_)
        · refine px_iconst hG dX8_wishesOfParents_102 ?_
          exact px_zret (st := []) hG dX8_wishesOfParents_103 rfl (by omega) rfl (fun _ => by exact ⟨_, rfl, R5, F6, by omega⟩)
        · refine px_iconst hG dX8_wishesOfParents_98 ?_
          refine px_goto hG dX8_wishesOfParents_99 (tgt := 103) (by decide) ?_
          exact px_zret (st := []) hG dX8_wishesOfParents_103 rfl (by omega) rfl (fun _ => by exact ⟨_, rfl, R5, F6, by omega⟩)
      refine px_ic_gt hG dX8_wishesOfParents_16 (tgt := 88) (by decide) ⟨by omega, by omega⟩ ⟨by omega, by omega⟩ (fun c11 => ?_) (fun c11 => ?_)
      · refine px_weak hG (L2 := [some (.inr (.inr (16, 0))), none, some (.inl v2_2), none, none]) ⟨Or.inr rfl, Or.inl rfl, Or.inr rfl, Or.inl rfl, Or.inr rfl, trivial⟩ ?_
        exact J88_12  (by omega)
      · refine px_iload_n hG dX8_wishesOfParents_19 rfl ?_
        refine px_iload_n hG dX8_wishesOfParents_20 rfl ?_
        refine px_ic_gt hG dX8_wishesOfParents_21 (tgt := 88) (by decide) ⟨by omega, by omega⟩ ⟨by omega, by omega⟩ (fun c16 => ?_) (fun c16 => ?_)
        · refine px_weak hG (L2 := [some (.inr (.inr (16, 0))), none, some (.inl v2_2), none, none]) ⟨Or.inr rfl, Or.inl rfl, Or.inr rfl, Or.inl rfl, Or.inr rfl, trivial⟩ ?_
          exact J88_12  (by omega)
        · refine px_iconst hG dX8_wishesOfParents_24 ?_
          refine px_istore hG dX8_wishesOfParents_25 (Nat.le_of_ble_eq_true rfl) (L2 := [some (.inr (.inr (16, 0))), some (.inr (.inr (39, 0))), some (.inl v2_2), some (.inl v3_3), some (.inl 1)]) rfl ?_
          have L27 : ∀ (N : Nat) (v2_17 : Int) (v4_18 : Int) (s19 : pm_H), pm_Rng s19 → pm_Fr [(22, none), (39, none)] s0 s19 → ((v2_2 ≤ v2_17 ∧ v2_17 ≤ 10000) ∧ (1 ≤ v4_18 ∧ v4_18 ≤ 10000) ∧ (v2_17 ≤ s0 16 0 0 + 1)) → (10001 - v4_18).toNat < N → G 27 [some (.inr (.inr (16, 0))), some (.inr (.inr (39, 0))), some (.inl v2_17), some (.inl v3_3), some (.inl v4_18)] [] 122 s19 := by
            intro N
            induction N with
            | zero => intro v2_17 v4_18 s19 R20 F21 inv23 hm24; exact absurd hm24 (Nat.not_lt_zero _)
            | succ N ih22 =>
              intro v2_17 v4_18 s19 R20 F21 inv23 hm24
              refine px_iload hG dX8_wishesOfParents_27 rfl ?_
              refine px_aload_n hG dX8_wishesOfParents_29 rfl ?_
              refine gi_16_0 hG dX8_wishesOfParents_30 fl_X8_9 R20 (fun x25 ex25 lx25 ux25 => ?_)
              have ex25 : s0 16 0 0 = x25 := (F21 16 0 0 rfl).symm.trans ex25
              refine px_ic_gt hG dX8_wishesOfParents_33 (tgt := 82) (by decide) ⟨by omega, by omega⟩ ⟨by omega, by omega⟩ (fun c26 => ?_) (fun c26 => ?_)
              · refine px_iinc hG dX8_wishesOfParents_82 (Nat.le_of_ble_eq_true rfl) rfl (L2 := [some (.inr (.inr (16, 0))), some (.inr (.inr (39, 0))), some (.inl v2_17), some (.inl (v3_3 + 1)), some (.inl v4_18)]) rfl ?_
                refine px_goto hG dX8_wishesOfParents_85 (tgt := 11) (by decide) ?_
                refine px_weak hG (L2 := [some (.inr (.inr (16, 0))), some (.inr (.inr (39, 0))), some (.inl v2_17), some (.inl (v3_3 + 1)), none]) ⟨Or.inr rfl, Or.inr rfl, Or.inr rfl, Or.inr rfl, Or.inl rfl, trivial⟩ ?_
                exact ih7 v2_17 (v3_3 + 1) s19 R20 F21 (⟨by omega, by omega, by omega⟩) (by omega)
              · refine px_aload_n hG dX8_wishesOfParents_36 rfl ?_
                refine gr_16_1 hG dX8_wishesOfParents_37 fl_X8_15 R20 ?_
                refine px_iload hG dX8_wishesOfParents_40 rfl ?_
                refine al_17 hG dX8_wishesOfParents_42 R20 (by omega) (fun x27 ex27 lx27 ux27 => ?_)
                refine px_aload_n hG dX8_wishesOfParents_43 rfl ?_
                refine gr_16_6 hG dX8_wishesOfParents_44 fl_X8_31 R20 ?_
                refine px_iload_n hG dX8_wishesOfParents_47 rfl ?_
                refine al_22 hG dX8_wishesOfParents_48 R20 (by omega) (fun x28 ex28 lx28 ux28 => ?_)
                refine px_ic_ne hG dX8_wishesOfParents_49 (tgt := 76) (by decide) ⟨by omega, by omega⟩ ⟨by omega, by omega⟩ (fun c29 => ?_) (fun c29 => ?_)
                · refine px_iinc hG dX8_wishesOfParents_76 (Nat.le_of_ble_eq_true rfl) rfl (L2 := [some (.inr (.inr (16, 0))), some (.inr (.inr (39, 0))), some (.inl v2_17), some (.inl v3_3), some (.inl (v4_18 + 1))]) rfl ?_
                  refine px_goto hG dX8_wishesOfParents_79 (tgt := 27) (by decide) ?_
                  exact ih22 v2_17 (v4_18 + 1) s19 R20 F21 (⟨by omega, by omega, by omega⟩) (by omega)
                · refine px_iload_n hG dX8_wishesOfParents_52 rfl ?_
                  refine px_aload_n hG dX8_wishesOfParents_53 rfl ?_
                  refine gi_16_0 hG dX8_wishesOfParents_54 fl_X8_9 R20 (fun x30 ex30 lx30 ux30 => ?_)
                  have ex30 : s0 16 0 0 = x30 := (F21 16 0 0 rfl).symm.trans ex30
                  refine px_ic_gt hG dX8_wishesOfParents_57 (tgt := 76) (by decide) ⟨by omega, by omega⟩ ⟨by omega, by omega⟩ (fun c31 => ?_) (fun c31 => ?_)
                  · refine px_iinc hG dX8_wishesOfParents_76 (Nat.le_of_ble_eq_true rfl) rfl (L2 := [some (.inr (.inr (16, 0))), some (.inr (.inr (39, 0))), some (.inl v2_17), some (.inl v3_3), some (.inl (v4_18 + 1))]) rfl ?_
                    refine px_goto hG dX8_wishesOfParents_79 (tgt := 27) (by decide) ?_
                    exact ih22 v2_17 (v4_18 + 1) s19 R20 F21 (⟨by omega, by omega, by omega⟩) (by omega)
                  · refine px_aload_n hG dX8_wishesOfParents_60 rfl ?_
                    refine px_iload hG dX8_wishesOfParents_61 rfl ?_
                    refine px_iload_n hG dX8_wishesOfParents_63 rfl ?_
                    refine as_39 hG dX8_wishesOfParents_64 R20 (by omega) (by omega) (fun s32 qs32 Rs32 => ?_)
                    have Fs32 := pm_Fr_up (F21) qs32 (M := [(22, none), (39, none)]) rfl
                    refine px_iinc hG dX8_wishesOfParents_65 (Nat.le_of_ble_eq_true rfl) rfl (L2 := [some (.inr (.inr (16, 0))), some (.inr (.inr (39, 0))), some (.inl (v2_17 + 1)), some (.inl v3_3), some (.inl v4_18)]) rfl ?_
                    refine px_aload_n hG dX8_wishesOfParents_68 rfl ?_
                    refine gr_16_6 hG dX8_wishesOfParents_69 fl_X8_31 Rs32 ?_
                    refine px_iload_n hG dX8_wishesOfParents_72 rfl ?_
                    refine px_iload hG dX8_wishesOfParents_73 rfl ?_
                    refine as_22 hG dX8_wishesOfParents_75 Rs32 (by omega) (by omega) (fun s33 qs33 Rs33 => ?_)
                    have Fs33 := pm_Fr_up (Fs32) qs33 (M := [(22, none), (39, none)]) rfl
                    refine px_iinc hG dX8_wishesOfParents_76 (Nat.le_of_ble_eq_true rfl) rfl (L2 := [some (.inr (.inr (16, 0))), some (.inr (.inr (39, 0))), some (.inl (v2_17 + 1)), some (.inl v3_3), some (.inl (v4_18 + 1))]) rfl ?_
                    refine px_goto hG dX8_wishesOfParents_79 (tgt := 27) (by decide) ?_
                    exact ih22 (v2_17 + 1) (v4_18 + 1) s33 Rs33 Fs33 (⟨by omega, by omega, by omega⟩) (by omega)
          exact L27 _ v2_2 1 s4 R5 F6 (⟨by omega, by omega, by omega⟩) (Nat.lt_succ_self _)
  exact L11 _ 1 1 s1 Rs1 Fs1 (⟨by omega, by omega, by omega⟩) (Nat.lt_succ_self _))
def pre_X9_build (as : List pm_V) (n : Nat) (σ : pm_H) : Prop := ∃ n1 : Int, as = [.inr (.inr (24, 0)), .inr (.inr (4, 0)), .inl n1] ∧ n = 122 ∧ pm_Rng σ ∧ (1 ≤ n1 ∧ n1 ≤ 10)
def po_X9_build (as : List pm_V) (_ : Nat) (σ : pm_H) (r : Option pm_V) (τ : pm_H) : Prop := ∀ n1 : Int, as = [.inr (.inr (24, 0)), .inr (.inr (4, 0)), .inl n1] → r = none ∧ pm_Rng τ ∧ pm_Fr [(24, some 0), (25, none), (26, none)] σ τ ∧ (τ 24 0 0 = n1 ∧ (pm_gd (σ 4 0) n1.toNat → ∀ q : Int, 1 ≤ q → q ≤ n1 → 0 ≤ τ 26 0 q ∧ τ 26 0 q ≤ q - 1))
set_option maxRecDepth 20000 in
set_option maxHeartbeats 4000000 in
theorem ct_X9_build : pm_Ct yX9_build cX9_build 6 none 0 0 pre_X9_build po_X9_build := pm_sound (ini := false) (by decide +kernel) pk_X9_build (fun h => absurd h (by decide)) (by
  rintro as n s0 ⟨n1, rfl, rfl, R0, hpre⟩
  refine ⟨by decide, Nat.le_of_ble_eq_true rfl, fun G hG => ?_⟩
  have hG : pm_Rules (RX9, 0, 122, cX9_build, -1, (fun _ => 0), false, none, po_X9_build [.inr (.inr (24, 0)), .inr (.inr (4, 0)), .inl n1] 122 s0) G := hG
  show G 0 [some (.inr (.inr (24, 0))), some (.inr (.inr (4, 0))), some (.inl n1), none, none, none] [] 122 s0
  refine px_aload_n hG dX9_build_0 rfl ?_
  refine px_iload_n hG dX9_build_1 rfl ?_
  refine pi_24_0 hG dX9_build_2 fl_X9_9 R0 (by omega) (fun s1 qs1 Rs1 => ?_)
  have Fs1 := pm_Fr_up ((pm_Fr_rf : pm_Fr [(24, some 0), (25, none), (26, none)] s0 s0)) qs1 (M := [(24, some 0), (25, none), (26, none)]) rfl
  have k2 : s1 24 0 0 = n1 := pm_at qs1
  refine px_iconst hG dX9_build_5 ?_
  refine px_istore_n hG dX9_build_6 (Nat.le_of_ble_eq_true rfl) (L2 := [some (.inr (.inr (24, 0))), some (.inr (.inr (4, 0))), some (.inl n1), some (.inl 0), none, none]) rfl ?_
  refine px_iconst hG dX9_build_7 ?_
  refine px_istore hG dX9_build_8 (Nat.le_of_ble_eq_true rfl) (L2 := [some (.inr (.inr (24, 0))), some (.inr (.inr (4, 0))), some (.inl n1), some (.inl 0), some (.inl 1), none]) rfl ?_
  have L10 : ∀ (N : Nat) (v3_3 : Int) (v4_4 : Int) (s5 : pm_H), pm_Rng s5 → pm_Fr [(24, some 0), (25, none), (26, none)] s0 s5 → s5 24 0 0 = n1 → ((0 ≤ v3_3 ∧ v3_3 ≤ 10000) ∧ (1 ≤ v4_4 ∧ v4_4 ≤ 10000) ∧ (v3_3 = pm_sc (s0 4 0) v4_4 1 n1.toNat ∧ 1 ≤ v4_4 ∧ v4_4 ≤ n1 + 1 ∧ (pm_gd (s0 4 0) n1.toNat → ∀ q : Int, 1 ≤ q → q ≤ v3_3 → 0 ≤ s5 26 0 q ∧ s5 26 0 q ≤ q - 1))) → (10001 - v4_4).toNat < N → G 10 [some (.inr (.inr (24, 0))), some (.inr (.inr (4, 0))), none, some (.inl v3_3), some (.inl v4_4), none] [] 122 s5 := by
    intro N
    induction N with
    | zero => intro v3_3 v4_4 s5 R6 F7 k9 inv10 hm11; exact absurd hm11 (Nat.not_lt_zero _)
    | succ N ih8 =>
      intro v3_3 v4_4 s5 R6 F7 k9 inv10 hm11
      have W := inv10.2.2
      refine px_iload hG dX9_build_10 rfl ?_
      refine px_aload_n hG dX9_build_12 rfl ?_
      refine gi_24_0 hG dX9_build_13 fl_X9_9 R6 (fun x12 ex12 lx12 ux12 => ?_)
      refine px_ic_gt hG dX9_build_16 (tgt := 73) (by decide) ⟨by omega, by omega⟩ ⟨by omega, by omega⟩ (fun c13 => ?_) (fun c13 => ?_)
      · have A := fun hg => pm_sc_gdall (f := s0 4 0) (v := v4_4) (k := n1.toNat) hg (by omega)
        exact px_vret (st := []) hG dX9_build_73 rfl rfl (fun n1_1 ee => by cases ee; exact ⟨rfl, R6, F7, ⟨by omega, fun hg q h0 h1 => W.2.2.2 hg q h0 (by have := A hg; omega)⟩⟩)
      · refine px_iconst hG dX9_build_19 ?_
        refine px_istore hG dX9_build_20 (Nat.le_of_ble_eq_true rfl) (L2 := [some (.inr (.inr (24, 0))), some (.inr (.inr (4, 0))), none, some (.inl v3_3), some (.inl v4_4), some (.inl 1)]) rfl ?_
        have L22 : ∀ (N : Nat) (v3_14 : Int) (v5_15 : Int) (s16 : pm_H), pm_Rng s16 → pm_Fr [(24, some 0), (25, none), (26, none)] s0 s16 → s16 24 0 0 = n1 → ((v3_3 ≤ v3_14 ∧ v3_14 ≤ 10000) ∧ (1 ≤ v5_15 ∧ v5_15 ≤ 10000) ∧ (v3_14 = pm_sc (s0 4 0) v4_4 v5_15 n1.toNat ∧ v5_15 ≤ n1 + 1 ∧ (pm_gd (s0 4 0) n1.toNat → ∀ q : Int, 1 ≤ q → q ≤ v3_14 → 0 ≤ s16 26 0 q ∧ s16 26 0 q ≤ q - 1))) → (10001 - v5_15).toNat < N → G 22 [some (.inr (.inr (24, 0))), some (.inr (.inr (4, 0))), none, some (.inl v3_14), some (.inl v4_4), some (.inl v5_15)] [] 122 s16 := by
          intro N
          induction N with
          | zero => intro v3_14 v5_15 s16 R17 F18 k20 inv21 hm22; exact absurd hm22 (Nat.not_lt_zero _)
          | succ N ih19 =>
            intro v3_14 v5_15 s16 R17 F18 k20 inv21 hm22
            have U := inv21.2.2
            have U1 := U.1
            have UB := pm_sc_le (s0 4 0) v4_4 v5_15 n1.toNat
            have UN := pm_sc_nn (s0 4 0) v4_4 v5_15 n1.toNat
            refine px_iload hG dX9_build_22 rfl ?_
            refine px_aload_n hG dX9_build_24 rfl ?_
            refine gi_24_0 hG dX9_build_25 fl_X9_9 R17 (fun x23 ex23 lx23 ux23 => ?_)
            refine px_ic_gt hG dX9_build_28 (tgt := 67) (by decide) ⟨by omega, by omega⟩ ⟨by omega, by omega⟩ (fun c24 => ?_) (fun c24 => ?_)
            · have NX := pm_sc_nx (f := s0 4 0) (v := v4_4) (c := v5_15) (k := n1.toNat) (by omega)
              refine px_iinc hG dX9_build_67 (Nat.le_of_ble_eq_true rfl) rfl (L2 := [some (.inr (.inr (24, 0))), some (.inr (.inr (4, 0))), none, some (.inl v3_14), some (.inl (v4_4 + 1)), some (.inl v5_15)]) rfl ?_
              refine px_goto hG dX9_build_70 (tgt := 10) (by decide) ?_
              refine px_weak hG (L2 := [some (.inr (.inr (24, 0))), some (.inr (.inr (4, 0))), none, some (.inl v3_14), some (.inl (v4_4 + 1)), none]) ⟨Or.inr rfl, Or.inr rfl, Or.inr rfl, Or.inr rfl, Or.inr rfl, Or.inl rfl, trivial⟩ ?_
              exact ih8 v3_14 (v4_4 + 1) s16 R17 F18 k20 (⟨by omega, by omega, ⟨by omega, by omega, by omega, U.2.2⟩⟩) (by omega)
            · refine px_aload_n hG dX9_build_31 rfl ?_
              refine px_iload hG dX9_build_32 rfl ?_
              refine al_4 hG dX9_build_34 R17 (by omega) (fun x25 ex25 lx25 ux25 => ?_)
              have X1 := (F18 4 0 v5_15 rfl).symm.trans ex25
              refine px_iload hG dX9_build_35 rfl ?_
              refine px_ic_ne hG dX9_build_37 (tgt := 61) (by decide) ⟨by omega, by omega⟩ ⟨by omega, by omega⟩ (fun c26 => ?_) (fun c26 => ?_)
              · refine px_iinc hG dX9_build_61 (Nat.le_of_ble_eq_true rfl) rfl (L2 := [some (.inr (.inr (24, 0))), some (.inr (.inr (4, 0))), none, some (.inl v3_14), some (.inl v4_4), some (.inl (v5_15 + 1))]) rfl ?_
                refine px_goto hG dX9_build_64 (tgt := 22) (by decide) ?_
                exact ih19 v3_14 (v5_15 + 1) s16 R17 F18 k20 (⟨by omega, by omega, by first | exact ⟨by omega, by omega, fun hg => pm_hst E1 E2 (U.2.2 hg) (by have := VG hg; omega) (by omega)⟩ | exact ⟨by rw [pm_sc_st (by omega)]; omega, by omega, U.2.2⟩⟩) (by omega)
              · have V := pm_sc_up (f := s0 4 0) (v := v4_4) (c := v5_15) (k := n1.toNat) (by omega) (by omega) (by omega) (by omega)
                have VB := pm_sc_le (s0 4 0) v4_4 (v5_15 + 1) n1.toNat
                have VG := fun hg => pm_sc_gd (f := s0 4 0) (v := v4_4) (c := v5_15) (k := n1.toNat) hg (by omega) (by omega) (by omega)
                refine px_iinc hG dX9_build_40 (Nat.le_of_ble_eq_true rfl) rfl (L2 := [some (.inr (.inr (24, 0))), some (.inr (.inr (4, 0))), none, some (.inl (v3_14 + 1)), some (.inl v4_4), some (.inl v5_15)]) rfl ?_
                refine px_aload_n hG dX9_build_43 rfl ?_
                refine gr_24_1 hG dX9_build_44 fl_X9_15 R17 ?_
                refine px_iload_n hG dX9_build_47 rfl ?_
                refine px_iload hG dX9_build_48 rfl ?_
                refine as_25 hG dX9_build_50 R17 (by omega) (by omega) (fun s27 qs27 Rs27 => ?_)
                have Fs27 := pm_Fr_up (F18) qs27 (M := [(24, some 0), (25, none), (26, none)]) rfl
                have k28 : s27 24 0 0 = n1 := (pm_nec qs27 (by decide)).trans k20
                have E1 := qs27
                refine px_aload_n hG dX9_build_51 rfl ?_
                refine gr_24_2 hG dX9_build_52 fl_X9_19 Rs27 ?_
                refine px_iload_n hG dX9_build_55 rfl ?_
                refine px_iload_n hG dX9_build_56 rfl ?_
                refine px_iload hG dX9_build_57 rfl ?_
                refine px_isub hG dX9_build_59 ?_
                refine as_26 hG dX9_build_60 Rs27 (by omega) (by omega) (fun s29 qs29 Rs29 => ?_)
                have Fs29 := pm_Fr_up (Fs27) qs29 (M := [(24, some 0), (25, none), (26, none)]) rfl
                have k30 : s29 24 0 0 = n1 := (pm_nec qs29 (by decide)).trans k28
                have E2 := qs29
                refine px_iinc hG dX9_build_61 (Nat.le_of_ble_eq_true rfl) rfl (L2 := [some (.inr (.inr (24, 0))), some (.inr (.inr (4, 0))), none, some (.inl (v3_14 + 1)), some (.inl v4_4), some (.inl (v5_15 + 1))]) rfl ?_
                refine px_goto hG dX9_build_64 (tgt := 22) (by decide) ?_
                exact ih19 (v3_14 + 1) (v5_15 + 1) s29 Rs29 Fs29 k30 (⟨by omega, by omega, by first | exact ⟨by omega, by omega, fun hg => pm_hst E1 E2 (U.2.2 hg) (by have := VG hg; omega) (by omega)⟩ | exact ⟨by rw [pm_sc_st (by omega)]; omega, by omega, U.2.2⟩⟩) (by omega)
        exact L22 _ v3_3 1 s5 R6 F7 k9 (⟨by omega, by omega, ⟨W.1, by omega, W.2.2.2⟩⟩) (Nat.lt_succ_self _)
  refine px_weak hG (L2 := [some (.inr (.inr (24, 0))), some (.inr (.inr (4, 0))), none, some (.inl 0), some (.inl 1), none]) ⟨Or.inr rfl, Or.inr rfl, Or.inl rfl, Or.inr rfl, Or.inr rfl, Or.inr rfl, trivial⟩ ?_
  exact L10 _ 0 1 s1 Rs1 Fs1 k2 (⟨by omega, by omega, ⟨(pm_sc_0 _ _).symm, by omega, by omega, fun _ q h0 h1 => by omega⟩⟩) (Nat.lt_succ_self _))
def pre_X9_buildP (as : List pm_V) (n : Nat) (σ : pm_H) : Prop := ∃ n1 : Int, as = [.inr (.inr (24, 0)), .inr (.inr (30, 0)), .inl n1] ∧ n = 122 ∧ pm_Rng σ ∧ (1 ≤ n1 ∧ n1 ≤ 5)
def po_X9_buildP (as : List pm_V) (_ : Nat) (σ : pm_H) (r : Option pm_V) (τ : pm_H) : Prop := ∀ n1 : Int, as = [.inr (.inr (24, 0)), .inr (.inr (30, 0)), .inl n1] → r = none ∧ pm_Rng τ ∧ pm_Fr [(24, some 0), (25, none), (26, none)] σ τ ∧ (τ 24 0 0 = n1 ∧ (pm_gd (σ 30 0) n1.toNat → ∀ q : Int, 1 ≤ q → q ≤ n1 → 0 ≤ τ 26 0 q ∧ τ 26 0 q ≤ q - 1))
set_option maxRecDepth 20000 in
set_option maxHeartbeats 4000000 in
theorem ct_X9_buildP : pm_Ct yX9_build cX9_build 6 none 0 0 pre_X9_buildP po_X9_buildP := pm_sound (ini := false) (by decide +kernel) pk_X9_build (fun h => absurd h (by decide)) (by
  rintro as n s0 ⟨n1, rfl, rfl, R0, hpre⟩
  refine ⟨by decide, Nat.le_of_ble_eq_true rfl, fun G hG => ?_⟩
  have hG : pm_Rules (RX9, 0, 122, cX9_build, -1, (fun _ => 0), false, none, po_X9_buildP [.inr (.inr (24, 0)), .inr (.inr (30, 0)), .inl n1] 122 s0) G := hG
  show G 0 [some (.inr (.inr (24, 0))), some (.inr (.inr (30, 0))), some (.inl n1), none, none, none] [] 122 s0
  refine px_aload_n hG dX9_build_0 rfl ?_
  refine px_iload_n hG dX9_build_1 rfl ?_
  refine pi_24_0 hG dX9_build_2 fl_X9_9 R0 (by omega) (fun s1 qs1 Rs1 => ?_)
  have Fs1 := pm_Fr_up ((pm_Fr_rf : pm_Fr [(24, some 0), (25, none), (26, none)] s0 s0)) qs1 (M := [(24, some 0), (25, none), (26, none)]) rfl
  have k2 : s1 24 0 0 = n1 := pm_at qs1
  refine px_iconst hG dX9_build_5 ?_
  refine px_istore_n hG dX9_build_6 (Nat.le_of_ble_eq_true rfl) (L2 := [some (.inr (.inr (24, 0))), some (.inr (.inr (30, 0))), some (.inl n1), some (.inl 0), none, none]) rfl ?_
  refine px_iconst hG dX9_build_7 ?_
  refine px_istore hG dX9_build_8 (Nat.le_of_ble_eq_true rfl) (L2 := [some (.inr (.inr (24, 0))), some (.inr (.inr (30, 0))), some (.inl n1), some (.inl 0), some (.inl 1), none]) rfl ?_
  have L10 : ∀ (N : Nat) (v3_3 : Int) (v4_4 : Int) (s5 : pm_H), pm_Rng s5 → pm_Fr [(24, some 0), (25, none), (26, none)] s0 s5 → s5 24 0 0 = n1 → ((0 ≤ v3_3 ∧ v3_3 ≤ 10000) ∧ (1 ≤ v4_4 ∧ v4_4 ≤ 10000) ∧ (v3_3 = pm_sc (s0 30 0) v4_4 1 n1.toNat ∧ 1 ≤ v4_4 ∧ v4_4 ≤ n1 + 1 ∧ (pm_gd (s0 30 0) n1.toNat → ∀ q : Int, 1 ≤ q → q ≤ v3_3 → 0 ≤ s5 26 0 q ∧ s5 26 0 q ≤ q - 1))) → (10001 - v4_4).toNat < N → G 10 [some (.inr (.inr (24, 0))), some (.inr (.inr (30, 0))), none, some (.inl v3_3), some (.inl v4_4), none] [] 122 s5 := by
    intro N
    induction N with
    | zero => intro v3_3 v4_4 s5 R6 F7 k9 inv10 hm11; exact absurd hm11 (Nat.not_lt_zero _)
    | succ N ih8 =>
      intro v3_3 v4_4 s5 R6 F7 k9 inv10 hm11
      have W := inv10.2.2
      refine px_iload hG dX9_build_10 rfl ?_
      refine px_aload_n hG dX9_build_12 rfl ?_
      refine gi_24_0 hG dX9_build_13 fl_X9_9 R6 (fun x12 ex12 lx12 ux12 => ?_)
      refine px_ic_gt hG dX9_build_16 (tgt := 73) (by decide) ⟨by omega, by omega⟩ ⟨by omega, by omega⟩ (fun c13 => ?_) (fun c13 => ?_)
      · have A := fun hg => pm_sc_gdall (f := s0 30 0) (v := v4_4) (k := n1.toNat) hg (by omega)
        exact px_vret (st := []) hG dX9_build_73 rfl rfl (fun n1_1 ee => by cases ee; exact ⟨rfl, R6, F7, ⟨by omega, fun hg q h0 h1 => W.2.2.2 hg q h0 (by have := A hg; omega)⟩⟩)
      · refine px_iconst hG dX9_build_19 ?_
        refine px_istore hG dX9_build_20 (Nat.le_of_ble_eq_true rfl) (L2 := [some (.inr (.inr (24, 0))), some (.inr (.inr (30, 0))), none, some (.inl v3_3), some (.inl v4_4), some (.inl 1)]) rfl ?_
        have L22 : ∀ (N : Nat) (v3_14 : Int) (v5_15 : Int) (s16 : pm_H), pm_Rng s16 → pm_Fr [(24, some 0), (25, none), (26, none)] s0 s16 → s16 24 0 0 = n1 → ((v3_3 ≤ v3_14 ∧ v3_14 ≤ 10000) ∧ (1 ≤ v5_15 ∧ v5_15 ≤ 10000) ∧ (v3_14 = pm_sc (s0 30 0) v4_4 v5_15 n1.toNat ∧ v5_15 ≤ n1 + 1 ∧ (pm_gd (s0 30 0) n1.toNat → ∀ q : Int, 1 ≤ q → q ≤ v3_14 → 0 ≤ s16 26 0 q ∧ s16 26 0 q ≤ q - 1))) → (10001 - v5_15).toNat < N → G 22 [some (.inr (.inr (24, 0))), some (.inr (.inr (30, 0))), none, some (.inl v3_14), some (.inl v4_4), some (.inl v5_15)] [] 122 s16 := by
          intro N
          induction N with
          | zero => intro v3_14 v5_15 s16 R17 F18 k20 inv21 hm22; exact absurd hm22 (Nat.not_lt_zero _)
          | succ N ih19 =>
            intro v3_14 v5_15 s16 R17 F18 k20 inv21 hm22
            have U := inv21.2.2
            have U1 := U.1
            have UB := pm_sc_le (s0 30 0) v4_4 v5_15 n1.toNat
            have UN := pm_sc_nn (s0 30 0) v4_4 v5_15 n1.toNat
            refine px_iload hG dX9_build_22 rfl ?_
            refine px_aload_n hG dX9_build_24 rfl ?_
            refine gi_24_0 hG dX9_build_25 fl_X9_9 R17 (fun x23 ex23 lx23 ux23 => ?_)
            refine px_ic_gt hG dX9_build_28 (tgt := 67) (by decide) ⟨by omega, by omega⟩ ⟨by omega, by omega⟩ (fun c24 => ?_) (fun c24 => ?_)
            · have NX := pm_sc_nx (f := s0 30 0) (v := v4_4) (c := v5_15) (k := n1.toNat) (by omega)
              refine px_iinc hG dX9_build_67 (Nat.le_of_ble_eq_true rfl) rfl (L2 := [some (.inr (.inr (24, 0))), some (.inr (.inr (30, 0))), none, some (.inl v3_14), some (.inl (v4_4 + 1)), some (.inl v5_15)]) rfl ?_
              refine px_goto hG dX9_build_70 (tgt := 10) (by decide) ?_
              refine px_weak hG (L2 := [some (.inr (.inr (24, 0))), some (.inr (.inr (30, 0))), none, some (.inl v3_14), some (.inl (v4_4 + 1)), none]) ⟨Or.inr rfl, Or.inr rfl, Or.inr rfl, Or.inr rfl, Or.inr rfl, Or.inl rfl, trivial⟩ ?_
              exact ih8 v3_14 (v4_4 + 1) s16 R17 F18 k20 (⟨by omega, by omega, ⟨by omega, by omega, by omega, U.2.2⟩⟩) (by omega)
            · refine px_aload_n hG dX9_build_31 rfl ?_
              refine px_iload hG dX9_build_32 rfl ?_
              refine al_30 hG dX9_build_34 R17 (by omega) (fun x25 ex25 lx25 ux25 => ?_)
              have X1 := (F18 30 0 v5_15 rfl).symm.trans ex25
              refine px_iload hG dX9_build_35 rfl ?_
              refine px_ic_ne hG dX9_build_37 (tgt := 61) (by decide) ⟨by omega, by omega⟩ ⟨by omega, by omega⟩ (fun c26 => ?_) (fun c26 => ?_)
              · refine px_iinc hG dX9_build_61 (Nat.le_of_ble_eq_true rfl) rfl (L2 := [some (.inr (.inr (24, 0))), some (.inr (.inr (30, 0))), none, some (.inl v3_14), some (.inl v4_4), some (.inl (v5_15 + 1))]) rfl ?_
                refine px_goto hG dX9_build_64 (tgt := 22) (by decide) ?_
                exact ih19 v3_14 (v5_15 + 1) s16 R17 F18 k20 (⟨by omega, by omega, by first | exact ⟨by omega, by omega, fun hg => pm_hst E1 E2 (U.2.2 hg) (by have := VG hg; omega) (by omega)⟩ | exact ⟨by rw [pm_sc_st (by omega)]; omega, by omega, U.2.2⟩⟩) (by omega)
              · have V := pm_sc_up (f := s0 30 0) (v := v4_4) (c := v5_15) (k := n1.toNat) (by omega) (by omega) (by omega) (by omega)
                have VB := pm_sc_le (s0 30 0) v4_4 (v5_15 + 1) n1.toNat
                have VG := fun hg => pm_sc_gd (f := s0 30 0) (v := v4_4) (c := v5_15) (k := n1.toNat) hg (by omega) (by omega) (by omega)
                refine px_iinc hG dX9_build_40 (Nat.le_of_ble_eq_true rfl) rfl (L2 := [some (.inr (.inr (24, 0))), some (.inr (.inr (30, 0))), none, some (.inl (v3_14 + 1)), some (.inl v4_4), some (.inl v5_15)]) rfl ?_
                refine px_aload_n hG dX9_build_43 rfl ?_
                refine gr_24_1 hG dX9_build_44 fl_X9_15 R17 ?_
                refine px_iload_n hG dX9_build_47 rfl ?_
                refine px_iload hG dX9_build_48 rfl ?_
                refine as_25 hG dX9_build_50 R17 (by omega) (by omega) (fun s27 qs27 Rs27 => ?_)
                have Fs27 := pm_Fr_up (F18) qs27 (M := [(24, some 0), (25, none), (26, none)]) rfl
                have k28 : s27 24 0 0 = n1 := (pm_nec qs27 (by decide)).trans k20
                have E1 := qs27
                refine px_aload_n hG dX9_build_51 rfl ?_
                refine gr_24_2 hG dX9_build_52 fl_X9_19 Rs27 ?_
                refine px_iload_n hG dX9_build_55 rfl ?_
                refine px_iload_n hG dX9_build_56 rfl ?_
                refine px_iload hG dX9_build_57 rfl ?_
                refine px_isub hG dX9_build_59 ?_
                refine as_26 hG dX9_build_60 Rs27 (by omega) (by omega) (fun s29 qs29 Rs29 => ?_)
                have Fs29 := pm_Fr_up (Fs27) qs29 (M := [(24, some 0), (25, none), (26, none)]) rfl
                have k30 : s29 24 0 0 = n1 := (pm_nec qs29 (by decide)).trans k28
                have E2 := qs29
                refine px_iinc hG dX9_build_61 (Nat.le_of_ble_eq_true rfl) rfl (L2 := [some (.inr (.inr (24, 0))), some (.inr (.inr (30, 0))), none, some (.inl (v3_14 + 1)), some (.inl v4_4), some (.inl (v5_15 + 1))]) rfl ?_
                refine px_goto hG dX9_build_64 (tgt := 22) (by decide) ?_
                exact ih19 (v3_14 + 1) (v5_15 + 1) s29 Rs29 Fs29 k30 (⟨by omega, by omega, by first | exact ⟨by omega, by omega, fun hg => pm_hst E1 E2 (U.2.2 hg) (by have := VG hg; omega) (by omega)⟩ | exact ⟨by rw [pm_sc_st (by omega)]; omega, by omega, U.2.2⟩⟩) (by omega)
        exact L22 _ v3_3 1 s5 R6 F7 k9 (⟨by omega, by omega, ⟨W.1, by omega, W.2.2.2⟩⟩) (Nat.lt_succ_self _)
  refine px_weak hG (L2 := [some (.inr (.inr (24, 0))), some (.inr (.inr (30, 0))), none, some (.inl 0), some (.inl 1), none]) ⟨Or.inr rfl, Or.inr rfl, Or.inl rfl, Or.inr rfl, Or.inr rfl, Or.inr rfl, trivial⟩ ?_
  exact L10 _ 0 1 s1 Rs1 Fs1 k2 (⟨by omega, by omega, ⟨(pm_sc_0 _ _).symm, by omega, by omega, fun _ q h0 h1 => by omega⟩⟩) (Nat.lt_succ_self _))
def pre_X9_area (as : List pm_V) (n : Nat) (σ : pm_H) : Prop := as = [.inr (.inr (24, 0))] ∧ n = 122 ∧ pm_Rng σ
def po_X9_area (as : List pm_V) (_ : Nat) (σ : pm_H) (r : Option pm_V) (τ : pm_H) : Prop := as = [.inr (.inr (24, 0))] → ∃ v : Int, r = some (.inl v) ∧ σ = τ ∧ ((∀ j : Int, 1 ≤ j → j ≤ σ 24 0 0 → 0 ≤ σ 26 0 j ∧ σ 26 0 j ≤ j - 1) → 0 ≤ v ∧ v ≤ pm_t1 (σ 24 0 0).toNat)
set_option maxRecDepth 20000 in
set_option maxHeartbeats 4000000 in
theorem ct_X9_area : pm_Ct yX9_area cX9_area 3 (some .int) 0 0 pre_X9_area po_X9_area := pm_sound (ini := false) (by decide +kernel) pk_X9_area (fun h => absurd h (by decide)) (by
  rintro as n s0 ⟨rfl, rfl, R0⟩
  refine ⟨by decide, Nat.le_of_ble_eq_true rfl, fun G hG => ?_⟩
  have hG : pm_Rules (RX9, 0, 122, cX9_area, -1, (fun _ => 0), false, (some .int), po_X9_area [.inr (.inr (24, 0))] 122 s0) G := hG
  show G 0 [some (.inr (.inr (24, 0))), none, none] [] 122 s0
  have B := pb_24_0 R0
  refine px_iconst hG dX9_area_0 ?_
  refine px_istore_n hG dX9_area_1 (Nat.le_of_ble_eq_true rfl) (L2 := [some (.inr (.inr (24, 0))), some (.inl 0), none]) rfl ?_
  refine px_iconst hG dX9_area_2 ?_
  refine px_istore_n hG dX9_area_3 (Nat.le_of_ble_eq_true rfl) (L2 := [some (.inr (.inr (24, 0))), some (.inl 0), some (.inl 1)]) rfl ?_
  have L4 : ∀ (N : Nat) (v1_1 : Int) (v2_2 : Int), ((1 ≤ v2_2 ∧ v2_2 ≤ 10000) ∧ (v2_2 ≤ s0 24 0 0 + 1 ∧ ((∀ j : Int, 1 ≤ j → j ≤ s0 24 0 0 → 0 ≤ s0 26 0 j ∧ s0 26 0 j ≤ j - 1) → 0 ≤ v1_1 ∧ v1_1 ≤ pm_t1 (v2_2 - 1).toNat))) → (10001 - v2_2).toNat < N → G 4 [some (.inr (.inr (24, 0))), some (.inl v1_1), some (.inl v2_2)] [] 122 s0 := by
    intro N
    induction N with
    | zero => intro v1_1 v2_2 inv4 hm5; exact absurd hm5 (Nat.not_lt_zero _)
    | succ N ih3 =>
      intro v1_1 v2_2 inv4 hm5
      have W := (inv4.2).2
      have W0 := (inv4.2).1
      refine px_iload_n hG dX9_area_4 rfl ?_
      refine px_aload_n hG dX9_area_5 rfl ?_
      refine gi_24_0 hG dX9_area_6 fl_X9_9 R0 (fun x6 ex6 lx6 ux6 => ?_)
      refine px_ic_gt hG dX9_area_9 (tgt := 27) (by decide) ⟨by omega, by omega⟩ ⟨by omega, by omega⟩ (fun c7 => ?_) (fun c7 => ?_)
      · have T : v2_2 - 1 = s0 24 0 0 := by omega
        refine px_iload_n hG dX9_area_27 rfl ?_
        exact px_iret (st := []) hG dX9_area_28 rfl rfl (fun _ => by exact ⟨_, rfl, rfl, fun h => by have h2 := W h; rw [T] at h2; exact h2⟩)
      · refine px_iload_n hG dX9_area_12 rfl ?_
        refine px_aload_n hG dX9_area_13 rfl ?_
        refine gr_24_2 hG dX9_area_14 fl_X9_19 R0 ?_
        refine px_iload_n hG dX9_area_17 rfl ?_
        refine al_26 hG dX9_area_18 R0 (by omega) (fun x8 ex8 lx8 ux8 => ?_)
        have X1 := ex8
        refine px_iadd hG dX9_area_19 ?_
        refine px_istore_n hG dX9_area_20 (Nat.le_of_ble_eq_true rfl) (L2 := [some (.inr (.inr (24, 0))), some (.inl (v1_1 + x8)), some (.inl v2_2)]) rfl ?_
        have T := pm_t1_s (a := v2_2) (by omega)
        have H1 := fun (h : (∀ j : Int, 1 ≤ j → j ≤ s0 24 0 0 → 0 ≤ s0 26 0 j ∧ s0 26 0 j ≤ j - 1)) => h v2_2 (by omega) (by omega)
        refine px_iinc hG dX9_area_21 (Nat.le_of_ble_eq_true rfl) rfl (L2 := [some (.inr (.inr (24, 0))), some (.inl (v1_1 + x8)), some (.inl (v2_2 + 1))]) rfl ?_
        refine px_goto hG dX9_area_24 (tgt := 4) (by decide) ?_
        exact ih3 (v1_1 + x8) (v2_2 + 1) (⟨by omega, ⟨by omega, fun h => by have h1 := H1 h; have h2 := W h; rw [X1] at h1; omega⟩⟩) (by omega)
  exact L4 _ 0 1 (⟨by omega, ⟨by omega, fun _ => ⟨by decide, by decide⟩⟩⟩) (Nat.lt_succ_self _))
def pre_X9_countsFor (as : List pm_V) (n : Nat) (σ : pm_H) : Prop := ∃ i1 j1 : Int, as = [.inr (.inr (24, 0)), .inl i1, .inl j1] ∧ n = 122 ∧ pm_Rng σ ∧ (1 ≤ i1 ∧ i1 ≤ 10 ∧ 1 ≤ j1 ∧ j1 ≤ 10)
def po_X9_countsFor (as : List pm_V) (_ : Nat) (σ : pm_H) (r : Option pm_V) (τ : pm_H) : Prop := ∀ i1 j1 : Int, as = [.inr (.inr (24, 0)), .inl i1, .inl j1] → ∃ v : Int, r = some (.inl v) ∧ σ = τ ∧ ((v = 0 ∨ v = 1))
set_option maxRecDepth 20000 in
set_option maxHeartbeats 4000000 in
theorem ct_X9_countsFor : pm_Ct yX9_countsFor cX9_countsFor 3 (some .boolean) 0 0 pre_X9_countsFor po_X9_countsFor := pm_sound (ini := false) (by decide +kernel) pk_X9_countsFor (fun h => absurd h (by decide)) (by
  rintro as n s0 ⟨i1, j1, rfl, rfl, R0, hpre⟩
  refine ⟨by decide, Nat.le_of_ble_eq_true rfl, fun G hG => ?_⟩
  have hG : pm_Rules (RX9, 0, 122, cX9_countsFor, -1, (fun _ => 0), false, (some .boolean), po_X9_countsFor [.inr (.inr (24, 0)), .inl i1, .inl j1] 122 s0) G := hG
  show G 0 [some (.inr (.inr (24, 0))), some (.inl i1), some (.inl j1)] [] 122 s0
  refine px_aload_n hG dX9_countsFor_0 rfl ?_
  refine gr_24_2 hG dX9_countsFor_1 fl_X9_19 R0 ?_
  refine px_iload_n hG dX9_countsFor_4 rfl ?_
  refine al_26 hG dX9_countsFor_5 R0 (by omega) (fun x1 ex1 lx1 ux1 => ?_)
  refine px_aload_n hG dX9_countsFor_6 rfl ?_
  refine gr_24_2 hG dX9_countsFor_7 fl_X9_19 R0 ?_
  refine px_iload_n hG dX9_countsFor_10 rfl ?_
  refine al_26 hG dX9_countsFor_11 R0 (by omega) (fun x2 ex2 lx2 ux2 => ?_)
  refine px_ic_ne hG dX9_countsFor_12 (tgt := 36) (by decide) ⟨by omega, by omega⟩ ⟨by omega, by omega⟩ (fun c3 => ?_) (fun c3 => ?_)
  · refine px_aload_n hG dX9_countsFor_36 rfl ?_
    refine gr_24_2 hG dX9_countsFor_37 fl_X9_19 R0 ?_
    refine px_iload_n hG dX9_countsFor_40 rfl ?_
    refine al_26 hG dX9_countsFor_41 R0 (by omega) (fun x4 ex4 lx4 ux4 => ?_)
    refine px_aload_n hG dX9_countsFor_42 rfl ?_
    refine gr_24_2 hG dX9_countsFor_43 fl_X9_19 R0 ?_
    refine px_iload_n hG dX9_countsFor_46 rfl ?_
    refine al_26 hG dX9_countsFor_47 R0 (by omega) (fun x5 ex5 lx5 ux5 => ?_)
    refine px_iconst hG dX9_countsFor_48 ?_
    refine px_iadd hG dX9_countsFor_49 ?_
    refine px_ic_ne hG dX9_countsFor_50 (tgt := 72) (by decide) ⟨by omega, by omega⟩ ⟨by omega, by omega⟩ (fun c6 => ?_) (fun c6 => ?_)
    · refine px_iconst hG dX9_countsFor_72 ?_
      exact px_zret (st := []) hG dX9_countsFor_73 rfl (by omega) rfl (fun i1_1 j1_1 ee => by cases ee; exact ⟨_, rfl, rfl, by omega⟩)
    · refine px_aload_n hG dX9_countsFor_53 rfl ?_
      refine gr_24_1 hG dX9_countsFor_54 fl_X9_15 R0 ?_
      refine px_iload_n hG dX9_countsFor_57 rfl ?_
      refine al_25 hG dX9_countsFor_58 R0 (by omega) (fun x7 ex7 lx7 ux7 => ?_)
      refine px_aload_n hG dX9_countsFor_59 rfl ?_
      refine gr_24_1 hG dX9_countsFor_60 fl_X9_15 R0 ?_
      refine px_iload_n hG dX9_countsFor_63 rfl ?_
      refine al_25 hG dX9_countsFor_64 R0 (by omega) (fun x8 ex8 lx8 ux8 => ?_)
      refine px_ic_le hG dX9_countsFor_65 (tgt := 72) (by decide) ⟨by omega, by omega⟩ ⟨by omega, by omega⟩ (fun c9 => ?_) (fun c9 => ?_)
      · refine px_iconst hG dX9_countsFor_72 ?_
        exact px_zret (st := []) hG dX9_countsFor_73 rfl (by omega) rfl (fun i1_1 j1_1 ee => by cases ee; exact ⟨_, rfl, rfl, by omega⟩)
      · refine px_iconst hG dX9_countsFor_68 ?_
        refine px_goto hG dX9_countsFor_69 (tgt := 73) (by decide) ?_
        exact px_zret (st := []) hG dX9_countsFor_73 rfl (by omega) rfl (fun i1_1 j1_1 ee => by cases ee; exact ⟨_, rfl, rfl, by omega⟩)
  · refine px_aload_n hG dX9_countsFor_15 rfl ?_
    refine gr_24_1 hG dX9_countsFor_16 fl_X9_15 R0 ?_
    refine px_iload_n hG dX9_countsFor_19 rfl ?_
    refine al_25 hG dX9_countsFor_20 R0 (by omega) (fun x10 ex10 lx10 ux10 => ?_)
    refine px_aload_n hG dX9_countsFor_21 rfl ?_
    refine gr_24_1 hG dX9_countsFor_22 fl_X9_15 R0 ?_
    refine px_iload_n hG dX9_countsFor_25 rfl ?_
    refine al_25 hG dX9_countsFor_26 R0 (by omega) (fun x11 ex11 lx11 ux11 => ?_)
    refine px_ic_ge hG dX9_countsFor_27 (tgt := 34) (by decide) ⟨by omega, by omega⟩ ⟨by omega, by omega⟩ (fun c12 => ?_) (fun c12 => ?_)
    · refine px_iconst hG dX9_countsFor_34 ?_
      exact px_zret (st := []) hG dX9_countsFor_35 rfl (by omega) rfl (fun i1_1 j1_1 ee => by cases ee; exact ⟨_, rfl, rfl, by omega⟩)
    · refine px_iconst hG dX9_countsFor_30 ?_
      refine px_goto hG dX9_countsFor_31 (tgt := 35) (by decide) ?_
      exact px_zret (st := []) hG dX9_countsFor_35 rfl (by omega) rfl (fun i1_1 j1_1 ee => by cases ee; exact ⟨_, rfl, rfl, by omega⟩))
def pre_X9_dinv (as : List pm_V) (n : Nat) (σ : pm_H) : Prop := as = [.inr (.inr (24, 0))] ∧ n = 122 ∧ pm_Rng σ
def po_X9_dinv (as : List pm_V) (_ : Nat) (σ : pm_H) (r : Option pm_V) (τ : pm_H) : Prop := as = [.inr (.inr (24, 0))] → ∃ v : Int, r = some (.inl v) ∧ σ = τ ∧ (0 ≤ v ∧ v ≤ pm_t1 (σ 24 0 0).toNat)
set_option maxRecDepth 20000 in
set_option maxHeartbeats 4000000 in
theorem ct_X9_dinv : pm_Ct yX9_dinv cX9_dinv 4 (some .int) 1 0 pre_X9_dinv po_X9_dinv := pm_sound (ini := false) (by decide +kernel) pk_X9_dinv (fun h => absurd h (by decide)) (by
  rintro as n s0 ⟨rfl, rfl, R0⟩
  refine ⟨by decide, Nat.le_of_ble_eq_true rfl, fun G hG => ?_⟩
  have hG : pm_Rules (RX9, 1, 122, cX9_dinv, -1, (fun _ => 0), false, (some .int), po_X9_dinv [.inr (.inr (24, 0))] 122 s0) G := hG
  show G 0 [some (.inr (.inr (24, 0))), none, none, none] [] 122 s0
  have B := pb_24_0 R0
  refine px_iconst hG dX9_dinv_0 ?_
  refine px_istore_n hG dX9_dinv_1 (Nat.le_of_ble_eq_true rfl) (L2 := [some (.inr (.inr (24, 0))), some (.inl 0), none, none]) rfl ?_
  refine px_iconst hG dX9_dinv_2 ?_
  refine px_istore_n hG dX9_dinv_3 (Nat.le_of_ble_eq_true rfl) (L2 := [some (.inr (.inr (24, 0))), some (.inl 0), some (.inl 2), none]) rfl ?_
  have L4 : ∀ (N : Nat) (v1_1 : Int) (v2_2 : Int), ((2 ≤ v2_2 ∧ v2_2 ≤ 10000) ∧ (0 ≤ v1_1 ∧ v1_1 ≤ pm_t1 (v2_2 - 1).toNat ∧ (v2_2 ≤ s0 24 0 0 + 1 ∨ v2_2 = 2))) → (10001 - v2_2).toNat < N → G 4 [some (.inr (.inr (24, 0))), some (.inl v1_1), some (.inl v2_2), none] [] 122 s0 := by
    intro N
    induction N with
    | zero => intro v1_1 v2_2 inv4 hm5; exact absurd hm5 (Nat.not_lt_zero _)
    | succ N ih3 =>
      intro v1_1 v2_2 inv4 hm5
      have W := inv4.2
      have T := pm_t1_s (a := v2_2) (by omega)
      refine px_iload_n hG dX9_dinv_4 rfl ?_
      refine px_aload_n hG dX9_dinv_5 rfl ?_
      refine gi_24_0 hG dX9_dinv_6 fl_X9_9 R0 (fun x6 ex6 lx6 ux6 => ?_)
      refine px_ic_gt hG dX9_dinv_9 (tgt := 43) (by decide) ⟨by omega, by omega⟩ ⟨by omega, by omega⟩ (fun c7 => ?_) (fun c7 => ?_)
      · refine px_iload_n hG dX9_dinv_43 rfl ?_
        have T2 := pm_t1_m2 (a := (v2_2 - 1).toNat) (b := (s0 24 0 0).toNat) (by omega)
        exact px_iret (st := []) hG dX9_dinv_44 rfl rfl (fun _ => by exact ⟨_, rfl, rfl, ⟨by omega, by omega⟩⟩)
      · refine px_iconst hG dX9_dinv_12 ?_
        refine px_istore_n hG dX9_dinv_13 (Nat.le_of_ble_eq_true rfl) (L2 := [some (.inr (.inr (24, 0))), some (.inl v1_1), some (.inl v2_2), some (.inl 1)]) rfl ?_
        have L14 : ∀ (N : Nat) (v1_8 : Int) (v3_9 : Int), ((1 ≤ v3_9 ∧ v3_9 ≤ 10000) ∧ (0 ≤ v1_8 ∧ v1_8 ≤ pm_t1 (v2_2 - 1).toNat + (v3_9 - 1) ∧ v3_9 ≤ v2_2)) → (10001 - v3_9).toNat < N → G 14 [some (.inr (.inr (24, 0))), some (.inl v1_8), some (.inl v2_2), some (.inl v3_9)] [] 122 s0 := by
          intro N
          induction N with
          | zero => intro v1_8 v3_9 inv11 hm12; exact absurd hm12 (Nat.not_lt_zero _)
          | succ N ih10 =>
            intro v1_8 v3_9 inv11 hm12
            have U := inv11.2
            refine px_iload_n hG dX9_dinv_14 rfl ?_
            refine px_iload_n hG dX9_dinv_15 rfl ?_
            refine px_ic_ge hG dX9_dinv_16 (tgt := 37) (by decide) ⟨by omega, by omega⟩ ⟨by omega, by omega⟩ (fun c13 => ?_) (fun c13 => ?_)
            · refine px_iinc hG dX9_dinv_37 (Nat.le_of_ble_eq_true rfl) rfl (L2 := [some (.inr (.inr (24, 0))), some (.inl v1_8), some (.inl (v2_2 + 1)), some (.inl v3_9)]) rfl ?_
              refine px_goto hG dX9_dinv_40 (tgt := 4) (by decide) ?_
              refine px_weak hG (L2 := [some (.inr (.inr (24, 0))), some (.inl v1_8), some (.inl (v2_2 + 1)), none]) ⟨Or.inr rfl, Or.inr rfl, Or.inr rfl, Or.inl rfl, trivial⟩ ?_
              exact ih3 v1_8 (v2_2 + 1) (⟨by omega, by omega⟩) (by omega)
            · refine px_aload_n hG dX9_dinv_19 rfl ?_
              refine px_iload_n hG dX9_dinv_20 rfl ?_
              refine px_iload_n hG dX9_dinv_21 rfl ?_
              refine jv2 hG dX9_dinv_22 ct_X9_countsFor lk_X9_22 ⟨rfl, rfl⟩ (by decide) ⟨Nat.le_of_ble_eq_true rfl, Nat.le_of_ble_eq_true rfl, Nat.le_of_ble_eq_true rfl⟩ (Nat.le_of_ble_eq_true rfl) ⟨v3_9, v2_2, rfl, rfl, R0, by omega⟩ (fun r14 t15 pr14 => ?_)
              obtain ⟨x16, rfl, rfl, br14⟩ := pr14 _ _ rfl
              show G 25 [some (.inr (.inr (24, 0))), some (.inl v1_8), some (.inl v2_2), some (.inl v3_9)] [.inl x16] 122 s0
              refine px_if_eq hG dX9_dinv_25 (tgt := 31) (by decide) ⟨by omega, by omega⟩ (fun c17 => ?_) (fun c17 => ?_)
              · refine px_iinc hG dX9_dinv_31 (Nat.le_of_ble_eq_true rfl) rfl (L2 := [some (.inr (.inr (24, 0))), some (.inl v1_8), some (.inl v2_2), some (.inl (v3_9 + 1))]) rfl ?_
                refine px_goto hG dX9_dinv_34 (tgt := 14) (by decide) ?_
                exact ih10 v1_8 (v3_9 + 1) (⟨by omega, by omega⟩) (by omega)
              · refine px_iinc hG dX9_dinv_28 (Nat.le_of_ble_eq_true rfl) rfl (L2 := [some (.inr (.inr (24, 0))), some (.inl (v1_8 + 1)), some (.inl v2_2), some (.inl v3_9)]) rfl ?_
                refine px_iinc hG dX9_dinv_31 (Nat.le_of_ble_eq_true rfl) rfl (L2 := [some (.inr (.inr (24, 0))), some (.inl (v1_8 + 1)), some (.inl v2_2), some (.inl (v3_9 + 1))]) rfl ?_
                refine px_goto hG dX9_dinv_34 (tgt := 14) (by decide) ?_
                exact ih10 (v1_8 + 1) (v3_9 + 1) (⟨by omega, by omega⟩) (by omega)
        exact L14 _ v1_1 1 (⟨by omega, by omega⟩) (Nat.lt_succ_self _)
  exact L4 _ 0 2 (⟨by omega, ⟨by omega, by decide, by omega⟩⟩) (Nat.lt_succ_self _))
