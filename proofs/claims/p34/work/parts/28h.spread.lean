/-! ===== spreads: the model ===== -/
theorem pm_tm {j v : Int} (hj : 0 ≤ j) (hv : 0 ≤ v) : ((j.toNat * v.toNat : Nat) : Int) = j * v := by
  rw [Int.natCast_mul, Int.toNat_of_nonneg hj, Int.toNat_of_nonneg hv]
theorem pm_m3_z (T : Nat → List Int) (n v : Nat) : ∀ (c q : Nat), c ≤ q → pm_m3 T n v c q = pm_zl 56 := by
  intro c
  induction c with
  | zero => intro q _; rfl
  | succ c ih =>
    intro q h
    simp only [pm_m3]
    rw [if_neg (by omega)]
    exact ih q (by omega)
theorem pm_m2_l (T : Nat → List Int) (n v c : Nat) (j : Nat) : (pm_m2 T n v c j).length = 56 := by
  induction j with
  | zero => exact pm_zl_l 56
  | succ j ih =>
    simp only [pm_m2]
    rw [pm_sh_l]
    exact ih
/-- row (v, c) of the table -/
def pm_rWs (s : pm_H) (v c : Int) : Int → Int := fun i => s 61 0 (56 * (12 * v + c) + i)
def pm_mU (s : pm_H) (n v : Int) : Prop := ∀ w c : Int, v < w → w ≤ n + 1 → 0 ≤ c → c ≤ 11 → pm_LR 56 (pm_m4 n.toNat (n + 1 - w).toNat c.toNat) (pm_rWs s w c)
def pm_mZ (s : pm_H) (v : Int) : Prop := ∀ i : Int, 0 ≤ i → i < 56 * (12 * v) → s 61 0 i = 0
def pm_mQ (s : pm_H) (n v cc : Int) (k : Nat) : Prop := ∀ q : Int, 0 ≤ q → q ≤ 11 → q ≠ cc → pm_LR 56 (pm_m3 (pm_m4 n.toNat (n - v).toNat) n.toNat v.toNat k q.toNat) (pm_rWs s v q)
def pm_mH (s : pm_H) (n v : Int) : Prop := pm_mU s n v ∧ pm_mZ s (v + 1)
def pm_mI (s : pm_H) (n v cc : Int) : Prop := pm_mU s n v ∧ pm_mQ s n v (-1) cc.toNat ∧ pm_mZ s v
def pm_mJ (s : pm_H) (n v cc j : Int) : Prop := pm_mU s n v ∧ pm_mQ s n v cc cc.toNat ∧ pm_mZ s v ∧ pm_LR 56 (pm_m2 (pm_m4 n.toNat (n - v).toNat) n.toNat v.toNat cc.toNat j.toNat) (pm_rWs s v cc)
def pm_mK (s : pm_H) (n v cc j x : Int) : Prop := pm_mU s n v ∧ pm_mQ s n v cc cc.toNat ∧ pm_mZ s v ∧ ∀ i : Int, 0 ≤ i → i < 56 → pm_rWs s v cc i = if i < x then pm_lv (pm_m2 (pm_m4 n.toNat (n - v).toNat) n.toNat v.toNat cc.toNat (j.toNat + 1)) i.toNat else pm_lv (pm_m2 (pm_m4 n.toNat (n - v).toNat) n.toNat v.toNat cc.toNat j.toNat) i.toNat
theorem pm_mU_u {s s' : pm_H} {n v i x : Int} (W : pm_mU s n v) (e : s' = pm_up s 61 0 i x) (hi : i < 56 * (12 * (v + 1))) : pm_mU s' n v := fun w c a b h0 h1 =>
  ⟨(W w c a b h0 h1).1, fun j j0 j1 => (pm_nei e (by omega)).trans ((W w c a b h0 h1).2 j j0 j1)⟩
theorem pm_mZ_u {s s' : pm_H} {v i x : Int} (W : pm_mZ s v) (e : s' = pm_up s 61 0 i x) (hi : 56 * (12 * v) ≤ i) : pm_mZ s' v := fun j a b => (pm_nei e (by omega)).trans (W j a b)
theorem pm_mQ_u {s s' : pm_H} {n v cc x y : Int} {k : Nat} (W : pm_mQ s n v cc k) (e : s' = pm_up s 61 0 (56 * (12 * v + cc) + x) y) (h0 : 0 ≤ x) (h1 : x < 56) : pm_mQ s' n v cc k := fun q a b z =>
  ⟨(W q a b z).1, fun j j0 j1 => (pm_nei e (by omega)).trans ((W q a b z).2 j j0 j1)⟩
theorem pm_mH_0 {s s' : pm_H} {n i : Int} (Z : ∀ q : Int, 0 ≤ q → q < 8064 → s 61 0 q = 0) (e : s' = pm_up s 61 0 i 1) (hi : i = 56 * 12 * (n + 1)) (h1 : 1 ≤ n) (h2 : n ≤ 10) : pm_mH s' n n := by
  refine ⟨fun w c a b h0 h3 => ?_, fun q a b => ?_⟩
  · have hw : w = n + 1 := by omega
    subst hw
    rw [show (n + 1 - (n + 1)).toNat = 0 by omega]
    by_cases z : c = 0
    · subst z
      refine ⟨by show (pm_zl 55).length + 1 = 56; rw [pm_zl_l], fun j j0 j1 => ?_⟩
      show s' 61 0 (56 * (12 * (n + 1) + 0) + j) = pm_lv (1 :: pm_zl 55) j.toNat
      by_cases y : j = 0
      · subst y
        rw [show 56 * (12 * (n + 1) + 0) + 0 = i by omega, pm_at e]
        rfl
      · rw [pm_nei e (by omega), Z _ (by omega) (by omega), show j.toNat = (j.toNat - 1) + 1 by omega]
        exact (pm_zl_v 55 _).symm
    · have e4 : pm_m4 n.toNat 0 c.toNat = pm_zl 56 := by
        simp only [pm_m4]
        rw [if_neg (by omega)]
      rw [e4]
      refine ⟨pm_zl_l 56, fun j j0 j1 => ?_⟩
      show s' 61 0 (56 * (12 * (n + 1) + c) + j) = _
      rw [pm_nei e (by omega), Z _ (by omega) (by omega)]
      exact (pm_zl_v 56 _).symm
  · rw [pm_nei e (by omega)]
    exact Z q a (by omega)
theorem pm_mI_0 {s : pm_H} {n v : Int} (W : pm_mH s n v) (h1 : 1 ≤ v) : pm_mI s n v 0 := by
  refine ⟨W.1, fun q a b _ => ?_, fun q a b => W.2 q a (by omega)⟩
  rw [pm_m3_z _ _ _ _ _ (by omega)]
  refine ⟨pm_zl_l 56, fun j j0 j1 => ?_⟩
  show s 61 0 (56 * (12 * v + q) + j) = _
  rw [W.2 _ (by omega) (by omega)]
  exact (pm_zl_v 56 _).symm
theorem pm_mJ_0 {s : pm_H} {n v cc : Int} (W : pm_mI s n v cc) (h0 : 0 ≤ cc) (h1 : cc ≤ 11) : pm_mJ s n v cc 0 := by
  refine ⟨W.1, fun q a b _ => W.2.1 q a b (by omega), W.2.2, ?_⟩
  have q := W.2.1 cc h0 h1 (by omega)
  rw [pm_m3_z _ _ _ _ _ (Nat.le_refl _)] at q
  exact q
theorem pm_mK_0 {s : pm_H} {n v cc j x : Int} (W : pm_mJ s n v cc j) (hx : x = j * v) (hj : 0 ≤ j) (hv : 0 ≤ v) : pm_mK s n v cc j x := by
  refine ⟨W.1, W.2.1, W.2.2.1, fun i a b => ?_⟩
  have T := pm_tm hj hv
  rw [W.2.2.2.2 i a b]
  by_cases z : i < x
  · rw [if_pos z]
    simp only [pm_m2]
    rw [pm_sh_v _ _ _ _ _ (by rw [pm_m2_l]; omega), if_neg (by omega), Int.add_zero]
  · rw [if_neg z]
theorem pm_mK_s {s s' : pm_H} {n v cc j x y z k u : Int} (W : pm_mK s n v cc j x) (Z : s 61 0 (56 * (12 * (v + 1) + cc - j) + x - j * v) = y) (O : s 61 0 (56 * (12 * v + cc) + x) = z) (K : k = pm_C (n - (cc - j)).toNat j.toNat) (e : s' = pm_up s 61 0 (56 * (12 * v + cc) + x) u) (hu : u = z + y * k)
    (h1 : 1 ≤ v) (h2 : v ≤ n) (h3 : n ≤ 10) (h4 : 0 ≤ j) (h5 : j ≤ cc) (h6 : cc ≤ n - v + 1) (h7 : j * v ≤ x) (h8 : x < 56) : pm_mK s' n v cc j (x + 1) := by
  have T := pm_tm h4 (show 0 ≤ v by omega)
  have P : 0 ≤ j * v := by omega
  refine ⟨pm_mU_u W.1 e (by omega), pm_mQ_u W.2.1 e (by omega) h8, pm_mZ_u W.2.2.1 e (by omega), fun i a b => ?_⟩
  by_cases q : i = x
  · subst q
    have A := (W.1 (v + 1) (cc - j) (by omega) (by omega) (by omega) (by omega)).2 (i - j * v) (by omega) (by omega)
    have A2 : pm_rWs s (v + 1) (cc - j) (i - j * v) = y := by
      unfold pm_rWs
      rw [show 56 * (12 * (v + 1) + (cc - j)) + (i - j * v) = 56 * (12 * (v + 1) + cc - j) + i - j * v by omega]
      exact Z
    rw [A2, show (n + 1 - (v + 1)).toNat = (n - v).toNat by omega, show (cc - j).toNat = cc.toNat - j.toNat by omega] at A
    have B := W.2.2.2 i a b
    rw [if_neg (by omega)] at B
    have B2 : pm_rWs s v cc i = z := O
    rw [B2] at B
    show s' 61 0 (56 * (12 * v + cc) + i) = _
    rw [pm_at e, if_pos (by omega)]
    simp only [pm_m2]
    rw [pm_sh_v _ _ _ _ _ (by rw [pm_m2_l]; omega), if_pos (by omega), hu, B, A, K, show (n - (cc - j)).toNat = n.toNat - (cc.toNat - j.toNat) by omega, show i.toNat - j.toNat * v.toNat = (i - j * v).toNat by omega]
  · have B := W.2.2.2 i a b
    show s' 61 0 (56 * (12 * v + cc) + i) = _
    rw [pm_nei e (by omega)]
    refine Eq.trans B ?_
    by_cases y : i < x
    · rw [if_pos y, if_pos (by omega)]
    · rw [if_neg y, if_neg (by omega)]
theorem pm_mJ_n {s : pm_H} {n v cc j x : Int} (W : pm_mK s n v cc j x) (hx : 56 ≤ x) (hj : 0 ≤ j) : pm_mJ s n v cc (j + 1) := by
  refine ⟨W.1, W.2.1, W.2.2.1, pm_m2_l _ _ _ _ _, fun i a b => ?_⟩
  rw [W.2.2.2 i a (by omega), if_pos (by omega), show (j + 1).toNat = j.toNat + 1 by omega]
theorem pm_mI_n {s : pm_H} {n v cc j : Int} (W : pm_mJ s n v cc j) (hj : j = cc + 1) (h0 : 0 ≤ cc) : pm_mI s n v (cc + 1) := by
  refine ⟨W.1, fun q a b _ => ?_, W.2.2.1⟩
  rw [show (cc + 1).toNat = cc.toNat + 1 by omega]
  simp only [pm_m3]
  by_cases z : q = cc
  · subst z
    rw [if_pos rfl]
    have w := W.2.2.2
    rw [show j.toNat = q.toNat + 1 by omega] at w
    exact w
  · rw [if_neg (by omega)]
    exact W.2.1 q a b z
theorem pm_mH_n {s : pm_H} {n v cc : Int} (W : pm_mI s n v cc) (hc : cc = n - v + 2) (h1 : 1 ≤ v) (h2 : v ≤ n) : pm_mH s n (v + -1) := by
  refine ⟨fun w c a b h0 h3 => ?_, fun q a b => W.2.2 q a (by omega)⟩
  by_cases z : w = v
  · subst z
    have q := W.2.1 c h0 h3 (by omega)
    rw [show (n + 1 - w).toNat = (n - w).toNat + 1 by omega]
    simp only [pm_m4]
    rw [show n.toNat - (n - w).toNat = w.toNat by omega, show (n - w).toNat + 2 = cc.toNat by omega]
    exact q
  · exact W.1 w c (by omega) b h0 h3
def pm_mS (n su : Int) : Int := if su < 0 ∨ 55 < su then 0 else pm_lv (pm_m4 n.toNat n.toNat n.toNat) su.toNat
theorem pm_mS_z {n su : Int} (h : su < 0 ∨ 55 < su) : (0 : Int) = pm_mS n su := (if_pos h).symm
theorem pm_mS_i {s : pm_H} {n v su i x : Int} (W : pm_mH s n v) (hv : v = 0) (X : s 61 0 i = x) (hi : i = 56 * (12 + n) + su) (h1 : 1 ≤ n) (h2 : n ≤ 10) (h3 : 0 ≤ su) (h4 : su ≤ 55) : x = pm_mS n su := by
  subst hv
  have q := (W.1 1 n (by omega) (by omega) (by omega) (by omega)).2 su h3 (by omega)
  unfold pm_mS
  rw [if_neg (by omega), ← X, hi]
  rw [show (n + 1 - 1).toNat = n.toNat by omega] at q
  exact q
theorem pm_hf_t : ∀ k : Nat, k < 11 → ((k * (k + 1) / 2 : Nat) : Int) = (k : Int) * ((k : Int) + 1) / 2 ∧ k * (k + 1) / 2 ≤ 55 := by decide
theorem pm_ms0 {n v x d : Int} (B : x = pm_mS n (d - v)) (D : n * (n + 1) / 2 = d) (h1 : 1 ≤ n) (h2 : n ≤ 10) (h0 : 0 ≤ v) (h9 : v ≤ 100) : x = pm_sv0 n v := by
  have q := pm_gc_t n.toNat (by omega) (by omega)
  unfold pm_gc at q
  have q3 := eq_of_beq ((pm_allN_iff 101 0).mp q v.toNat (by omega) (by omega))
  have hf := pm_hf_t n.toNat (by omega)
  obtain ⟨K, hK⟩ : ∃ K : Nat, K = n.toNat * (n.toNat + 1) / 2 := ⟨_, rfl⟩
  rw [← hK] at q3 hf
  rw [show ((n.toNat : Nat) : Int) = n by omega, D] at hf
  unfold pm_sv0
  rw [if_neg (by omega), B]
  unfold pm_mS
  by_cases z : v.toNat ≤ K
  · rw [if_pos z] at q3
    rw [if_neg (by omega), ← q3, show (d - v).toNat = K - v.toNat by omega]
  · rw [if_neg z] at q3
    rw [if_pos (by omega)]
    exact q3
/-! lucky -/
theorem pm_lk_l (i m : Int) (l : List Int) : ∀ p : Int, (pm_lk i m p l).length = l.length := by
  induction l with
  | nil => intro p; rfl
  | cons e t ih =>
    intro p
    simp only [pm_lk]
    rw [pm_si_eq]
    show (pm_lk i m e t).length + 1 = t.length + 1
    rw [ih]
theorem pm_lk_v (i m : Int) (l : List Int) : ∀ (p : Int) (j : Nat), j < l.length → pm_lv (pm_lk i m p l) j = i * pm_lv l j + m * (if j = 0 then p else pm_lv l (j - 1)) := by
  induction l with
  | nil => intro p j h; exact absurd h (Nat.not_lt_zero _)
  | cons e t ih =>
    intro p j h
    have h : j < t.length + 1 := h
    simp only [pm_lk]
    rw [pm_si_eq]
    cases j with
    | zero => rfl
    | succ j =>
      show pm_lv (pm_lk i m e t) j = i * pm_lv t j + m * (if j + 1 = 0 then p else pm_lv (e :: t) j)
      rw [ih e j (by omega)]
      cases j with
      | zero => rfl
      | succ j =>
        rw [if_neg (show ¬ (j + 1 = 0) by omega), if_neg (show ¬ (j + 1 + 1 = 0) by omega)]
        rfl
theorem pm_lu_l (n i : Nat) : (pm_lu n i).length = 12 := by
  induction i with
  | zero => show (pm_zl 10).length + 1 + 1 = 12; rw [pm_zl_l]
  | succ i ih =>
    simp only [pm_lu]
    rw [pm_lk_l]
    exact ih
def pm_lW (s : pm_H) (n i x : Int) : Prop := ∀ p : Int, 0 ≤ p → p < 12 → s 62 0 p = if x < p then pm_lv (pm_lu n.toNat i.toNat) p.toNat else pm_lv (pm_lu n.toNat (i - 1).toNat) p.toNat
theorem pm_lW_0 {s : pm_H} {n : Int} (Z : ∀ q : Int, 0 ≤ q → q < 12 → s 62 0 q = if q = 1 then 1 else 0) : pm_LR 12 (pm_lu n.toNat (1 - 1 : Int).toNat) (s 62 0) := by
  refine ⟨pm_lu_l _ _, fun j a b => ?_⟩
  rw [Z j a b]
  show _ = pm_lv (0 :: 1 :: pm_zl 10) j.toNat
  by_cases z : j = 1
  · subst z
    rfl
  · rw [if_neg z]
    by_cases y : j = 0
    · subst y
      rfl
    · rw [show j.toNat = (j.toNat - 2) + 1 + 1 by omega]
      exact (pm_zl_v 10 _).symm
theorem pm_lW_b {s : pm_H} {n i : Int} (W : pm_LR 12 (pm_lu n.toNat (i - 1).toNat) (s 62 0)) : pm_lW s n i 11 := fun p a b => by
  rw [if_neg (by omega)]
  exact W.2 p a b
theorem pm_lW_s {s s' : pm_H} {n i x a b u : Int} (W : pm_lW s n i x) (O : s 62 0 x = a) (e : s' = pm_up s 62 0 x u) (hu : u = i * a + b) (hb : (x = 0 ∧ b = 0) ∨ (0 < x ∧ b = (n - i + 1) * s 62 0 (x - 1))) (h0 : 0 ≤ x) (h1 : x < 12) (h2 : 1 ≤ i) (h3 : i ≤ n) : pm_lW s' n i (x + -1) := fun p c d => by
  by_cases z : p = x
  · subst z
    have A := W p c d
    rw [if_neg (by omega), O] at A
    rw [pm_at e, if_pos (by omega), show i.toNat = (i - 1).toNat + 1 by omega]
    simp only [pm_lu]
    rw [pm_lk_v _ _ _ _ _ (by rw [pm_lu_l]; omega), ← A, hu, show (((i - 1).toNat : Nat) : Int) + 1 = i by omega, show ((n.toNat : Nat) : Int) - (((i - 1).toNat : Nat) : Int) = n - i + 1 by omega]
    rcases hb with ⟨z1, z2⟩ | ⟨z1, z2⟩
    · rw [if_pos (by omega), z2, Int.mul_zero]
    · have A1 := W (p - 1) (by omega) (by omega)
      rw [if_neg (by omega)] at A1
      rw [if_neg (by omega), z2, A1, show (p - 1).toNat = p.toNat - 1 by omega]
  · rw [pm_nei e z, W p c d]
    by_cases y : x < p
    · rw [if_pos y, if_pos (by omega)]
    · rw [if_neg y, if_neg (by omega)]
theorem pm_lW_n {s : pm_H} {n i x : Int} (W : pm_lW s n i x) (hx : x < 0) : pm_LR 12 (pm_lu n.toNat (i + 1 - 1).toNat) (s 62 0) := by
  refine ⟨pm_lu_l _ _, fun p a b => ?_⟩
  rw [W p a b, if_pos (by omega), show i + 1 - 1 = i by omega]
def pm_mL (n v : Int) : Int := if v < 0 ∨ 11 < v then 0 else pm_lv (pm_lu n.toNat (n.toNat - 1)) v.toNat
theorem pm_mL_z {n v : Int} (h : v < 0 ∨ 11 < v) : (0 : Int) = pm_mL n v := (if_pos h).symm
theorem pm_mL_i {s : pm_H} {n i v x : Int} (W : pm_LR 12 (pm_lu n.toNat (i - 1).toNat) (s 62 0)) (X : s 62 0 v = x) (hi : i = n) (h0 : 0 ≤ v) (h1 : v ≤ 11) : x = pm_mL n v := by
  subst hi
  unfold pm_mL
  rw [if_neg (by omega), ← X, W.2 v h0 (by omega), show (i - 1).toNat = i.toNat - 1 by omega]
theorem pm_ms1 {n v x : Int} (B : x = pm_mL n v) (h1 : 1 ≤ n) (h2 : n ≤ 10) : x = pm_sv1 n v := by
  unfold pm_mL at B
  unfold pm_sv1
  by_cases z : v < 0 ∨ 11 < v
  · rw [if_pos z] at B
    rw [if_pos (by omega)]
    exact B
  · rw [if_neg z] at B
    have q := pm_lc_t n.toNat (by omega) (by omega)
    unfold pm_lc at q
    have q3 := eq_of_beq ((pm_allN_iff 12 0).mp q v.toNat (by omega) (by omega))
    rw [B, q3]
    by_cases y : n < v
    · rw [if_pos (by omega), if_pos (by omega)]
    · rw [if_neg (by omega), if_neg (by omega)]
/-! cuts -/
def pm_qR (s : pm_H) (n p : Int) : Prop := ∀ w m : Int, 0 ≤ w → w < p → 0 ≤ m → m ≤ n → s 63 0 (12 * w + m) = pm_pk n.toNat w.toNat m.toNat
def pm_qZ (s : pm_H) (a : Int) : Prop := ∀ i : Int, a ≤ i → i < 144 → s 63 0 i = 0
def pm_qH (s : pm_H) (n p : Int) : Prop := pm_qR s n p ∧ pm_qZ s (12 * p)
def pm_qM (s : pm_H) (n p mm : Int) : Prop := ∀ m : Int, 0 ≤ m → m < mm → s 63 0 (12 * p + m) = pm_pk n.toNat p.toNat m.toNat
def pm_qI (s : pm_H) (n p mm : Int) : Prop := pm_qR s n p ∧ pm_qM s n p mm ∧ pm_qZ s (12 * p + mm)
def pm_qJ (s : pm_H) (n p mm l : Int) : Prop := pm_qR s n p ∧ pm_qM s n p mm ∧ pm_qZ s (12 * p + mm + 1) ∧ s 63 0 (12 * p + mm) = pm_pr (pm_pk n.toNat (p - 1).toNat) mm.toNat (l - 1).toNat
theorem pm_qH_0 {s s' : pm_H} {n : Int} (Z : ∀ q : Int, 0 ≤ q → q < 144 → s 63 0 q = 0) (e : s' = pm_up s 63 0 0 1) (h2 : n ≤ 10) : pm_qH s' n 1 := by
  refine ⟨fun w m a b c d => ?_, fun i a b => (pm_nei e (by omega)).trans (Z i (by omega) b)⟩
  have hw : w = 0 := by omega
  subst hw
  show _ = (if m.toNat = 0 then (1 : Int) else 0)
  by_cases z : m = 0
  · subst z
    exact pm_at e
  · rw [if_neg (by omega), pm_nei e (by omega)]
    exact Z _ (by omega) (by omega)
theorem pm_qI_0 {s : pm_H} {n p : Int} (W : pm_qH s n p) (h1 : 1 ≤ p) (h2 : p ≤ 10) : pm_qI s n p 1 := by
  refine ⟨W.1, fun m a b => ?_, fun i a b => W.2 i (by omega) b⟩
  have hm : m = 0 := by omega
  subst hm
  rw [W.2 _ (by omega) (by omega), show p.toNat = (p - 1).toNat + 1 by omega]
  rfl
theorem pm_qJ_0 {s : pm_H} {n p mm : Int} (W : pm_qI s n p mm) (h1 : 1 ≤ p) (h2 : p ≤ 10) (h3 : mm ≤ 10) : pm_qJ s n p mm 1 := by
  refine ⟨W.1, W.2.1, fun i a b => W.2.2 i (by omega) b, ?_⟩
  rw [W.2.2 _ (by omega) (by omega)]
  rfl
theorem pm_qJ_s {s s' : pm_H} {n p mm l y z c w u : Int} (W : pm_qJ s n p mm l) (Z : s 63 0 (12 * (p - 1) + mm - l) = y) (O : s 63 0 (12 * p + mm) = z) (C : c = pm_C mm.toNat l.toNat) (P : w = (l - 1) ^ (l - 1).toNat) (e : s' = pm_up s 63 0 (12 * p + mm) u) (hu : u = z + y * c * w)
    (h1 : 1 ≤ p) (h2 : p ≤ n) (h3 : n ≤ 10) (h4 : 1 ≤ l) (h5 : l ≤ mm) (h6 : mm ≤ n) : pm_qJ s' n p mm (l + 1) := by
  refine ⟨fun a b h7 h8 h9 h10 => (pm_nei e (by omega)).trans (W.1 a b h7 h8 h9 h10), fun m a b => (pm_nei e (by omega)).trans (W.2.1 m a b), fun i a b => (pm_nei e (by omega)).trans (W.2.2.1 i a b), ?_⟩
  have q := W.1 (p - 1) (mm - l) (by omega) (by omega) (by omega) (by omega)
  rw [show 12 * (p - 1) + (mm - l) = 12 * (p - 1) + mm - l by omega, Z, show (mm - l).toNat = mm.toNat - ((l - 1).toNat + 1) by omega] at q
  have r := W.2.2.2
  rw [O] at r
  rw [pm_at e, show (l + 1 - 1).toNat = (l - 1).toNat + 1 by omega]
  simp only [pm_pr]
  rw [← r, ← q, hu, C, P, show l.toNat = (l - 1).toNat + 1 by omega, show (((l - 1).toNat : Nat) : Int) = l - 1 by omega]
theorem pm_qI_n {s : pm_H} {n p mm l : Int} (W : pm_qJ s n p mm l) (hl : l = mm + 1) (h1 : 1 ≤ p) (h2 : 1 ≤ mm) : pm_qI s n p (mm + 1) := by
  refine ⟨W.1, fun m a b => ?_, fun i a b => W.2.2.1 i (by omega) b⟩
  by_cases z : m = mm
  · subst z
    have q := W.2.2.2
    rw [show (l - 1).toNat = m.toNat by omega] at q
    rw [q, show p.toNat = (p - 1).toNat + 1 by omega]
    rfl
  · exact W.2.1 m a (by omega)
theorem pm_qH_n {s : pm_H} {n p mm : Int} (W : pm_qI s n p mm) (hm : n < mm) (h2 : mm ≤ 11) : pm_qH s n (p + 1) := by
  refine ⟨fun w m a b c d => ?_, fun i a b => W.2.2 i (by omega) b⟩
  by_cases z : w = p
  · subst z
    exact W.2.1 m c (by omega)
  · exact W.1 w m a (by omega) c d
def pm_mP (n v : Int) : Int := if v < 1 ∨ n < v then 0 else pm_pk n.toNat v.toNat n.toNat
theorem pm_mP_z {n v : Int} (h : v < 1 ∨ n < v) : (0 : Int) = pm_mP n v := (if_pos h).symm
theorem pm_mP_i {s : pm_H} {n p v x : Int} (W : pm_qH s n p) (X : s 63 0 (12 * v + n) = x) (h0 : 1 ≤ v) (h1 : v ≤ n) (h2 : n < p) : x = pm_mP n v := by
  unfold pm_mP
  rw [if_neg (by omega), ← X]
  exact W.1 v n (by omega) (by omega) (by omega) (by omega)
theorem pm_ms5 {n v x : Int} (B : x = pm_mP n (v + 1)) (h0 : 0 ≤ v) : x = pm_sv5 n v := by
  unfold pm_mP at B
  unfold pm_sv5
  by_cases z : n ≤ v
  · rw [if_pos (by omega)] at B
    rw [if_pos (by omega)]
    exact B
  · rw [if_neg (by omega), show (v + 1).toNat = v.toNat + 1 by omega] at B
    rw [if_neg (by omega)]
    exact B
/-! first wishes, ones -/
theorem pm_Sl_v (t : Int → Int) (n : Int) (L : Nat) : ∀ (d c : Nat), c ≤ L → pm_lv (pm_Sl t n L d) c = pm_S t n L d c := by
  intro d
  induction d with
  | zero =>
    intro c _
    cases c with
    | zero => rfl
    | succ c => exact pm_zl_v L c
  | succ d ih =>
    intro c h
    have e : pm_Sl t n L (d + 1) = pm_bl (fun c => if (c : Int) + pm_A t n (d + 1) ≤ ((d + 1 : Nat) : Int) then pm_sum (fun j => pm_lv (pm_Sl t n L d) (c - j) * pm_C (L - (c - j)) j) (c + 1) else 0) (L + 1) [] := rfl
    rw [e, pm_bl_v, if_pos (by omega)]
    simp only [pm_S]
    by_cases z : (c : Int) + pm_A t n (d + 1) ≤ ((d + 1 : Nat) : Int)
    · rw [if_pos z, if_pos z]
      exact pm_sum_cg (fun j _ => by rw [ih (c - j) (by omega)])
    · rw [if_neg z, if_neg z]
theorem pm_S_cg {t t' : Int → Int} {n : Int} {L : Nat} : ∀ {d : Nat}, (∀ u : Int, n - d < u → u ≤ n → t u = t' u) → ∀ c : Nat, pm_S t n L d c = pm_S t' n L d c := by
  intro d
  induction d with
  | zero => intro _ c; rfl
  | succ d ih =>
    intro h c
    simp only [pm_S]
    rw [pm_A_cg (d := d + 1) h]
    by_cases z : (c : Int) + pm_A t' n (d + 1) ≤ ((d + 1 : Nat) : Int)
    · rw [if_pos z, if_pos z]
      exact pm_sum_cg (fun j _ => by rw [ih (fun u a b => h u (by omega) b) (c - j)])
    · rw [if_neg z, if_neg z]
theorem pm_ms2 {n v a b c : Int} (A : a = pm_C (n - 1).toNat (v - 1).toNat) (B : b = pm_gr (v - 1).toNat) (C : c = pm_gr (n - v).toNat) (h1 : 1 ≤ v) (h2 : v ≤ n) : a * b * c * v = pm_sv2 n v := by
  unfold pm_sv2
  rw [if_neg (by omega), pm_sd_i A B C h1 h2, Int.mul_comm]
theorem pm_ms3 {n v x : Int} {t : Int → Int} (B : x = pm_F t n (n - 1)) (T : ∀ u : Int, 0 ≤ u → u ≤ 11 → t u = if u = v then 1 else 0) (h1 : 1 ≤ v) (h2 : v ≤ n) (h3 : n ≤ 10) : x = pm_sv3 n v := by
  have q := pm_wc1_t n.toNat (by omega) (by omega)
  unfold pm_wc1 at q
  have q3 := eq_of_beq ((pm_allN_iff n.toNat 1).mp q v.toNat (by omega) (by omega))
  unfold pm_sv3
  rw [if_neg (by omega), ← q3, B, show ((n.toNat : Nat) : Int) = n by omega, show ((v.toNat : Nat) : Int) = v by omega, pm_Sl_v _ _ _ _ _ (Nat.le_refl _)]
  unfold pm_F
  rw [show (n - 1).toNat = n.toNat - 1 by omega]
  exact pm_S_cg (fun u a b => T u (by omega) (by omega)) _
def pm_onr (n : Nat) : Bool := (decide (1 ≤ pm_lv (pm_Sl (fun _ => 0) n n n) n)) && (decide (pm_lv (pm_Sl (fun _ => 0) n n n) n ≤ 9223372036854775807))
theorem pm_onr_t : ∀ n : Nat, n < 11 → 1 ≤ n → pm_onr n = true := by decide +kernel
theorem pm_ms4b {n x : Int} {t : Int → Int} (B : x = pm_F t n n) (T : ∀ u : Int, 0 ≤ u → u ≤ 11 → t u = 0) (h1 : 1 ≤ n) (h2 : n ≤ 10) : 1 ≤ x ∧ x ≤ 9223372036854775807 := by
  have q := pm_onr_t n.toNat (by omega) (by omega)
  unfold pm_onr at q
  rw [Bool.and_eq_true] at q
  have q1 := of_decide_eq_true q.1
  have q2 := of_decide_eq_true q.2
  have e : x = pm_lv (pm_Sl (fun _ => 0) n.toNat n.toNat n.toNat) n.toNat := by
    rw [B, pm_Sl_v _ _ _ _ _ (Nat.le_refl _)]
    unfold pm_F
    rw [show ((n.toNat : Nat) : Int) = n by omega]
    exact pm_S_cg (fun u a b => T u (by omega) (by omega)) _
  rw [e]
  exact ⟨q1, q2⟩
theorem pm_ms4 {n v x : Int} {t : Int → Int} (B : x = pm_S t n n.toNat (n - 1).toNat (n - v).toNat) (T : ∀ u : Int, 0 ≤ u → u ≤ 11 → t u = 0) (h1 : 1 ≤ n) (h2 : n ≤ 10) (h3 : 0 ≤ v) (h4 : v ≤ n) : x = pm_sv4 n v := by
  have q := pm_onc_t n.toNat (by omega) (by omega)
  unfold pm_onc at q
  rw [Bool.and_eq_true] at q
  have q3 := eq_of_beq ((pm_allN_iff (n.toNat + 1) 0).mp q.2 v.toNat (by omega) (by omega))
  rw [pm_Sl_v _ _ _ _ _ (by omega)] at q3
  have e : x = pm_S (fun _ => 0) (n.toNat : Int) n.toNat (n.toNat - 1) (n.toNat - v.toNat) := by
    rw [B, show (n - 1).toNat = n.toNat - 1 by omega, show (n - v).toNat = n.toNat - v.toNat by omega, show ((n.toNat : Nat) : Int) = n by omega]
    exact pm_S_cg (fun u a b => T u (by omega) (by omega)) _
  rw [e, q3]
  unfold pm_sv4
  by_cases z : v = 0
  · rw [if_pos (by omega), if_pos (by omega)]
  · rw [if_neg (by omega), if_neg (by omega)]
theorem pm_zst {s s' : pm_H} {c : Nat} {v : Int} (Z : ∀ i : Int, 0 ≤ i → i < v → s c 0 i = 0) (e : s' = pm_up s c 0 v 0) : ∀ i : Int, 0 ≤ i → i < v + 1 → s' c 0 i = 0 := fun i a b => by
  by_cases z : i = v
  · rw [z]
    exact pm_at e
  · exact (pm_nei e z).trans (Z i a (by omega))
theorem pm_ost {s s' : pm_H} {c : Nat} {v x : Int} (Z : ∀ i : Int, 0 ≤ i → i < v → s c 0 i = if i = 1 then 1 else 0) (e : s' = pm_up s c 0 v x) (hx : (v = 1 ∧ x = 1) ∨ (v ≠ 1 ∧ x = 0)) : ∀ i : Int, 0 ≤ i → i < v + 1 → s' c 0 i = if i = 1 then 1 else 0 := fun i a b => by
  by_cases z : i = v
  · rw [z, pm_at e]
    rcases hx with ⟨h, k⟩ | ⟨h, k⟩
    · rw [if_pos h, k]
    · rw [if_neg h, k]
  · exact (pm_nei e z).trans (Z i a (by omega))
theorem pm_sZr {w n v : Int} (h1 : 1 ≤ n) (h2 : n ≤ 10) (hw : 2 ≤ w ∧ w ≤ 4) (h : v < 1 ∧ w ≠ 4 ∨ v < 0 ∨ n < v) : (0 : Int) = pm_sp w n v := by
  rcases (show w = 2 ∨ w = 3 ∨ w = 4 by omega) with z | z | z
  · exact pm_sp_i h1 h2 (Or.inr (Or.inr (Or.inl ⟨z, (if_pos (by omega)).symm⟩)))
  · exact pm_sp_i h1 h2 (Or.inr (Or.inr (Or.inr (Or.inl ⟨z, (if_pos (by omega)).symm⟩))))
  · exact pm_sp_i h1 h2 (Or.inr (Or.inr (Or.inr (Or.inr (Or.inl ⟨z, (if_pos (by omega)).symm⟩)))))
theorem pm_w1s {s s' : pm_H} {v u : Int} (e : s' = pm_up s 47 0 v 1) (W : s 47 0 u = 0) : s' 47 0 u = if u = v then 1 else 0 := by
  by_cases z : u = v
  · rw [if_pos z, z]
    exact pm_at e
  · rw [if_neg z, pm_nei e z]
    exact W
theorem pm_idx {f : Int → Int} {a b x : Int} (h : f a = x) (e : b = a) : f b = x := by
  rw [e]
  exact h

def pre_X11_powere (as : List pm_V) (n : Nat) (σ : pm_H) : Prop := ∃ bs ex : Int, as = [.inr (.inl bs), .inl ex] ∧ n = 122 ∧ pm_Rng σ ∧ (0 ≤ ex ∧ ex ≤ 10)
def po_X11_powere (as : List pm_V) (_ : Nat) (σ : pm_H) (r : Option pm_V) (τ : pm_H) : Prop := ∀ bs ex : Int, as = [.inr (.inl bs), .inl ex] → ∃ v : Int, r = some (.inr (.inl v)) ∧ σ = τ ∧ (v = bs ^ ex.toNat)
set_option maxRecDepth 20000 in
set_option maxHeartbeats 4000000 in
theorem ct_X11_powere : pm_Ct yX11_power cX11_power 6 (some .long) 0 0 pre_X11_powere po_X11_powere := pm_sound (ini := false) (by decide +kernel) pk_X11_power (fun h => absurd h (by decide)) (by
  rintro as n s0 ⟨bs, ex, rfl, rfl, R0, hpre⟩
  refine ⟨by decide, Nat.le_of_ble_eq_true rfl, fun G hG => ?_⟩
  have hG : pm_Rules (RX11, 0, 122, cX11_power, -1, (fun _ => 0), false, (some .long), po_X11_powere [.inr (.inl bs), .inl ex] 122 s0) G := hG
  show G 0 [some (.inr (.inl bs)), none, some (.inl ex), none, none, none] [] 122 s0
  refine px_lconst hG dX11_power_0 ?_
  show G 1 [some (.inr (.inl bs)), none, some (.inl ex), none, none, none] [.inr (.inl 1)] 122 s0
  refine px_lstore_n hG dX11_power_1 (Nat.le_of_ble_eq_true rfl) (L2 := [some (.inr (.inl bs)), none, some (.inl ex), some (.inr (.inl 1)), none, none]) rfl ?_
  refine px_iconst hG dX11_power_2 ?_
  refine px_istore hG dX11_power_3 (Nat.le_of_ble_eq_true rfl) (L2 := [some (.inr (.inl bs)), none, some (.inl ex), some (.inr (.inl 1)), none, some (.inl 0)]) rfl ?_
  have L5 : ∀ (N : Nat) (v3_1 : Int) (v5_2 : Int), ((0 ≤ v5_2 ∧ v5_2 ≤ 10000) ∧ (v3_1 = bs ^ v5_2.toNat ∧ v5_2 ≤ ex)) → (10001 - v5_2).toNat < N → G 5 [some (.inr (.inl bs)), none, some (.inl ex), some (.inr (.inl v3_1)), none, some (.inl v5_2)] [] 122 s0 := by
    intro N
    induction N with
    | zero => intro v3_1 v5_2 inv4 hm5; exact absurd hm5 (Nat.not_lt_zero _)
    | succ N ih3 =>
      intro v3_1 v5_2 inv4 hm5
      have U1 := (inv4.2).1
      have U2 := (inv4.2).2
      refine px_iload hG dX11_power_5 rfl ?_
      refine px_iload_n hG dX11_power_7 rfl ?_
      refine px_ic_ge hG dX11_power_8 (tgt := 21) (by decide) ⟨by omega, by omega⟩ ⟨by omega, by omega⟩ (fun c6 => ?_) (fun c6 => ?_)
      · have Q : v5_2 = ex := by omega
        rw [Q] at U1
        refine px_lload_n hG dX11_power_21 rfl ?_
        exact px_lret (st := []) hG dX11_power_22 rfl rfl (fun bs_1 ex_1 ee => by cases ee; exact ⟨_, rfl, rfl, U1⟩)
      · refine px_lload_n hG dX11_power_11 rfl ?_
        refine px_lload_n hG dX11_power_12 rfl ?_
        refine px_lmul hG dX11_power_13 ?_
        refine px_lstore_n hG dX11_power_14 (Nat.le_of_ble_eq_true rfl) (L2 := [some (.inr (.inl bs)), none, some (.inl ex), some (.inr (.inl (v3_1 * bs))), none, some (.inl v5_2)]) rfl ?_
        refine px_iinc hG dX11_power_15 (Nat.le_of_ble_eq_true rfl) rfl (L2 := [some (.inr (.inl bs)), none, some (.inl ex), some (.inr (.inl (v3_1 * bs))), none, some (.inl (v5_2 + 1))]) rfl ?_
        refine px_goto hG dX11_power_18 (tgt := 5) (by decide) ?_
        exact ih3 (v3_1 * bs) (v5_2 + 1) (⟨by omega, ⟨pm_pwr U1 (by omega), by omega⟩⟩) (by omega)
  exact L5 _ 1 0 (⟨by omega, ⟨(Int.pow_zero _).symm, by omega⟩⟩) (Nat.lt_succ_self _))
def pre_X11_allOfe (as : List pm_V) (n : Nat) (σ : pm_H) : Prop := ∃ pl : Int, as = [.inl pl] ∧ n = 122 ∧ pm_Rng σ ∧ (0 ≤ pl ∧ pl ≤ 10)
def po_X11_allOfe (as : List pm_V) (_ : Nat) (σ : pm_H) (r : Option pm_V) (τ : pm_H) : Prop := ∀ pl : Int, as = [.inl pl] → ∃ v : Int, r = some (.inr (.inl v)) ∧ σ = τ ∧ (v = pm_gr pl.toNat)
set_option maxRecDepth 20000 in
set_option maxHeartbeats 4000000 in
theorem ct_X11_allOfe : pm_Ct yX11_allOf cX11_allOf 1 (some .long) 1 0 pre_X11_allOfe po_X11_allOfe := pm_sound (ini := false) (by decide +kernel) pk_X11_allOf (fun h => absurd h (by decide)) (by
  rintro as n s0 ⟨pl, rfl, rfl, R0, hpre⟩
  refine ⟨by decide, Nat.le_of_ble_eq_true rfl, fun G hG => ?_⟩
  have hG : pm_Rules (RX11, 1, 122, cX11_allOf, -1, (fun _ => 0), false, (some .long), po_X11_allOfe [.inl pl] 122 s0) G := hG
  show G 0 [some (.inl pl)] [] 122 s0
  refine px_iload_n hG dX11_allOf_0 rfl ?_
  refine px_if_ne hG dX11_allOf_1 (tgt := 8) (by decide) ⟨by omega, by omega⟩ (fun c1 => ?_) (fun c1 => ?_)
  · refine px_iload_n hG dX11_allOf_8 rfl ?_
    refine px_iconst hG dX11_allOf_9 ?_
    refine px_iadd hG dX11_allOf_10 ?_
    refine px_i2l hG dX11_allOf_11 ⟨by omega, by omega⟩ ?_
    refine px_iload_n hG dX11_allOf_12 rfl ?_
    refine px_iconst hG dX11_allOf_13 ?_
    refine px_isub hG dX11_allOf_14 ?_
    refine js2 hG dX11_allOf_15 ct_X11_powere lk_X11_195 ⟨Nat.le_of_ble_eq_true rfl, Nat.le_of_ble_eq_true rfl, Nat.le_of_ble_eq_true rfl⟩ (Nat.le_of_ble_eq_true rfl) ⟨(pl + 1), (pl - 1), rfl, rfl, R0, by omega⟩ (fun r2 t3 pr2 => ?_)
    obtain ⟨z4, rfl, rfl, br2⟩ := pr2 _ _ rfl
    show G 18 [some (.inl pl)] [.inr (.inl z4)] 122 s0
    have W := br2
    exact px_lret (st := []) hG dX11_allOf_18 rfl rfl (fun pl_1 ee => by cases ee; exact ⟨_, rfl, rfl, by first | exact pm_gr_0 (by omega) | exact pm_gr_p W (by omega)⟩)
  · refine px_lconst hG dX11_allOf_4 ?_
    show G 5 [some (.inl pl)] [.inr (.inl 1)] 122 s0
    refine px_goto hG dX11_allOf_5 (tgt := 18) (by decide) ?_
    exact px_lret (st := []) hG dX11_allOf_18 rfl rfl (fun pl_1 ee => by cases ee; exact ⟨_, rfl, rfl, by first | exact pm_gr_0 (by omega) | exact pm_gr_p W (by omega)⟩))
def pre_X11_primesOfe (as : List pm_V) (n : Nat) (σ : pm_H) : Prop := ∃ pl : Int, as = [.inl pl] ∧ n = 122 ∧ pm_Rng σ ∧ (1 ≤ pl ∧ pl ≤ 10)
def po_X11_primesOfe (as : List pm_V) (_ : Nat) (σ : pm_H) (r : Option pm_V) (τ : pm_H) : Prop := ∀ pl : Int, as = [.inl pl] → ∃ v : Int, r = some (.inr (.inl v)) ∧ σ = τ ∧ (v = (pl - 1) ^ (pl - 1).toNat)
set_option maxRecDepth 20000 in
set_option maxHeartbeats 4000000 in
theorem ct_X11_primesOfe : pm_Ct yX11_primesOf cX11_primesOf 1 (some .long) 1 0 pre_X11_primesOfe po_X11_primesOfe := pm_sound (ini := false) (by decide +kernel) pk_X11_primesOf (fun h => absurd h (by decide)) (by
  rintro as n s0 ⟨pl, rfl, rfl, R0, hpre⟩
  refine ⟨by decide, Nat.le_of_ble_eq_true rfl, fun G hG => ?_⟩
  have hG : pm_Rules (RX11, 1, 122, cX11_primesOf, -1, (fun _ => 0), false, (some .long), po_X11_primesOfe [.inl pl] 122 s0) G := hG
  show G 0 [some (.inl pl)] [] 122 s0
  refine px_iload_n hG dX11_primesOf_0 rfl ?_
  refine px_iconst hG dX11_primesOf_1 ?_
  refine px_isub hG dX11_primesOf_2 ?_
  refine px_i2l hG dX11_primesOf_3 ⟨by omega, by omega⟩ ?_
  refine px_iload_n hG dX11_primesOf_4 rfl ?_
  refine px_iconst hG dX11_primesOf_5 ?_
  refine px_isub hG dX11_primesOf_6 ?_
  refine js2 hG dX11_primesOf_7 ct_X11_powere lk_X11_195 ⟨Nat.le_of_ble_eq_true rfl, Nat.le_of_ble_eq_true rfl, Nat.le_of_ble_eq_true rfl⟩ (Nat.le_of_ble_eq_true rfl) ⟨(pl - 1), (pl - 1), rfl, rfl, R0, by omega⟩ (fun r1 t2 pr1 => ?_)
  obtain ⟨z3, rfl, rfl, br1⟩ := pr1 _ _ rfl
  show G 10 [some (.inl pl)] [.inr (.inl z3)] 122 s0
  have W := br1
  exact px_lret (st := []) hG dX11_primesOf_10 rfl rfl (fun pl_1 ee => by cases ee; exact ⟨_, rfl, rfl, W⟩))
def pre_X11_withSume (as : List pm_V) (n : Nat) (σ : pm_H) : Prop := ∃ pl su : Int, as = [.inr (.inr (40, 0)), .inl pl, .inl su] ∧ n = 122 ∧ pm_Rng σ ∧ ((1 ≤ pl ∧ pl ≤ 10 ∧ pm_in su ∧ pm_CH σ) ∧ pm_J2 σ)
def po_X11_withSume (as : List pm_V) (_ : Nat) (σ : pm_H) (r : Option pm_V) (τ : pm_H) : Prop := ∀ pl su : Int, as = [.inr (.inr (40, 0)), .inl pl, .inl su] → ∃ v : Int, r = some (.inr (.inl v)) ∧ pm_Rng τ ∧ pm_Fr [(61, none)] σ τ ∧ (v = pm_mS pl su)
set_option maxRecDepth 20000 in
set_option maxHeartbeats 4000000 in
theorem ct_X11_withSume : pm_Ct yX11_withSum cX11_withSum 8 (some .long) 2 0 pre_X11_withSume po_X11_withSume := pm_sound (ini := false) (by decide +kernel) pk_X11_withSum (fun h => absurd h (by decide)) (by
  rintro as n s0 ⟨pl, su, rfl, rfl, R0, hpre⟩
  refine ⟨by decide, Nat.le_of_ble_eq_true rfl, fun G hG => ?_⟩
  have hG : pm_Rules (RX11, 2, 122, cX11_withSum, -1, (fun _ => 0), false, (some .long), po_X11_withSume [.inr (.inr (40, 0)), .inl pl, .inl su] 122 s0) G := hG
  show G 0 [some (.inr (.inr (40, 0))), some (.inl pl), some (.inl su), none, none, none, none, none] [] 122 s0
  have B0 := pb_40_0 R0
  have B1 := pb_40_1 R0
  have B2 := pb_40_2 R0
  have B3 := pb_40_3 R0
  have J2 := hpre.2
  have HP := hpre.1
  have JK := J2.1
  have JW := J2.2
  have CH := HP.2.2.2
  refine px_bipush hG dX11_withSum_0 (by decide) ?_
  refine px_istore_n hG dX11_withSum_2 (Nat.le_of_ble_eq_true rfl) (L2 := [some (.inr (.inr (40, 0))), some (.inl pl), some (.inl su), some (.inl 56), none, none, none, none]) rfl ?_
  refine px_iconst hG dX11_withSum_3 ?_
  refine px_istore hG dX11_withSum_4 (Nat.le_of_ble_eq_true rfl) (L2 := [some (.inr (.inr (40, 0))), some (.inl pl), some (.inl su), some (.inl 56), some (.inl 0), none, none, none]) rfl ?_
  have L6 : ∀ (N : Nat) (v4_1 : Int) (s2 : pm_H), pm_Rng s2 → pm_Fr [(61, none)] s0 s2 → ((0 ≤ v4_1 ∧ v4_1 ≤ 10000) ∧ (∀ i : Int, 0 ≤ i → i < v4_1 → s2 61 0 i = 0)) → (10001 - v4_1).toNat < N → G 6 [some (.inr (.inr (40, 0))), some (.inl pl), some (.inl su), some (.inl 56), some (.inl v4_1), none, none, none] [] 122 s2 := by
    intro N
    induction N with
    | zero => intro v4_1 s2 R3 F4 inv6 hm7; exact absurd hm7 (Nat.not_lt_zero _)
    | succ N ih5 =>
      intro v4_1 s2 R3 F4 inv6 hm7
      have jj8 := F4 40 0 0 rfl
      have jj9 := F4 40 0 1 rfl
      have jj10 := F4 40 0 2 rfl
      have jj11 := F4 40 0 3 rfl
      have Z := inv6.2
      refine px_iload hG dX11_withSum_6 rfl ?_
      refine px_sipush hG dX11_withSum_8 (by decide) ?_
      have J28_13 : ((v4_1 ≥ 8064)) → G 28 [some (.inr (.inr (40, 0))), some (.inl pl), some (.inl su), some (.inl 56), none, none, none, none] [] 122 s2 := by
        intro inv14
        refine px_aload_n hG dX11_withSum_28 rfl ?_
        refine gr_40_24 hG dX11_withSum_29 fl_X11_76 R3 ?_
        refine px_iload_n hG dX11_withSum_32 rfl ?_
        refine px_bipush hG dX11_withSum_33 (by decide) ?_
        refine px_imul hG dX11_withSum_35 ?_
        refine px_iload_n hG dX11_withSum_36 rfl ?_
        refine px_iconst hG dX11_withSum_37 ?_
        refine px_iadd hG dX11_withSum_38 ?_
        refine px_imul hG dX11_withSum_39 ?_
        refine px_lconst hG dX11_withSum_40 ?_
        show G 41 [some (.inr (.inr (40, 0))), some (.inl pl), some (.inl su), some (.inl 56), none, none, none, none] [.inr (.inl 1), .inl ((56 * 12) * (pl + 1)), .inr (.inr (61, 0))] 122 s2
        refine as_61 hG dX11_withSum_41 R3 (by omega) (fun s15 qs15 Rs15 => ?_)
        have Fs15 := pm_Fr_up (F4) qs15 (M := [(61, none)]) rfl
        have jj16 := pm_nec qs15 (c' := 40) (r' := 0) (i' := 0) (by decide)
        have jj17 := pm_nec qs15 (c' := 40) (r' := 0) (i' := 1) (by decide)
        have jj18 := pm_nec qs15 (c' := 40) (r' := 0) (i' := 2) (by decide)
        have jj19 := pm_nec qs15 (c' := 40) (r' := 0) (i' := 3) (by decide)
        have E2 := qs15
        refine px_iload_n hG dX11_withSum_42 rfl ?_
        refine px_istore hG dX11_withSum_43 (Nat.le_of_ble_eq_true rfl) (L2 := [some (.inr (.inr (40, 0))), some (.inl pl), some (.inl su), some (.inl 56), some (.inl pl), none, none, none]) rfl ?_
        have L45 : ∀ (N : Nat) (v4_20 : Int) (s21 : pm_H), pm_Rng s21 → pm_Fr [(61, none)] s0 s21 → ((-10000 ≤ v4_20 ∧ v4_20 ≤ pl) ∧ (pm_mH s21 pl v4_20 ∧ 0 ≤ v4_20 ∧ v4_20 ≤ pl)) → (v4_20 + 10001).toNat < N → G 45 [some (.inr (.inr (40, 0))), some (.inl pl), some (.inl su), some (.inl 56), some (.inl v4_20), none, none, none] [] 122 s21 := by
          intro N
          induction N with
          | zero => intro v4_20 s21 R22 F23 inv25 hm26; exact absurd hm26 (Nat.not_lt_zero _)
          | succ N ih24 =>
            intro v4_20 s21 R22 F23 inv25 hm26
            have jj27 := F23 40 0 0 rfl
            have jj28 := F23 40 0 1 rfl
            have jj29 := F23 40 0 2 rfl
            have jj30 := F23 40 0 3 rfl
            have V1 := (inv25.2).1
            have V2 := (inv25.2).2
            refine px_iload hG dX11_withSum_45 rfl ?_
            refine px_iconst hG dX11_withSum_47 ?_
            have J176_32 : ((v4_20 < 1)) → G 176 [some (.inr (.inr (40, 0))), some (.inl pl), some (.inl su), some (.inl 56), none, none, none, none] [] 122 s21 := by
              intro inv33
              refine px_iload_n hG dX11_withSum_176 rfl ?_
              refine px_i2l hG dX11_withSum_177 ⟨by omega, by omega⟩ ?_
              refine px_lconst hG dX11_withSum_178 ?_
              show G 179 [some (.inr (.inr (40, 0))), some (.inl pl), some (.inl su), some (.inl 56), none, none, none, none] [.inr (.inl 0), .inr (.inl su)] 122 s21
              refine px_iload_n hG dX11_withSum_179 rfl ?_
              refine px_iconst hG dX11_withSum_180 ?_
              refine px_isub hG dX11_withSum_181 ?_
              refine px_i2l hG dX11_withSum_182 ⟨by omega, by omega⟩ ?_
              refine js3 hG dX11_withSum_183 ct_X11_in lk_X11_96 ⟨Nat.le_of_ble_eq_true rfl, Nat.le_of_ble_eq_true rfl, Nat.le_of_ble_eq_true rfl⟩ (Nat.le_of_ble_eq_true rfl) ⟨su, 0, (56 - 1), rfl, rfl, R22, by omega⟩ (fun r34 t35 pr34 => ?_)
              obtain ⟨x36, rfl, rfl, br34⟩ := pr34 _ _ _ rfl
              show G 186 [some (.inr (.inr (40, 0))), some (.inl pl), some (.inl su), some (.inl 56), none, none, none, none] [.inl x36] 122 s21
              refine px_if_eq hG dX11_withSum_186 (tgt := 205) (by decide) ⟨by omega, by omega⟩ (fun c37 => ?_) (fun c37 => ?_)
              · refine px_lconst hG dX11_withSum_205 ?_
                show G 206 [some (.inr (.inr (40, 0))), some (.inl pl), some (.inl su), some (.inl 56), none, none, none, none] [.inr (.inl 0)] 122 s21
                have jj38 := F23 40 0 0 rfl
                have jj39 := F23 40 0 1 rfl
                have jj40 := F23 40 0 2 rfl
                have jj41 := F23 40 0 3 rfl
                exact px_lret (st := []) hG dX11_withSum_206 rfl rfl (fun pl_1 su_1 ee => by cases ee; exact ⟨_, rfl, R22, F23, by first | exact pm_mS_z (by omega) | exact pm_mS_i V1 (by omega) X3 (by omega) (by omega) (by omega) (by omega) (by omega)⟩)
              · refine px_aload_n hG dX11_withSum_189 rfl ?_
                refine gr_40_24 hG dX11_withSum_190 fl_X11_76 R22 ?_
                refine px_iload_n hG dX11_withSum_193 rfl ?_
                refine px_bipush hG dX11_withSum_194 (by decide) ?_
                refine px_iload_n hG dX11_withSum_196 rfl ?_
                refine px_iadd hG dX11_withSum_197 ?_
                refine px_imul hG dX11_withSum_198 ?_
                refine px_iload_n hG dX11_withSum_199 rfl ?_
                refine px_iadd hG dX11_withSum_200 ?_
                refine al_61 hG dX11_withSum_201 (by omega) (fun z42 ez42 => ?_)
                have X3 := ez42
                refine px_goto hG dX11_withSum_202 (tgt := 206) (by decide) ?_
                have jj43 := F23 40 0 0 rfl
                have jj44 := F23 40 0 1 rfl
                have jj45 := F23 40 0 2 rfl
                have jj46 := F23 40 0 3 rfl
                exact px_lret (st := []) hG dX11_withSum_206 rfl rfl (fun pl_1 su_1 ee => by cases ee; exact ⟨_, rfl, R22, F23, by first | exact pm_mS_z (by omega) | exact pm_mS_i V1 (by omega) X3 (by omega) (by omega) (by omega) (by omega) (by omega)⟩)
            refine px_ic_lt hG dX11_withSum_48 (tgt := 176) (by decide) ⟨by omega, by omega⟩ ⟨by omega, by omega⟩ (fun c31 => ?_) (fun c31 => ?_)
            · refine px_weak hG (L2 := [some (.inr (.inr (40, 0))), some (.inl pl), some (.inl su), some (.inl 56), none, none, none, none]) ⟨Or.inr rfl, Or.inr rfl, Or.inr rfl, Or.inr rfl, Or.inl rfl, Or.inr rfl, Or.inr rfl, Or.inr rfl, trivial⟩ ?_
              exact J176_32  (by omega)
            · refine px_iconst hG dX11_withSum_51 ?_
              refine px_istore hG dX11_withSum_52 (Nat.le_of_ble_eq_true rfl) (L2 := [some (.inr (.inr (40, 0))), some (.inl pl), some (.inl su), some (.inl 56), some (.inl v4_20), some (.inl 0), none, none]) rfl ?_
              have L54 : ∀ (N : Nat) (v5_47 : Int) (s48 : pm_H), pm_Rng s48 → pm_Fr [(61, none)] s0 s48 → ((0 ≤ v5_47 ∧ v5_47 ≤ 10000) ∧ (pm_mI s48 pl v4_20 v5_47 ∧ v5_47 ≤ pl - v4_20 + 2)) → (10001 - v5_47).toNat < N → G 54 [some (.inr (.inr (40, 0))), some (.inl pl), some (.inl su), some (.inl 56), some (.inl v4_20), some (.inl v5_47), none, none] [] 122 s48 := by
                intro N
                induction N with
                | zero => intro v5_47 s48 R49 F50 inv52 hm53; exact absurd hm53 (Nat.not_lt_zero _)
                | succ N ih51 =>
                  intro v5_47 s48 R49 F50 inv52 hm53
                  have jj54 := F50 40 0 0 rfl
                  have jj55 := F50 40 0 1 rfl
                  have jj56 := F50 40 0 2 rfl
                  have jj57 := F50 40 0 3 rfl
                  have U1 := (inv52.2).1
                  have U2 := (inv52.2).2
                  refine px_iload hG dX11_withSum_54 rfl ?_
                  refine px_iload_n hG dX11_withSum_56 rfl ?_
                  refine px_iload hG dX11_withSum_57 rfl ?_
                  refine px_isub hG dX11_withSum_59 ?_
                  refine px_iconst hG dX11_withSum_60 ?_
                  refine px_iadd hG dX11_withSum_61 ?_
                  refine px_ic_gt hG dX11_withSum_62 (tgt := 170) (by decide) ⟨by omega, by omega⟩ ⟨by omega, by omega⟩ (fun c58 => ?_) (fun c58 => ?_)
                  · refine px_iinc hG dX11_withSum_170 (Nat.le_of_ble_eq_true rfl) rfl (L2 := [some (.inr (.inr (40, 0))), some (.inl pl), some (.inl su), some (.inl 56), some (.inl (v4_20 + -1)), some (.inl v5_47), none, none]) rfl ?_
                    refine px_goto hG dX11_withSum_173 (tgt := 45) (by decide) ?_
                    refine px_weak hG (L2 := [some (.inr (.inr (40, 0))), some (.inl pl), some (.inl su), some (.inl 56), some (.inl (v4_20 + -1)), none, none, none]) ⟨Or.inr rfl, Or.inr rfl, Or.inr rfl, Or.inr rfl, Or.inr rfl, Or.inl rfl, Or.inr rfl, Or.inr rfl, trivial⟩ ?_
                    exact ih24 (v4_20 + -1) s48 R49 F50 (⟨by omega, ⟨pm_mH_n U1 (by omega) (by omega) (by omega), by omega, by omega⟩⟩) (by omega)
                  · refine px_iconst hG dX11_withSum_65 ?_
                    refine px_istore hG dX11_withSum_66 (Nat.le_of_ble_eq_true rfl) (L2 := [some (.inr (.inr (40, 0))), some (.inl pl), some (.inl su), some (.inl 56), some (.inl v4_20), some (.inl v5_47), some (.inl 0), none]) rfl ?_
                    have L68 : ∀ (N : Nat) (v6_59 : Int) (s60 : pm_H), pm_Rng s60 → pm_Fr [(61, none)] s0 s60 → ((0 ≤ v6_59 ∧ v6_59 ≤ 10000) ∧ (pm_mJ s60 pl v4_20 v5_47 v6_59 ∧ v6_59 ≤ v5_47 + 1)) → (10001 - v6_59).toNat < N → G 68 [some (.inr (.inr (40, 0))), some (.inl pl), some (.inl su), some (.inl 56), some (.inl v4_20), some (.inl v5_47), some (.inl v6_59), none] [] 122 s60 := by
                      intro N
                      induction N with
                      | zero => intro v6_59 s60 R61 F62 inv64 hm65; exact absurd hm65 (Nat.not_lt_zero _)
                      | succ N ih63 =>
                        intro v6_59 s60 R61 F62 inv64 hm65
                        have jj66 := F62 40 0 0 rfl
                        have jj67 := F62 40 0 1 rfl
                        have jj68 := F62 40 0 2 rfl
                        have jj69 := F62 40 0 3 rfl
                        have T1 := (inv64.2).1
                        have T2 := (inv64.2).2
                        refine px_iload hG dX11_withSum_68 rfl ?_
                        refine px_iload hG dX11_withSum_70 rfl ?_
                        refine px_ic_gt hG dX11_withSum_72 (tgt := 164) (by decide) ⟨by omega, by omega⟩ ⟨by omega, by omega⟩ (fun c70 => ?_) (fun c70 => ?_)
                        · refine px_iinc hG dX11_withSum_164 (Nat.le_of_ble_eq_true rfl) rfl (L2 := [some (.inr (.inr (40, 0))), some (.inl pl), some (.inl su), some (.inl 56), some (.inl v4_20), some (.inl (v5_47 + 1)), some (.inl v6_59), none]) rfl ?_
                          refine px_goto hG dX11_withSum_167 (tgt := 54) (by decide) ?_
                          refine px_weak hG (L2 := [some (.inr (.inr (40, 0))), some (.inl pl), some (.inl su), some (.inl 56), some (.inl v4_20), some (.inl (v5_47 + 1)), none, none]) ⟨Or.inr rfl, Or.inr rfl, Or.inr rfl, Or.inr rfl, Or.inr rfl, Or.inr rfl, Or.inl rfl, Or.inr rfl, trivial⟩ ?_
                          exact ih51 (v5_47 + 1) s60 R61 F62 (⟨by omega, ⟨pm_mI_n T1 (by omega) (by omega), by omega⟩⟩) (by omega)
                        · refine px_iload hG dX11_withSum_75 rfl ?_
                          refine px_iload hG dX11_withSum_77 rfl ?_
                          refine px_imul hG dX11_withSum_79 ?_
                          have M1 := pm_mul_bd (a := v6_59) (b := v4_20) (A := 10) (B := 10) (by omega) (by omega)
                          refine px_istore hG dX11_withSum_80 (Nat.le_of_ble_eq_true rfl) (L2 := [some (.inr (.inr (40, 0))), some (.inl pl), some (.inl su), some (.inl 56), some (.inl v4_20), some (.inl v5_47), some (.inl v6_59), some (.inl (v6_59 * v4_20))]) rfl ?_
                          have L82 : ∀ (N : Nat) (v7_71 : Int) (s72 : pm_H), pm_Rng s72 → pm_Fr [(61, none)] s0 s72 → ((pm_mK s72 pl v4_20 v5_47 v6_59 v7_71 ∧ v6_59 * v4_20 ≤ v7_71 ∧ v7_71 ≤ 10000)) → (10001 - v7_71).toNat < N → G 82 [some (.inr (.inr (40, 0))), some (.inl pl), some (.inl su), some (.inl 56), some (.inl v4_20), some (.inl v5_47), some (.inl v6_59), some (.inl v7_71)] [] 122 s72 := by
                            intro N
                            induction N with
                            | zero => intro v7_71 s72 R73 F74 inv76 hm77; exact absurd hm77 (Nat.not_lt_zero _)
                            | succ N ih75 =>
                              intro v7_71 s72 R73 F74 inv76 hm77
                              have jj78 := F74 40 0 0 rfl
                              have jj79 := F74 40 0 1 rfl
                              have jj80 := F74 40 0 2 rfl
                              have jj81 := F74 40 0 3 rfl
                              have S1 := (inv76).1
                              have S2 := (inv76).2.1
                              have S3 := (inv76).2.2
                              refine px_iload hG dX11_withSum_82 rfl ?_
                              refine px_iload_n hG dX11_withSum_84 rfl ?_
                              refine px_ic_ge hG dX11_withSum_85 (tgt := 158) (by decide) ⟨by omega, by omega⟩ ⟨by omega, by omega⟩ (fun c82 => ?_) (fun c82 => ?_)
                              · refine px_iinc hG dX11_withSum_158 (Nat.le_of_ble_eq_true rfl) rfl (L2 := [some (.inr (.inr (40, 0))), some (.inl pl), some (.inl su), some (.inl 56), some (.inl v4_20), some (.inl v5_47), some (.inl (v6_59 + 1)), some (.inl v7_71)]) rfl ?_
                                refine px_goto hG dX11_withSum_161 (tgt := 68) (by decide) ?_
                                refine px_weak hG (L2 := [some (.inr (.inr (40, 0))), some (.inl pl), some (.inl su), some (.inl 56), some (.inl v4_20), some (.inl v5_47), some (.inl (v6_59 + 1)), none]) ⟨Or.inr rfl, Or.inr rfl, Or.inr rfl, Or.inr rfl, Or.inr rfl, Or.inr rfl, Or.inr rfl, Or.inl rfl, trivial⟩ ?_
                                exact ih63 (v6_59 + 1) s72 R73 F74 (⟨by omega, ⟨pm_mJ_n S1 (by omega) (by omega), by omega⟩⟩) (by omega)
                              · refine px_aload_n hG dX11_withSum_88 rfl ?_
                                refine gr_40_24 hG dX11_withSum_89 fl_X11_76 R73 ?_
                                refine px_iload_n hG dX11_withSum_92 rfl ?_
                                refine px_bipush hG dX11_withSum_93 (by decide) ?_
                                refine px_iload hG dX11_withSum_95 rfl ?_
                                refine px_imul hG dX11_withSum_97 ?_
                                refine px_iload hG dX11_withSum_98 rfl ?_
                                refine px_iadd hG dX11_withSum_100 ?_
                                refine px_imul hG dX11_withSum_101 ?_
                                refine px_iload hG dX11_withSum_102 rfl ?_
                                refine px_iadd hG dX11_withSum_104 ?_
                                refine px_dup2 hG dX11_withSum_105 ?_
                                refine al_61 hG dX11_withSum_106 (by omega) (fun z83 ez83 => ?_)
                                have X1 := ez83
                                refine px_aload_n hG dX11_withSum_107 rfl ?_
                                refine gr_40_24 hG dX11_withSum_108 fl_X11_76 R73 ?_
                                refine px_iload_n hG dX11_withSum_111 rfl ?_
                                refine px_bipush hG dX11_withSum_112 (by decide) ?_
                                refine px_iload hG dX11_withSum_114 rfl ?_
                                refine px_iconst hG dX11_withSum_116 ?_
                                refine px_iadd hG dX11_withSum_117 ?_
                                refine px_imul hG dX11_withSum_118 ?_
                                refine px_iload hG dX11_withSum_119 rfl ?_
                                refine px_iadd hG dX11_withSum_121 ?_
                                refine px_iload hG dX11_withSum_122 rfl ?_
                                refine px_isub hG dX11_withSum_124 ?_
                                refine px_imul hG dX11_withSum_125 ?_
                                refine px_iload hG dX11_withSum_126 rfl ?_
                                refine px_iadd hG dX11_withSum_128 ?_
                                refine px_iload hG dX11_withSum_129 rfl ?_
                                refine px_iload hG dX11_withSum_131 rfl ?_
                                refine px_imul hG dX11_withSum_133 ?_
                                refine px_isub hG dX11_withSum_134 ?_
                                refine al_61 hG dX11_withSum_135 (by omega) (fun z84 ez84 => ?_)
                                have X2 := ez84
                                refine px_aload_n hG dX11_withSum_136 rfl ?_
                                refine px_iload_n hG dX11_withSum_137 rfl ?_
                                refine px_iload hG dX11_withSum_138 rfl ?_
                                refine px_iload hG dX11_withSum_140 rfl ?_
                                refine px_isub hG dX11_withSum_142 ?_
                                refine px_isub hG dX11_withSum_143 ?_
                                refine px_iload hG dX11_withSum_144 rfl ?_
                                refine jv2 hG dX11_withSum_146 ct_X11_choosee lk_X11_148 ⟨rfl, rfl⟩ (by decide) ⟨Nat.le_of_ble_eq_true rfl, Nat.le_of_ble_eq_true rfl, Nat.le_of_ble_eq_true rfl⟩ (Nat.le_of_ble_eq_true rfl) ⟨(pl - (v5_47 - v6_59)), v6_59, rfl, rfl, R73, ⟨⟨by omega, by omega, by omega, by omega, pm_CH_eq (fun i => F74 46 0 i rfl) CH⟩, (pm_J2_fr F74 rfl J2)⟩⟩ (fun r85 t86 pr85 => ?_)
                                obtain ⟨z87, rfl, rfl, br85⟩ := pr85 _ _ rfl
                                show G 149 [some (.inr (.inr (40, 0))), some (.inl pl), some (.inl su), some (.inl 56), some (.inl v4_20), some (.inl v5_47), some (.inl v6_59), some (.inl v7_71)] [.inr (.inl z87), .inr (.inl z84), .inr (.inl z83), .inl ((56 * ((12 * v4_20) + v5_47)) + v7_71), .inr (.inr (61, 0))] 122 s72
                                have B := br85
                                refine px_lmul hG dX11_withSum_149 ?_
                                refine px_ladd hG dX11_withSum_150 ?_
                                refine as_61 hG dX11_withSum_151 R73 (by omega) (fun s88 qs88 Rs88 => ?_)
                                have Fs88 := pm_Fr_up (F74) qs88 (M := [(61, none)]) rfl
                                have jj89 := pm_nec qs88 (c' := 40) (r' := 0) (i' := 0) (by decide)
                                have jj90 := pm_nec qs88 (c' := 40) (r' := 0) (i' := 1) (by decide)
                                have jj91 := pm_nec qs88 (c' := 40) (r' := 0) (i' := 2) (by decide)
                                have jj92 := pm_nec qs88 (c' := 40) (r' := 0) (i' := 3) (by decide)
                                have E3 := qs88
                                refine px_iinc hG dX11_withSum_152 (Nat.le_of_ble_eq_true rfl) rfl (L2 := [some (.inr (.inr (40, 0))), some (.inl pl), some (.inl su), some (.inl 56), some (.inl v4_20), some (.inl v5_47), some (.inl v6_59), some (.inl (v7_71 + 1))]) rfl ?_
                                refine px_goto hG dX11_withSum_155 (tgt := 82) (by decide) ?_
                                exact ih75 (v7_71 + 1) s88 Rs88 Fs88 (⟨pm_mK_s S1 X2 X1 B E3 rfl (by omega) (by omega) (by omega) (by omega) (by omega) (by omega) (by omega) (by omega), by omega, by omega⟩) (by omega)
                          exact L82 _ (v6_59 * v4_20) s60 R61 F62 (⟨pm_mK_0 T1 rfl (by omega) (by omega), by omega, by omega⟩) (Nat.lt_succ_self _)
                    exact L68 _ 0 s48 R49 F50 (⟨by omega, ⟨pm_mJ_0 U1 (by omega) (by omega), by omega⟩⟩) (Nat.lt_succ_self _)
              exact L54 _ 0 s21 R22 F23 (⟨by omega, ⟨pm_mI_0 V1 (by omega), by omega⟩⟩) (Nat.lt_succ_self _)
        exact L45 _ pl s15 Rs15 Fs15 (⟨by omega, ⟨pm_mH_0 (fun q a b => Z q a (by omega)) E2 (by omega) (by omega) (by omega), by omega, by omega⟩⟩) (Nat.lt_succ_self _)
      refine px_ic_ge hG dX11_withSum_11 (tgt := 28) (by decide) ⟨by omega, by omega⟩ ⟨by omega, by omega⟩ (fun c12 => ?_) (fun c12 => ?_)
      · refine px_weak hG (L2 := [some (.inr (.inr (40, 0))), some (.inl pl), some (.inl su), some (.inl 56), none, none, none, none]) ⟨Or.inr rfl, Or.inr rfl, Or.inr rfl, Or.inr rfl, Or.inl rfl, Or.inr rfl, Or.inr rfl, Or.inr rfl, trivial⟩ ?_
        exact J28_13  (by omega)
      · refine px_aload_n hG dX11_withSum_14 rfl ?_
        refine gr_40_24 hG dX11_withSum_15 fl_X11_76 R3 ?_
        refine px_iload hG dX11_withSum_18 rfl ?_
        refine px_lconst hG dX11_withSum_20 ?_
        show G 21 [some (.inr (.inr (40, 0))), some (.inl pl), some (.inl su), some (.inl 56), some (.inl v4_1), none, none, none] [.inr (.inl 0), .inl v4_1, .inr (.inr (61, 0))] 122 s2
        refine as_61 hG dX11_withSum_21 R3 (by omega) (fun s93 qs93 Rs93 => ?_)
        have Fs93 := pm_Fr_up (F4) qs93 (M := [(61, none)]) rfl
        have jj94 := pm_nec qs93 (c' := 40) (r' := 0) (i' := 0) (by decide)
        have jj95 := pm_nec qs93 (c' := 40) (r' := 0) (i' := 1) (by decide)
        have jj96 := pm_nec qs93 (c' := 40) (r' := 0) (i' := 2) (by decide)
        have jj97 := pm_nec qs93 (c' := 40) (r' := 0) (i' := 3) (by decide)
        have E1 := qs93
        refine px_iinc hG dX11_withSum_22 (Nat.le_of_ble_eq_true rfl) rfl (L2 := [some (.inr (.inr (40, 0))), some (.inl pl), some (.inl su), some (.inl 56), some (.inl (v4_1 + 1)), none, none, none]) rfl ?_
        refine px_goto hG dX11_withSum_25 (tgt := 6) (by decide) ?_
        exact ih5 (v4_1 + 1) s93 Rs93 Fs93 (⟨by omega, pm_zst Z E1⟩) (by omega)
  exact L6 _ 0 s0 R0 pm_Fr_rf (⟨by omega, fun i a b => by omega⟩) (Nat.lt_succ_self _))
def pre_X11_withLuckye (as : List pm_V) (n : Nat) (σ : pm_H) : Prop := ∃ pl vv : Int, as = [.inr (.inr (40, 0)), .inl pl, .inl vv] ∧ n = 122 ∧ pm_Rng σ ∧ ((1 ≤ pl ∧ pl ≤ 10 ∧ pm_in vv) ∧ pm_J2 σ)
def po_X11_withLuckye (as : List pm_V) (_ : Nat) (σ : pm_H) (r : Option pm_V) (τ : pm_H) : Prop := ∀ pl vv : Int, as = [.inr (.inr (40, 0)), .inl pl, .inl vv] → ∃ v : Int, r = some (.inr (.inl v)) ∧ pm_Rng τ ∧ pm_Fr [(62, none)] σ τ ∧ (v = pm_mL pl vv)
set_option maxRecDepth 20000 in
set_option maxHeartbeats 4000000 in
theorem ct_X11_withLuckye : pm_Ct yX11_withLucky cX11_withLucky 5 (some .long) 1 0 pre_X11_withLuckye po_X11_withLuckye := pm_sound (ini := false) (by decide +kernel) pk_X11_withLucky (fun h => absurd h (by decide)) (by
  rintro as n s0 ⟨pl, vv, rfl, rfl, R0, hpre⟩
  refine ⟨by decide, Nat.le_of_ble_eq_true rfl, fun G hG => ?_⟩
  have hG : pm_Rules (RX11, 1, 122, cX11_withLucky, -1, (fun _ => 0), false, (some .long), po_X11_withLuckye [.inr (.inr (40, 0)), .inl pl, .inl vv] 122 s0) G := hG
  show G 0 [some (.inr (.inr (40, 0))), some (.inl pl), some (.inl vv), none, none] [] 122 s0
  have B0 := pb_40_0 R0
  have B1 := pb_40_1 R0
  have B2 := pb_40_2 R0
  have B3 := pb_40_3 R0
  have J2 := hpre.2
  have HP := hpre.1
  have JK := J2.1
  have JW := J2.2
  refine px_iconst hG dX11_withLucky_0 ?_
  refine px_istore_n hG dX11_withLucky_1 (Nat.le_of_ble_eq_true rfl) (L2 := [some (.inr (.inr (40, 0))), some (.inl pl), some (.inl vv), some (.inl 0), none]) rfl ?_
  have L2 : ∀ (N : Nat) (v3_1 : Int) (s2 : pm_H), pm_Rng s2 → pm_Fr [(62, none)] s0 s2 → ((0 ≤ v3_1 ∧ v3_1 ≤ 10000) ∧ (∀ i : Int, 0 ≤ i → i < v3_1 → s2 62 0 i = if i = 1 then 1 else 0)) → (10001 - v3_1).toNat < N → G 2 [some (.inr (.inr (40, 0))), some (.inl pl), some (.inl vv), some (.inl v3_1), none] [] 122 s2 := by
    intro N
    induction N with
    | zero => intro v3_1 s2 R3 F4 inv6 hm7; exact absurd hm7 (Nat.not_lt_zero _)
    | succ N ih5 =>
      intro v3_1 s2 R3 F4 inv6 hm7
      have jj8 := F4 40 0 0 rfl
      have jj9 := F4 40 0 1 rfl
      have jj10 := F4 40 0 2 rfl
      have jj11 := F4 40 0 3 rfl
      have Z := inv6.2
      refine px_iload_n hG dX11_withLucky_2 rfl ?_
      refine px_bipush hG dX11_withLucky_3 (by decide) ?_
      have J30_13 : ((v3_1 ≥ 12)) → G 30 [some (.inr (.inr (40, 0))), some (.inl pl), some (.inl vv), none, none] [] 122 s2 := by
        intro inv14
        refine px_iconst hG dX11_withLucky_30 ?_
        refine px_istore_n hG dX11_withLucky_31 (Nat.le_of_ble_eq_true rfl) (L2 := [some (.inr (.inr (40, 0))), some (.inl pl), some (.inl vv), some (.inl 1), none]) rfl ?_
        have L32 : ∀ (N : Nat) (v3_15 : Int) (s16 : pm_H), pm_Rng s16 → pm_Fr [(62, none)] s0 s16 → ((1 ≤ v3_15 ∧ v3_15 ≤ 10000) ∧ (pm_LR 12 (pm_lu pl.toNat (v3_15 - 1).toNat) (s16 62 0) ∧ v3_15 ≤ pl)) → (10001 - v3_15).toNat < N → G 32 [some (.inr (.inr (40, 0))), some (.inl pl), some (.inl vv), some (.inl v3_15), none] [] 122 s16 := by
          intro N
          induction N with
          | zero => intro v3_15 s16 R17 F18 inv20 hm21; exact absurd hm21 (Nat.not_lt_zero _)
          | succ N ih19 =>
            intro v3_15 s16 R17 F18 inv20 hm21
            have jj22 := F18 40 0 0 rfl
            have jj23 := F18 40 0 1 rfl
            have jj24 := F18 40 0 2 rfl
            have jj25 := F18 40 0 3 rfl
            have V1 := (inv20.2).1
            have V2 := (inv20.2).2
            refine px_iload_n hG dX11_withLucky_32 rfl ?_
            refine px_iload_n hG dX11_withLucky_33 rfl ?_
            have J101_27 : ((v3_15 ≥ pl)) → G 101 [some (.inr (.inr (40, 0))), none, some (.inl vv), none, none] [] 122 s16 := by
              intro inv28
              refine px_iload_n hG dX11_withLucky_101 rfl ?_
              refine px_i2l hG dX11_withLucky_102 ⟨by omega, by omega⟩ ?_
              refine px_lconst hG dX11_withLucky_103 ?_
              show G 104 [some (.inr (.inr (40, 0))), none, some (.inl vv), none, none] [.inr (.inl 0), .inr (.inl vv)] 122 s16
              refine px_ldc2 hG dX11_withLucky_104 cn_X11_240 ?_
              show G 107 [some (.inr (.inr (40, 0))), none, some (.inl vv), none, none] [.inr (.inl 11), .inr (.inl 0), .inr (.inl vv)] 122 s16
              refine js3 hG dX11_withLucky_107 ct_X11_in lk_X11_96 ⟨Nat.le_of_ble_eq_true rfl, Nat.le_of_ble_eq_true rfl, Nat.le_of_ble_eq_true rfl⟩ (Nat.le_of_ble_eq_true rfl) ⟨vv, 0, 11, rfl, rfl, R17, by omega⟩ (fun r29 t30 pr29 => ?_)
              obtain ⟨x31, rfl, rfl, br29⟩ := pr29 _ _ _ rfl
              show G 110 [some (.inr (.inr (40, 0))), none, some (.inl vv), none, none] [.inl x31] 122 s16
              refine px_if_eq hG dX11_withLucky_110 (tgt := 122) (by decide) ⟨by omega, by omega⟩ (fun c32 => ?_) (fun c32 => ?_)
              · refine px_lconst hG dX11_withLucky_122 ?_
                show G 123 [some (.inr (.inr (40, 0))), none, some (.inl vv), none, none] [.inr (.inl 0)] 122 s16
                have jj33 := F18 40 0 0 rfl
                have jj34 := F18 40 0 1 rfl
                have jj35 := F18 40 0 2 rfl
                have jj36 := F18 40 0 3 rfl
                exact px_lret (st := []) hG dX11_withLucky_123 rfl rfl (fun pl_1 vv_1 ee => by cases ee; exact ⟨_, rfl, R17, F18, by first | exact pm_mL_z (by omega) | exact pm_mL_i V1 X3 (by omega) (by omega) (by omega)⟩)
              · refine px_aload_n hG dX11_withLucky_113 rfl ?_
                refine gr_40_25 hG dX11_withLucky_114 fl_X11_79 R17 ?_
                refine px_iload_n hG dX11_withLucky_117 rfl ?_
                refine al_62 hG dX11_withLucky_118 (by omega) (fun z37 ez37 => ?_)
                have X3 := ez37
                refine px_goto hG dX11_withLucky_119 (tgt := 123) (by decide) ?_
                have jj38 := F18 40 0 0 rfl
                have jj39 := F18 40 0 1 rfl
                have jj40 := F18 40 0 2 rfl
                have jj41 := F18 40 0 3 rfl
                exact px_lret (st := []) hG dX11_withLucky_123 rfl rfl (fun pl_1 vv_1 ee => by cases ee; exact ⟨_, rfl, R17, F18, by first | exact pm_mL_z (by omega) | exact pm_mL_i V1 X3 (by omega) (by omega) (by omega)⟩)
            refine px_ic_ge hG dX11_withLucky_34 (tgt := 101) (by decide) ⟨by omega, by omega⟩ ⟨by omega, by omega⟩ (fun c26 => ?_) (fun c26 => ?_)
            · refine px_weak hG (L2 := [some (.inr (.inr (40, 0))), none, some (.inl vv), none, none]) ⟨Or.inr rfl, Or.inl rfl, Or.inr rfl, Or.inl rfl, Or.inr rfl, trivial⟩ ?_
              exact J101_27  (by omega)
            · refine px_bipush hG dX11_withLucky_37 (by decide) ?_
              refine px_istore hG dX11_withLucky_39 (Nat.le_of_ble_eq_true rfl) (L2 := [some (.inr (.inr (40, 0))), some (.inl pl), some (.inl vv), some (.inl v3_15), some (.inl 11)]) rfl ?_
              have L41 : ∀ (N : Nat) (v4_42 : Int) (s43 : pm_H), pm_Rng s43 → pm_Fr [(62, none)] s0 s43 → ((-10000 ≤ v4_42 ∧ v4_42 ≤ 11) ∧ (pm_lW s43 pl v3_15 v4_42 ∧ -1 ≤ v4_42)) → (v4_42 + 10001).toNat < N → G 41 [some (.inr (.inr (40, 0))), some (.inl pl), some (.inl vv), some (.inl v3_15), some (.inl v4_42)] [] 122 s43 := by
                intro N
                induction N with
                | zero => intro v4_42 s43 R44 F45 inv47 hm48; exact absurd hm48 (Nat.not_lt_zero _)
                | succ N ih46 =>
                  intro v4_42 s43 R44 F45 inv47 hm48
                  have jj49 := F45 40 0 0 rfl
                  have jj50 := F45 40 0 1 rfl
                  have jj51 := F45 40 0 2 rfl
                  have jj52 := F45 40 0 3 rfl
                  have U1 := (inv47.2).1
                  have U2 := (inv47.2).2
                  refine px_iload hG dX11_withLucky_41 rfl ?_
                  refine px_if_lt hG dX11_withLucky_43 (tgt := 95) (by decide) ⟨by omega, by omega⟩ (fun c53 => ?_) (fun c53 => ?_)
                  · refine px_iinc hG dX11_withLucky_95 (Nat.le_of_ble_eq_true rfl) rfl (L2 := [some (.inr (.inr (40, 0))), some (.inl pl), some (.inl vv), some (.inl (v3_15 + 1)), some (.inl v4_42)]) rfl ?_
                    refine px_goto hG dX11_withLucky_98 (tgt := 32) (by decide) ?_
                    refine px_weak hG (L2 := [some (.inr (.inr (40, 0))), some (.inl pl), some (.inl vv), some (.inl (v3_15 + 1)), none]) ⟨Or.inr rfl, Or.inr rfl, Or.inr rfl, Or.inr rfl, Or.inl rfl, trivial⟩ ?_
                    exact ih19 (v3_15 + 1) s43 R44 F45 (⟨by omega, ⟨pm_lW_n U1 (by omega), by omega⟩⟩) (by omega)
                  · refine px_aload_n hG dX11_withLucky_46 rfl ?_
                    refine gr_40_25 hG dX11_withLucky_47 fl_X11_79 R44 ?_
                    refine px_iload hG dX11_withLucky_50 rfl ?_
                    refine px_iload_n hG dX11_withLucky_52 rfl ?_
                    refine px_i2l hG dX11_withLucky_53 ⟨by omega, by omega⟩ ?_
                    refine px_aload_n hG dX11_withLucky_54 rfl ?_
                    refine gr_40_25 hG dX11_withLucky_55 fl_X11_79 R44 ?_
                    refine px_iload hG dX11_withLucky_58 rfl ?_
                    refine al_62 hG dX11_withLucky_60 (by omega) (fun z54 ez54 => ?_)
                    have X1 := ez54
                    refine px_lmul hG dX11_withLucky_61 ?_
                    refine px_iload hG dX11_withLucky_62 rfl ?_
                    refine px_if_le hG dX11_withLucky_64 (tgt := 86) (by decide) ⟨by omega, by omega⟩ (fun c55 => ?_) (fun c55 => ?_)
                    · refine px_lconst hG dX11_withLucky_86 ?_
                      show G 87 [some (.inr (.inr (40, 0))), some (.inl pl), some (.inl vv), some (.inl v3_15), some (.inl v4_42)] [.inr (.inl 0), .inr (.inl (v3_15 * z54)), .inl v4_42, .inr (.inr (62, 0))] 122 s43
                      refine px_ladd hG dX11_withLucky_87 ?_
                      refine as_62 hG dX11_withLucky_88 R44 (by omega) (fun s56 qs56 Rs56 => ?_)
                      have Fs56 := pm_Fr_up (F45) qs56 (M := [(62, none)]) rfl
                      have jj57 := pm_nec qs56 (c' := 40) (r' := 0) (i' := 0) (by decide)
                      have jj58 := pm_nec qs56 (c' := 40) (r' := 0) (i' := 1) (by decide)
                      have jj59 := pm_nec qs56 (c' := 40) (r' := 0) (i' := 2) (by decide)
                      have jj60 := pm_nec qs56 (c' := 40) (r' := 0) (i' := 3) (by decide)
                      have E2 := qs56
                      refine px_iinc hG dX11_withLucky_89 (Nat.le_of_ble_eq_true rfl) rfl (L2 := [some (.inr (.inr (40, 0))), some (.inl pl), some (.inl vv), some (.inl v3_15), some (.inl (v4_42 + -1))]) rfl ?_
                      refine px_goto hG dX11_withLucky_92 (tgt := 41) (by decide) ?_
                      exact ih46 (v4_42 + -1) s56 Rs56 Fs56 (⟨by omega, by first | exact ⟨pm_lW_s U1 X1 E2 rfl (Or.inr ⟨by omega, by rw [X2]⟩) (by omega) (by omega) (by omega) (by omega), by omega⟩ | exact ⟨pm_lW_s U1 X1 E2 rfl (Or.inl ⟨by omega, rfl⟩) (by omega) (by omega) (by omega) (by omega), by omega⟩⟩) (by omega)
                    · refine px_iload_n hG dX11_withLucky_67 rfl ?_
                      refine px_iload_n hG dX11_withLucky_68 rfl ?_
                      refine px_isub hG dX11_withLucky_69 ?_
                      refine px_iconst hG dX11_withLucky_70 ?_
                      refine px_iadd hG dX11_withLucky_71 ?_
                      refine px_i2l hG dX11_withLucky_72 ⟨by omega, by omega⟩ ?_
                      refine px_aload_n hG dX11_withLucky_73 rfl ?_
                      refine gr_40_25 hG dX11_withLucky_74 fl_X11_79 R44 ?_
                      refine px_iload hG dX11_withLucky_77 rfl ?_
                      refine px_iconst hG dX11_withLucky_79 ?_
                      refine px_isub hG dX11_withLucky_80 ?_
                      refine al_62 hG dX11_withLucky_81 (by omega) (fun z61 ez61 => ?_)
                      have X2 := ez61
                      refine px_lmul hG dX11_withLucky_82 ?_
                      refine px_goto hG dX11_withLucky_83 (tgt := 87) (by decide) ?_
                      refine px_ladd hG dX11_withLucky_87 ?_
                      refine as_62 hG dX11_withLucky_88 R44 (by omega) (fun s62 qs62 Rs62 => ?_)
                      have Fs62 := pm_Fr_up (F45) qs62 (M := [(62, none)]) rfl
                      have jj63 := pm_nec qs62 (c' := 40) (r' := 0) (i' := 0) (by decide)
                      have jj64 := pm_nec qs62 (c' := 40) (r' := 0) (i' := 1) (by decide)
                      have jj65 := pm_nec qs62 (c' := 40) (r' := 0) (i' := 2) (by decide)
                      have jj66 := pm_nec qs62 (c' := 40) (r' := 0) (i' := 3) (by decide)
                      have E2 := qs62
                      refine px_iinc hG dX11_withLucky_89 (Nat.le_of_ble_eq_true rfl) rfl (L2 := [some (.inr (.inr (40, 0))), some (.inl pl), some (.inl vv), some (.inl v3_15), some (.inl (v4_42 + -1))]) rfl ?_
                      refine px_goto hG dX11_withLucky_92 (tgt := 41) (by decide) ?_
                      exact ih46 (v4_42 + -1) s62 Rs62 Fs62 (⟨by omega, by first | exact ⟨pm_lW_s U1 X1 E2 rfl (Or.inr ⟨by omega, by rw [X2]⟩) (by omega) (by omega) (by omega) (by omega), by omega⟩ | exact ⟨pm_lW_s U1 X1 E2 rfl (Or.inl ⟨by omega, rfl⟩) (by omega) (by omega) (by omega) (by omega), by omega⟩⟩) (by omega)
              exact L41 _ 11 s16 R17 F18 (⟨by omega, ⟨pm_lW_b V1, by omega⟩⟩) (Nat.lt_succ_self _)
        exact L32 _ 1 s2 R3 F4 (⟨by omega, ⟨pm_lW_0 (fun q a b => Z q a (by omega)), by omega⟩⟩) (Nat.lt_succ_self _)
      refine px_ic_ge hG dX11_withLucky_5 (tgt := 30) (by decide) ⟨by omega, by omega⟩ ⟨by omega, by omega⟩ (fun c12 => ?_) (fun c12 => ?_)
      · refine px_weak hG (L2 := [some (.inr (.inr (40, 0))), some (.inl pl), some (.inl vv), none, none]) ⟨Or.inr rfl, Or.inr rfl, Or.inr rfl, Or.inl rfl, Or.inr rfl, trivial⟩ ?_
        exact J30_13  (by omega)
      · refine px_aload_n hG dX11_withLucky_8 rfl ?_
        refine gr_40_25 hG dX11_withLucky_9 fl_X11_79 R3 ?_
        refine px_iload_n hG dX11_withLucky_12 rfl ?_
        refine px_iload_n hG dX11_withLucky_13 rfl ?_
        refine px_iconst hG dX11_withLucky_14 ?_
        refine px_ic_ne hG dX11_withLucky_15 (tgt := 22) (by decide) ⟨by omega, by omega⟩ ⟨by omega, by omega⟩ (fun c67 => ?_) (fun c67 => ?_)
        · refine px_lconst hG dX11_withLucky_22 ?_
          show G 23 [some (.inr (.inr (40, 0))), some (.inl pl), some (.inl vv), some (.inl v3_1), none] [.inr (.inl 0), .inl v3_1, .inr (.inr (62, 0))] 122 s2
          refine as_62 hG dX11_withLucky_23 R3 (by omega) (fun s68 qs68 Rs68 => ?_)
          have Fs68 := pm_Fr_up (F4) qs68 (M := [(62, none)]) rfl
          have jj69 := pm_nec qs68 (c' := 40) (r' := 0) (i' := 0) (by decide)
          have jj70 := pm_nec qs68 (c' := 40) (r' := 0) (i' := 1) (by decide)
          have jj71 := pm_nec qs68 (c' := 40) (r' := 0) (i' := 2) (by decide)
          have jj72 := pm_nec qs68 (c' := 40) (r' := 0) (i' := 3) (by decide)
          have E1 := qs68
          refine px_iinc hG dX11_withLucky_24 (Nat.le_of_ble_eq_true rfl) rfl (L2 := [some (.inr (.inr (40, 0))), some (.inl pl), some (.inl vv), some (.inl (v3_1 + 1)), none]) rfl ?_
          refine px_goto hG dX11_withLucky_27 (tgt := 2) (by decide) ?_
          exact ih5 (v3_1 + 1) s68 Rs68 Fs68 (⟨by omega, pm_ost Z E1 (by omega)⟩) (by omega)
        · refine px_lconst hG dX11_withLucky_18 ?_
          show G 19 [some (.inr (.inr (40, 0))), some (.inl pl), some (.inl vv), some (.inl v3_1), none] [.inr (.inl 1), .inl v3_1, .inr (.inr (62, 0))] 122 s2
          refine px_goto hG dX11_withLucky_19 (tgt := 23) (by decide) ?_
          refine as_62 hG dX11_withLucky_23 R3 (by omega) (fun s73 qs73 Rs73 => ?_)
          have Fs73 := pm_Fr_up (F4) qs73 (M := [(62, none)]) rfl
          have jj74 := pm_nec qs73 (c' := 40) (r' := 0) (i' := 0) (by decide)
          have jj75 := pm_nec qs73 (c' := 40) (r' := 0) (i' := 1) (by decide)
          have jj76 := pm_nec qs73 (c' := 40) (r' := 0) (i' := 2) (by decide)
          have jj77 := pm_nec qs73 (c' := 40) (r' := 0) (i' := 3) (by decide)
          have E1 := qs73
          refine px_iinc hG dX11_withLucky_24 (Nat.le_of_ble_eq_true rfl) rfl (L2 := [some (.inr (.inr (40, 0))), some (.inl pl), some (.inl vv), some (.inl (v3_1 + 1)), none]) rfl ?_
          refine px_goto hG dX11_withLucky_27 (tgt := 2) (by decide) ?_
          exact ih5 (v3_1 + 1) s73 Rs73 Fs73 (⟨by omega, pm_ost Z E1 (by omega)⟩) (by omega)
  exact L2 _ 0 s0 R0 pm_Fr_rf (⟨by omega, fun i a b => by omega⟩) (Nat.lt_succ_self _))
def pre_X11_withPartse (as : List pm_V) (n : Nat) (σ : pm_H) : Prop := ∃ pl vv : Int, as = [.inr (.inr (40, 0)), .inl pl, .inl vv] ∧ n = 122 ∧ pm_Rng σ ∧ ((1 ≤ pl ∧ pl ≤ 10 ∧ pm_in vv ∧ pm_CH σ) ∧ pm_J2 σ)
def po_X11_withPartse (as : List pm_V) (_ : Nat) (σ : pm_H) (r : Option pm_V) (τ : pm_H) : Prop := ∀ pl vv : Int, as = [.inr (.inr (40, 0)), .inl pl, .inl vv] → ∃ v : Int, r = some (.inr (.inl v)) ∧ pm_Rng τ ∧ pm_Fr [(63, none)] σ τ ∧ (v = pm_mP pl vv)
set_option maxRecDepth 20000 in
set_option maxHeartbeats 4000000 in
theorem ct_X11_withPartse : pm_Ct yX11_withParts cX11_withParts 6 (some .long) 2 0 pre_X11_withPartse po_X11_withPartse := pm_sound (ini := false) (by decide +kernel) pk_X11_withParts (fun h => absurd h (by decide)) (by
  rintro as n s0 ⟨pl, vv, rfl, rfl, R0, hpre⟩
  refine ⟨by decide, Nat.le_of_ble_eq_true rfl, fun G hG => ?_⟩
  have hG : pm_Rules (RX11, 2, 122, cX11_withParts, -1, (fun _ => 0), false, (some .long), po_X11_withPartse [.inr (.inr (40, 0)), .inl pl, .inl vv] 122 s0) G := hG
  show G 0 [some (.inr (.inr (40, 0))), some (.inl pl), some (.inl vv), none, none, none] [] 122 s0
  have B0 := pb_40_0 R0
  have B1 := pb_40_1 R0
  have B2 := pb_40_2 R0
  have B3 := pb_40_3 R0
  have J2 := hpre.2
  have HP := hpre.1
  have JK := J2.1
  have JW := J2.2
  have CH := HP.2.2.2
  refine px_iconst hG dX11_withParts_0 ?_
  refine px_istore_n hG dX11_withParts_1 (Nat.le_of_ble_eq_true rfl) (L2 := [some (.inr (.inr (40, 0))), some (.inl pl), some (.inl vv), some (.inl 0), none, none]) rfl ?_
  have L2 : ∀ (N : Nat) (v3_1 : Int) (s2 : pm_H), pm_Rng s2 → pm_Fr [(63, none)] s0 s2 → ((0 ≤ v3_1 ∧ v3_1 ≤ 10000) ∧ (∀ i : Int, 0 ≤ i → i < v3_1 → s2 63 0 i = 0)) → (10001 - v3_1).toNat < N → G 2 [some (.inr (.inr (40, 0))), some (.inl pl), some (.inl vv), some (.inl v3_1), none, none] [] 122 s2 := by
    intro N
    induction N with
    | zero => intro v3_1 s2 R3 F4 inv6 hm7; exact absurd hm7 (Nat.not_lt_zero _)
    | succ N ih5 =>
      intro v3_1 s2 R3 F4 inv6 hm7
      have jj8 := F4 40 0 0 rfl
      have jj9 := F4 40 0 1 rfl
      have jj10 := F4 40 0 2 rfl
      have jj11 := F4 40 0 3 rfl
      have Z := inv6.2
      refine px_iload_n hG dX11_withParts_2 rfl ?_
      refine px_sipush hG dX11_withParts_3 (by decide) ?_
      have J22_13 : ((v3_1 ≥ 144)) → G 22 [some (.inr (.inr (40, 0))), some (.inl pl), some (.inl vv), none, none, none] [] 122 s2 := by
        intro inv14
        refine px_aload_n hG dX11_withParts_22 rfl ?_
        refine gr_40_26 hG dX11_withParts_23 fl_X11_82 R3 ?_
        refine px_iconst hG dX11_withParts_26 ?_
        refine px_lconst hG dX11_withParts_27 ?_
        show G 28 [some (.inr (.inr (40, 0))), some (.inl pl), some (.inl vv), none, none, none] [.inr (.inl 1), .inl 0, .inr (.inr (63, 0))] 122 s2
        refine as_63 hG dX11_withParts_28 R3 (by omega) (fun s15 qs15 Rs15 => ?_)
        have Fs15 := pm_Fr_up (F4) qs15 (M := [(63, none)]) rfl
        have jj16 := pm_nec qs15 (c' := 40) (r' := 0) (i' := 0) (by decide)
        have jj17 := pm_nec qs15 (c' := 40) (r' := 0) (i' := 1) (by decide)
        have jj18 := pm_nec qs15 (c' := 40) (r' := 0) (i' := 2) (by decide)
        have jj19 := pm_nec qs15 (c' := 40) (r' := 0) (i' := 3) (by decide)
        have E2 := qs15
        refine px_iconst hG dX11_withParts_29 ?_
        refine px_istore_n hG dX11_withParts_30 (Nat.le_of_ble_eq_true rfl) (L2 := [some (.inr (.inr (40, 0))), some (.inl pl), some (.inl vv), some (.inl 1), none, none]) rfl ?_
        have L31 : ∀ (N : Nat) (v3_20 : Int) (s21 : pm_H), pm_Rng s21 → pm_Fr [(63, none)] s0 s21 → ((1 ≤ v3_20 ∧ v3_20 ≤ 10000) ∧ (pm_qH s21 pl v3_20 ∧ v3_20 ≤ pl + 1)) → (10001 - v3_20).toNat < N → G 31 [some (.inr (.inr (40, 0))), some (.inl pl), some (.inl vv), some (.inl v3_20), none, none] [] 122 s21 := by
          intro N
          induction N with
          | zero => intro v3_20 s21 R22 F23 inv25 hm26; exact absurd hm26 (Nat.not_lt_zero _)
          | succ N ih24 =>
            intro v3_20 s21 R22 F23 inv25 hm26
            have jj27 := F23 40 0 0 rfl
            have jj28 := F23 40 0 1 rfl
            have jj29 := F23 40 0 2 rfl
            have jj30 := F23 40 0 3 rfl
            have V1 := (inv25.2).1
            have V2 := (inv25.2).2
            refine px_iload_n hG dX11_withParts_31 rfl ?_
            refine px_iload_n hG dX11_withParts_32 rfl ?_
            have J120_32 : ((v3_20 > pl)) → G 120 [some (.inr (.inr (40, 0))), some (.inl pl), some (.inl vv), none, none, none] [] 122 s21 := by
              intro inv33
              refine px_iload_n hG dX11_withParts_120 rfl ?_
              refine px_i2l hG dX11_withParts_121 ⟨by omega, by omega⟩ ?_
              refine px_lconst hG dX11_withParts_122 ?_
              show G 123 [some (.inr (.inr (40, 0))), some (.inl pl), some (.inl vv), none, none, none] [.inr (.inl 1), .inr (.inl vv)] 122 s21
              refine px_iload_n hG dX11_withParts_123 rfl ?_
              refine px_i2l hG dX11_withParts_124 ⟨by omega, by omega⟩ ?_
              refine js3 hG dX11_withParts_125 ct_X11_in lk_X11_96 ⟨Nat.le_of_ble_eq_true rfl, Nat.le_of_ble_eq_true rfl, Nat.le_of_ble_eq_true rfl⟩ (Nat.le_of_ble_eq_true rfl) ⟨vv, 1, pl, rfl, rfl, R22, by omega⟩ (fun r34 t35 pr34 => ?_)
              obtain ⟨x36, rfl, rfl, br34⟩ := pr34 _ _ _ rfl
              show G 128 [some (.inr (.inr (40, 0))), some (.inl pl), some (.inl vv), none, none, none] [.inl x36] 122 s21
              refine px_if_eq hG dX11_withParts_128 (tgt := 145) (by decide) ⟨by omega, by omega⟩ (fun c37 => ?_) (fun c37 => ?_)
              · refine px_lconst hG dX11_withParts_145 ?_
                show G 146 [some (.inr (.inr (40, 0))), some (.inl pl), some (.inl vv), none, none, none] [.inr (.inl 0)] 122 s21
                have jj38 := F23 40 0 0 rfl
                have jj39 := F23 40 0 1 rfl
                have jj40 := F23 40 0 2 rfl
                have jj41 := F23 40 0 3 rfl
                exact px_lret (st := []) hG dX11_withParts_146 rfl rfl (fun pl_1 vv_1 ee => by cases ee; exact ⟨_, rfl, R22, F23, by first | exact pm_mP_z (by omega) | exact pm_mP_i V1 X3 (by omega) (by omega) (by omega)⟩)
              · refine px_aload_n hG dX11_withParts_131 rfl ?_
                refine gr_40_26 hG dX11_withParts_132 fl_X11_82 R22 ?_
                refine px_bipush hG dX11_withParts_135 (by decide) ?_
                refine px_iload_n hG dX11_withParts_137 rfl ?_
                refine px_imul hG dX11_withParts_138 ?_
                refine px_iload_n hG dX11_withParts_139 rfl ?_
                refine px_iadd hG dX11_withParts_140 ?_
                refine al_63 hG dX11_withParts_141 (by omega) (fun z42 ez42 => ?_)
                have X3 := ez42
                refine px_goto hG dX11_withParts_142 (tgt := 146) (by decide) ?_
                have jj43 := F23 40 0 0 rfl
                have jj44 := F23 40 0 1 rfl
                have jj45 := F23 40 0 2 rfl
                have jj46 := F23 40 0 3 rfl
                exact px_lret (st := []) hG dX11_withParts_146 rfl rfl (fun pl_1 vv_1 ee => by cases ee; exact ⟨_, rfl, R22, F23, by first | exact pm_mP_z (by omega) | exact pm_mP_i V1 X3 (by omega) (by omega) (by omega)⟩)
            refine px_ic_gt hG dX11_withParts_33 (tgt := 120) (by decide) ⟨by omega, by omega⟩ ⟨by omega, by omega⟩ (fun c31 => ?_) (fun c31 => ?_)
            · refine px_weak hG (L2 := [some (.inr (.inr (40, 0))), some (.inl pl), some (.inl vv), none, none, none]) ⟨Or.inr rfl, Or.inr rfl, Or.inr rfl, Or.inl rfl, Or.inr rfl, Or.inr rfl, trivial⟩ ?_
              exact J120_32  (by omega)
            · refine px_iconst hG dX11_withParts_36 ?_
              refine px_istore hG dX11_withParts_37 (Nat.le_of_ble_eq_true rfl) (L2 := [some (.inr (.inr (40, 0))), some (.inl pl), some (.inl vv), some (.inl v3_20), some (.inl 1), none]) rfl ?_
              have L39 : ∀ (N : Nat) (v4_47 : Int) (s48 : pm_H), pm_Rng s48 → pm_Fr [(63, none)] s0 s48 → ((1 ≤ v4_47 ∧ v4_47 ≤ 10000) ∧ (pm_qI s48 pl v3_20 v4_47 ∧ v4_47 ≤ pl + 1)) → (10001 - v4_47).toNat < N → G 39 [some (.inr (.inr (40, 0))), some (.inl pl), some (.inl vv), some (.inl v3_20), some (.inl v4_47), none] [] 122 s48 := by
                intro N
                induction N with
                | zero => intro v4_47 s48 R49 F50 inv52 hm53; exact absurd hm53 (Nat.not_lt_zero _)
                | succ N ih51 =>
                  intro v4_47 s48 R49 F50 inv52 hm53
                  have jj54 := F50 40 0 0 rfl
                  have jj55 := F50 40 0 1 rfl
                  have jj56 := F50 40 0 2 rfl
                  have jj57 := F50 40 0 3 rfl
                  have U1 := (inv52.2).1
                  have U2 := (inv52.2).2
                  refine px_iload hG dX11_withParts_39 rfl ?_
                  refine px_iload_n hG dX11_withParts_41 rfl ?_
                  refine px_ic_gt hG dX11_withParts_42 (tgt := 114) (by decide) ⟨by omega, by omega⟩ ⟨by omega, by omega⟩ (fun c58 => ?_) (fun c58 => ?_)
                  · refine px_iinc hG dX11_withParts_114 (Nat.le_of_ble_eq_true rfl) rfl (L2 := [some (.inr (.inr (40, 0))), some (.inl pl), some (.inl vv), some (.inl (v3_20 + 1)), some (.inl v4_47), none]) rfl ?_
                    refine px_goto hG dX11_withParts_117 (tgt := 31) (by decide) ?_
                    refine px_weak hG (L2 := [some (.inr (.inr (40, 0))), some (.inl pl), some (.inl vv), some (.inl (v3_20 + 1)), none, none]) ⟨Or.inr rfl, Or.inr rfl, Or.inr rfl, Or.inr rfl, Or.inl rfl, Or.inr rfl, trivial⟩ ?_
                    exact ih24 (v3_20 + 1) s48 R49 F50 (⟨by omega, ⟨pm_qH_n U1 (by omega) (by omega), by omega⟩⟩) (by omega)
                  · refine px_iconst hG dX11_withParts_45 ?_
                    refine px_istore hG dX11_withParts_46 (Nat.le_of_ble_eq_true rfl) (L2 := [some (.inr (.inr (40, 0))), some (.inl pl), some (.inl vv), some (.inl v3_20), some (.inl v4_47), some (.inl 1)]) rfl ?_
                    have L48 : ∀ (N : Nat) (v5_59 : Int) (s60 : pm_H), pm_Rng s60 → pm_Fr [(63, none)] s0 s60 → ((1 ≤ v5_59 ∧ v5_59 ≤ 10000) ∧ (pm_qJ s60 pl v3_20 v4_47 v5_59 ∧ v5_59 ≤ v4_47 + 1)) → (10001 - v5_59).toNat < N → G 48 [some (.inr (.inr (40, 0))), some (.inl pl), some (.inl vv), some (.inl v3_20), some (.inl v4_47), some (.inl v5_59)] [] 122 s60 := by
                      intro N
                      induction N with
                      | zero => intro v5_59 s60 R61 F62 inv64 hm65; exact absurd hm65 (Nat.not_lt_zero _)
                      | succ N ih63 =>
                        intro v5_59 s60 R61 F62 inv64 hm65
                        have jj66 := F62 40 0 0 rfl
                        have jj67 := F62 40 0 1 rfl
                        have jj68 := F62 40 0 2 rfl
                        have jj69 := F62 40 0 3 rfl
                        have T1 := (inv64.2).1
                        have T2 := (inv64.2).2
                        refine px_iload hG dX11_withParts_48 rfl ?_
                        refine px_iload hG dX11_withParts_50 rfl ?_
                        refine px_ic_gt hG dX11_withParts_52 (tgt := 108) (by decide) ⟨by omega, by omega⟩ ⟨by omega, by omega⟩ (fun c70 => ?_) (fun c70 => ?_)
                        · refine px_iinc hG dX11_withParts_108 (Nat.le_of_ble_eq_true rfl) rfl (L2 := [some (.inr (.inr (40, 0))), some (.inl pl), some (.inl vv), some (.inl v3_20), some (.inl (v4_47 + 1)), some (.inl v5_59)]) rfl ?_
                          refine px_goto hG dX11_withParts_111 (tgt := 39) (by decide) ?_
                          refine px_weak hG (L2 := [some (.inr (.inr (40, 0))), some (.inl pl), some (.inl vv), some (.inl v3_20), some (.inl (v4_47 + 1)), none]) ⟨Or.inr rfl, Or.inr rfl, Or.inr rfl, Or.inr rfl, Or.inr rfl, Or.inl rfl, trivial⟩ ?_
                          exact ih51 (v4_47 + 1) s60 R61 F62 (⟨by omega, ⟨pm_qI_n T1 (by omega) (by omega) (by omega), by omega⟩⟩) (by omega)
                        · refine px_aload_n hG dX11_withParts_55 rfl ?_
                          refine gr_40_26 hG dX11_withParts_56 fl_X11_82 R61 ?_
                          refine px_bipush hG dX11_withParts_59 (by decide) ?_
                          refine px_iload_n hG dX11_withParts_61 rfl ?_
                          refine px_imul hG dX11_withParts_62 ?_
                          refine px_iload hG dX11_withParts_63 rfl ?_
                          refine px_iadd hG dX11_withParts_65 ?_
                          refine px_dup2 hG dX11_withParts_66 ?_
                          refine al_63 hG dX11_withParts_67 (by omega) (fun z71 ez71 => ?_)
                          have X1 := ez71
                          refine px_aload_n hG dX11_withParts_68 rfl ?_
                          refine gr_40_26 hG dX11_withParts_69 fl_X11_82 R61 ?_
                          refine px_bipush hG dX11_withParts_72 (by decide) ?_
                          refine px_iload_n hG dX11_withParts_74 rfl ?_
                          refine px_iconst hG dX11_withParts_75 ?_
                          refine px_isub hG dX11_withParts_76 ?_
                          refine px_imul hG dX11_withParts_77 ?_
                          refine px_iload hG dX11_withParts_78 rfl ?_
                          refine px_iadd hG dX11_withParts_80 ?_
                          refine px_iload hG dX11_withParts_81 rfl ?_
                          refine px_isub hG dX11_withParts_83 ?_
                          refine al_63 hG dX11_withParts_84 (by omega) (fun z72 ez72 => ?_)
                          have X2 := ez72
                          refine px_aload_n hG dX11_withParts_85 rfl ?_
                          refine px_iload hG dX11_withParts_86 rfl ?_
                          refine px_iload hG dX11_withParts_88 rfl ?_
                          refine jv2 hG dX11_withParts_90 ct_X11_choosee lk_X11_148 ⟨rfl, rfl⟩ (by decide) ⟨Nat.le_of_ble_eq_true rfl, Nat.le_of_ble_eq_true rfl, Nat.le_of_ble_eq_true rfl⟩ (Nat.le_of_ble_eq_true rfl) ⟨v4_47, v5_59, rfl, rfl, R61, ⟨⟨by omega, by omega, by omega, by omega, pm_CH_eq (fun i => F62 46 0 i rfl) CH⟩, (pm_J2_fr F62 rfl J2)⟩⟩ (fun r73 t74 pr73 => ?_)
                          obtain ⟨z75, rfl, rfl, br73⟩ := pr73 _ _ rfl
                          show G 93 [some (.inr (.inr (40, 0))), some (.inl pl), some (.inl vv), some (.inl v3_20), some (.inl v4_47), some (.inl v5_59)] [.inr (.inl z75), .inr (.inl z72), .inr (.inl z71), .inl ((12 * v3_20) + v4_47), .inr (.inr (63, 0))] 122 s60
                          have B1 := br73
                          refine px_lmul hG dX11_withParts_93 ?_
                          refine px_iload hG dX11_withParts_94 rfl ?_
                          refine js1 hG dX11_withParts_96 ct_X11_primesOfe lk_X11_199 ⟨Nat.le_of_ble_eq_true rfl, Nat.le_of_ble_eq_true rfl, Nat.le_of_ble_eq_true rfl⟩ (Nat.le_of_ble_eq_true rfl) ⟨v5_59, rfl, rfl, R61, by omega⟩ (fun r76 t77 pr76 => ?_)
                          obtain ⟨z78, rfl, rfl, br76⟩ := pr76 _ rfl
                          show G 99 [some (.inr (.inr (40, 0))), some (.inl pl), some (.inl vv), some (.inl v3_20), some (.inl v4_47), some (.inl v5_59)] [.inr (.inl z78), .inr (.inl (z72 * z75)), .inr (.inl z71), .inl ((12 * v3_20) + v4_47), .inr (.inr (63, 0))] 122 s60
                          have B2 := br76
                          refine px_lmul hG dX11_withParts_99 ?_
                          refine px_ladd hG dX11_withParts_100 ?_
                          refine as_63 hG dX11_withParts_101 R61 (by omega) (fun s79 qs79 Rs79 => ?_)
                          have Fs79 := pm_Fr_up (F62) qs79 (M := [(63, none)]) rfl
                          have jj80 := pm_nec qs79 (c' := 40) (r' := 0) (i' := 0) (by decide)
                          have jj81 := pm_nec qs79 (c' := 40) (r' := 0) (i' := 1) (by decide)
                          have jj82 := pm_nec qs79 (c' := 40) (r' := 0) (i' := 2) (by decide)
                          have jj83 := pm_nec qs79 (c' := 40) (r' := 0) (i' := 3) (by decide)
                          have E3 := qs79
                          refine px_iinc hG dX11_withParts_102 (Nat.le_of_ble_eq_true rfl) rfl (L2 := [some (.inr (.inr (40, 0))), some (.inl pl), some (.inl vv), some (.inl v3_20), some (.inl v4_47), some (.inl (v5_59 + 1))]) rfl ?_
                          refine px_goto hG dX11_withParts_105 (tgt := 48) (by decide) ?_
                          exact ih63 (v5_59 + 1) s79 Rs79 Fs79 (⟨by omega, ⟨pm_qJ_s T1 X2 X1 B1 B2 E3 rfl (by omega) (by omega) (by omega) (by omega) (by omega) (by omega), by omega⟩⟩) (by omega)
                    exact L48 _ 1 s48 R49 F50 (⟨by omega, ⟨pm_qJ_0 U1 (by omega) (by omega) (by omega), by omega⟩⟩) (Nat.lt_succ_self _)
              exact L39 _ 1 s21 R22 F23 (⟨by omega, ⟨pm_qI_0 V1 (by omega) (by omega), by omega⟩⟩) (Nat.lt_succ_self _)
        exact L31 _ 1 s15 Rs15 Fs15 (⟨by omega, ⟨pm_qH_0 (fun q a b => Z q a (by omega)) E2 (by omega), by omega⟩⟩) (Nat.lt_succ_self _)
      refine px_ic_ge hG dX11_withParts_6 (tgt := 22) (by decide) ⟨by omega, by omega⟩ ⟨by omega, by omega⟩ (fun c12 => ?_) (fun c12 => ?_)
      · refine px_weak hG (L2 := [some (.inr (.inr (40, 0))), some (.inl pl), some (.inl vv), none, none, none]) ⟨Or.inr rfl, Or.inr rfl, Or.inr rfl, Or.inl rfl, Or.inr rfl, Or.inr rfl, trivial⟩ ?_
        exact J22_13  (by omega)
      · refine px_aload_n hG dX11_withParts_9 rfl ?_
        refine gr_40_26 hG dX11_withParts_10 fl_X11_82 R3 ?_
        refine px_iload_n hG dX11_withParts_13 rfl ?_
        refine px_lconst hG dX11_withParts_14 ?_
        show G 15 [some (.inr (.inr (40, 0))), some (.inl pl), some (.inl vv), some (.inl v3_1), none, none] [.inr (.inl 0), .inl v3_1, .inr (.inr (63, 0))] 122 s2
        refine as_63 hG dX11_withParts_15 R3 (by omega) (fun s84 qs84 Rs84 => ?_)
        have Fs84 := pm_Fr_up (F4) qs84 (M := [(63, none)]) rfl
        have jj85 := pm_nec qs84 (c' := 40) (r' := 0) (i' := 0) (by decide)
        have jj86 := pm_nec qs84 (c' := 40) (r' := 0) (i' := 1) (by decide)
        have jj87 := pm_nec qs84 (c' := 40) (r' := 0) (i' := 2) (by decide)
        have jj88 := pm_nec qs84 (c' := 40) (r' := 0) (i' := 3) (by decide)
        have E1 := qs84
        refine px_iinc hG dX11_withParts_16 (Nat.le_of_ble_eq_true rfl) rfl (L2 := [some (.inr (.inr (40, 0))), some (.inl pl), some (.inl vv), some (.inl (v3_1 + 1)), none, none]) rfl ?_
        refine px_goto hG dX11_withParts_19 (tgt := 2) (by decide) ?_
        exact ih5 (v3_1 + 1) s84 Rs84 Fs84 (⟨by omega, pm_zst Z E1⟩) (by omega)
  exact L2 _ 0 s0 R0 pm_Fr_rf (⟨by omega, fun i a b => by omega⟩) (Nat.lt_succ_self _))
def pre_X11_finishest (as : List pm_V) (n : Nat) (σ : pm_H) : Prop := ∃ pl le : Int, as = [.inr (.inr (40, 0)), .inl pl, .inl le] ∧ n = 122 ∧ pm_Rng σ ∧ ((1 ≤ pl ∧ pl ≤ 10 ∧ 0 ≤ le ∧ le ≤ 10 ∧ pm_CH σ) ∧ pm_J2 σ)
def po_X11_finishest (as : List pm_V) (_ : Nat) (σ : pm_H) (r : Option pm_V) (τ : pm_H) : Prop := ∀ pl le : Int, as = [.inr (.inr (40, 0)), .inl pl, .inl le] → ∃ v : Int, r = some (.inr (.inl v)) ∧ pm_Rng τ ∧ pm_Fr [(48, none)] σ τ ∧ (v = pm_F (σ 47 0) pl le ∧ ∀ c : Int, 0 ≤ c → c ≤ le → τ 48 0 (24 + c) = pm_S (σ 47 0) pl le.toNat (pl - 1).toNat c.toNat)
set_option maxRecDepth 20000 in
set_option maxHeartbeats 4000000 in
theorem ct_X11_finishest : pm_Ct yX11_finishes cX11_finishes 9 (some .long) 2 0 pre_X11_finishest po_X11_finishest := pm_sound (ini := false) (by decide +kernel) pk_X11_finishes (fun h => absurd h (by decide)) (by
  rintro as n s0 ⟨pl, le, rfl, rfl, R0, hpre⟩
  refine ⟨by decide, Nat.le_of_ble_eq_true rfl, fun G hG => ?_⟩
  have hG : pm_Rules (RX11, 2, 122, cX11_finishes, -1, (fun _ => 0), false, (some .long), po_X11_finishest [.inr (.inr (40, 0)), .inl pl, .inl le] 122 s0) G := hG
  show G 0 [some (.inr (.inr (40, 0))), some (.inl pl), some (.inl le), none, none, none, none, none, none] [] 122 s0
  have B0 := pb_40_0 R0
  have B1 := pb_40_1 R0
  have B2 := pb_40_2 R0
  have B3 := pb_40_3 R0
  have J2 := hpre.2
  have HP := hpre.1
  have JK := J2.1
  have JW := J2.2
  have CH := HP.2.2.2.2
  refine px_iconst hG dX11_finishes_0 ?_
  refine px_istore_n hG dX11_finishes_1 (Nat.le_of_ble_eq_true rfl) (L2 := [some (.inr (.inr (40, 0))), some (.inl pl), some (.inl le), some (.inl 0), none, none, none, none, none]) rfl ?_
  refine px_iconst hG dX11_finishes_2 ?_
  refine px_istore hG dX11_finishes_3 (Nat.le_of_ble_eq_true rfl) (L2 := [some (.inr (.inr (40, 0))), some (.inl pl), some (.inl le), some (.inl 0), some (.inl 0), none, none, none, none]) rfl ?_
  have L5 : ∀ (N : Nat) (v4_1 : Int) (s2 : pm_H), pm_Rng s2 → pm_Fr [(48, none)] s0 s2 → ((0 ≤ v4_1 ∧ v4_1 ≤ 10000) ∧ (pm_fR s2 (s0 47 0) pl le (pl + 1) v4_1)) → (10001 - v4_1).toNat < N → G 5 [some (.inr (.inr (40, 0))), some (.inl pl), some (.inl le), some (.inl 0), some (.inl v4_1), none, none, none, none] [] 122 s2 := by
    intro N
    induction N with
    | zero => intro v4_1 s2 R3 F4 inv6 hm7; exact absurd hm7 (Nat.not_lt_zero _)
    | succ N ih5 =>
      intro v4_1 s2 R3 F4 inv6 hm7
      have jj8 := F4 40 0 0 rfl
      have jj9 := F4 40 0 1 rfl
      have jj10 := F4 40 0 2 rfl
      have jj11 := F4 40 0 3 rfl
      have W := inv6.2
      refine px_iload hG dX11_finishes_5 rfl ?_
      refine px_iload_n hG dX11_finishes_7 rfl ?_
      have J41_13 : ((v4_1 > le)) → G 41 [some (.inr (.inr (40, 0))), some (.inl pl), some (.inl le), some (.inl 0), none, none, none, none, none] [] 122 s2 := by
        intro inv14
        refine px_iload_n hG dX11_finishes_41 rfl ?_
        refine px_istore hG dX11_finishes_42 (Nat.le_of_ble_eq_true rfl) (L2 := [some (.inr (.inr (40, 0))), some (.inl pl), some (.inl le), some (.inl 0), some (.inl pl), none, none, none, none]) rfl ?_
        have L44 : ∀ (N : Nat) (v3_15 : Int) (v4_16 : Int) (s17 : pm_H), pm_Rng s17 → pm_Fr [(48, none)] s0 s17 → ((-10000 ≤ v4_16 ∧ v4_16 ≤ pl) ∧ (0 ≤ v4_16 ∧ -12 * (pl - v4_16) ≤ v3_15 ∧ v3_15 ≤ 12 * (pl - v4_16) ∧ v3_15 = pm_A (s0 47 0) pl (pl - v4_16).toNat ∧ ∀ v : Int, v4_16 < v → v ≤ pl + 1 → pm_fR s17 (s0 47 0) pl le v (le + 1))) → (v4_16 + 10001).toNat < N → G 44 [some (.inr (.inr (40, 0))), some (.inl pl), some (.inl le), some (.inl v3_15), some (.inl v4_16), none, none, none, none] [] 122 s17 := by
          intro N
          induction N with
          | zero => intro v3_15 v4_16 s17 R18 F19 inv21 hm22; exact absurd hm22 (Nat.not_lt_zero _)
          | succ N ih20 =>
            intro v3_15 v4_16 s17 R18 F19 inv21 hm22
            have jj23 := F19 40 0 0 rfl
            have jj24 := F19 40 0 1 rfl
            have jj25 := F19 40 0 2 rfl
            have jj26 := F19 40 0 3 rfl
            have V3 := (inv21.2).2.2.2.1
            have V := (inv21.2).2.2.2.2
            refine px_iload hG dX11_finishes_44 rfl ?_
            refine px_iconst hG dX11_finishes_46 ?_
            have J169_28 : ((v4_16 < 1)) → G 169 [some (.inr (.inr (40, 0))), none, some (.inl le), none, none, none, none, none, none] [] 122 s17 := by
              intro inv29
              refine px_aload_n hG dX11_finishes_169 rfl ?_
              refine gr_40_11 hG dX11_finishes_170 fl_X11_36 R18 ?_
              refine px_bipush hG dX11_finishes_173 (by decide) ?_
              refine px_iload_n hG dX11_finishes_175 rfl ?_
              refine px_iadd hG dX11_finishes_176 ?_
              refine al_48 hG dX11_finishes_177 (by omega) (fun z30 ez30 => ?_)
              have ZE := V 1 (by omega) (by omega) le (by omega) (by omega)
              rw [show 12 * 1 + le = 12 + le by omega, ez30, show pl + 1 - 1 = pl by omega] at ZE
              have jj31 := F19 40 0 0 rfl
              have jj32 := F19 40 0 1 rfl
              have jj33 := F19 40 0 2 rfl
              have jj34 := F19 40 0 3 rfl
              exact px_lret (st := []) hG dX11_finishes_178 rfl rfl (fun pl_1 le_1 ee => by cases ee; exact ⟨_, rfl, R18, F19, ⟨ZE, fun c a b => by have q := V 2 (by omega) (by omega) c a (by omega); rw [show pl + 1 - 2 = pl - 1 by omega, show 12 * 2 + c = 24 + c by omega] at q; exact q⟩⟩)
            refine px_ic_lt hG dX11_finishes_47 (tgt := 169) (by decide) ⟨by omega, by omega⟩ ⟨by omega, by omega⟩ (fun c27 => ?_) (fun c27 => ?_)
            · refine px_weak hG (L2 := [some (.inr (.inr (40, 0))), none, some (.inl le), none, none, none, none, none, none]) ⟨Or.inr rfl, Or.inl rfl, Or.inr rfl, Or.inl rfl, Or.inl rfl, Or.inr rfl, Or.inr rfl, Or.inr rfl, Or.inr rfl, trivial⟩ ?_
              exact J169_28  (by omega)
            · refine px_iload_n hG dX11_finishes_50 rfl ?_
              refine px_aload_n hG dX11_finishes_51 rfl ?_
              refine gr_40_10 hG dX11_finishes_52 fl_X11_33 R18 ?_
              refine px_iload hG dX11_finishes_55 rfl ?_
              refine al_47 hG dX11_finishes_57 R18 (by omega) (fun x35 ex35 lx35 ux35 => ?_)
              have X1 := (F19 47 0 v4_16 rfl).symm.trans ex35
              refine px_iadd hG dX11_finishes_58 ?_
              refine px_istore_n hG dX11_finishes_59 (Nat.le_of_ble_eq_true rfl) (L2 := [some (.inr (.inr (40, 0))), some (.inl pl), some (.inl le), some (.inl (v3_15 + x35)), some (.inl v4_16), none, none, none, none]) rfl ?_
              have AB : (v3_15 + x35) = pm_A (s0 47 0) pl ((pl - v4_16).toNat + 1) := by rw [pm_A_s (by omega)]; omega
              have CS : pm_CH s17 := pm_CH_eq (fun i => F19 46 0 i rfl) CH
              refine px_iconst hG dX11_finishes_60 ?_
              refine px_istore hG dX11_finishes_61 (Nat.le_of_ble_eq_true rfl) (L2 := [some (.inr (.inr (40, 0))), some (.inl pl), some (.inl le), some (.inl (v3_15 + x35)), some (.inl v4_16), some (.inl 0), none, none, none]) rfl ?_
              have L63 : ∀ (N : Nat) (v5_36 : Int) (s37 : pm_H), pm_Rng s37 → pm_Fr [(48, none)] s0 s37 → ((0 ≤ v5_36 ∧ v5_36 ≤ 10000) ∧ (pm_fR s37 (s0 47 0) pl le v4_16 v5_36 ∧ (∀ v : Int, v4_16 < v → v ≤ pl + 1 → pm_fR s37 (s0 47 0) pl le v (le + 1)) ∧ v5_36 ≤ le + 1)) → (10001 - v5_36).toNat < N → G 63 [some (.inr (.inr (40, 0))), some (.inl pl), some (.inl le), some (.inl (v3_15 + x35)), some (.inl v4_16), some (.inl v5_36), none, none, none] [] 122 s37 := by
                intro N
                induction N with
                | zero => intro v5_36 s37 R38 F39 inv41 hm42; exact absurd hm42 (Nat.not_lt_zero _)
                | succ N ih40 =>
                  intro v5_36 s37 R38 F39 inv41 hm42
                  have jj43 := F39 40 0 0 rfl
                  have jj44 := F39 40 0 1 rfl
                  have jj45 := F39 40 0 2 rfl
                  have jj46 := F39 40 0 3 rfl
                  have U1 := (inv41.2).1
                  have U2 := (inv41.2).2.1
                  have U3 := (inv41.2).2.2
                  have CS : pm_CH s37 := pm_CH_eq (fun i => F39 46 0 i rfl) CH
                  refine px_iload hG dX11_finishes_63 rfl ?_
                  refine px_iload_n hG dX11_finishes_65 rfl ?_
                  refine px_ic_gt hG dX11_finishes_66 (tgt := 163) (by decide) ⟨by omega, by omega⟩ ⟨by omega, by omega⟩ (fun c47 => ?_) (fun c47 => ?_)
                  · refine px_iinc hG dX11_finishes_163 (Nat.le_of_ble_eq_true rfl) rfl (L2 := [some (.inr (.inr (40, 0))), some (.inl pl), some (.inl le), some (.inl (v3_15 + x35)), some (.inl (v4_16 + -1)), some (.inl v5_36), none, none, none]) rfl ?_
                    refine px_goto hG dX11_finishes_166 (tgt := 44) (by decide) ?_
                    refine px_weak hG (L2 := [some (.inr (.inr (40, 0))), some (.inl pl), some (.inl le), some (.inl (v3_15 + x35)), some (.inl (v4_16 + -1)), none, none, none, none]) ⟨Or.inr rfl, Or.inr rfl, Or.inr rfl, Or.inr rfl, Or.inr rfl, Or.inl rfl, Or.inr rfl, Or.inr rfl, Or.inr rfl, trivial⟩ ?_
                    exact ih20 (v3_15 + x35) (v4_16 + -1) s37 R38 F39 (⟨by omega, ⟨by omega, by omega, by omega, by rw [AB]; exact congrArg (pm_A (s0 47 0) pl) (by omega), pm_fR_n U1 U2 (by omega)⟩⟩) (by omega)
                  · refine px_lconst hG dX11_finishes_69 ?_
                    show G 70 [some (.inr (.inr (40, 0))), some (.inl pl), some (.inl le), some (.inl (v3_15 + x35)), some (.inl v4_16), some (.inl v5_36), none, none, none] [.inr (.inl 0)] 122 s37
                    refine px_lstore hG dX11_finishes_70 (Nat.le_of_ble_eq_true rfl) (L2 := [some (.inr (.inr (40, 0))), some (.inl pl), some (.inl le), some (.inl (v3_15 + x35)), some (.inl v4_16), some (.inl v5_36), some (.inr (.inl 0)), none, none]) rfl ?_
                    refine px_iconst hG dX11_finishes_72 ?_
                    refine px_istore hG dX11_finishes_73 (Nat.le_of_ble_eq_true rfl) (L2 := [some (.inr (.inr (40, 0))), some (.inl pl), some (.inl le), some (.inl (v3_15 + x35)), some (.inl v4_16), some (.inl v5_36), some (.inr (.inl 0)), none, some (.inl 0)]) rfl ?_
                    have L75 : ∀ (N : Nat) (v6_48 : Int) (v8_49 : Int), ((0 ≤ v8_49 ∧ v8_49 ≤ 10000) ∧ (v6_48 = pm_sum (pm_T (s0 47 0) pl le (pl - v4_16).toNat v5_36.toNat) v8_49.toNat ∧ v8_49 ≤ v5_36 + 1)) → (10001 - v8_49).toNat < N → G 75 [some (.inr (.inr (40, 0))), some (.inl pl), some (.inl le), some (.inl (v3_15 + x35)), some (.inl v4_16), some (.inl v5_36), some (.inr (.inl v6_48)), none, some (.inl v8_49)] [] 122 s37 := by
                      intro N
                      induction N with
                      | zero => intro v6_48 v8_49 inv51 hm52; exact absurd hm52 (Nat.not_lt_zero _)
                      | succ N ih50 =>
                        intro v6_48 v8_49 inv51 hm52
                        have S1 := (inv51.2).1
                        have S2 := (inv51.2).2
                        refine px_iload hG dX11_finishes_75 rfl ?_
                        refine px_iload hG dX11_finishes_77 rfl ?_
                        have J125_54 : ((v8_49 > v5_36)) → G 125 [some (.inr (.inr (40, 0))), some (.inl pl), some (.inl le), some (.inl (v3_15 + x35)), some (.inl v4_16), some (.inl v5_36), some (.inr (.inl v6_48)), none, none] [] 122 s37 := by
                          intro inv55
                          refine px_aload_n hG dX11_finishes_125 rfl ?_
                          refine gr_40_11 hG dX11_finishes_126 fl_X11_36 R38 ?_
                          refine px_bipush hG dX11_finishes_129 (by decide) ?_
                          refine px_iload hG dX11_finishes_131 rfl ?_
                          refine px_imul hG dX11_finishes_133 ?_
                          refine px_iload hG dX11_finishes_134 rfl ?_
                          refine px_iadd hG dX11_finishes_136 ?_
                          refine px_iload hG dX11_finishes_137 rfl ?_
                          refine px_iload_n hG dX11_finishes_139 rfl ?_
                          refine px_iadd hG dX11_finishes_140 ?_
                          refine px_iload_n hG dX11_finishes_141 rfl ?_
                          refine px_iload hG dX11_finishes_142 rfl ?_
                          refine px_isub hG dX11_finishes_144 ?_
                          refine px_iconst hG dX11_finishes_145 ?_
                          refine px_iadd hG dX11_finishes_146 ?_
                          refine px_ic_gt hG dX11_finishes_147 (tgt := 155) (by decide) ⟨by omega, by omega⟩ ⟨by omega, by omega⟩ (fun c56 => ?_) (fun c56 => ?_)
                          · refine px_lconst hG dX11_finishes_155 ?_
                            show G 156 [some (.inr (.inr (40, 0))), some (.inl pl), some (.inl le), some (.inl (v3_15 + x35)), some (.inl v4_16), some (.inl v5_36), some (.inr (.inl v6_48)), none, none] [.inr (.inl 0), .inl ((12 * v4_16) + v5_36), .inr (.inr (48, 0))] 122 s37
                            refine as_48 hG dX11_finishes_156 R38 (by omega) (fun s57 qs57 Rs57 => ?_)
                            have Fs57 := pm_Fr_up (F39) qs57 (M := [(48, none)]) rfl
                            have jj58 := pm_nec qs57 (c' := 40) (r' := 0) (i' := 0) (by decide)
                            have jj59 := pm_nec qs57 (c' := 40) (r' := 0) (i' := 1) (by decide)
                            have jj60 := pm_nec qs57 (c' := 40) (r' := 0) (i' := 2) (by decide)
                            have jj61 := pm_nec qs57 (c' := 40) (r' := 0) (i' := 3) (by decide)
                            have E := qs57
                            have SV := pm_S_v (v := v4_16) (c := v5_36) (x := 0) S1 AB (by omega) (by omega) (by omega) (by omega)
                            refine px_iinc hG dX11_finishes_157 (Nat.le_of_ble_eq_true rfl) rfl (L2 := [some (.inr (.inr (40, 0))), some (.inl pl), some (.inl le), some (.inl (v3_15 + x35)), some (.inl v4_16), some (.inl (v5_36 + 1)), some (.inr (.inl v6_48)), none, none]) rfl ?_
                            refine px_goto hG dX11_finishes_160 (tgt := 63) (by decide) ?_
                            refine px_weak hG (L2 := [some (.inr (.inr (40, 0))), some (.inl pl), some (.inl le), some (.inl (v3_15 + x35)), some (.inl v4_16), some (.inl (v5_36 + 1)), none, none, none]) ⟨Or.inr rfl, Or.inr rfl, Or.inr rfl, Or.inr rfl, Or.inr rfl, Or.inr rfl, Or.inl rfl, Or.inr rfl, Or.inr rfl, trivial⟩ ?_
                            exact ih40 (v5_36 + 1) s57 Rs57 Fs57 (⟨by omega, ⟨pm_fR_s U1 E (by omega) SV, pm_fR_a U2 E (by omega) (by omega), by omega⟩⟩) (by omega)
                          · refine px_lload hG dX11_finishes_150 rfl ?_
                            refine px_goto hG dX11_finishes_152 (tgt := 156) (by decide) ?_
                            refine as_48 hG dX11_finishes_156 R38 (by omega) (fun s62 qs62 Rs62 => ?_)
                            have Fs62 := pm_Fr_up (F39) qs62 (M := [(48, none)]) rfl
                            have jj63 := pm_nec qs62 (c' := 40) (r' := 0) (i' := 0) (by decide)
                            have jj64 := pm_nec qs62 (c' := 40) (r' := 0) (i' := 1) (by decide)
                            have jj65 := pm_nec qs62 (c' := 40) (r' := 0) (i' := 2) (by decide)
                            have jj66 := pm_nec qs62 (c' := 40) (r' := 0) (i' := 3) (by decide)
                            have E := qs62
                            have SV := pm_S_v (v := v4_16) (c := v5_36) (x := v6_48) S1 AB (by omega) (by omega) (by omega) (by omega)
                            refine px_iinc hG dX11_finishes_157 (Nat.le_of_ble_eq_true rfl) rfl (L2 := [some (.inr (.inr (40, 0))), some (.inl pl), some (.inl le), some (.inl (v3_15 + x35)), some (.inl v4_16), some (.inl (v5_36 + 1)), some (.inr (.inl v6_48)), none, none]) rfl ?_
                            refine px_goto hG dX11_finishes_160 (tgt := 63) (by decide) ?_
                            refine px_weak hG (L2 := [some (.inr (.inr (40, 0))), some (.inl pl), some (.inl le), some (.inl (v3_15 + x35)), some (.inl v4_16), some (.inl (v5_36 + 1)), none, none, none]) ⟨Or.inr rfl, Or.inr rfl, Or.inr rfl, Or.inr rfl, Or.inr rfl, Or.inr rfl, Or.inl rfl, Or.inr rfl, Or.inr rfl, trivial⟩ ?_
                            exact ih40 (v5_36 + 1) s62 Rs62 Fs62 (⟨by omega, ⟨pm_fR_s U1 E (by omega) SV, pm_fR_a U2 E (by omega) (by omega), by omega⟩⟩) (by omega)
                        refine px_ic_gt hG dX11_finishes_79 (tgt := 125) (by decide) ⟨by omega, by omega⟩ ⟨by omega, by omega⟩ (fun c53 => ?_) (fun c53 => ?_)
                        · refine px_weak hG (L2 := [some (.inr (.inr (40, 0))), some (.inl pl), some (.inl le), some (.inl (v3_15 + x35)), some (.inl v4_16), some (.inl v5_36), some (.inr (.inl v6_48)), none, none]) ⟨Or.inr rfl, Or.inr rfl, Or.inr rfl, Or.inr rfl, Or.inr rfl, Or.inr rfl, Or.inr rfl, Or.inr rfl, Or.inl rfl, trivial⟩ ?_
                          exact J125_54  (by omega)
                        · refine px_lload hG dX11_finishes_82 rfl ?_
                          refine px_aload_n hG dX11_finishes_84 rfl ?_
                          refine gr_40_11 hG dX11_finishes_85 fl_X11_36 R38 ?_
                          refine px_bipush hG dX11_finishes_88 (by decide) ?_
                          refine px_iload hG dX11_finishes_90 rfl ?_
                          refine px_iconst hG dX11_finishes_92 ?_
                          refine px_iadd hG dX11_finishes_93 ?_
                          refine px_imul hG dX11_finishes_94 ?_
                          refine px_iload hG dX11_finishes_95 rfl ?_
                          refine px_iadd hG dX11_finishes_97 ?_
                          refine px_iload hG dX11_finishes_98 rfl ?_
                          refine px_isub hG dX11_finishes_100 ?_
                          refine al_48 hG dX11_finishes_101 (by omega) (fun z67 ez67 => ?_)
                          have Z1 := U2 (v4_16 + 1) (by omega) (by omega) (v5_36 - v8_49) (by omega) (by omega)
                          rw [show 12 * (v4_16 + 1) + (v5_36 - v8_49) = 12 * (v4_16 + 1) + v5_36 - v8_49 by omega, ez67] at Z1
                          refine px_aload_n hG dX11_finishes_102 rfl ?_
                          refine px_iload_n hG dX11_finishes_103 rfl ?_
                          refine px_iload hG dX11_finishes_104 rfl ?_
                          refine px_iload hG dX11_finishes_106 rfl ?_
                          refine px_isub hG dX11_finishes_108 ?_
                          refine px_isub hG dX11_finishes_109 ?_
                          refine px_iload hG dX11_finishes_110 rfl ?_
                          refine jv2 hG dX11_finishes_112 ct_X11_choosee lk_X11_148 ⟨rfl, rfl⟩ (by decide) ⟨Nat.le_of_ble_eq_true rfl, Nat.le_of_ble_eq_true rfl, Nat.le_of_ble_eq_true rfl⟩ (Nat.le_of_ble_eq_true rfl) ⟨(le - (v5_36 - v8_49)), v8_49, rfl, rfl, R38, ⟨⟨by omega, by omega, by omega, by omega, CS⟩, (pm_J2_fr F39 rfl J2)⟩⟩ (fun r68 t69 pr68 => ?_)
                          obtain ⟨z70, rfl, rfl, br68⟩ := pr68 _ _ rfl
                          show G 115 [some (.inr (.inr (40, 0))), some (.inl pl), some (.inl le), some (.inl (v3_15 + x35)), some (.inl v4_16), some (.inl v5_36), some (.inr (.inl v6_48)), none, some (.inl v8_49)] [.inr (.inl z70), .inr (.inl z67), .inr (.inl v6_48)] 122 s37
                          have Z2 := br68
                          refine px_lmul hG dX11_finishes_115 ?_
                          refine px_ladd hG dX11_finishes_116 ?_
                          refine px_lstore hG dX11_finishes_117 (Nat.le_of_ble_eq_true rfl) (L2 := [some (.inr (.inr (40, 0))), some (.inl pl), some (.inl le), some (.inl (v3_15 + x35)), some (.inl v4_16), some (.inl v5_36), some (.inr (.inl (v6_48 + (z67 * z70)))), none, some (.inl v8_49)]) rfl ?_
                          refine px_iinc hG dX11_finishes_119 (Nat.le_of_ble_eq_true rfl) rfl (L2 := [some (.inr (.inr (40, 0))), some (.inl pl), some (.inl le), some (.inl (v3_15 + x35)), some (.inl v4_16), some (.inl v5_36), some (.inr (.inl (v6_48 + (z67 * z70)))), none, some (.inl (v8_49 + 1))]) rfl ?_
                          refine px_goto hG dX11_finishes_122 (tgt := 75) (by decide) ?_
                          exact ih50 (v6_48 + (z67 * z70)) (v8_49 + 1) (⟨by omega, ⟨pm_sum_i S1 (by omega) (pm_T_i Z1 Z2 (by omega) (by omega) (by omega) (by omega)), by omega⟩⟩) (by omega)
                    exact L75 _ 0 0 (⟨by omega, ⟨rfl, by omega⟩⟩) (Nat.lt_succ_self _)
              exact L63 _ 0 s17 R18 F19 (⟨by omega, ⟨fun q a b => by omega, V, by omega⟩⟩) (Nat.lt_succ_self _)
        exact L44 _ 0 pl s2 R3 F4 (⟨by omega, ⟨by omega, by omega, by omega, by rw [show (pl - pl).toNat = 0 by omega]; rfl, fun v a b => by rw [show v = pl + 1 by omega]; exact fun q c d => W q c (by omega)⟩⟩) (Nat.lt_succ_self _)
      refine px_ic_gt hG dX11_finishes_8 (tgt := 41) (by decide) ⟨by omega, by omega⟩ ⟨by omega, by omega⟩ (fun c12 => ?_) (fun c12 => ?_)
      · refine px_weak hG (L2 := [some (.inr (.inr (40, 0))), some (.inl pl), some (.inl le), some (.inl 0), none, none, none, none, none]) ⟨Or.inr rfl, Or.inr rfl, Or.inr rfl, Or.inr rfl, Or.inl rfl, Or.inr rfl, Or.inr rfl, Or.inr rfl, Or.inr rfl, trivial⟩ ?_
        exact J41_13  (by omega)
      · refine px_aload_n hG dX11_finishes_11 rfl ?_
        refine gr_40_11 hG dX11_finishes_12 fl_X11_36 R3 ?_
        refine px_bipush hG dX11_finishes_15 (by decide) ?_
        refine px_iload_n hG dX11_finishes_17 rfl ?_
        refine px_iconst hG dX11_finishes_18 ?_
        refine px_iadd hG dX11_finishes_19 ?_
        refine px_imul hG dX11_finishes_20 ?_
        refine px_iload hG dX11_finishes_21 rfl ?_
        refine px_iadd hG dX11_finishes_23 ?_
        refine px_iload hG dX11_finishes_24 rfl ?_
        refine px_if_ne hG dX11_finishes_26 (tgt := 33) (by decide) ⟨by omega, by omega⟩ (fun c71 => ?_) (fun c71 => ?_)
        · refine px_lconst hG dX11_finishes_33 ?_
          show G 34 [some (.inr (.inr (40, 0))), some (.inl pl), some (.inl le), some (.inl 0), some (.inl v4_1), none, none, none, none] [.inr (.inl 0), .inl ((12 * (pl + 1)) + v4_1), .inr (.inr (48, 0))] 122 s2
          refine as_48 hG dX11_finishes_34 R3 (by omega) (fun s72 qs72 Rs72 => ?_)
          have Fs72 := pm_Fr_up (F4) qs72 (M := [(48, none)]) rfl
          have jj73 := pm_nec qs72 (c' := 40) (r' := 0) (i' := 0) (by decide)
          have jj74 := pm_nec qs72 (c' := 40) (r' := 0) (i' := 1) (by decide)
          have jj75 := pm_nec qs72 (c' := 40) (r' := 0) (i' := 2) (by decide)
          have jj76 := pm_nec qs72 (c' := 40) (r' := 0) (i' := 3) (by decide)
          have E := qs72
          refine px_iinc hG dX11_finishes_35 (Nat.le_of_ble_eq_true rfl) rfl (L2 := [some (.inr (.inr (40, 0))), some (.inl pl), some (.inl le), some (.inl 0), some (.inl (v4_1 + 1)), none, none, none, none]) rfl ?_
          refine px_goto hG dX11_finishes_38 (tgt := 5) (by decide) ?_
          exact ih5 (v4_1 + 1) s72 Rs72 Fs72 (⟨by omega, pm_fR_s W E (by omega) (pm_S_0 (by omega) (by omega) (by omega))⟩) (by omega)
        · refine px_lconst hG dX11_finishes_29 ?_
          show G 30 [some (.inr (.inr (40, 0))), some (.inl pl), some (.inl le), some (.inl 0), some (.inl v4_1), none, none, none, none] [.inr (.inl 1), .inl ((12 * (pl + 1)) + v4_1), .inr (.inr (48, 0))] 122 s2
          refine px_goto hG dX11_finishes_30 (tgt := 34) (by decide) ?_
          refine as_48 hG dX11_finishes_34 R3 (by omega) (fun s77 qs77 Rs77 => ?_)
          have Fs77 := pm_Fr_up (F4) qs77 (M := [(48, none)]) rfl
          have jj78 := pm_nec qs77 (c' := 40) (r' := 0) (i' := 0) (by decide)
          have jj79 := pm_nec qs77 (c' := 40) (r' := 0) (i' := 1) (by decide)
          have jj80 := pm_nec qs77 (c' := 40) (r' := 0) (i' := 2) (by decide)
          have jj81 := pm_nec qs77 (c' := 40) (r' := 0) (i' := 3) (by decide)
          have E := qs77
          refine px_iinc hG dX11_finishes_35 (Nat.le_of_ble_eq_true rfl) rfl (L2 := [some (.inr (.inr (40, 0))), some (.inl pl), some (.inl le), some (.inl 0), some (.inl (v4_1 + 1)), none, none, none, none]) rfl ?_
          refine px_goto hG dX11_finishes_38 (tgt := 5) (by decide) ?_
          exact ih5 (v4_1 + 1) s77 Rs77 Fs77 (⟨by omega, pm_fR_s W E (by omega) (pm_S_0 (by omega) (by omega) (by omega))⟩) (by omega)
  exact L5 _ 0 s0 R0 pm_Fr_rf (⟨by omega, fun q a b => by omega⟩) (Nat.lt_succ_self _))
def pre_X11_spreade (as : List pm_V) (n : Nat) (σ : pm_H) : Prop := ∃ aa ab ac : Int, as = [.inr (.inr (40, 0)), .inl aa, .inl ab, .inl ac] ∧ n = 122 ∧ pm_Rng σ ∧ ((pm_in aa ∧ pm_in ab ∧ pm_in ac ∧ pm_CH σ) ∧ pm_J2 σ)
def po_X11_spreade (as : List pm_V) (_ : Nat) (σ : pm_H) (r : Option pm_V) (τ : pm_H) : Prop := ∀ aa ab ac : Int, as = [.inr (.inr (40, 0)), .inl aa, .inl ab, .inl ac] → ∃ v : Int, r = some (.inr (.inl v)) ∧ pm_Rng τ ∧ pm_Fr [(47, none), (48, none), (61, none), (62, none), (63, none)] σ τ ∧ (v = pm_sp aa ab ac)
set_option maxRecDepth 20000 in
set_option maxHeartbeats 4000000 in
theorem ct_X11_spreade : pm_Ct yX11_spread cX11_spread 6 (some .long) 3 0 pre_X11_spreade po_X11_spreade := pm_sound (ini := false) (by decide +kernel) pk_X11_spread (fun h => absurd h (by decide)) (by
  rintro as n s0 ⟨aa, ab, ac, rfl, rfl, R0, hpre⟩
  refine ⟨by decide, Nat.le_of_ble_eq_true rfl, fun G hG => ?_⟩
  have hG : pm_Rules (RX11, 3, 122, cX11_spread, -1, (fun _ => 0), false, (some .long), po_X11_spreade [.inr (.inr (40, 0)), .inl aa, .inl ab, .inl ac] 122 s0) G := hG
  show G 0 [some (.inr (.inr (40, 0))), some (.inl aa), some (.inl ab), some (.inl ac), none, none] [] 122 s0
  have B0 := pb_40_0 R0
  have B1 := pb_40_1 R0
  have B2 := pb_40_2 R0
  have B3 := pb_40_3 R0
  have J2 := hpre.2
  have HP := hpre.1
  have JK := J2.1
  have JW := J2.2
  have CH := HP.2.2.2
  refine px_iload_n hG dX11_spread_0 rfl ?_
  refine px_i2l hG dX11_spread_1 ⟨by omega, by omega⟩ ?_
  refine px_lconst hG dX11_spread_2 ?_
  show G 3 [some (.inr (.inr (40, 0))), some (.inl aa), some (.inl ab), some (.inl ac), none, none] [.inr (.inl 0), .inr (.inl aa)] 122 s0
  refine px_ldc2 hG dX11_spread_3 cn_X11_238 ?_
  show G 6 [some (.inr (.inr (40, 0))), some (.inl aa), some (.inl ab), some (.inl ac), none, none] [.inr (.inl 5), .inr (.inl 0), .inr (.inl aa)] 122 s0
  refine js3 hG dX11_spread_6 ct_X11_in lk_X11_96 ⟨Nat.le_of_ble_eq_true rfl, Nat.le_of_ble_eq_true rfl, Nat.le_of_ble_eq_true rfl⟩ (Nat.le_of_ble_eq_true rfl) ⟨aa, 0, 5, rfl, rfl, R0, by omega⟩ (fun r1 t2 pr1 => ?_)
  obtain ⟨x3, rfl, rfl, br1⟩ := pr1 _ _ _ rfl
  show G 9 [some (.inr (.inr (40, 0))), some (.inl aa), some (.inl ab), some (.inl ac), none, none] [.inl x3] 122 s0
  refine px_if_eq hG dX11_spread_9 (tgt := 24) (by decide) ⟨by omega, by omega⟩ (fun c4 => ?_) (fun c4 => ?_)
  · refine px_ldc2 hG dX11_spread_24 cn_X11_162 ?_
    show G 27 [some (.inr (.inr (40, 0))), some (.inl aa), some (.inl ab), some (.inl ac), none, none] [.inr (.inl (-1))] 122 s0
    exact px_lret (st := []) hG dX11_spread_27 rfl rfl (fun aa_1 ab_1 ac_1 ee => by cases ee; exact ⟨_, rfl, R0, pm_Fr_rf, pm_sp_b (by omega)⟩)
  · refine px_iload_n hG dX11_spread_12 rfl ?_
    refine px_i2l hG dX11_spread_13 ⟨by omega, by omega⟩ ?_
    refine px_lconst hG dX11_spread_14 ?_
    show G 15 [some (.inr (.inr (40, 0))), some (.inl aa), some (.inl ab), some (.inl ac), none, none] [.inr (.inl 1), .inr (.inl ab)] 122 s0
    refine px_ldc2 hG dX11_spread_15 cn_X11_100 ?_
    show G 18 [some (.inr (.inr (40, 0))), some (.inl aa), some (.inl ab), some (.inl ac), none, none] [.inr (.inl 10), .inr (.inl 1), .inr (.inl ab)] 122 s0
    refine js3 hG dX11_spread_18 ct_X11_in lk_X11_96 ⟨Nat.le_of_ble_eq_true rfl, Nat.le_of_ble_eq_true rfl, Nat.le_of_ble_eq_true rfl⟩ (Nat.le_of_ble_eq_true rfl) ⟨ab, 1, 10, rfl, rfl, R0, by omega⟩ (fun r5 t6 pr5 => ?_)
    obtain ⟨x7, rfl, rfl, br5⟩ := pr5 _ _ _ rfl
    show G 21 [some (.inr (.inr (40, 0))), some (.inl aa), some (.inl ab), some (.inl ac), none, none] [.inl x7] 122 s0
    refine px_if_ne hG dX11_spread_21 (tgt := 28) (by decide) ⟨by omega, by omega⟩ (fun c8 => ?_) (fun c8 => ?_)
    · refine px_iload_n hG dX11_spread_28 rfl ?_
      refine px_if_ne hG dX11_spread_29 (tgt := 61) (by decide) ⟨by omega, by omega⟩ (fun c9 => ?_) (fun c9 => ?_)
      · refine px_iload_n hG dX11_spread_61 rfl ?_
        refine px_iconst hG dX11_spread_62 ?_
        refine px_ic_ne hG dX11_spread_63 (tgt := 73) (by decide) ⟨by omega, by omega⟩ ⟨by omega, by omega⟩ (fun c10 => ?_) (fun c10 => ?_)
        · refine px_iload_n hG dX11_spread_73 rfl ?_
          refine px_iconst hG dX11_spread_74 ?_
          refine px_ic_ne hG dX11_spread_75 (tgt := 101) (by decide) ⟨by omega, by omega⟩ ⟨by omega, by omega⟩ (fun c11 => ?_) (fun c11 => ?_)
          · refine px_iload_n hG dX11_spread_101 rfl ?_
            refine px_i2l hG dX11_spread_102 ⟨by omega, by omega⟩ ?_
            refine px_iload_n hG dX11_spread_103 rfl ?_
            refine px_iconst hG dX11_spread_104 ?_
            have J113_14 : ∀ (j13 : Int), ((j13 = 0 ∧ aa = 4) ∨ (j13 = 1 ∧ aa ≠ 4)) → G 113 [some (.inr (.inr (40, 0))), some (.inl aa), some (.inl ab), some (.inl ac), none, none] [.inr (.inl j13), .inr (.inl ac)] 122 s0 := by
              intro j13 inv15
              refine px_iload_n hG dX11_spread_113 rfl ?_
              refine px_i2l hG dX11_spread_114 ⟨by omega, by omega⟩ ?_
              refine js3 hG dX11_spread_115 ct_X11_in lk_X11_96 ⟨Nat.le_of_ble_eq_true rfl, Nat.le_of_ble_eq_true rfl, Nat.le_of_ble_eq_true rfl⟩ (Nat.le_of_ble_eq_true rfl) ⟨ac, j13, ab, rfl, rfl, R0, by omega⟩ (fun r16 t17 pr16 => ?_)
              obtain ⟨x18, rfl, rfl, br16⟩ := pr16 _ _ _ rfl
              show G 118 [some (.inr (.inr (40, 0))), some (.inl aa), some (.inl ab), some (.inl ac), none, none] [.inl x18] 122 s0
              refine px_if_ne hG dX11_spread_118 (tgt := 123) (by decide) ⟨by omega, by omega⟩ (fun c19 => ?_) (fun c19 => ?_)
              · refine px_iload_n hG dX11_spread_123 rfl ?_
                refine px_iconst hG dX11_spread_124 ?_
                refine px_ic_ne hG dX11_spread_125 (tgt := 156) (by decide) ⟨by omega, by omega⟩ ⟨by omega, by omega⟩ (fun c20 => ?_) (fun c20 => ?_)
                · refine px_aload_n hG dX11_spread_156 rfl ?_
                  refine jv0 hG dX11_spread_157 ct_X11_clearTold lk_X11_152 ⟨rfl, rfl⟩ (by decide) ⟨Nat.le_of_ble_eq_true rfl, Nat.le_of_ble_eq_true rfl, Nat.le_of_ble_eq_true rfl⟩ (Nat.le_of_ble_eq_true rfl) ⟨rfl, rfl, R0, J2⟩ (fun r21 t23 pr21 => ?_)
                  obtain ⟨rfl, Rt23, Ft23, br21⟩ := pr21 rfl
                  have Ff25 := pm_Fr_mono Ft23 (M := [(47, none), (48, none), (61, none), (62, none), (63, none)]) rfl
                  have jj26 := Ft23 40 0 0 rfl
                  have jj27 := Ft23 40 0 1 rfl
                  have jj28 := Ft23 40 0 2 rfl
                  have jj29 := Ft23 40 0 3 rfl
                  show G 160 [some (.inr (.inr (40, 0))), some (.inl aa), some (.inl ab), some (.inl ac), none, none] [] 122 t23
                  have W0 : ∀ i : Int, 0 ≤ i → i ≤ 11 → t23 47 0 i = 0 := br21
                  refine px_iload_n hG dX11_spread_160 rfl ?_
                  refine px_iconst hG dX11_spread_161 ?_
                  refine px_ic_ne hG dX11_spread_162 (tgt := 181) (by decide) ⟨by omega, by omega⟩ ⟨by omega, by omega⟩ (fun c30 => ?_) (fun c30 => ?_)
                  · refine px_aload_n hG dX11_spread_181 rfl ?_
                    refine px_iload_n hG dX11_spread_182 rfl ?_
                    refine px_iload_n hG dX11_spread_183 rfl ?_
                    refine jv2 hG dX11_spread_184 ct_X11_finishest lk_X11_155 ⟨rfl, rfl⟩ (by decide) ⟨Nat.le_of_ble_eq_true rfl, Nat.le_of_ble_eq_true rfl, Nat.le_of_ble_eq_true rfl⟩ (Nat.le_of_ble_eq_true rfl) ⟨ab, ab, rfl, rfl, Rt23, ⟨⟨by omega, by omega, by omega, by omega, pm_CH_eq (fun i => Ff25 46 0 i rfl) CH⟩, (pm_J2_fr Ff25 rfl J2)⟩⟩ (fun r31 t33 pr31 => ?_)
                    obtain ⟨z34, rfl, Rt33, Ft33, br31⟩ := pr31 _ _ rfl
                    have Ff35 := pm_Fr_tr Ff25 Ft33 (M := [(47, none), (48, none), (61, none), (62, none), (63, none)]) rfl
                    have jj36 := Ft33 40 0 0 rfl
                    have jj37 := Ft33 40 0 1 rfl
                    have jj38 := Ft33 40 0 2 rfl
                    have jj39 := Ft33 40 0 3 rfl
                    show G 187 [some (.inr (.inr (40, 0))), some (.inl aa), some (.inl ab), some (.inl ac), none, none] [.inr (.inl z34)] 122 t33
                    have B := br31
                    have RG := pm_ms4b B.1 W0 (by omega) (by omega)
                    refine px_lstore hG dX11_spread_187 (Nat.le_of_ble_eq_true rfl) (L2 := [some (.inr (.inr (40, 0))), some (.inl aa), some (.inl ab), some (.inl ac), some (.inr (.inl z34)), none]) rfl ?_
                    refine px_lload hG dX11_spread_189 rfl ?_
                    refine px_lconst hG dX11_spread_191 ?_
                    show G 192 [some (.inr (.inr (40, 0))), some (.inl aa), some (.inl ab), some (.inl ac), some (.inr (.inl z34)), none] [.inr (.inl 0), .inr (.inl z34)] 122 t33
                    refine px_lcmp hG dX11_spread_192 ⟨by omega, by omega⟩ ⟨by omega, by omega⟩ (fun x40 bx40 => ?_)
                    refine px_if_ne hG dX11_spread_193 (tgt := 200) (by decide) ⟨by omega, by omega⟩ (fun c41 => ?_) (fun c41 => ?_)
                    · refine px_aload_n hG dX11_spread_200 rfl ?_
                      refine gr_40_11 hG dX11_spread_201 fl_X11_36 Rt33 ?_
                      refine px_bipush hG dX11_spread_204 (by decide) ?_
                      refine px_iload_n hG dX11_spread_206 rfl ?_
                      refine px_iadd hG dX11_spread_207 ?_
                      refine px_iload_n hG dX11_spread_208 rfl ?_
                      refine px_isub hG dX11_spread_209 ?_
                      refine al_48 hG dX11_spread_210 (by omega) (fun z42 ez42 => ?_)
                      have X := ez42
                      have jj43 := Ff35 40 0 0 rfl
                      have jj44 := Ff35 40 0 1 rfl
                      have jj45 := Ff35 40 0 2 rfl
                      have jj46 := Ff35 40 0 3 rfl
                      exact px_lret (st := []) hG dX11_spread_211 rfl rfl (fun aa_1 ab_1 ac_1 ee => by cases ee; exact ⟨_, rfl, Rt33, Ff35, by first | (exfalso; omega) | exact pm_sp_i (by omega) (by omega) (Or.inr (Or.inr (Or.inr (Or.inr (Or.inl ⟨by omega, pm_ms4 (X.symm.trans (pm_idx (B.2 (ab - ac) (by omega) (by omega)) (by omega))) W0 (by omega) (by omega) (by omega) (by omega)⟩)))))⟩)
                    · refine px_lconst hG dX11_spread_196 ?_
                      show G 197 [some (.inr (.inr (40, 0))), some (.inl aa), some (.inl ab), some (.inl ac), some (.inr (.inl z34)), none] [.inr (.inl 0)] 122 t33
                      refine px_goto hG dX11_spread_197 (tgt := 211) (by decide) ?_
                      have jj47 := Ff35 40 0 0 rfl
                      have jj48 := Ff35 40 0 1 rfl
                      have jj49 := Ff35 40 0 2 rfl
                      have jj50 := Ff35 40 0 3 rfl
                      exact px_lret (st := []) hG dX11_spread_211 rfl rfl (fun aa_1 ab_1 ac_1 ee => by cases ee; exact ⟨_, rfl, Rt33, Ff35, by first | (exfalso; omega) | exact pm_sp_i (by omega) (by omega) (Or.inr (Or.inr (Or.inr (Or.inr (Or.inl ⟨by omega, pm_ms4 (X.symm.trans (pm_idx (B.2 (ab - ac) (by omega) (by omega)) (by omega))) W0 (by omega) (by omega) (by omega) (by omega)⟩)))))⟩)
                  · refine px_aload_n hG dX11_spread_165 rfl ?_
                    refine gr_40_10 hG dX11_spread_166 fl_X11_33 Rt23 ?_
                    refine px_iload_n hG dX11_spread_169 rfl ?_
                    refine px_iconst hG dX11_spread_170 ?_
                    refine as_47 hG dX11_spread_171 Rt23 (by omega) (by omega) (fun s51 qs51 Rs51 => ?_)
                    have Fs51 := pm_Fr_up (Ff25) qs51 (M := [(47, none), (48, none), (61, none), (62, none), (63, none)]) rfl
                    have jj52 := pm_nec qs51 (c' := 40) (r' := 0) (i' := 0) (by decide)
                    have jj53 := pm_nec qs51 (c' := 40) (r' := 0) (i' := 1) (by decide)
                    have jj54 := pm_nec qs51 (c' := 40) (r' := 0) (i' := 2) (by decide)
                    have jj55 := pm_nec qs51 (c' := 40) (r' := 0) (i' := 3) (by decide)
                    have E := qs51
                    have WT : ∀ u : Int, 0 ≤ u → u ≤ 11 → s51 47 0 u = if u = ac then 1 else 0 := fun u a b => pm_w1s E (W0 u a b)
                    refine px_aload_n hG dX11_spread_172 rfl ?_
                    refine px_iload_n hG dX11_spread_173 rfl ?_
                    refine px_iload_n hG dX11_spread_174 rfl ?_
                    refine px_iconst hG dX11_spread_175 ?_
                    refine px_isub hG dX11_spread_176 ?_
                    refine jv2 hG dX11_spread_177 ct_X11_finishese lk_X11_155 ⟨rfl, rfl⟩ (by decide) ⟨Nat.le_of_ble_eq_true rfl, Nat.le_of_ble_eq_true rfl, Nat.le_of_ble_eq_true rfl⟩ (Nat.le_of_ble_eq_true rfl) ⟨ab, (ab - 1), rfl, rfl, Rs51, ⟨⟨by omega, by omega, by omega, by omega, pm_CH_eq (fun i => Fs51 46 0 i rfl) CH⟩, (pm_J2_fr Fs51 rfl J2)⟩⟩ (fun r56 t58 pr56 => ?_)
                    obtain ⟨z59, rfl, Rt58, Ft58, br56⟩ := pr56 _ _ rfl
                    have Ff60 := pm_Fr_tr Fs51 Ft58 (M := [(47, none), (48, none), (61, none), (62, none), (63, none)]) rfl
                    have jj61 := Ft58 40 0 0 rfl
                    have jj62 := Ft58 40 0 1 rfl
                    have jj63 := Ft58 40 0 2 rfl
                    have jj64 := Ft58 40 0 3 rfl
                    show G 180 [some (.inr (.inr (40, 0))), some (.inl aa), some (.inl ab), some (.inl ac), none, none] [.inr (.inl z59)] 122 t58
                    have B := br56
                    have jj65 := Ff60 40 0 0 rfl
                    have jj66 := Ff60 40 0 1 rfl
                    have jj67 := Ff60 40 0 2 rfl
                    have jj68 := Ff60 40 0 3 rfl
                    exact px_lret (st := []) hG dX11_spread_180 rfl rfl (fun aa_1 ab_1 ac_1 ee => by cases ee; exact ⟨_, rfl, Rt58, Ff60, pm_sp_i (by omega) (by omega) (Or.inr (Or.inr (Or.inr (Or.inl ⟨by omega, pm_ms3 B WT (by omega) (by omega) (by omega)⟩))))⟩)
                · refine px_aload_n hG dX11_spread_128 rfl ?_
                  refine px_iload_n hG dX11_spread_129 rfl ?_
                  refine px_iconst hG dX11_spread_130 ?_
                  refine px_isub hG dX11_spread_131 ?_
                  refine px_iload_n hG dX11_spread_132 rfl ?_
                  refine px_iconst hG dX11_spread_133 ?_
                  refine px_isub hG dX11_spread_134 ?_
                  refine jv2 hG dX11_spread_135 ct_X11_choosee lk_X11_148 ⟨rfl, rfl⟩ (by decide) ⟨Nat.le_of_ble_eq_true rfl, Nat.le_of_ble_eq_true rfl, Nat.le_of_ble_eq_true rfl⟩ (Nat.le_of_ble_eq_true rfl) ⟨(ab - 1), (ac - 1), rfl, rfl, R0, ⟨⟨by omega, by omega, by omega, by omega, CH⟩, J2⟩⟩ (fun r69 t70 pr69 => ?_)
                  obtain ⟨z71, rfl, rfl, br69⟩ := pr69 _ _ rfl
                  show G 138 [some (.inr (.inr (40, 0))), some (.inl aa), some (.inl ab), some (.inl ac), none, none] [.inr (.inl z71)] 122 s0
                  have B1 := br69
                  refine px_iload_n hG dX11_spread_138 rfl ?_
                  refine px_iconst hG dX11_spread_139 ?_
                  refine px_isub hG dX11_spread_140 ?_
                  refine js1 hG dX11_spread_141 ct_X11_allOfe lk_X11_251 ⟨Nat.le_of_ble_eq_true rfl, Nat.le_of_ble_eq_true rfl, Nat.le_of_ble_eq_true rfl⟩ (Nat.le_of_ble_eq_true rfl) ⟨(ac - 1), rfl, rfl, R0, by omega⟩ (fun r72 t73 pr72 => ?_)
                  obtain ⟨z74, rfl, rfl, br72⟩ := pr72 _ rfl
                  show G 144 [some (.inr (.inr (40, 0))), some (.inl aa), some (.inl ab), some (.inl ac), none, none] [.inr (.inl z74), .inr (.inl z71)] 122 s0
                  have B2 := br72
                  refine px_lmul hG dX11_spread_144 ?_
                  refine px_iload_n hG dX11_spread_145 rfl ?_
                  refine px_iload_n hG dX11_spread_146 rfl ?_
                  refine px_isub hG dX11_spread_147 ?_
                  refine js1 hG dX11_spread_148 ct_X11_allOfe lk_X11_251 ⟨Nat.le_of_ble_eq_true rfl, Nat.le_of_ble_eq_true rfl, Nat.le_of_ble_eq_true rfl⟩ (Nat.le_of_ble_eq_true rfl) ⟨(ab - ac), rfl, rfl, R0, by omega⟩ (fun r75 t76 pr75 => ?_)
                  obtain ⟨z77, rfl, rfl, br75⟩ := pr75 _ rfl
                  show G 151 [some (.inr (.inr (40, 0))), some (.inl aa), some (.inl ab), some (.inl ac), none, none] [.inr (.inl z77), .inr (.inl (z71 * z74))] 122 s0
                  have B3 := br75
                  refine px_lmul hG dX11_spread_151 ?_
                  refine px_iload_n hG dX11_spread_152 rfl ?_
                  refine px_i2l hG dX11_spread_153 ⟨by omega, by omega⟩ ?_
                  refine px_lmul hG dX11_spread_154 ?_
                  exact px_lret (st := []) hG dX11_spread_155 rfl rfl (fun aa_1 ab_1 ac_1 ee => by cases ee; exact ⟨_, rfl, R0, pm_Fr_rf, pm_sp_i (by omega) (by omega) (Or.inr (Or.inr (Or.inl ⟨by omega, pm_ms2 B1 B2 B3 (by omega) (by omega)⟩)))⟩)
              · refine px_lconst hG dX11_spread_121 ?_
                show G 122 [some (.inr (.inr (40, 0))), some (.inl aa), some (.inl ab), some (.inl ac), none, none] [.inr (.inl 0)] 122 s0
                exact px_lret (st := []) hG dX11_spread_122 rfl rfl (fun aa_1 ab_1 ac_1 ee => by cases ee; exact ⟨_, rfl, R0, pm_Fr_rf, pm_sZr (by omega) (by omega) (by omega) (by omega)⟩)
            refine px_ic_ne hG dX11_spread_105 (tgt := 112) (by decide) ⟨by omega, by omega⟩ ⟨by omega, by omega⟩ (fun c12 => ?_) (fun c12 => ?_)
            · refine px_lconst hG dX11_spread_112 ?_
              show G 113 [some (.inr (.inr (40, 0))), some (.inl aa), some (.inl ab), some (.inl ac), none, none] [.inr (.inl 1), .inr (.inl ac)] 122 s0
              exact J113_14 1 (by omega)
            · refine px_lconst hG dX11_spread_108 ?_
              show G 109 [some (.inr (.inr (40, 0))), some (.inl aa), some (.inl ab), some (.inl ac), none, none] [.inr (.inl 0), .inr (.inl ac)] 122 s0
              refine px_goto hG dX11_spread_109 (tgt := 113) (by decide) ?_
              exact J113_14 0 (by omega)
          · refine px_iload_n hG dX11_spread_78 rfl ?_
            refine px_if_lt hG dX11_spread_79 (tgt := 88) (by decide) ⟨by omega, by omega⟩ (fun c78 => ?_) (fun c78 => ?_)
            · refine px_lconst hG dX11_spread_88 ?_
              show G 89 [some (.inr (.inr (40, 0))), some (.inl aa), some (.inl ab), some (.inl ac), none, none] [.inr (.inl 0)] 122 s0
              refine px_goto hG dX11_spread_89 (tgt := 100) (by decide) ?_
              exact px_lret (st := []) hG dX11_spread_100 rfl rfl (fun aa_1 ab_1 ac_1 ee => by cases ee; exact ⟨_, rfl, R0, pm_Fr_rf, by first | exact pm_sp_i (by omega) (by omega) (Or.inr (Or.inr (Or.inr (Or.inr (Or.inr (⟨by omega, (if_pos (by omega)).symm⟩)))))) | exact pm_sp_i (by omega) (by omega) (Or.inr (Or.inr (Or.inr (Or.inr (Or.inr (⟨by omega, pm_ms5 B (by omega)⟩))))))⟩)
            · refine px_iload_n hG dX11_spread_82 rfl ?_
              refine px_bipush hG dX11_spread_83 (by decide) ?_
              refine px_ic_le hG dX11_spread_85 (tgt := 92) (by decide) ⟨by omega, by omega⟩ ⟨by omega, by omega⟩ (fun c79 => ?_) (fun c79 => ?_)
              · refine px_aload_n hG dX11_spread_92 rfl ?_
                refine px_iload_n hG dX11_spread_93 rfl ?_
                refine px_iload_n hG dX11_spread_94 rfl ?_
                refine px_iconst hG dX11_spread_95 ?_
                refine px_iadd hG dX11_spread_96 ?_
                refine jv2 hG dX11_spread_97 ct_X11_withPartse lk_X11_248 ⟨rfl, rfl⟩ (by decide) ⟨Nat.le_of_ble_eq_true rfl, Nat.le_of_ble_eq_true rfl, Nat.le_of_ble_eq_true rfl⟩ (Nat.le_of_ble_eq_true rfl) ⟨ab, (ac + 1), rfl, rfl, R0, ⟨⟨by omega, by omega, by omega, CH⟩, J2⟩⟩ (fun r80 t82 pr80 => ?_)
                obtain ⟨z83, rfl, Rt82, Ft82, br80⟩ := pr80 _ _ rfl
                have Ff84 := pm_Fr_mono Ft82 (M := [(47, none), (48, none), (61, none), (62, none), (63, none)]) rfl
                have jj85 := Ft82 40 0 0 rfl
                have jj86 := Ft82 40 0 1 rfl
                have jj87 := Ft82 40 0 2 rfl
                have jj88 := Ft82 40 0 3 rfl
                show G 100 [some (.inr (.inr (40, 0))), some (.inl aa), some (.inl ab), some (.inl ac), none, none] [.inr (.inl z83)] 122 t82
                have B := br80
                have jj89 := Ff84 40 0 0 rfl
                have jj90 := Ff84 40 0 1 rfl
                have jj91 := Ff84 40 0 2 rfl
                have jj92 := Ff84 40 0 3 rfl
                exact px_lret (st := []) hG dX11_spread_100 rfl rfl (fun aa_1 ab_1 ac_1 ee => by cases ee; exact ⟨_, rfl, Rt82, Ff84, by first | exact pm_sp_i (by omega) (by omega) (Or.inr (Or.inr (Or.inr (Or.inr (Or.inr (⟨by omega, (if_pos (by omega)).symm⟩)))))) | exact pm_sp_i (by omega) (by omega) (Or.inr (Or.inr (Or.inr (Or.inr (Or.inr (⟨by omega, pm_ms5 B (by omega)⟩))))))⟩)
              · refine px_lconst hG dX11_spread_88 ?_
                show G 89 [some (.inr (.inr (40, 0))), some (.inl aa), some (.inl ab), some (.inl ac), none, none] [.inr (.inl 0)] 122 s0
                refine px_goto hG dX11_spread_89 (tgt := 100) (by decide) ?_
                exact px_lret (st := []) hG dX11_spread_100 rfl rfl (fun aa_1 ab_1 ac_1 ee => by cases ee; exact ⟨_, rfl, R0, pm_Fr_rf, by first | exact pm_sp_i (by omega) (by omega) (Or.inr (Or.inr (Or.inr (Or.inr (Or.inr (⟨by omega, (if_pos (by omega)).symm⟩)))))) | exact pm_sp_i (by omega) (by omega) (Or.inr (Or.inr (Or.inr (Or.inr (Or.inr (⟨by omega, pm_ms5 B (by omega)⟩))))))⟩)
        · refine px_aload_n hG dX11_spread_66 rfl ?_
          refine px_iload_n hG dX11_spread_67 rfl ?_
          refine px_iload_n hG dX11_spread_68 rfl ?_
          refine jv2 hG dX11_spread_69 ct_X11_withLuckye lk_X11_245 ⟨rfl, rfl⟩ (by decide) ⟨Nat.le_of_ble_eq_true rfl, Nat.le_of_ble_eq_true rfl, Nat.le_of_ble_eq_true rfl⟩ (Nat.le_of_ble_eq_true rfl) ⟨ab, ac, rfl, rfl, R0, ⟨⟨by omega, by omega, by omega⟩, J2⟩⟩ (fun r93 t95 pr93 => ?_)
          obtain ⟨z96, rfl, Rt95, Ft95, br93⟩ := pr93 _ _ rfl
          have Ff97 := pm_Fr_mono Ft95 (M := [(47, none), (48, none), (61, none), (62, none), (63, none)]) rfl
          have jj98 := Ft95 40 0 0 rfl
          have jj99 := Ft95 40 0 1 rfl
          have jj100 := Ft95 40 0 2 rfl
          have jj101 := Ft95 40 0 3 rfl
          show G 72 [some (.inr (.inr (40, 0))), some (.inl aa), some (.inl ab), some (.inl ac), none, none] [.inr (.inl z96)] 122 t95
          have B := br93
          have jj102 := Ff97 40 0 0 rfl
          have jj103 := Ff97 40 0 1 rfl
          have jj104 := Ff97 40 0 2 rfl
          have jj105 := Ff97 40 0 3 rfl
          exact px_lret (st := []) hG dX11_spread_72 rfl rfl (fun aa_1 ab_1 ac_1 ee => by cases ee; exact ⟨_, rfl, Rt95, Ff97, pm_sp_i (by omega) (by omega) (Or.inr (Or.inl ⟨by omega, pm_ms1 B (by omega) (by omega)⟩))⟩)
      · refine px_iload_n hG dX11_spread_32 rfl ?_
        refine px_if_lt hG dX11_spread_33 (tgt := 42) (by decide) ⟨by omega, by omega⟩ (fun c106 => ?_) (fun c106 => ?_)
        · refine px_lconst hG dX11_spread_42 ?_
          show G 43 [some (.inr (.inr (40, 0))), some (.inl aa), some (.inl ab), some (.inl ac), none, none] [.inr (.inl 0)] 122 s0
          refine px_goto hG dX11_spread_43 (tgt := 60) (by decide) ?_
          exact px_lret (st := []) hG dX11_spread_60 rfl rfl (fun aa_1 ab_1 ac_1 ee => by cases ee; exact ⟨_, rfl, R0, pm_Fr_rf, by first | exact pm_sp_i (by omega) (by omega) (Or.inl ⟨by omega, (if_pos (by omega)).symm⟩) | exact pm_sp_i (by omega) (by omega) (Or.inl ⟨by omega, pm_ms0 B HD (by omega) (by omega) (by omega) (by omega)⟩)⟩)
        · refine px_iload_n hG dX11_spread_36 rfl ?_
          refine px_bipush hG dX11_spread_37 (by decide) ?_
          refine px_ic_le hG dX11_spread_39 (tgt := 46) (by decide) ⟨by omega, by omega⟩ ⟨by omega, by omega⟩ (fun c107 => ?_) (fun c107 => ?_)
          · refine px_aload_n hG dX11_spread_46 rfl ?_
            refine px_iload_n hG dX11_spread_47 rfl ?_
            refine px_iload_n hG dX11_spread_48 rfl ?_
            refine px_iload_n hG dX11_spread_49 rfl ?_
            refine px_iconst hG dX11_spread_50 ?_
            refine px_iadd hG dX11_spread_51 ?_
            refine px_imul hG dX11_spread_52 ?_
            have M1 := pm_mul_bd (a := ab) (b := (ab + 1)) (A := 10) (B := 11) (by omega) (by omega)
            have M2 := Int.mul_pos (a := ab) (b := (ab + 1)) (by omega) (by omega)
            refine px_iconst hG dX11_spread_53 ?_
            refine px_idiv hG dX11_spread_54 ⟨by omega, by omega⟩ ⟨by omega, by omega⟩ ?_
            generalize hx108 : (ab * (ab + 1)) / 2 = x108
            have HD := hx108
            refine px_iload_n hG dX11_spread_55 rfl ?_
            refine px_isub hG dX11_spread_56 ?_
            refine jv2 hG dX11_spread_57 ct_X11_withSume lk_X11_242 ⟨rfl, rfl⟩ (by decide) ⟨Nat.le_of_ble_eq_true rfl, Nat.le_of_ble_eq_true rfl, Nat.le_of_ble_eq_true rfl⟩ (Nat.le_of_ble_eq_true rfl) ⟨ab, (x108 - ac), rfl, rfl, R0, ⟨⟨by omega, by omega, by omega, CH⟩, J2⟩⟩ (fun r109 t111 pr109 => ?_)
            obtain ⟨z112, rfl, Rt111, Ft111, br109⟩ := pr109 _ _ rfl
            have Ff113 := pm_Fr_mono Ft111 (M := [(47, none), (48, none), (61, none), (62, none), (63, none)]) rfl
            have jj114 := Ft111 40 0 0 rfl
            have jj115 := Ft111 40 0 1 rfl
            have jj116 := Ft111 40 0 2 rfl
            have jj117 := Ft111 40 0 3 rfl
            show G 60 [some (.inr (.inr (40, 0))), some (.inl aa), some (.inl ab), some (.inl ac), none, none] [.inr (.inl z112)] 122 t111
            have B := br109
            have jj118 := Ff113 40 0 0 rfl
            have jj119 := Ff113 40 0 1 rfl
            have jj120 := Ff113 40 0 2 rfl
            have jj121 := Ff113 40 0 3 rfl
            exact px_lret (st := []) hG dX11_spread_60 rfl rfl (fun aa_1 ab_1 ac_1 ee => by cases ee; exact ⟨_, rfl, Rt111, Ff113, by first | exact pm_sp_i (by omega) (by omega) (Or.inl ⟨by omega, (if_pos (by omega)).symm⟩) | exact pm_sp_i (by omega) (by omega) (Or.inl ⟨by omega, pm_ms0 B HD (by omega) (by omega) (by omega) (by omega)⟩)⟩)
          · refine px_lconst hG dX11_spread_42 ?_
            show G 43 [some (.inr (.inr (40, 0))), some (.inl aa), some (.inl ab), some (.inl ac), none, none] [.inr (.inl 0)] 122 s0
            refine px_goto hG dX11_spread_43 (tgt := 60) (by decide) ?_
            exact px_lret (st := []) hG dX11_spread_60 rfl rfl (fun aa_1 ab_1 ac_1 ee => by cases ee; exact ⟨_, rfl, R0, pm_Fr_rf, by first | exact pm_sp_i (by omega) (by omega) (Or.inl ⟨by omega, (if_pos (by omega)).symm⟩) | exact pm_sp_i (by omega) (by omega) (Or.inl ⟨by omega, pm_ms0 B HD (by omega) (by omega) (by omega) (by omega)⟩)⟩)
    · refine px_ldc2 hG dX11_spread_24 cn_X11_162 ?_
      show G 27 [some (.inr (.inr (40, 0))), some (.inl aa), some (.inl ab), some (.inl ac), none, none] [.inr (.inl (-1))] 122 s0
      exact px_lret (st := []) hG dX11_spread_27 rfl rfl (fun aa_1 ab_1 ac_1 ee => by cases ee; exact ⟨_, rfl, R0, pm_Fr_rf, pm_sp_b (by omega)⟩))
