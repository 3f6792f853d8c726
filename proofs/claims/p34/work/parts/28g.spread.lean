/-! ===== Spreads, told exactly ===== -/
def pm_sv0 (n v : Int) : Int := if v < 0 ∨ 100 < v then 0 else pm_lv (pm_gl n.toNat) v.toNat
def pm_sv1 (n v : Int) : Int := if v < 0 ∨ n < v then 0 else pm_lv (pm_kl n.toNat) v.toNat
def pm_sv2 (n v : Int) : Int := if v < 1 ∨ n < v then 0 else v * pm_sd n.toNat v.toNat
def pm_sv3 (n v : Int) : Int := if v < 1 ∨ n < v then 0 else pm_fsd n.toNat v.toNat (n.toNat + 1 - v.toNat)
def pm_sv4 (n v : Int) : Int := if v < 1 ∨ n < v then 0 else pm_C (n.toNat - 1) (v.toNat - 1) * (n.toNat : Int) ^ (n.toNat - v.toNat)
def pm_sv5 (n v : Int) : Int := if v < 0 ∨ n ≤ v then 0 else pm_pk n.toNat (v.toNat + 1) n.toNat
def pm_sp (w n v : Int) : Int := if n < 1 ∨ 10 < n ∨ w < 0 ∨ 5 < w then -1 else if w = 0 then pm_sv0 n v else if w = 1 then pm_sv1 n v else if w = 2 then pm_sv2 n v else if w = 3 then pm_sv3 n v else if w = 4 then pm_sv4 n v else pm_sv5 n v
theorem pm_gr_0 {n : Int} (h : n = 0) : (1 : Int) = pm_gr n.toNat := by
  subst h
  rfl
theorem pm_gr_p {n x : Int} (h : x = (n + 1) ^ (n - 1).toNat) (hn : 1 ≤ n) : x = pm_gr n.toNat := by
  unfold pm_gr
  rw [if_neg (by omega), h, show ((n.toNat : Nat) : Int) = n by omega, show (n - 1).toNat = n.toNat - 1 by omega]
theorem pm_sd_i {n p a b c : Int} (A : a = pm_C (n - 1).toNat (p - 1).toNat) (B : b = pm_gr (p - 1).toNat) (C : c = pm_gr (n - p).toNat) (h1 : 1 ≤ p) (h2 : p ≤ n) : a * b * c = pm_sd n.toNat p.toNat := by
  unfold pm_sd
  rw [A, B, C, show (n - 1).toNat = n.toNat - 1 by omega, show (p - 1).toNat = p.toNat - 1 by omega, show (n - p).toNat = n.toNat - p.toNat by omega]
theorem pm_sv2_z {n v : Int} (h : v < 1 ∨ n < v) : (0 : Int) = pm_sv2 n v := (if_pos h).symm
theorem pm_sv2_i {n v x : Int} (h : x = pm_sd n.toNat v.toNat) (h1 : 1 ≤ v) (h2 : v ≤ n) : v * x = pm_sv2 n v := by
  unfold pm_sv2
  rw [if_neg (by omega), h]
theorem pm_sv3_i {n v m a : Int} (h1 : 1 ≤ v → v ≤ m ∧ a = pm_fsd n.toNat v.toNat (m - v).toNat ∧ (m ≤ n + 1 ∨ m = v)) (h0 : v < 1 → a = 0) (he : v < 1 ∨ n < m) : a = pm_sv3 n v := by
  unfold pm_sv3
  by_cases z : v < 1
  · rw [if_pos (Or.inl z)]
    exact h0 z
  · obtain ⟨x1, x2, x3⟩ := h1 (by omega)
    by_cases y : n < v
    · rw [if_pos (Or.inr y), x2, show (m - v).toNat = 0 by omega]
      rfl
    · rw [if_neg (by omega), x2, show (m - v).toNat = n.toNat + 1 - v.toNat by omega]
theorem pm_sv3_s {n v m a x : Int} (h : a = pm_fsd n.toNat v.toNat (m - v).toNat) (hx : x = pm_sd n.toNat m.toNat) (h1 : 1 ≤ v) (h2 : v ≤ m) : a + x = pm_fsd n.toNat v.toNat (m + 1 - v).toNat := by
  rw [show (m + 1 - v).toNat = (m - v).toNat + 1 by omega]
  simp only [pm_fsd]
  rw [h, hx, show v.toNat + (m - v).toNat = m.toNat by omega]
theorem pm_sv4_z {n v : Int} (h : v < 1 ∨ n < v) : (0 : Int) = pm_sv4 n v := (if_pos h).symm
theorem pm_sv4_i {n v c w : Int} (C : c = pm_C (n - 1).toNat (v - 1).toNat) (W : w = n ^ (n - v).toNat) (h1 : 1 ≤ v) (h2 : v ≤ n) : c * w = pm_sv4 n v := by
  unfold pm_sv4
  rw [if_neg (by omega), C, W, show ((n.toNat : Nat) : Int) = n by omega, show (n - 1).toNat = n.toNat - 1 by omega, show (v - 1).toNat = v.toNat - 1 by omega, show (n - v).toNat = n.toNat - v.toNat by omega]
theorem pm_pr_cg {f g : Nat → Int} {m p : Nat} (h : ∀ i : Nat, i < m → f i = g i) (hp : p ≤ m) : pm_pr f m p = pm_pr g m p := by
  induction p with
  | zero => rfl
  | succ p ih =>
    simp only [pm_pr]
    rw [ih (by omega), h (m - (p + 1)) (by omega)]
theorem pm_pr_i {R : Int → Int} {m p a c w x : Int} (S : a = pm_pr (fun i : Nat => R i) m.toNat (p - 1).toNat) (C : c = pm_C m.toNat p.toNat) (W : w = (p - 1) ^ (p - 1).toNat) (X : R (m - p) = x) (h1 : 1 ≤ p) (h2 : p ≤ m) :
    a + c * w * x = pm_pr (fun i : Nat => R i) m.toNat (p + 1 - 1).toNat ∧ a + x * c * w = pm_pr (fun i : Nat => R i) m.toNat (p + 1 - 1).toNat := by
  have e : pm_pr (fun i : Nat => R i) m.toNat (p + 1 - 1).toNat = a + x * c * w := by
    rw [show (p + 1 - 1).toNat = (p - 1).toNat + 1 by omega]
    simp only [pm_pr]
    rw [← S, show (((m.toNat - ((p - 1).toNat + 1) : Nat)) : Int) = m - p by omega, X, show (p - 1).toNat + 1 = p.toNat by omega, ← C, show (((p - 1).toNat : Nat) : Int) = p - 1 by omega, ← W]
  rw [e]
  refine ⟨?_, rfl⟩
  rw [Int.mul_comm (c * w) x, Int.mul_assoc x c w]
/-! cuts in place -/
def pm_cR (s : pm_H) (n k : Int) (t : Int) : Prop := (∀ i : Int, 0 ≤ i → i ≤ t → s 34 0 i = pm_pk n.toNat k.toNat i.toNat) ∧ ∀ i : Int, t < i → i ≤ n → s 34 0 i = pm_pk n.toNat (k.toNat + 1) i.toNat
theorem pm_cR_s {s s' : pm_H} {n k t x : Int} (W : pm_cR s n k t) (h0 : 0 ≤ t) (h1 : t ≤ n) (hx : x = pm_pr (fun i : Nat => s 34 0 i) t.toNat t.toNat) (e : s' = pm_up s 34 0 t x) : pm_cR s' n k (t + -1) := by
  refine ⟨fun i a b => ?_, fun i a b => ?_⟩
  · rw [pm_nei e (by omega)]
    exact W.1 i a (by omega)
  · by_cases z : i = t
    · subst z
      rw [pm_at e, hx]
      simp only [pm_pk]
      exact pm_pr_cg (fun j q => by rw [W.1 (j : Int) (by omega) (by omega), Int.toNat_natCast]) (Nat.le_refl _)
    · rw [pm_nei e z]
      exact W.2 i (by omega) b
theorem pm_cR_n {s : pm_H} {n k t : Int} (W : pm_cR s n k t) (ht : t < 0) (hk : 0 ≤ k) : pm_cR s n (k + 1) n := by
  refine ⟨fun i a b => ?_, fun i a b => by omega⟩
  rw [W.2 i (by omega) b, show (k + 1).toNat = k.toNat + 1 by omega]
theorem pm_cR_0 {s s' : pm_H} {n : Int} (Z : ∀ i : Int, 1 ≤ i → i ≤ n → s 34 0 i = 0) (e : s' = pm_up s 34 0 0 1) : pm_cR s' n 0 n := by
  refine ⟨fun i a b => ?_, fun i a b => by omega⟩
  show s' 34 0 i = (if i.toNat = 0 then (1 : Int) else 0)
  by_cases z : i = 0
  · rw [if_pos (by omega), z, pm_at e]
  · rw [if_neg (by omega), pm_nei e z]
    exact Z i (by omega) b
theorem pm_sv5_z {n v : Int} (h : v < 0 ∨ n ≤ v) : (0 : Int) = pm_sv5 n v := (if_pos h).symm
theorem pm_sv5_i {s : pm_H} {n v k x : Int} (W : pm_cR s n k n) (hk : k = v + 1) (h0 : 0 ≤ v) (h1 : v < n) (X : s 34 0 n = x) : x = pm_sv5 n v := by
  unfold pm_sv5
  rw [if_neg (by omega), ← X, W.1 n (by omega) (Int.le_refl _), show k.toNat = v.toNat + 1 by omega]
/-! goes, lucky -/
theorem pm_mg_t : ∀ k : Nat, k < 11 → ((pm_mg k : Nat) : Int) = pm_t1 k := by decide
theorem pm_a1_i {s s' : pm_H} {m x a b f i y : Int} {M : List Int} (W : pm_LR 46 (pm_a1 x (a.toNat + b.toNat) M f.toNat) (s 32 m)) (e : s' = pm_up s 32 m i y) (hy : y = s 32 m i + x) (hi : i = a + b + f) (ha : 0 ≤ a) (hb : 0 ≤ b) (hf : 0 ≤ f) (h : a + b + f < 46) : pm_LR 46 (pm_a1 x (a.toNat + b.toNat) M (f + 1).toNat) (s' 32 m) := by
  have q := pm_LR_s W e hy (by omega) (by omega)
  rw [show i.toNat = a.toNat + b.toNat + f.toNat by omega] at q
  rw [show (f + 1).toNat = f.toNat + 1 by omega]
  exact q
theorem pm_a2_i {g : Int → Int} {x c a b k : Int} {pl : Nat} {R M : List Int} (W : pm_LR 46 (pm_a1 x (a.toNat + b.toNat) (pm_a2 c R pl a.toNat M b.toNat) k.toNat) g) (hk : k = pl) (hx : x = c * pm_lv R b.toNat) (hb : 0 ≤ b) : pm_LR 46 (pm_a2 c R pl a.toNat M (b + 1).toNat) g := by
  have e : pm_a2 c R pl a.toNat M (b.toNat + 1) = pm_a1 (c * pm_lv R b.toNat) (a.toNat + b.toNat) (pm_a2 c R pl a.toNat M b.toNat) pl := (pm_si_eq _ _).trans (pm_sl_eq _ _)
  rw [show (b + 1).toNat = b.toNat + 1 by omega, e, ← hx]
  rw [show k.toNat = pl by omega] at W
  exact W
theorem pm_a3_i {g : Int → Int} {c a b : Int} {pl nb : Nat} {L R M : List Int} (W : pm_LR 46 (pm_a2 (c * pm_lv L a.toNat) R pl a.toNat (pm_a3 c L R pl nb M a.toNat) b.toNat) g) (hb : b = nb) (ha : 0 ≤ a) : pm_LR 46 (pm_a3 c L R pl nb M (a + 1).toNat) g := by
  have e : pm_a3 c L R pl nb M (a.toNat + 1) = pm_a2 (c * pm_lv L a.toNat) R pl a.toNat (pm_a3 c L R pl nb M a.toNat) nb := (pm_si_eq _ _).trans (pm_sl_eq _ _)
  rw [show (a + 1).toNat = a.toNat + 1 by omega, e]
  rw [show b.toNat = nb by omega] at W
  exact W
theorem pm_a4_i {g : Int → Int} {m pl a : Int} {p q : Nat} (W : pm_LR 46 (pm_a3 (pm_C (m.toNat - 1) p) (pm_gl p) (pm_gl q) (p + 1) (pm_mg q + 1) (pm_ap pm_gl m.toNat p) a.toNat) g) (ha : a = pm_mg p + 1) (hp : (p : Int) = pl - 1) (hq : (q : Int) = m - pl) : pm_LR 46 (pm_ap pm_gl m.toNat pl.toNat) g := by
  have e : pm_ap pm_gl m.toNat (p + 1) = pm_a3 (pm_C (m.toNat - 1) p) (pm_gl p) (pm_gl (m.toNat - 1 - p)) (p + 1) (pm_mg (m.toNat - 1 - p) + 1) (pm_ap pm_gl m.toNat p) (pm_mg p + 1) := rfl
  rw [show pl.toNat = p + 1 by omega, e, show m.toNat - 1 - p = q by omega]
  rw [show a.toNat = pm_mg p + 1 by omega] at W
  exact W
theorem pm_b2_i {s s1 s2 : pm_H} {m x c a b i j y1 y2 lf : Int} {l : Nat} {R M : List Int} (W : pm_LR 11 (pm_b2 c R l a.toNat M b.toNat) (s 33 m)) (e1 : s1 = pm_up s 33 m i y1) (hy1 : y1 = s 33 m i + x * lf) (e2 : s2 = pm_up s1 33 m j y2) (hy2 : y2 = s1 33 m j + x) (hi : i = a + b) (hj : j = a + b + 1) (hl : lf = l)
    (hx : x = c * pm_lv R b.toNat) (ha : 0 ≤ a) (hb : 0 ≤ b) (h : a + b + 1 < 11) : pm_LR 11 (pm_b2 c R l a.toNat M (b + 1).toNat) (s2 33 m) := by
  have e : pm_b2 c R l a.toNat M (b.toNat + 1) = pm_dd (pm_dd (pm_b2 c R l a.toNat M b.toNat) (a.toNat + b.toNat) ((c * pm_lv R b.toNat) * l)) (a.toNat + b.toNat + 1) (c * pm_lv R b.toNat) := pm_si_eq _ _
  have q := pm_LR_s (pm_LR_s W e1 hy1 (by omega) (by omega)) e2 hy2 (by omega) (by omega)
  rw [show i.toNat = a.toNat + b.toNat by omega, show j.toNat = a.toNat + b.toNat + 1 by omega, hl] at q
  rw [show (b + 1).toNat = b.toNat + 1 by omega, e, ← hx]
  exact q
theorem pm_b3_i {g : Int → Int} {c a b : Int} {lf nb : Nat} {L R M : List Int} (W : pm_LR 11 (pm_b2 (c * pm_lv L a.toNat) R lf a.toNat (pm_b3 c L R lf nb M a.toNat) b.toNat) g) (hb : b = nb) (ha : 0 ≤ a) : pm_LR 11 (pm_b3 c L R lf nb M (a + 1).toNat) g := by
  have e : pm_b3 c L R lf nb M (a.toNat + 1) = pm_b2 (c * pm_lv L a.toNat) R lf a.toNat (pm_b3 c L R lf nb M a.toNat) nb := pm_si_eq _ _
  rw [show (a + 1).toNat = a.toNat + 1 by omega, e]
  rw [show b.toNat = nb by omega] at W
  exact W
theorem pm_b4_i {g : Int → Int} {m pl a : Int} {p q : Nat} (W : pm_LR 11 (pm_b3 (pm_C (m.toNat - 1) p) (pm_kl p) (pm_kl q) p (q + 1) (pm_bp pm_kl m.toNat p) a.toNat) g) (ha : a = p + 1) (hp : (p : Int) = pl - 1) (hq : (q : Int) = m - pl) : pm_LR 11 (pm_bp pm_kl m.toNat pl.toNat) g := by
  have e : pm_bp pm_kl m.toNat (p + 1) = pm_b3 (pm_C (m.toNat - 1) p) (pm_kl p) (pm_kl (m.toNat - 1 - p)) p (m.toNat - 1 - p + 1) (pm_bp pm_kl m.toNat p) (p + 1) := rfl
  rw [show pl.toNat = p + 1 by omega, e, show m.toNat - 1 - p = q by omega]
  rw [show a.toNat = p + 1 by omega] at W
  exact W
/-! what is learnt -/
def pm_Sr (s : pm_H) (K r : Int) : Prop := (r ≤ K → pm_LR 46 (pm_gl r.toNat) (s 32 r) ∧ pm_LR 11 (pm_kl r.toNat) (s 33 r)) ∧ (K < r → pm_LR 46 (pm_zl 46) (s 32 r) ∧ pm_LR 11 (pm_zl 11) (s 33 r))
def pm_SK (s : pm_H) (K : Int) : Prop := ∀ r : Int, 0 ≤ r → r ≤ 10 → pm_Sr s K r
def pm_SG (s : pm_H) : Prop := pm_SK s (s 31 0 1)
def pm_SJ (s : pm_H) (m t : Int) : Prop := (∀ r : Int, 0 ≤ r → r ≤ 10 → r ≠ m → pm_Sr s (m - 1) r) ∧ pm_LR 46 (pm_ap pm_gl m.toNat (t - 1).toNat) (s 32 m) ∧ pm_LR 11 (pm_bp pm_kl m.toNat (t - 1).toNat) (s 33 m)
theorem pm_Sr_c {s t : pm_H} {K r : Int} (W : pm_Sr s K r) (e2 : ∀ i : Int, t 32 r i = s 32 r i) (e3 : ∀ i : Int, t 33 r i = s 33 r i) : pm_Sr t K r :=
  ⟨fun h => ⟨pm_LR_c (W.1 h).1 e2, pm_LR_c (W.1 h).2 e3⟩, fun h => ⟨pm_LR_c (W.2 h).1 e2, pm_LR_c (W.2 h).2 e3⟩⟩
theorem pm_SK_c {s t : pm_H} {K : Int} (W : pm_SK s K) (e2 : ∀ r i : Int, t 32 r i = s 32 r i) (e3 : ∀ r i : Int, t 33 r i = s 33 r i) : pm_SK t K := fun r a b => pm_Sr_c (W r a b) (e2 r) (e3 r)
theorem pm_SJ_0 {s : pm_H} {m : Int} (W : pm_SK s (m - 1)) (h1 : 1 ≤ m) (h2 : m ≤ 10) : pm_SJ s m 1 := ⟨fun r a b _ => W r a b, ((W m (by omega) h2).2 (by omega)).1, ((W m (by omega) h2).2 (by omega)).2⟩
theorem pm_SJ_e {s : pm_H} {m t : Int} (W : pm_SJ s m t) (ht : t = m + 1) (h1 : 1 ≤ m) (h2 : m ≤ 10) : pm_SK s (m + 1 - 1) := fun r a b => by
  rw [show m + 1 - 1 = m by omega]
  by_cases z : r = m
  · subst z
    refine ⟨fun _ => ?_, fun h => by omega⟩
    have w := W.2
    rw [show (t - 1).toNat = r.toNat by omega, pm_ap_t r.toNat (by omega) (by omega), pm_bp_t r.toNat (by omega) (by omega)] at w
    exact w
  · have w := W.1 r a b z
    exact ⟨fun h => w.1 (by omega), fun h => w.2 (by omega)⟩
theorem pm_SJ_s {s s1 s2 : pm_H} {m t : Int} (W : pm_SJ s m t) (e1 : ∀ r i : Int, r ≠ m → s1 32 r i = s 32 r i) (f1 : ∀ r i : Int, s1 33 r i = s 33 r i) (f2 : ∀ r i : Int, s2 32 r i = s1 32 r i) (e2 : ∀ r i : Int, r ≠ m → s2 33 r i = s1 33 r i)
    (G : pm_LR 46 (pm_ap pm_gl m.toNat t.toNat) (s1 32 m)) (K : pm_LR 11 (pm_bp pm_kl m.toNat t.toNat) (s2 33 m)) (ht : 1 ≤ t) : pm_SJ s2 m (t + 1) := by
  refine ⟨fun r a b c => pm_Sr_c (W.1 r a b c) (fun i => (f2 r i).trans (e1 r i c)) (fun i => (e2 r i c).trans (f1 r i)), ?_, ?_⟩
  · rw [show (t + 1 - 1).toNat = t.toNat by omega]
    exact pm_LR_c G (fun i => f2 m i)
  · rw [show (t + 1 - 1).toNat = t.toNat by omega]
    exact K
theorem pm_sv0_z {n v : Int} {f : Int → Int} (W : pm_LR 46 (pm_gl n.toNat) f) (h : v < 0 ∨ 45 < v) : (0 : Int) = pm_sv0 n v := by
  unfold pm_sv0
  by_cases z : v < 0 ∨ 100 < v
  · rw [if_pos z]
  · rw [if_neg z, pm_lv_o (by rw [W.1]; omega)]
theorem pm_sv0_i {n v x : Int} {f : Int → Int} (W : pm_LR 46 (pm_gl n.toNat) f) (X : f v = x) (h0 : 0 ≤ v) (h1 : v ≤ 45) : x = pm_sv0 n v := by
  unfold pm_sv0
  rw [if_neg (by omega), ← X]
  exact W.2 v h0 (by omega)
theorem pm_sv1_z {n v : Int} (h : v < 0 ∨ n < v) : (0 : Int) = pm_sv1 n v := (if_pos h).symm
theorem pm_sv1_i {n v x : Int} {f : Int → Int} (W : pm_LR 11 (pm_kl n.toNat) f) (X : f v = x) (h0 : 0 ≤ v) (h1 : v ≤ n) (h2 : n ≤ 10) : x = pm_sv1 n v := by
  unfold pm_sv1
  rw [if_neg (by omega), ← X]
  exact W.2 v h0 (by omega)
theorem pm_sp_b {w n v : Int} (h : n < 1 ∨ 10 < n ∨ w < 0 ∨ 5 < w) : (-1 : Int) = pm_sp w n v := (if_pos h).symm
theorem pm_sp_i {w n v x : Int} (h1 : 1 ≤ n) (h2 : n ≤ 10) (c : (w = 0 ∧ x = pm_sv0 n v) ∨ (w = 1 ∧ x = pm_sv1 n v) ∨ (w = 2 ∧ x = pm_sv2 n v) ∨ (w = 3 ∧ x = pm_sv3 n v) ∨ (w = 4 ∧ x = pm_sv4 n v) ∨ (w = 5 ∧ x = pm_sv5 n v)) : x = pm_sp w n v := by
  rcases c with ⟨q, e⟩ | ⟨q, e⟩ | ⟨q, e⟩ | ⟨q, e⟩ | ⟨q, e⟩ | ⟨q, e⟩ <;> subst q <;> unfold pm_sp <;> rw [if_neg (by omega)]
  · exact e
  · exact e
  · exact e
  · exact e
  · exact e
  · exact e
theorem pm_SG_c {s t : pm_H} (W : pm_SG s) (e1 : t 31 0 1 = s 31 0 1) (e2 : ∀ r i : Int, t 32 r i = s 32 r i) (e3 : ∀ r i : Int, t 33 r i = s 33 r i) : pm_SG t := by
  unfold pm_SG
  rw [e1]
  exact pm_SK_c W e2 e3
theorem pm_zs34 {s s' : pm_H} {k : Int} (W : ∀ i : Int, 1 ≤ i → i < k → s 34 0 i = 0) (e : s' = pm_up s 34 0 k 0) : ∀ i : Int, 1 ≤ i → i < k + 1 → s' 34 0 i = 0 := fun i a b => by
  by_cases z : i = k
  · rw [z]
    exact pm_at e
  · rw [pm_nei e z]
    exact W i a (by omega)

def pre_X1_ofe (as : List pm_V) (n : Nat) (σ : pm_H) : Prop := ∃ al so : Int, as = [.inr (.inr (1, 0)), .inl al, .inl so] ∧ n = 122 ∧ pm_Rng σ ∧ (0 ≤ al ∧ al ≤ 10 ∧ 0 ≤ so ∧ so ≤ 10 ∧ pm_CT σ)
def po_X1_ofe (as : List pm_V) (_ : Nat) (σ : pm_H) (r : Option pm_V) (τ : pm_H) : Prop := ∀ al so : Int, as = [.inr (.inr (1, 0)), .inl al, .inl so] → ∃ v : Int, r = some (.inl v) ∧ σ = τ ∧ (v = pm_C al.toNat so.toNat ∧ pm_in v)
set_option maxRecDepth 20000 in
set_option maxHeartbeats 4000000 in
theorem ct_X1_ofe : pm_Ct yX1_of cX1_of 3 (some .int) 0 0 pre_X1_ofe po_X1_ofe := pm_sound (ini := false) (by decide +kernel) pk_X1_of (fun h => absurd h (by decide)) (by
  rintro as n s0 ⟨al, so, rfl, rfl, R0, hpre⟩
  refine ⟨by decide, Nat.le_of_ble_eq_true rfl, fun G hG => ?_⟩
  have hG : pm_Rules (RX1, 0, 122, cX1_of, -1, (fun _ => 0), false, (some .int), po_X1_ofe [.inr (.inr (1, 0)), .inl al, .inl so] 122 s0) G := hG
  show G 0 [some (.inr (.inr (1, 0))), some (.inl al), some (.inl so)] [] 122 s0
  have CT := hpre.2.2.2.2
  refine px_iload_n hG dX1_of_0 rfl ?_
  refine px_if_lt hG dX1_of_1 (tgt := 15) (by decide) ⟨by omega, by omega⟩ (fun c1 => ?_) (fun c1 => ?_)
  · refine px_iconst hG dX1_of_15 ?_
    refine px_goto hG dX1_of_16 (tgt := 27) (by decide) ?_
    exact px_iret (st := []) hG dX1_of_27 rfl rfl (fun al_1 so_1 ee => by cases ee; exact ⟨_, rfl, rfl, by first | exact ⟨CZ, by omega⟩ | exact ⟨(pm_C_z (by omega)).symm, by omega⟩⟩)
  · refine px_iload_n hG dX1_of_4 rfl ?_
    refine px_iload_n hG dX1_of_5 rfl ?_
    refine px_ic_gt hG dX1_of_6 (tgt := 15) (by decide) ⟨by omega, by omega⟩ ⟨by omega, by omega⟩ (fun c2 => ?_) (fun c2 => ?_)
    · refine px_iconst hG dX1_of_15 ?_
      refine px_goto hG dX1_of_16 (tgt := 27) (by decide) ?_
      exact px_iret (st := []) hG dX1_of_27 rfl rfl (fun al_1 so_1 ee => by cases ee; exact ⟨_, rfl, rfl, by first | exact ⟨CZ, by omega⟩ | exact ⟨(pm_C_z (by omega)).symm, by omega⟩⟩)
    · refine px_iload_n hG dX1_of_9 rfl ?_
      refine px_bipush hG dX1_of_10 (by decide) ?_
      refine px_ic_le hG dX1_of_12 (tgt := 19) (by decide) ⟨by omega, by omega⟩ ⟨by omega, by omega⟩ (fun c3 => ?_) (fun c3 => ?_)
      · refine px_aload_n hG dX1_of_19 rfl ?_
        refine gr_1_0 hG dX1_of_20 fl_X1_11 R0 ?_
        refine px_iload_n hG dX1_of_23 rfl ?_
        refine aa_2 hG dX1_of_24 (by omega) ?_
        refine px_iload_n hG dX1_of_25 rfl ?_
        refine al_2 hG dX1_of_26 R0 (by omega) (by omega) (fun x4 ex4 lx4 ux4 => ?_)
        have CZ := ex4.symm.trans (CT al so (by omega) (by omega) (by omega))
        exact px_iret (st := []) hG dX1_of_27 rfl rfl (fun al_1 so_1 ee => by cases ee; exact ⟨_, rfl, rfl, by first | exact ⟨CZ, by omega⟩ | exact ⟨(pm_C_z (by omega)).symm, by omega⟩⟩)
      · refine px_iconst hG dX1_of_15 ?_
        refine px_goto hG dX1_of_16 (tgt := 27) (by decide) ?_
        exact px_iret (st := []) hG dX1_of_27 rfl rfl (fun al_1 so_1 ee => by cases ee; exact ⟨_, rfl, rfl, by first | exact ⟨CZ, by omega⟩ | exact ⟨(pm_C_z (by omega)).symm, by omega⟩⟩))
def pre_X7_goodRowse (as : List pm_V) (n : Nat) (σ : pm_H) : Prop := ∃ n1 : Int, as = [.inr (.inr (31, 0)), .inl n1] ∧ n = 122 ∧ pm_Rng σ ∧ (0 ≤ n1 ∧ n1 ≤ 10)
def po_X7_goodRowse (as : List pm_V) (_ : Nat) (σ : pm_H) (r : Option pm_V) (τ : pm_H) : Prop := ∀ n1 : Int, as = [.inr (.inr (31, 0)), .inl n1] → ∃ v : Int, r = some (.inr (.inl v)) ∧ σ = τ ∧ (v = pm_gr n1.toNat)
set_option maxRecDepth 20000 in
set_option maxHeartbeats 4000000 in
theorem ct_X7_goodRowse : pm_Ct yX7_goodRows cX7_goodRows 2 (some .long) 1 0 pre_X7_goodRowse po_X7_goodRowse := pm_sound (ini := false) (by decide +kernel) pk_X7_goodRows (fun h => absurd h (by decide)) (by
  rintro as n s0 ⟨n1, rfl, rfl, R0, hpre⟩
  refine ⟨by decide, Nat.le_of_ble_eq_true rfl, fun G hG => ?_⟩
  have hG : pm_Rules (RX7, 1, 122, cX7_goodRows, -1, (fun _ => 0), false, (some .long), po_X7_goodRowse [.inr (.inr (31, 0)), .inl n1] 122 s0) G := hG
  show G 0 [some (.inr (.inr (31, 0))), some (.inl n1)] [] 122 s0
  refine px_iload_n hG dX7_goodRows_0 rfl ?_
  refine px_if_ne hG dX7_goodRows_1 (tgt := 8) (by decide) ⟨by omega, by omega⟩ (fun c1 => ?_) (fun c1 => ?_)
  · refine px_iload_n hG dX7_goodRows_8 rfl ?_
    refine px_iconst hG dX7_goodRows_9 ?_
    refine px_iadd hG dX7_goodRows_10 ?_
    refine px_i2l hG dX7_goodRows_11 ⟨by omega, by omega⟩ ?_
    refine px_iload_n hG dX7_goodRows_12 rfl ?_
    refine px_iconst hG dX7_goodRows_13 ?_
    refine px_isub hG dX7_goodRows_14 ?_
    refine js2 hG dX7_goodRows_15 ct_X10_powere lk_X7_50 ⟨Nat.le_of_ble_eq_true rfl, Nat.le_of_ble_eq_true rfl, Nat.le_of_ble_eq_true rfl⟩ (Nat.le_of_ble_eq_true rfl) ⟨(n1 + 1), (n1 - 1), rfl, rfl, R0, by omega⟩ (fun r2 t3 pr2 => ?_)
    obtain ⟨z4, rfl, rfl, br2⟩ := pr2 _ _ rfl
    show G 18 [some (.inr (.inr (31, 0))), some (.inl n1)] [.inr (.inl z4)] 122 s0
    have W := br2
    exact px_lret (st := []) hG dX7_goodRows_18 rfl rfl (fun n1_1 ee => by cases ee; exact ⟨_, rfl, rfl, by first | exact pm_gr_0 (by omega) | exact pm_gr_p W (by omega)⟩)
  · refine px_lconst hG dX7_goodRows_4 ?_
    show G 5 [some (.inr (.inr (31, 0))), some (.inl n1)] [.inr (.inl 1)] 122 s0
    refine px_goto hG dX7_goodRows_5 (tgt := 18) (by decide) ?_
    exact px_lret (st := []) hG dX7_goodRows_18 rfl rfl (fun n1_1 ee => by cases ee; exact ⟨_, rfl, rfl, by first | exact pm_gr_0 (by omega) | exact pm_gr_p W (by omega)⟩))
def pre_X7_sidesOfe (as : List pm_V) (n : Nat) (σ : pm_H) : Prop := ∃ n1 pl : Int, as = [.inr (.inr (31, 0)), .inl n1, .inl pl] ∧ n = 122 ∧ pm_Rng σ ∧ (1 ≤ n1 ∧ n1 ≤ 10 ∧ 1 ≤ pl ∧ pl ≤ n1 ∧ pm_CT σ)
def po_X7_sidesOfe (as : List pm_V) (_ : Nat) (σ : pm_H) (r : Option pm_V) (τ : pm_H) : Prop := ∀ n1 pl : Int, as = [.inr (.inr (31, 0)), .inl n1, .inl pl] → ∃ v : Int, r = some (.inr (.inl v)) ∧ σ = τ ∧ (v = pm_sd n1.toNat pl.toNat)
set_option maxRecDepth 20000 in
set_option maxHeartbeats 4000000 in
theorem ct_X7_sidesOfe : pm_Ct yX7_sidesOf cX7_sidesOf 3 (some .long) 2 0 pre_X7_sidesOfe po_X7_sidesOfe := pm_sound (ini := false) (by decide +kernel) pk_X7_sidesOf (fun h => absurd h (by decide)) (by
  rintro as n s0 ⟨n1, pl, rfl, rfl, R0, hpre⟩
  refine ⟨by decide, Nat.le_of_ble_eq_true rfl, fun G hG => ?_⟩
  have hG : pm_Rules (RX7, 2, 122, cX7_sidesOf, -1, (fun _ => 0), false, (some .long), po_X7_sidesOfe [.inr (.inr (31, 0)), .inl n1, .inl pl] 122 s0) G := hG
  show G 0 [some (.inr (.inr (31, 0))), some (.inl n1), some (.inl pl)] [] 122 s0
  have CT := hpre.2.2.2.2
  refine px_aload_n hG dX7_sidesOf_0 rfl ?_
  refine gr_31_0 hG dX7_sidesOf_1 fl_X7_27 R0 ?_
  refine px_iload_n hG dX7_sidesOf_4 rfl ?_
  refine px_iconst hG dX7_sidesOf_5 ?_
  refine px_isub hG dX7_sidesOf_6 ?_
  refine px_iload_n hG dX7_sidesOf_7 rfl ?_
  refine px_iconst hG dX7_sidesOf_8 ?_
  refine px_isub hG dX7_sidesOf_9 ?_
  refine jv2 hG dX7_sidesOf_10 ct_X1_ofe lk_X7_45 ⟨rfl, rfl⟩ (by decide) ⟨Nat.le_of_ble_eq_true rfl, Nat.le_of_ble_eq_true rfl, Nat.le_of_ble_eq_true rfl⟩ (Nat.le_of_ble_eq_true rfl) ⟨(n1 - 1), (pl - 1), rfl, rfl, R0, ⟨by omega, by omega, by omega, by omega, CT⟩⟩ (fun r1 t2 pr1 => ?_)
  obtain ⟨x3, rfl, rfl, br1⟩ := pr1 _ _ rfl
  show G 13 [some (.inr (.inr (31, 0))), some (.inl n1), some (.inl pl)] [.inl x3] 122 s0
  have B1 := (br1).1
  have N1 := (br1).2
  refine px_i2l hG dX7_sidesOf_13 ⟨by omega, by omega⟩ ?_
  refine px_aload_n hG dX7_sidesOf_14 rfl ?_
  refine px_iload_n hG dX7_sidesOf_15 rfl ?_
  refine px_iconst hG dX7_sidesOf_16 ?_
  refine px_isub hG dX7_sidesOf_17 ?_
  refine jv1 hG dX7_sidesOf_18 ct_X7_goodRowse lk_X7_58 ⟨rfl, rfl⟩ (by decide) ⟨Nat.le_of_ble_eq_true rfl, Nat.le_of_ble_eq_true rfl, Nat.le_of_ble_eq_true rfl⟩ (Nat.le_of_ble_eq_true rfl) ⟨(pl - 1), rfl, rfl, R0, by omega⟩ (fun r4 t5 pr4 => ?_)
  obtain ⟨z6, rfl, rfl, br4⟩ := pr4 _ rfl
  show G 21 [some (.inr (.inr (31, 0))), some (.inl n1), some (.inl pl)] [.inr (.inl z6), .inr (.inl x3)] 122 s0
  have B2 := br4
  refine px_lmul hG dX7_sidesOf_21 ?_
  refine px_aload_n hG dX7_sidesOf_22 rfl ?_
  refine px_iload_n hG dX7_sidesOf_23 rfl ?_
  refine px_iload_n hG dX7_sidesOf_24 rfl ?_
  refine px_isub hG dX7_sidesOf_25 ?_
  refine jv1 hG dX7_sidesOf_26 ct_X7_goodRowse lk_X7_58 ⟨rfl, rfl⟩ (by decide) ⟨Nat.le_of_ble_eq_true rfl, Nat.le_of_ble_eq_true rfl, Nat.le_of_ble_eq_true rfl⟩ (Nat.le_of_ble_eq_true rfl) ⟨(n1 - pl), rfl, rfl, R0, by omega⟩ (fun r7 t8 pr7 => ?_)
  obtain ⟨z9, rfl, rfl, br7⟩ := pr7 _ rfl
  show G 29 [some (.inr (.inr (31, 0))), some (.inl n1), some (.inl pl)] [.inr (.inl z9), .inr (.inl (x3 * z6))] 122 s0
  have B3 := br7
  refine px_lmul hG dX7_sidesOf_29 ?_
  exact px_lret (st := []) hG dX7_sidesOf_30 rfl rfl (fun n1_1 pl_1 ee => by cases ee; exact ⟨_, rfl, rfl, pm_sd_i B1 B2 B3 (by omega) (by omega)⟩))
def pre_X7_withLastAte (as : List pm_V) (n : Nat) (σ : pm_H) : Prop := ∃ n1 vv : Int, as = [.inr (.inr (31, 0)), .inl n1, .inl vv] ∧ n = 122 ∧ pm_Rng σ ∧ (1 ≤ n1 ∧ n1 ≤ 10 ∧ pm_in vv ∧ pm_CT σ)
def po_X7_withLastAte (as : List pm_V) (_ : Nat) (σ : pm_H) (r : Option pm_V) (τ : pm_H) : Prop := ∀ n1 vv : Int, as = [.inr (.inr (31, 0)), .inl n1, .inl vv] → ∃ v : Int, r = some (.inr (.inl v)) ∧ σ = τ ∧ (v = pm_sv2 n1 vv)
set_option maxRecDepth 20000 in
set_option maxHeartbeats 4000000 in
theorem ct_X7_withLastAte : pm_Ct yX7_withLastAt cX7_withLastAt 3 (some .long) 3 0 pre_X7_withLastAte po_X7_withLastAte := pm_sound (ini := false) (by decide +kernel) pk_X7_withLastAt (fun h => absurd h (by decide)) (by
  rintro as n s0 ⟨n1, vv, rfl, rfl, R0, hpre⟩
  refine ⟨by decide, Nat.le_of_ble_eq_true rfl, fun G hG => ?_⟩
  have hG : pm_Rules (RX7, 3, 122, cX7_withLastAt, -1, (fun _ => 0), false, (some .long), po_X7_withLastAte [.inr (.inr (31, 0)), .inl n1, .inl vv] 122 s0) G := hG
  show G 0 [some (.inr (.inr (31, 0))), some (.inl n1), some (.inl vv)] [] 122 s0
  have CT := hpre.2.2.2
  refine px_iload_n hG dX7_withLastAt_0 rfl ?_
  refine px_iconst hG dX7_withLastAt_1 ?_
  refine px_ic_lt hG dX7_withLastAt_2 (tgt := 10) (by decide) ⟨by omega, by omega⟩ ⟨by omega, by omega⟩ (fun c1 => ?_) (fun c1 => ?_)
  · refine px_lconst hG dX7_withLastAt_10 ?_
    show G 11 [some (.inr (.inr (31, 0))), some (.inl n1), some (.inl vv)] [.inr (.inl 0)] 122 s0
    refine px_goto hG dX7_withLastAt_11 (tgt := 23) (by decide) ?_
    exact px_lret (st := []) hG dX7_withLastAt_23 rfl rfl (fun n1_1 vv_1 ee => by cases ee; exact ⟨_, rfl, rfl, by first | exact pm_sv2_z (by omega) | exact pm_sv2_i B (by omega) (by omega)⟩)
  · refine px_iload_n hG dX7_withLastAt_5 rfl ?_
    refine px_iload_n hG dX7_withLastAt_6 rfl ?_
    refine px_ic_le hG dX7_withLastAt_7 (tgt := 14) (by decide) ⟨by omega, by omega⟩ ⟨by omega, by omega⟩ (fun c2 => ?_) (fun c2 => ?_)
    · refine px_iload_n hG dX7_withLastAt_14 rfl ?_
      refine px_i2l hG dX7_withLastAt_15 ⟨by omega, by omega⟩ ?_
      refine px_aload_n hG dX7_withLastAt_16 rfl ?_
      refine px_iload_n hG dX7_withLastAt_17 rfl ?_
      refine px_iload_n hG dX7_withLastAt_18 rfl ?_
      refine jv2 hG dX7_withLastAt_19 ct_X7_sidesOfe lk_X7_35 ⟨rfl, rfl⟩ (by decide) ⟨Nat.le_of_ble_eq_true rfl, Nat.le_of_ble_eq_true rfl, Nat.le_of_ble_eq_true rfl⟩ (Nat.le_of_ble_eq_true rfl) ⟨n1, vv, rfl, rfl, R0, ⟨by omega, by omega, by omega, by omega, CT⟩⟩ (fun r3 t4 pr3 => ?_)
      obtain ⟨z5, rfl, rfl, br3⟩ := pr3 _ _ rfl
      show G 22 [some (.inr (.inr (31, 0))), some (.inl n1), some (.inl vv)] [.inr (.inl z5), .inr (.inl vv)] 122 s0
      have B := br3
      refine px_lmul hG dX7_withLastAt_22 ?_
      exact px_lret (st := []) hG dX7_withLastAt_23 rfl rfl (fun n1_1 vv_1 ee => by cases ee; exact ⟨_, rfl, rfl, by first | exact pm_sv2_z (by omega) | exact pm_sv2_i B (by omega) (by omega)⟩)
    · refine px_lconst hG dX7_withLastAt_10 ?_
      show G 11 [some (.inr (.inr (31, 0))), some (.inl n1), some (.inl vv)] [.inr (.inl 0)] 122 s0
      refine px_goto hG dX7_withLastAt_11 (tgt := 23) (by decide) ?_
      exact px_lret (st := []) hG dX7_withLastAt_23 rfl rfl (fun n1_1 vv_1 ee => by cases ee; exact ⟨_, rfl, rfl, by first | exact pm_sv2_z (by omega) | exact pm_sv2_i B (by omega) (by omega)⟩))
def pre_X7_withFirstWishe (as : List pm_V) (n : Nat) (σ : pm_H) : Prop := ∃ n1 vv : Int, as = [.inr (.inr (31, 0)), .inl n1, .inl vv] ∧ n = 122 ∧ pm_Rng σ ∧ (1 ≤ n1 ∧ n1 ≤ 10 ∧ pm_in vv ∧ pm_CT σ)
def po_X7_withFirstWishe (as : List pm_V) (_ : Nat) (σ : pm_H) (r : Option pm_V) (τ : pm_H) : Prop := ∀ n1 vv : Int, as = [.inr (.inr (31, 0)), .inl n1, .inl vv] → ∃ v : Int, r = some (.inr (.inl v)) ∧ σ = τ ∧ (v = pm_sv3 n1 vv)
set_option maxRecDepth 20000 in
set_option maxHeartbeats 4000000 in
theorem ct_X7_withFirstWishe : pm_Ct yX7_withFirstWish cX7_withFirstWish 6 (some .long) 3 0 pre_X7_withFirstWishe po_X7_withFirstWishe := pm_sound (ini := false) (by decide +kernel) pk_X7_withFirstWish (fun h => absurd h (by decide)) (by
  rintro as n s0 ⟨n1, vv, rfl, rfl, R0, hpre⟩
  refine ⟨by decide, Nat.le_of_ble_eq_true rfl, fun G hG => ?_⟩
  have hG : pm_Rules (RX7, 3, 122, cX7_withFirstWish, -1, (fun _ => 0), false, (some .long), po_X7_withFirstWishe [.inr (.inr (31, 0)), .inl n1, .inl vv] 122 s0) G := hG
  show G 0 [some (.inr (.inr (31, 0))), some (.inl n1), some (.inl vv), none, none, none] [] 122 s0
  have CT := hpre.2.2.2
  refine px_lconst hG dX7_withFirstWish_0 ?_
  show G 1 [some (.inr (.inr (31, 0))), some (.inl n1), some (.inl vv), none, none, none] [.inr (.inl 0)] 122 s0
  refine px_lstore_n hG dX7_withFirstWish_1 (Nat.le_of_ble_eq_true rfl) (L2 := [some (.inr (.inr (31, 0))), some (.inl n1), some (.inl vv), some (.inr (.inl 0)), none, none]) rfl ?_
  refine px_iload_n hG dX7_withFirstWish_2 rfl ?_
  refine px_iconst hG dX7_withFirstWish_3 ?_
  refine px_max hG dX7_withFirstWish_4 lm_X7_39 (Nat.le_of_ble_eq_true rfl) (Nat.le_of_ble_eq_true rfl) ⟨⟨by omega, by omega⟩, ⟨by omega, by omega⟩⟩ (fun x1 bx1 => ?_)
  refine px_istore hG dX7_withFirstWish_7 (Nat.le_of_ble_eq_true rfl) (L2 := [some (.inr (.inr (31, 0))), some (.inl n1), some (.inl vv), some (.inr (.inl 0)), none, some (.inl x1)]) rfl ?_
  have L9 : ∀ (N : Nat) (v3_2 : Int) (v5_3 : Int), ((1 ≤ v5_3 ∧ v5_3 ≤ 2147483647 ∧ (1 ≤ vv → vv ≤ v5_3 ∧ v3_2 = pm_fsd n1.toNat vv.toNat (v5_3 - vv).toNat ∧ (v5_3 ≤ n1 + 1 ∨ v5_3 = vv)) ∧ (vv < 1 → v3_2 = 0))) → (11 - v5_3).toNat < N → G 9 [some (.inr (.inr (31, 0))), some (.inl n1), some (.inl vv), some (.inr (.inl v3_2)), none, some (.inl v5_3)] [] 122 s0 := by
    intro N
    induction N with
    | zero => intro v3_2 v5_3 inv5 hm6; exact absurd hm6 (Nat.not_lt_zero _)
    | succ N ih4 =>
      intro v3_2 v5_3 inv5 hm6
      have U1 := (inv5).2.2.1
      have U2 := (inv5).2.2.2
      refine px_iload_n hG dX7_withFirstWish_9 rfl ?_
      refine px_iconst hG dX7_withFirstWish_10 ?_
      refine px_ic_lt hG dX7_withFirstWish_11 (tgt := 36) (by decide) ⟨by omega, by omega⟩ ⟨by omega, by omega⟩ (fun c7 => ?_) (fun c7 => ?_)
      · refine px_lload_n hG dX7_withFirstWish_36 rfl ?_
        exact px_lret (st := []) hG dX7_withFirstWish_37 rfl rfl (fun n1_1 vv_1 ee => by cases ee; exact ⟨_, rfl, rfl, pm_sv3_i U1 U2 (by omega)⟩)
      · refine px_iload hG dX7_withFirstWish_14 rfl ?_
        refine px_iload_n hG dX7_withFirstWish_16 rfl ?_
        refine px_ic_gt hG dX7_withFirstWish_17 (tgt := 36) (by decide) ⟨by omega, by omega⟩ ⟨by omega, by omega⟩ (fun c8 => ?_) (fun c8 => ?_)
        · refine px_lload_n hG dX7_withFirstWish_36 rfl ?_
          exact px_lret (st := []) hG dX7_withFirstWish_37 rfl rfl (fun n1_1 vv_1 ee => by cases ee; exact ⟨_, rfl, rfl, pm_sv3_i U1 U2 (by omega)⟩)
        · refine px_lload_n hG dX7_withFirstWish_20 rfl ?_
          refine px_aload_n hG dX7_withFirstWish_21 rfl ?_
          refine px_iload_n hG dX7_withFirstWish_22 rfl ?_
          refine px_iload hG dX7_withFirstWish_23 rfl ?_
          refine jv2 hG dX7_withFirstWish_25 ct_X7_sidesOfe lk_X7_35 ⟨rfl, rfl⟩ (by decide) ⟨Nat.le_of_ble_eq_true rfl, Nat.le_of_ble_eq_true rfl, Nat.le_of_ble_eq_true rfl⟩ (Nat.le_of_ble_eq_true rfl) ⟨n1, v5_3, rfl, rfl, R0, ⟨by omega, by omega, by omega, by omega, CT⟩⟩ (fun r9 t10 pr9 => ?_)
          obtain ⟨z11, rfl, rfl, br9⟩ := pr9 _ _ rfl
          show G 28 [some (.inr (.inr (31, 0))), some (.inl n1), some (.inl vv), some (.inr (.inl v3_2)), none, some (.inl v5_3)] [.inr (.inl z11), .inr (.inl v3_2)] 122 s0
          have B := br9
          refine px_ladd hG dX7_withFirstWish_28 ?_
          refine px_lstore_n hG dX7_withFirstWish_29 (Nat.le_of_ble_eq_true rfl) (L2 := [some (.inr (.inr (31, 0))), some (.inl n1), some (.inl vv), some (.inr (.inl (v3_2 + z11))), none, some (.inl v5_3)]) rfl ?_
          refine px_iinc hG dX7_withFirstWish_30 (Nat.le_of_ble_eq_true rfl) rfl (L2 := [some (.inr (.inr (31, 0))), some (.inl n1), some (.inl vv), some (.inr (.inl (v3_2 + z11))), none, some (.inl (v5_3 + 1))]) rfl ?_
          refine px_goto hG dX7_withFirstWish_33 (tgt := 9) (by decide) ?_
          exact ih4 (v3_2 + z11) (v5_3 + 1) (⟨by omega, by omega, fun h => ⟨by have := U1 h; omega, pm_sv3_s (U1 h).2.1 B h (U1 h).1, by omega⟩, fun h => by omega⟩) (by omega)
  exact L9 _ 0 x1 (⟨by omega, by omega, fun h => ⟨by omega, by rw [show x1 = vv by omega, Int.sub_self]; rfl, by omega⟩, fun h => rfl⟩) (Nat.lt_succ_self _))
def pre_X7_withOnese (as : List pm_V) (n : Nat) (σ : pm_H) : Prop := ∃ n1 vv : Int, as = [.inr (.inr (31, 0)), .inl n1, .inl vv] ∧ n = 122 ∧ pm_Rng σ ∧ (1 ≤ n1 ∧ n1 ≤ 10 ∧ pm_in vv ∧ pm_CT σ)
def po_X7_withOnese (as : List pm_V) (_ : Nat) (σ : pm_H) (r : Option pm_V) (τ : pm_H) : Prop := ∀ n1 vv : Int, as = [.inr (.inr (31, 0)), .inl n1, .inl vv] → ∃ v : Int, r = some (.inr (.inl v)) ∧ σ = τ ∧ (v = pm_sv4 n1 vv)
set_option maxRecDepth 20000 in
set_option maxHeartbeats 4000000 in
theorem ct_X7_withOnese : pm_Ct yX7_withOnes cX7_withOnes 3 (some .long) 1 0 pre_X7_withOnese po_X7_withOnese := pm_sound (ini := false) (by decide +kernel) pk_X7_withOnes (fun h => absurd h (by decide)) (by
  rintro as n s0 ⟨n1, vv, rfl, rfl, R0, hpre⟩
  refine ⟨by decide, Nat.le_of_ble_eq_true rfl, fun G hG => ?_⟩
  have hG : pm_Rules (RX7, 1, 122, cX7_withOnes, -1, (fun _ => 0), false, (some .long), po_X7_withOnese [.inr (.inr (31, 0)), .inl n1, .inl vv] 122 s0) G := hG
  show G 0 [some (.inr (.inr (31, 0))), some (.inl n1), some (.inl vv)] [] 122 s0
  have CT := hpre.2.2.2
  refine px_iload_n hG dX7_withOnes_0 rfl ?_
  refine px_iconst hG dX7_withOnes_1 ?_
  refine px_ic_lt hG dX7_withOnes_2 (tgt := 10) (by decide) ⟨by omega, by omega⟩ ⟨by omega, by omega⟩ (fun c1 => ?_) (fun c1 => ?_)
  · refine px_lconst hG dX7_withOnes_10 ?_
    show G 11 [some (.inr (.inr (31, 0))), some (.inl n1), some (.inl vv)] [.inr (.inl 0)] 122 s0
    refine px_goto hG dX7_withOnes_11 (tgt := 37) (by decide) ?_
    exact px_lret (st := []) hG dX7_withOnes_37 rfl rfl (fun n1_1 vv_1 ee => by cases ee; exact ⟨_, rfl, rfl, by first | exact pm_sv4_z (by omega) | exact pm_sv4_i B1 B2 (by omega) (by omega)⟩)
  · refine px_iload_n hG dX7_withOnes_5 rfl ?_
    refine px_iload_n hG dX7_withOnes_6 rfl ?_
    refine px_ic_le hG dX7_withOnes_7 (tgt := 14) (by decide) ⟨by omega, by omega⟩ ⟨by omega, by omega⟩ (fun c2 => ?_) (fun c2 => ?_)
    · refine px_aload_n hG dX7_withOnes_14 rfl ?_
      refine gr_31_0 hG dX7_withOnes_15 fl_X7_27 R0 ?_
      refine px_iload_n hG dX7_withOnes_18 rfl ?_
      refine px_iconst hG dX7_withOnes_19 ?_
      refine px_isub hG dX7_withOnes_20 ?_
      refine px_iload_n hG dX7_withOnes_21 rfl ?_
      refine px_iconst hG dX7_withOnes_22 ?_
      refine px_isub hG dX7_withOnes_23 ?_
      refine jv2 hG dX7_withOnes_24 ct_X1_ofe lk_X7_45 ⟨rfl, rfl⟩ (by decide) ⟨Nat.le_of_ble_eq_true rfl, Nat.le_of_ble_eq_true rfl, Nat.le_of_ble_eq_true rfl⟩ (Nat.le_of_ble_eq_true rfl) ⟨(n1 - 1), (vv - 1), rfl, rfl, R0, ⟨by omega, by omega, by omega, by omega, CT⟩⟩ (fun r3 t4 pr3 => ?_)
      obtain ⟨x5, rfl, rfl, br3⟩ := pr3 _ _ rfl
      show G 27 [some (.inr (.inr (31, 0))), some (.inl n1), some (.inl vv)] [.inl x5] 122 s0
      have B1 := (br3).1
      have N1 := (br3).2
      refine px_i2l hG dX7_withOnes_27 ⟨by omega, by omega⟩ ?_
      refine px_iload_n hG dX7_withOnes_28 rfl ?_
      refine px_i2l hG dX7_withOnes_29 ⟨by omega, by omega⟩ ?_
      refine px_iload_n hG dX7_withOnes_30 rfl ?_
      refine px_iload_n hG dX7_withOnes_31 rfl ?_
      refine px_isub hG dX7_withOnes_32 ?_
      refine js2 hG dX7_withOnes_33 ct_X10_powere lk_X7_50 ⟨Nat.le_of_ble_eq_true rfl, Nat.le_of_ble_eq_true rfl, Nat.le_of_ble_eq_true rfl⟩ (Nat.le_of_ble_eq_true rfl) ⟨n1, (n1 - vv), rfl, rfl, R0, by omega⟩ (fun r6 t7 pr6 => ?_)
      obtain ⟨z8, rfl, rfl, br6⟩ := pr6 _ _ rfl
      show G 36 [some (.inr (.inr (31, 0))), some (.inl n1), some (.inl vv)] [.inr (.inl z8), .inr (.inl x5)] 122 s0
      have B2 := br6
      refine px_lmul hG dX7_withOnes_36 ?_
      exact px_lret (st := []) hG dX7_withOnes_37 rfl rfl (fun n1_1 vv_1 ee => by cases ee; exact ⟨_, rfl, rfl, by first | exact pm_sv4_z (by omega) | exact pm_sv4_i B1 B2 (by omega) (by omega)⟩)
    · refine px_lconst hG dX7_withOnes_10 ?_
      show G 11 [some (.inr (.inr (31, 0))), some (.inl n1), some (.inl vv)] [.inr (.inl 0)] 122 s0
      refine px_goto hG dX7_withOnes_11 (tgt := 37) (by decide) ?_
      exact px_lret (st := []) hG dX7_withOnes_37 rfl rfl (fun n1_1 vv_1 ee => by cases ee; exact ⟨_, rfl, rfl, by first | exact pm_sv4_z (by omega) | exact pm_sv4_i B1 B2 (by omega) (by omega)⟩))
def pre_X7_withOnePartMoree (as : List pm_V) (n : Nat) (σ : pm_H) : Prop := ∃ m1 : Int, as = [.inr (.inr (31, 0)), .inl m1] ∧ n = 122 ∧ pm_Rng σ ∧ (0 ≤ m1 ∧ m1 ≤ 10 ∧ pm_CT σ)
def po_X7_withOnePartMoree (as : List pm_V) (_ : Nat) (σ : pm_H) (r : Option pm_V) (τ : pm_H) : Prop := ∀ m1 : Int, as = [.inr (.inr (31, 0)), .inl m1] → ∃ v : Int, r = some (.inr (.inl v)) ∧ σ = τ ∧ (v = pm_pr (fun i : Nat => σ 34 0 i) m1.toNat m1.toNat)
set_option maxRecDepth 20000 in
set_option maxHeartbeats 4000000 in
theorem ct_X7_withOnePartMoree : pm_Ct yX7_withOnePartMore cX7_withOnePartMore 5 (some .long) 1 0 pre_X7_withOnePartMoree po_X7_withOnePartMoree := pm_sound (ini := false) (by decide +kernel) pk_X7_withOnePartMore (fun h => absurd h (by decide)) (by
  rintro as n s0 ⟨m1, rfl, rfl, R0, hpre⟩
  refine ⟨by decide, Nat.le_of_ble_eq_true rfl, fun G hG => ?_⟩
  have hG : pm_Rules (RX7, 1, 122, cX7_withOnePartMore, -1, (fun _ => 0), false, (some .long), po_X7_withOnePartMoree [.inr (.inr (31, 0)), .inl m1] 122 s0) G := hG
  show G 0 [some (.inr (.inr (31, 0))), some (.inl m1), none, none, none] [] 122 s0
  have CT := hpre.2.2
  refine px_lconst hG dX7_withOnePartMore_0 ?_
  show G 1 [some (.inr (.inr (31, 0))), some (.inl m1), none, none, none] [.inr (.inl 0)] 122 s0
  refine px_lstore_n hG dX7_withOnePartMore_1 (Nat.le_of_ble_eq_true rfl) (L2 := [some (.inr (.inr (31, 0))), some (.inl m1), some (.inr (.inl 0)), none, none]) rfl ?_
  refine px_iconst hG dX7_withOnePartMore_2 ?_
  refine px_istore hG dX7_withOnePartMore_3 (Nat.le_of_ble_eq_true rfl) (L2 := [some (.inr (.inr (31, 0))), some (.inl m1), some (.inr (.inl 0)), none, some (.inl 1)]) rfl ?_
  have L5 : ∀ (N : Nat) (v2_1 : Int) (v4_2 : Int), ((1 ≤ v4_2 ∧ v4_2 ≤ 10000) ∧ (v2_1 = pm_pr (fun i : Nat => s0 34 0 i) m1.toNat (v4_2 - 1).toNat ∧ v4_2 ≤ m1 + 1)) → (10001 - v4_2).toNat < N → G 5 [some (.inr (.inr (31, 0))), some (.inl m1), some (.inr (.inl v2_1)), none, some (.inl v4_2)] [] 122 s0 := by
    intro N
    induction N with
    | zero => intro v2_1 v4_2 inv4 hm5; exact absurd hm5 (Nat.not_lt_zero _)
    | succ N ih3 =>
      intro v2_1 v4_2 inv4 hm5
      have U := (inv4.2).1
      refine px_iload hG dX7_withOnePartMore_5 rfl ?_
      refine px_iload_n hG dX7_withOnePartMore_7 rfl ?_
      refine px_ic_gt hG dX7_withOnePartMore_8 (tgt := 54) (by decide) ⟨by omega, by omega⟩ ⟨by omega, by omega⟩ (fun c6 => ?_) (fun c6 => ?_)
      · have Q : v4_2 - 1 = m1 := by omega
        rw [Q] at U
        refine px_lload_n hG dX7_withOnePartMore_54 rfl ?_
        exact px_lret (st := []) hG dX7_withOnePartMore_55 rfl rfl (fun m1_1 ee => by cases ee; exact ⟨_, rfl, rfl, U⟩)
      · refine px_lload_n hG dX7_withOnePartMore_11 rfl ?_
        refine px_aload_n hG dX7_withOnePartMore_12 rfl ?_
        refine gr_31_0 hG dX7_withOnePartMore_13 fl_X7_27 R0 ?_
        refine px_iload_n hG dX7_withOnePartMore_16 rfl ?_
        refine px_iload hG dX7_withOnePartMore_17 rfl ?_
        refine jv2 hG dX7_withOnePartMore_19 ct_X1_ofe lk_X7_45 ⟨rfl, rfl⟩ (by decide) ⟨Nat.le_of_ble_eq_true rfl, Nat.le_of_ble_eq_true rfl, Nat.le_of_ble_eq_true rfl⟩ (Nat.le_of_ble_eq_true rfl) ⟨m1, v4_2, rfl, rfl, R0, ⟨by omega, by omega, by omega, by omega, CT⟩⟩ (fun r7 t8 pr7 => ?_)
        obtain ⟨x9, rfl, rfl, br7⟩ := pr7 _ _ rfl
        show G 22 [some (.inr (.inr (31, 0))), some (.inl m1), some (.inr (.inl v2_1)), none, some (.inl v4_2)] [.inl x9, .inr (.inl v2_1)] 122 s0
        have B1 := (br7).1
        have N1 := (br7).2
        refine px_i2l hG dX7_withOnePartMore_22 ⟨by omega, by omega⟩ ?_
        refine px_iload hG dX7_withOnePartMore_23 rfl ?_
        refine px_iconst hG dX7_withOnePartMore_25 ?_
        refine px_isub hG dX7_withOnePartMore_26 ?_
        refine px_i2l hG dX7_withOnePartMore_27 ⟨by omega, by omega⟩ ?_
        refine px_iload hG dX7_withOnePartMore_28 rfl ?_
        refine px_iconst hG dX7_withOnePartMore_30 ?_
        refine px_isub hG dX7_withOnePartMore_31 ?_
        refine js2 hG dX7_withOnePartMore_32 ct_X10_powere lk_X7_50 ⟨Nat.le_of_ble_eq_true rfl, Nat.le_of_ble_eq_true rfl, Nat.le_of_ble_eq_true rfl⟩ (Nat.le_of_ble_eq_true rfl) ⟨(v4_2 - 1), (v4_2 - 1), rfl, rfl, R0, by omega⟩ (fun r10 t11 pr10 => ?_)
        obtain ⟨z12, rfl, rfl, br10⟩ := pr10 _ _ rfl
        show G 35 [some (.inr (.inr (31, 0))), some (.inl m1), some (.inr (.inl v2_1)), none, some (.inl v4_2)] [.inr (.inl z12), .inr (.inl x9), .inr (.inl v2_1)] 122 s0
        have B2 := br10
        refine px_lmul hG dX7_withOnePartMore_35 ?_
        refine px_aload_n hG dX7_withOnePartMore_36 rfl ?_
        refine gr_31_4 hG dX7_withOnePartMore_37 fl_X7_23 R0 ?_
        refine px_iload_n hG dX7_withOnePartMore_40 rfl ?_
        refine px_iload hG dX7_withOnePartMore_41 rfl ?_
        refine px_isub hG dX7_withOnePartMore_43 ?_
        refine al_34 hG dX7_withOnePartMore_44 (by omega) (fun z13 ez13 => ?_)
        have X := ez13
        refine px_lmul hG dX7_withOnePartMore_45 ?_
        refine px_ladd hG dX7_withOnePartMore_46 ?_
        refine px_lstore_n hG dX7_withOnePartMore_47 (Nat.le_of_ble_eq_true rfl) (L2 := [some (.inr (.inr (31, 0))), some (.inl m1), some (.inr (.inl (v2_1 + ((x9 * z12) * z13)))), none, some (.inl v4_2)]) rfl ?_
        refine px_iinc hG dX7_withOnePartMore_48 (Nat.le_of_ble_eq_true rfl) rfl (L2 := [some (.inr (.inr (31, 0))), some (.inl m1), some (.inr (.inl (v2_1 + ((x9 * z12) * z13)))), none, some (.inl (v4_2 + 1))]) rfl ?_
        refine px_goto hG dX7_withOnePartMore_51 (tgt := 5) (by decide) ?_
        exact ih3 (v2_1 + ((x9 * z12) * z13)) (v4_2 + 1) (⟨by omega, ⟨(pm_pr_i U B1 B2 X (by omega) (by omega)).1, by omega⟩⟩) (by omega)
  exact L5 _ 0 1 (⟨by omega, ⟨rfl, by omega⟩⟩) (Nat.lt_succ_self _))
def pre_X7_withCutse (as : List pm_V) (n : Nat) (σ : pm_H) : Prop := ∃ n1 vv : Int, as = [.inr (.inr (31, 0)), .inl n1, .inl vv] ∧ n = 122 ∧ pm_Rng σ ∧ (1 ≤ n1 ∧ n1 ≤ 10 ∧ pm_in vv ∧ pm_CT σ)
def po_X7_withCutse (as : List pm_V) (_ : Nat) (σ : pm_H) (r : Option pm_V) (τ : pm_H) : Prop := ∀ n1 vv : Int, as = [.inr (.inr (31, 0)), .inl n1, .inl vv] → ∃ v : Int, r = some (.inr (.inl v)) ∧ pm_Rng τ ∧ pm_Fr [(34, none)] σ τ ∧ (v = pm_sv5 n1 vv)
set_option maxRecDepth 20000 in
set_option maxHeartbeats 4000000 in
theorem ct_X7_withCutse : pm_Ct yX7_withCuts cX7_withCuts 5 (some .long) 2 0 pre_X7_withCutse po_X7_withCutse := pm_sound (ini := false) (by decide +kernel) pk_X7_withCuts (fun h => absurd h (by decide)) (by
  rintro as n s0 ⟨n1, vv, rfl, rfl, R0, hpre⟩
  refine ⟨by decide, Nat.le_of_ble_eq_true rfl, fun G hG => ?_⟩
  have hG : pm_Rules (RX7, 2, 122, cX7_withCuts, -1, (fun _ => 0), false, (some .long), po_X7_withCutse [.inr (.inr (31, 0)), .inl n1, .inl vv] 122 s0) G := hG
  show G 0 [some (.inr (.inr (31, 0))), some (.inl n1), some (.inl vv), none, none] [] 122 s0
  have CT := hpre.2.2.2
  refine px_iload_n hG dX7_withCuts_0 rfl ?_
  refine px_if_lt hG dX7_withCuts_1 (tgt := 9) (by decide) ⟨by omega, by omega⟩ (fun c1 => ?_) (fun c1 => ?_)
  · refine px_lconst hG dX7_withCuts_9 ?_
    show G 10 [some (.inr (.inr (31, 0))), some (.inl n1), some (.inl vv), none, none] [.inr (.inl 0)] 122 s0
    exact px_lret (st := []) hG dX7_withCuts_10 rfl rfl (fun n1_1 vv_1 ee => by cases ee; exact ⟨_, rfl, R0, pm_Fr_rf, pm_sv5_z (by omega)⟩)
  · refine px_iload_n hG dX7_withCuts_4 rfl ?_
    refine px_iload_n hG dX7_withCuts_5 rfl ?_
    refine px_ic_lt hG dX7_withCuts_6 (tgt := 11) (by decide) ⟨by omega, by omega⟩ ⟨by omega, by omega⟩ (fun c2 => ?_) (fun c2 => ?_)
    · refine px_iconst hG dX7_withCuts_11 ?_
      refine px_istore_n hG dX7_withCuts_12 (Nat.le_of_ble_eq_true rfl) (L2 := [some (.inr (.inr (31, 0))), some (.inl n1), some (.inl vv), some (.inl 1), none]) rfl ?_
      have L13 : ∀ (N : Nat) (v3_3 : Int) (s4 : pm_H), pm_Rng s4 → pm_Fr [(34, none)] s0 s4 → ((1 ≤ v3_3 ∧ v3_3 ≤ 10000) ∧ (∀ i : Int, 1 ≤ i → i < v3_3 → s4 34 0 i = 0)) → (10001 - v3_3).toNat < N → G 13 [some (.inr (.inr (31, 0))), some (.inl n1), some (.inl vv), some (.inl v3_3), none] [] 122 s4 := by
        intro N
        induction N with
        | zero => intro v3_3 s4 R5 F6 inv8 hm9; exact absurd hm9 (Nat.not_lt_zero _)
        | succ N ih7 =>
          intro v3_3 s4 R5 F6 inv8 hm9
          have W := inv8.2
          refine px_iload_n hG dX7_withCuts_13 rfl ?_
          refine px_iload_n hG dX7_withCuts_14 rfl ?_
          have J31_11 : ((v3_3 > n1)) → G 31 [some (.inr (.inr (31, 0))), some (.inl n1), some (.inl vv), none, none] [] 122 s4 := by
            intro inv12
            refine px_aload_n hG dX7_withCuts_31 rfl ?_
            refine gr_31_4 hG dX7_withCuts_32 fl_X7_23 R5 ?_
            refine px_iconst hG dX7_withCuts_35 ?_
            refine px_lconst hG dX7_withCuts_36 ?_
            show G 37 [some (.inr (.inr (31, 0))), some (.inl n1), some (.inl vv), none, none] [.inr (.inl 1), .inl 0, .inr (.inr (34, 0))] 122 s4
            refine as_34 hG dX7_withCuts_37 R5 (by omega) (fun s13 qs13 Rs13 => ?_)
            have Fs13 := pm_Fr_up (F6) qs13 (M := [(34, none)]) rfl
            have E2 := qs13
            refine px_iconst hG dX7_withCuts_38 ?_
            refine px_istore_n hG dX7_withCuts_39 (Nat.le_of_ble_eq_true rfl) (L2 := [some (.inr (.inr (31, 0))), some (.inl n1), some (.inl vv), some (.inl 0), none]) rfl ?_
            have L40 : ∀ (N : Nat) (v3_14 : Int) (s15 : pm_H), pm_Rng s15 → pm_Fr [(34, none)] s0 s15 → ((0 ≤ v3_14 ∧ v3_14 ≤ 10000) ∧ (pm_cR s15 n1 v3_14 n1 ∧ v3_14 ≤ vv + 1)) → (10001 - v3_14).toNat < N → G 40 [some (.inr (.inr (31, 0))), some (.inl n1), some (.inl vv), some (.inl v3_14), none] [] 122 s15 := by
              intro N
              induction N with
              | zero => intro v3_14 s15 R16 F17 inv19 hm20; exact absurd hm20 (Nat.not_lt_zero _)
              | succ N ih18 =>
                intro v3_14 s15 R16 F17 inv19 hm20
                have V := (inv19.2).1
                have CT := pm_CT_c CT (fun r i => F17 2 r i rfl)
                refine px_iload_n hG dX7_withCuts_40 rfl ?_
                refine px_iload_n hG dX7_withCuts_41 rfl ?_
                refine px_ic_gt hG dX7_withCuts_42 (tgt := 78) (by decide) ⟨by omega, by omega⟩ ⟨by omega, by omega⟩ (fun c21 => ?_) (fun c21 => ?_)
                · refine px_aload_n hG dX7_withCuts_78 rfl ?_
                  refine gr_31_4 hG dX7_withCuts_79 fl_X7_23 R16 ?_
                  refine px_iload_n hG dX7_withCuts_82 rfl ?_
                  refine al_34 hG dX7_withCuts_83 (by omega) (fun z22 ez22 => ?_)
                  have X := ez22
                  exact px_lret (st := []) hG dX7_withCuts_84 rfl rfl (fun n1_1 vv_1 ee => by cases ee; exact ⟨_, rfl, R16, F17, pm_sv5_i V (by omega) (by omega) (by omega) X⟩)
                · refine px_iload_n hG dX7_withCuts_45 rfl ?_
                  refine px_istore hG dX7_withCuts_46 (Nat.le_of_ble_eq_true rfl) (L2 := [some (.inr (.inr (31, 0))), some (.inl n1), some (.inl vv), some (.inl v3_14), some (.inl n1)]) rfl ?_
                  have L48 : ∀ (N : Nat) (v4_23 : Int) (s24 : pm_H), pm_Rng s24 → pm_Fr [(34, none)] s0 s24 → ((-10000 ≤ v4_23 ∧ v4_23 ≤ n1) ∧ (pm_cR s24 n1 v3_14 v4_23 ∧ -1 ≤ v4_23 ∧ v4_23 ≤ n1)) → (v4_23 + 10001).toNat < N → G 48 [some (.inr (.inr (31, 0))), some (.inl n1), some (.inl vv), some (.inl v3_14), some (.inl v4_23)] [] 122 s24 := by
                    intro N
                    induction N with
                    | zero => intro v4_23 s24 R25 F26 inv28 hm29; exact absurd hm29 (Nat.not_lt_zero _)
                    | succ N ih27 =>
                      intro v4_23 s24 R25 F26 inv28 hm29
                      have U := (inv28.2).1
                      have CT := pm_CT_c hpre.2.2.2 (fun r i => F26 2 r i rfl)
                      refine px_iload hG dX7_withCuts_48 rfl ?_
                      refine px_if_lt hG dX7_withCuts_50 (tgt := 72) (by decide) ⟨by omega, by omega⟩ (fun c30 => ?_) (fun c30 => ?_)
                      · refine px_iinc hG dX7_withCuts_72 (Nat.le_of_ble_eq_true rfl) rfl (L2 := [some (.inr (.inr (31, 0))), some (.inl n1), some (.inl vv), some (.inl (v3_14 + 1)), some (.inl v4_23)]) rfl ?_
                        refine px_goto hG dX7_withCuts_75 (tgt := 40) (by decide) ?_
                        refine px_weak hG (L2 := [some (.inr (.inr (31, 0))), some (.inl n1), some (.inl vv), some (.inl (v3_14 + 1)), none]) ⟨Or.inr rfl, Or.inr rfl, Or.inr rfl, Or.inr rfl, Or.inl rfl, trivial⟩ ?_
                        exact ih18 (v3_14 + 1) s24 R25 F26 (⟨by omega, ⟨pm_cR_n U (by omega) (by omega), by omega⟩⟩) (by omega)
                      · refine px_aload_n hG dX7_withCuts_53 rfl ?_
                        refine gr_31_4 hG dX7_withCuts_54 fl_X7_23 R25 ?_
                        refine px_iload hG dX7_withCuts_57 rfl ?_
                        refine px_aload_n hG dX7_withCuts_59 rfl ?_
                        refine px_iload hG dX7_withCuts_60 rfl ?_
                        refine jv1 hG dX7_withCuts_62 ct_X7_withOnePartMoree lk_X7_54 ⟨rfl, rfl⟩ (by decide) ⟨Nat.le_of_ble_eq_true rfl, Nat.le_of_ble_eq_true rfl, Nat.le_of_ble_eq_true rfl⟩ (Nat.le_of_ble_eq_true rfl) ⟨v4_23, rfl, rfl, R25, ⟨by omega, by omega, CT⟩⟩ (fun r31 t32 pr31 => ?_)
                        obtain ⟨z33, rfl, rfl, br31⟩ := pr31 _ rfl
                        show G 65 [some (.inr (.inr (31, 0))), some (.inl n1), some (.inl vv), some (.inl v3_14), some (.inl v4_23)] [.inr (.inl z33), .inl v4_23, .inr (.inr (34, 0))] 122 s24
                        have B := br31
                        refine as_34 hG dX7_withCuts_65 R25 (by omega) (fun s34 qs34 Rs34 => ?_)
                        have Fs34 := pm_Fr_up (F26) qs34 (M := [(34, none)]) rfl
                        have E3 := qs34
                        refine px_iinc hG dX7_withCuts_66 (Nat.le_of_ble_eq_true rfl) rfl (L2 := [some (.inr (.inr (31, 0))), some (.inl n1), some (.inl vv), some (.inl v3_14), some (.inl (v4_23 + -1))]) rfl ?_
                        refine px_goto hG dX7_withCuts_69 (tgt := 48) (by decide) ?_
                        exact ih27 (v4_23 + -1) s34 Rs34 Fs34 (⟨by omega, ⟨pm_cR_s U (by omega) (by omega) B E3, by omega, by omega⟩⟩) (by omega)
                  exact L48 _ n1 s15 R16 F17 (⟨by omega, ⟨V, by omega, by omega⟩⟩) (Nat.lt_succ_self _)
            exact L40 _ 0 s13 Rs13 Fs13 (⟨by omega, ⟨pm_cR_0 (fun i a b => W i a (by omega)) E2, by omega⟩⟩) (Nat.lt_succ_self _)
          refine px_ic_gt hG dX7_withCuts_15 (tgt := 31) (by decide) ⟨by omega, by omega⟩ ⟨by omega, by omega⟩ (fun c10 => ?_) (fun c10 => ?_)
          · refine px_weak hG (L2 := [some (.inr (.inr (31, 0))), some (.inl n1), some (.inl vv), none, none]) ⟨Or.inr rfl, Or.inr rfl, Or.inr rfl, Or.inl rfl, Or.inr rfl, trivial⟩ ?_
            exact J31_11  (by omega)
          · refine px_aload_n hG dX7_withCuts_18 rfl ?_
            refine gr_31_4 hG dX7_withCuts_19 fl_X7_23 R5 ?_
            refine px_iload_n hG dX7_withCuts_22 rfl ?_
            refine px_lconst hG dX7_withCuts_23 ?_
            show G 24 [some (.inr (.inr (31, 0))), some (.inl n1), some (.inl vv), some (.inl v3_3), none] [.inr (.inl 0), .inl v3_3, .inr (.inr (34, 0))] 122 s4
            refine as_34 hG dX7_withCuts_24 R5 (by omega) (fun s35 qs35 Rs35 => ?_)
            have Fs35 := pm_Fr_up (F6) qs35 (M := [(34, none)]) rfl
            have E1 := qs35
            refine px_iinc hG dX7_withCuts_25 (Nat.le_of_ble_eq_true rfl) rfl (L2 := [some (.inr (.inr (31, 0))), some (.inl n1), some (.inl vv), some (.inl (v3_3 + 1)), none]) rfl ?_
            refine px_goto hG dX7_withCuts_28 (tgt := 13) (by decide) ?_
            exact ih7 (v3_3 + 1) s35 Rs35 Fs35 (⟨by omega, fun i a b => pm_zs34 W E1 i a b⟩) (by omega)
      exact L13 _ 1 s0 R0 pm_Fr_rf (⟨by omega, fun i a b => by omega⟩) (Nat.lt_succ_self _)
    · refine px_lconst hG dX7_withCuts_9 ?_
      show G 10 [some (.inr (.inr (31, 0))), some (.inl n1), some (.inl vv), none, none] [.inr (.inl 0)] 122 s0
      exact px_lret (st := []) hG dX7_withCuts_10 rfl rfl (fun n1_1 vv_1 ee => by cases ee; exact ⟨_, rfl, R0, pm_Fr_rf, pm_sv5_z (by omega)⟩))
def pre_X7_addGoese (as : List pm_V) (n : Nat) (σ : pm_H) : Prop := ∃ m1 pl : Int, as = [.inr (.inr (31, 0)), .inl m1, .inl pl] ∧ n = 122 ∧ pm_Rng σ ∧ (1 ≤ m1 ∧ m1 ≤ 10 ∧ 1 ≤ pl ∧ pl ≤ m1 ∧ pm_CT σ ∧ pm_LR 46 (pm_gl (pl - 1).toNat) (σ 32 (pl - 1)) ∧ pm_LR 46 (pm_gl (m1 - pl).toNat) (σ 32 (m1 - pl)) ∧ pm_LR 46 (pm_ap pm_gl m1.toNat (pl - 1).toNat) (σ 32 m1))
def po_X7_addGoese (as : List pm_V) (_ : Nat) (σ : pm_H) (r : Option pm_V) (τ : pm_H) : Prop := ∀ m1 pl : Int, as = [.inr (.inr (31, 0)), .inl m1, .inl pl] → r = none ∧ pm_Rng τ ∧ pm_Fr [(32, none)] σ τ ∧ (pm_LR 46 (pm_ap pm_gl m1.toNat pl.toNat) (τ 32 m1) ∧ ∀ r i : Int, r ≠ m1 → τ 32 r i = σ 32 r i)
set_option maxRecDepth 20000 in
set_option maxHeartbeats 4000000 in
theorem ct_X7_addGoese : pm_Ct yX7_addGoes cX7_addGoes 10 none 1 0 pre_X7_addGoese po_X7_addGoese := pm_sound (ini := false) (by decide +kernel) pk_X7_addGoes (fun h => absurd h (by decide)) (by
  rintro as n s0 ⟨m1, pl, rfl, rfl, R0, hpre⟩
  refine ⟨by decide, Nat.le_of_ble_eq_true rfl, fun G hG => ?_⟩
  have hG : pm_Rules (RX7, 1, 122, cX7_addGoes, -1, (fun _ => 0), false, none, po_X7_addGoese [.inr (.inr (31, 0)), .inl m1, .inl pl] 122 s0) G := hG
  show G 0 [some (.inr (.inr (31, 0))), some (.inl m1), some (.inl pl), none, none, none, none, none, none, none] [] 122 s0
  obtain ⟨p, hp⟩ : ∃ p : Nat, (p : Int) = pl - 1 := ⟨(pl - 1).toNat, by omega⟩
  obtain ⟨q, hq⟩ : ∃ q : Nat, (q : Int) = m1 - pl := ⟨(m1 - pl).toNat, by omega⟩
  have p1 : (pl - 1).toNat = p := by omega
  have q1 : (m1 - pl).toNat = q := by omega
  have CT := hpre.2.2.2.2.1
  have LL := hpre.2.2.2.2.2.1
  have LR := hpre.2.2.2.2.2.2.1
  have LM := hpre.2.2.2.2.2.2.2
  rw [p1] at LL LM
  rw [q1] at LR
  have c1 : (m1 - 1).toNat = m1.toNat - 1 := by omega
  have T := pm_t1_lr (l := pl - 1) (r := m1 - pl) (by omega) (by omega) (by omega)
  have TA := pm_t1_nn (pl - 1).toNat
  have TB := pm_t1_nn (m1 - pl).toNat
  have MP := pm_mg_t p (by omega)
  have MQ := pm_mg_t q (by omega)
  rw [p1] at T TA
  rw [q1] at T TB
  refine px_iload_n hG dX7_addGoes_0 rfl ?_
  refine px_iconst hG dX7_addGoes_1 ?_
  refine px_isub hG dX7_addGoes_2 ?_
  refine px_istore_n hG dX7_addGoes_3 (Nat.le_of_ble_eq_true rfl) (L2 := [some (.inr (.inr (31, 0))), some (.inl m1), some (.inl pl), some (.inl (pl - 1)), none, none, none, none, none, none]) rfl ?_
  refine px_iload_n hG dX7_addGoes_4 rfl ?_
  refine px_iload_n hG dX7_addGoes_5 rfl ?_
  refine px_isub hG dX7_addGoes_6 ?_
  refine px_istore hG dX7_addGoes_7 (Nat.le_of_ble_eq_true rfl) (L2 := [some (.inr (.inr (31, 0))), some (.inl m1), some (.inl pl), some (.inl (pl - 1)), some (.inl (m1 - pl)), none, none, none, none, none]) rfl ?_
  refine px_iconst hG dX7_addGoes_9 ?_
  refine px_istore hG dX7_addGoes_10 (Nat.le_of_ble_eq_true rfl) (L2 := [some (.inr (.inr (31, 0))), some (.inl m1), some (.inl pl), some (.inl (pl - 1)), some (.inl (m1 - pl)), some (.inl 0), none, none, none, none]) rfl ?_
  have L12 : ∀ (N : Nat) (v5_1 : Int) (s2 : pm_H), pm_Rng s2 → pm_Fr [(32, none)] s0 s2 → ((0 ≤ v5_1 ∧ v5_1 ≤ 10000) ∧ (pm_LR 46 (pm_a3 (pm_C (m1.toNat - 1) p) (pm_gl p) (pm_gl q) (p + 1) (pm_mg q + 1) (pm_ap pm_gl m1.toNat p) v5_1.toNat) (s2 32 m1) ∧ (∀ r i : Int, r ≠ m1 → s2 32 r i = s0 32 r i) ∧ v5_1 ≤ pm_mg p + 1)) → (10001 - v5_1).toNat < N → G 12 [some (.inr (.inr (31, 0))), some (.inl m1), some (.inl pl), some (.inl (pl - 1)), some (.inl (m1 - pl)), some (.inl v5_1), none, none, none, none] [] 122 s2 := by
    intro N
    induction N with
    | zero => intro v5_1 s2 R3 F4 inv6 hm7; exact absurd hm7 (Nat.not_lt_zero _)
    | succ N ih5 =>
      intro v5_1 s2 R3 F4 inv6 hm7
      have V1 := (inv6.2).1
      have V2 := (inv6.2).2.1
      refine px_iload hG dX7_addGoes_12 rfl ?_
      refine px_aload_n hG dX7_addGoes_14 rfl ?_
      refine px_iload_n hG dX7_addGoes_15 rfl ?_
      refine jv1 hG dX7_addGoes_16 ct_X7_mostGoes lk_X7_68 ⟨rfl, rfl⟩ (by decide) ⟨Nat.le_of_ble_eq_true rfl, Nat.le_of_ble_eq_true rfl, Nat.le_of_ble_eq_true rfl⟩ (Nat.le_of_ble_eq_true rfl) ⟨(pl - 1), rfl, rfl, R3, by omega⟩ (fun r8 t9 pr8 => ?_)
      obtain ⟨x10, rfl, rfl, br8⟩ := pr8 _ rfl
      show G 19 [some (.inr (.inr (31, 0))), some (.inl m1), some (.inl pl), some (.inl (pl - 1)), some (.inl (m1 - pl)), some (.inl v5_1), none, none, none, none] [.inl x10, .inl v5_1] 122 s2
      have G1 := br8
      rw [p1] at G1
      refine px_ic_gt hG dX7_addGoes_19 (tgt := 118) (by decide) ⟨by omega, by omega⟩ ⟨by omega, by omega⟩ (fun c11 => ?_) (fun c11 => ?_)
      · exact px_vret (st := []) hG dX7_addGoes_118 rfl rfl (fun m1_1 pl_1 ee => by cases ee; exact ⟨rfl, R3, F4, ⟨pm_a4_i V1 (by omega) hp hq, V2⟩⟩)
      · refine px_iconst hG dX7_addGoes_22 ?_
        refine px_istore hG dX7_addGoes_23 (Nat.le_of_ble_eq_true rfl) (L2 := [some (.inr (.inr (31, 0))), some (.inl m1), some (.inl pl), some (.inl (pl - 1)), some (.inl (m1 - pl)), some (.inl v5_1), some (.inl 0), none, none, none]) rfl ?_
        have L25 : ∀ (N : Nat) (v6_12 : Int) (s13 : pm_H), pm_Rng s13 → pm_Fr [(32, none)] s0 s13 → ((0 ≤ v6_12 ∧ v6_12 ≤ 10000) ∧ (pm_LR 46 (pm_a2 (pm_C (m1.toNat - 1) p * pm_lv (pm_gl p) v5_1.toNat) (pm_gl q) (p + 1) v5_1.toNat (pm_a3 (pm_C (m1.toNat - 1) p) (pm_gl p) (pm_gl q) (p + 1) (pm_mg q + 1) (pm_ap pm_gl m1.toNat p) v5_1.toNat) v6_12.toNat) (s13 32 m1) ∧ (∀ r i : Int, r ≠ m1 → s13 32 r i = s0 32 r i) ∧ v6_12 ≤ pm_mg q + 1)) → (10001 - v6_12).toNat < N → G 25 [some (.inr (.inr (31, 0))), some (.inl m1), some (.inl pl), some (.inl (pl - 1)), some (.inl (m1 - pl)), some (.inl v5_1), some (.inl v6_12), none, none, none] [] 122 s13 := by
          intro N
          induction N with
          | zero => intro v6_12 s13 R14 F15 inv17 hm18; exact absurd hm18 (Nat.not_lt_zero _)
          | succ N ih16 =>
            intro v6_12 s13 R14 F15 inv17 hm18
            have U1 := (inv17.2).1
            have U2 := (inv17.2).2.1
            refine px_iload hG dX7_addGoes_25 rfl ?_
            refine px_aload_n hG dX7_addGoes_27 rfl ?_
            refine px_iload hG dX7_addGoes_28 rfl ?_
            refine jv1 hG dX7_addGoes_30 ct_X7_mostGoes lk_X7_68 ⟨rfl, rfl⟩ (by decide) ⟨Nat.le_of_ble_eq_true rfl, Nat.le_of_ble_eq_true rfl, Nat.le_of_ble_eq_true rfl⟩ (Nat.le_of_ble_eq_true rfl) ⟨(m1 - pl), rfl, rfl, R14, by omega⟩ (fun r19 t20 pr19 => ?_)
            obtain ⟨x21, rfl, rfl, br19⟩ := pr19 _ rfl
            show G 33 [some (.inr (.inr (31, 0))), some (.inl m1), some (.inl pl), some (.inl (pl - 1)), some (.inl (m1 - pl)), some (.inl v5_1), some (.inl v6_12), none, none, none] [.inl x21, .inl v6_12] 122 s13
            have G2 := br19
            rw [q1] at G2
            refine px_ic_gt hG dX7_addGoes_33 (tgt := 112) (by decide) ⟨by omega, by omega⟩ ⟨by omega, by omega⟩ (fun c22 => ?_) (fun c22 => ?_)
            · refine px_iinc hG dX7_addGoes_112 (Nat.le_of_ble_eq_true rfl) rfl (L2 := [some (.inr (.inr (31, 0))), some (.inl m1), some (.inl pl), some (.inl (pl - 1)), some (.inl (m1 - pl)), some (.inl (v5_1 + 1)), some (.inl v6_12), none, none, none]) rfl ?_
              refine px_goto hG dX7_addGoes_115 (tgt := 12) (by decide) ?_
              refine px_weak hG (L2 := [some (.inr (.inr (31, 0))), some (.inl m1), some (.inl pl), some (.inl (pl - 1)), some (.inl (m1 - pl)), some (.inl (v5_1 + 1)), none, none, none, none]) ⟨Or.inr rfl, Or.inr rfl, Or.inr rfl, Or.inr rfl, Or.inr rfl, Or.inr rfl, Or.inl rfl, Or.inr rfl, Or.inr rfl, Or.inr rfl, trivial⟩ ?_
              exact ih5 (v5_1 + 1) s13 R14 F15 (⟨by omega, ⟨pm_a3_i U1 (by omega) (by omega), U2, by omega⟩⟩) (by omega)
            · refine px_aload_n hG dX7_addGoes_36 rfl ?_
              refine gr_31_0 hG dX7_addGoes_37 fl_X7_27 R14 ?_
              refine px_iload_n hG dX7_addGoes_40 rfl ?_
              refine px_iconst hG dX7_addGoes_41 ?_
              refine px_isub hG dX7_addGoes_42 ?_
              refine px_iload_n hG dX7_addGoes_43 rfl ?_
              refine jv2 hG dX7_addGoes_44 ct_X1_ofe lk_X7_45 ⟨rfl, rfl⟩ (by decide) ⟨Nat.le_of_ble_eq_true rfl, Nat.le_of_ble_eq_true rfl, Nat.le_of_ble_eq_true rfl⟩ (Nat.le_of_ble_eq_true rfl) ⟨(m1 - 1), (pl - 1), rfl, rfl, R14, ⟨by omega, by omega, by omega, by omega, pm_CT_c CT (fun r i => F15 2 r i rfl)⟩⟩ (fun r23 t24 pr23 => ?_)
              obtain ⟨x25, rfl, rfl, br23⟩ := pr23 _ _ rfl
              show G 47 [some (.inr (.inr (31, 0))), some (.inl m1), some (.inl pl), some (.inl (pl - 1)), some (.inl (m1 - pl)), some (.inl v5_1), some (.inl v6_12), none, none, none] [.inl x25] 122 s13
              have B := (br23).1
              have N1 := (br23).2
              rw [p1, c1] at B
              refine px_i2l hG dX7_addGoes_47 ⟨by omega, by omega⟩ ?_
              refine px_aload_n hG dX7_addGoes_48 rfl ?_
              refine gr_31_2 hG dX7_addGoes_49 fl_X7_17 R14 ?_
              refine px_iload_n hG dX7_addGoes_52 rfl ?_
              refine aa_32 hG dX7_addGoes_53 (by omega) ?_
              refine px_iload hG dX7_addGoes_54 rfl ?_
              refine al_32 hG dX7_addGoes_56 (by omega) (by omega) (fun z26 ez26 => ?_)
              have XL := ez26
              rw [U2 _ _ (by omega), LL.2 _ (by omega) (by omega)] at XL
              refine px_lmul hG dX7_addGoes_57 ?_
              refine px_aload_n hG dX7_addGoes_58 rfl ?_
              refine gr_31_2 hG dX7_addGoes_59 fl_X7_17 R14 ?_
              refine px_iload hG dX7_addGoes_62 rfl ?_
              refine aa_32 hG dX7_addGoes_64 (by omega) ?_
              refine px_iload hG dX7_addGoes_65 rfl ?_
              refine al_32 hG dX7_addGoes_67 (by omega) (by omega) (fun z27 ez27 => ?_)
              have XR := ez27
              rw [U2 _ _ (by omega), LR.2 _ (by omega) (by omega)] at XR
              refine px_lmul hG dX7_addGoes_68 ?_
              refine px_lstore hG dX7_addGoes_69 (Nat.le_of_ble_eq_true rfl) (L2 := [some (.inr (.inr (31, 0))), some (.inl m1), some (.inl pl), some (.inl (pl - 1)), some (.inl (m1 - pl)), some (.inl v5_1), some (.inl v6_12), some (.inr (.inl ((x25 * z26) * z27))), none, none]) rfl ?_
              refine px_iconst hG dX7_addGoes_71 ?_
              refine px_istore hG dX7_addGoes_72 (Nat.le_of_ble_eq_true rfl) (L2 := [some (.inr (.inr (31, 0))), some (.inl m1), some (.inl pl), some (.inl (pl - 1)), some (.inl (m1 - pl)), some (.inl v5_1), some (.inl v6_12), some (.inr (.inl ((x25 * z26) * z27))), none, some (.inl 0)]) rfl ?_
              have L74 : ∀ (N : Nat) (v9_28 : Int) (s29 : pm_H), pm_Rng s29 → pm_Fr [(32, none)] s0 s29 → ((0 ≤ v9_28 ∧ v9_28 ≤ 10000) ∧ (pm_LR 46 (pm_a1 ((x25 * z26) * z27) (v5_1.toNat + v6_12.toNat) (pm_a2 (pm_C (m1.toNat - 1) p * pm_lv (pm_gl p) v5_1.toNat) (pm_gl q) (p + 1) v5_1.toNat (pm_a3 (pm_C (m1.toNat - 1) p) (pm_gl p) (pm_gl q) (p + 1) (pm_mg q + 1) (pm_ap pm_gl m1.toNat p) v5_1.toNat) v6_12.toNat) v9_28.toNat) (s29 32 m1) ∧ (∀ r i : Int, r ≠ m1 → s29 32 r i = s0 32 r i) ∧ v9_28 ≤ pl)) → (10001 - v9_28).toNat < N → G 74 [some (.inr (.inr (31, 0))), some (.inl m1), some (.inl pl), some (.inl (pl - 1)), some (.inl (m1 - pl)), some (.inl v5_1), some (.inl v6_12), some (.inr (.inl ((x25 * z26) * z27))), none, some (.inl v9_28)] [] 122 s29 := by
                intro N
                induction N with
                | zero => intro v9_28 s29 R30 F31 inv33 hm34; exact absurd hm34 (Nat.not_lt_zero _)
                | succ N ih32 =>
                  intro v9_28 s29 R30 F31 inv33 hm34
                  have Y1 := (inv33.2).1
                  have Y2 := (inv33.2).2.1
                  have XX : (((x25 * z26) * z27)) = pm_C (m1.toNat - 1) p * pm_lv (pm_gl p) v5_1.toNat * pm_lv (pm_gl q) v6_12.toNat := by rw [XL, XR, ← B]
                  refine px_iload hG dX7_addGoes_74 rfl ?_
                  refine px_iload_n hG dX7_addGoes_76 rfl ?_
                  refine px_ic_ge hG dX7_addGoes_77 (tgt := 106) (by decide) ⟨by omega, by omega⟩ ⟨by omega, by omega⟩ (fun c35 => ?_) (fun c35 => ?_)
                  · refine px_iinc hG dX7_addGoes_106 (Nat.le_of_ble_eq_true rfl) rfl (L2 := [some (.inr (.inr (31, 0))), some (.inl m1), some (.inl pl), some (.inl (pl - 1)), some (.inl (m1 - pl)), some (.inl v5_1), some (.inl (v6_12 + 1)), some (.inr (.inl ((x25 * z26) * z27))), none, some (.inl v9_28)]) rfl ?_
                    refine px_goto hG dX7_addGoes_109 (tgt := 25) (by decide) ?_
                    refine px_weak hG (L2 := [some (.inr (.inr (31, 0))), some (.inl m1), some (.inl pl), some (.inl (pl - 1)), some (.inl (m1 - pl)), some (.inl v5_1), some (.inl (v6_12 + 1)), none, none, none]) ⟨Or.inr rfl, Or.inr rfl, Or.inr rfl, Or.inr rfl, Or.inr rfl, Or.inr rfl, Or.inr rfl, Or.inl rfl, Or.inr rfl, Or.inl rfl, trivial⟩ ?_
                    exact ih16 (v6_12 + 1) s29 R30 F31 (⟨by omega, ⟨pm_a2_i Y1 (by omega) (by rw [XL, XR, ← B]) (by omega), Y2, by omega⟩⟩) (by omega)
                  · refine px_aload_n hG dX7_addGoes_80 rfl ?_
                    refine gr_31_2 hG dX7_addGoes_81 fl_X7_17 R30 ?_
                    refine px_iload_n hG dX7_addGoes_84 rfl ?_
                    refine aa_32 hG dX7_addGoes_85 (by omega) ?_
                    refine px_iload hG dX7_addGoes_86 rfl ?_
                    refine px_iload hG dX7_addGoes_88 rfl ?_
                    refine px_iadd hG dX7_addGoes_90 ?_
                    refine px_iload hG dX7_addGoes_91 rfl ?_
                    refine px_iadd hG dX7_addGoes_93 ?_
                    refine px_dup2 hG dX7_addGoes_94 ?_
                    refine al_32 hG dX7_addGoes_95 (by omega) (by omega) (fun z36 ez36 => ?_)
                    have X9 := ez36
                    refine px_lload hG dX7_addGoes_96 rfl ?_
                    refine px_ladd hG dX7_addGoes_98 ?_
                    refine as_32 hG dX7_addGoes_99 R30 (by omega) (by omega) (fun s37 qs37 Rs37 => ?_)
                    have Fs37 := pm_Fr_up (F31) qs37 (M := [(32, none)]) rfl
                    have E := qs37
                    refine px_iinc hG dX7_addGoes_100 (Nat.le_of_ble_eq_true rfl) rfl (L2 := [some (.inr (.inr (31, 0))), some (.inl m1), some (.inl pl), some (.inl (pl - 1)), some (.inl (m1 - pl)), some (.inl v5_1), some (.inl v6_12), some (.inr (.inl ((x25 * z26) * z27))), none, some (.inl (v9_28 + 1))]) rfl ?_
                    refine px_goto hG dX7_addGoes_103 (tgt := 74) (by decide) ?_
                    exact ih32 (v9_28 + 1) s37 Rs37 Fs37 (⟨by omega, ⟨pm_a1_i Y1 E (by rw [X9]) rfl (by omega) (by omega) (by omega) (by omega), fun r i h => (pm_ner E h).trans (Y2 r i h), by omega⟩⟩) (by omega)
              exact L74 _ 0 s13 R14 F15 (⟨by omega, ⟨U1, U2, by omega⟩⟩) (Nat.lt_succ_self _)
        exact L25 _ 0 s2 R3 F4 (⟨by omega, ⟨V1, V2, by omega⟩⟩) (Nat.lt_succ_self _)
  exact L12 _ 0 s0 R0 pm_Fr_rf (⟨by omega, ⟨LM, fun r i _ => rfl, by omega⟩⟩) (Nat.lt_succ_self _))
def pre_X7_addLuckye (as : List pm_V) (n : Nat) (σ : pm_H) : Prop := ∃ m1 pl : Int, as = [.inr (.inr (31, 0)), .inl m1, .inl pl] ∧ n = 122 ∧ pm_Rng σ ∧ (1 ≤ m1 ∧ m1 ≤ 10 ∧ 1 ≤ pl ∧ pl ≤ m1 ∧ pm_CT σ ∧ pm_LR 11 (pm_kl (pl - 1).toNat) (σ 33 (pl - 1)) ∧ pm_LR 11 (pm_kl (m1 - pl).toNat) (σ 33 (m1 - pl)) ∧ pm_LR 11 (pm_bp pm_kl m1.toNat (pl - 1).toNat) (σ 33 m1))
def po_X7_addLuckye (as : List pm_V) (_ : Nat) (σ : pm_H) (r : Option pm_V) (τ : pm_H) : Prop := ∀ m1 pl : Int, as = [.inr (.inr (31, 0)), .inl m1, .inl pl] → r = none ∧ pm_Rng τ ∧ pm_Fr [(33, none)] σ τ ∧ (pm_LR 11 (pm_bp pm_kl m1.toNat pl.toNat) (τ 33 m1) ∧ ∀ r i : Int, r ≠ m1 → τ 33 r i = σ 33 r i)
set_option maxRecDepth 20000 in
set_option maxHeartbeats 4000000 in
theorem ct_X7_addLuckye : pm_Ct yX7_addLucky cX7_addLucky 9 none 1 0 pre_X7_addLuckye po_X7_addLuckye := pm_sound (ini := false) (by decide +kernel) pk_X7_addLucky (fun h => absurd h (by decide)) (by
  rintro as n s0 ⟨m1, pl, rfl, rfl, R0, hpre⟩
  refine ⟨by decide, Nat.le_of_ble_eq_true rfl, fun G hG => ?_⟩
  have hG : pm_Rules (RX7, 1, 122, cX7_addLucky, -1, (fun _ => 0), false, none, po_X7_addLuckye [.inr (.inr (31, 0)), .inl m1, .inl pl] 122 s0) G := hG
  show G 0 [some (.inr (.inr (31, 0))), some (.inl m1), some (.inl pl), none, none, none, none, none, none] [] 122 s0
  obtain ⟨p, hp⟩ : ∃ p : Nat, (p : Int) = pl - 1 := ⟨(pl - 1).toNat, by omega⟩
  obtain ⟨q, hq⟩ : ∃ q : Nat, (q : Int) = m1 - pl := ⟨(m1 - pl).toNat, by omega⟩
  have p1 : (pl - 1).toNat = p := by omega
  have q1 : (m1 - pl).toNat = q := by omega
  have CT := hpre.2.2.2.2.1
  have LL := hpre.2.2.2.2.2.1
  have LR := hpre.2.2.2.2.2.2.1
  have LM := hpre.2.2.2.2.2.2.2
  rw [p1] at LL LM
  rw [q1] at LR
  have c1 : (m1 - 1).toNat = m1.toNat - 1 := by omega
  
  refine px_iload_n hG dX7_addLucky_0 rfl ?_
  refine px_iconst hG dX7_addLucky_1 ?_
  refine px_isub hG dX7_addLucky_2 ?_
  refine px_istore_n hG dX7_addLucky_3 (Nat.le_of_ble_eq_true rfl) (L2 := [some (.inr (.inr (31, 0))), some (.inl m1), some (.inl pl), some (.inl (pl - 1)), none, none, none, none, none]) rfl ?_
  refine px_iload_n hG dX7_addLucky_4 rfl ?_
  refine px_iload_n hG dX7_addLucky_5 rfl ?_
  refine px_isub hG dX7_addLucky_6 ?_
  refine px_istore hG dX7_addLucky_7 (Nat.le_of_ble_eq_true rfl) (L2 := [some (.inr (.inr (31, 0))), some (.inl m1), some (.inl pl), some (.inl (pl - 1)), some (.inl (m1 - pl)), none, none, none, none]) rfl ?_
  refine px_iconst hG dX7_addLucky_9 ?_
  refine px_istore hG dX7_addLucky_10 (Nat.le_of_ble_eq_true rfl) (L2 := [some (.inr (.inr (31, 0))), some (.inl m1), some (.inl pl), some (.inl (pl - 1)), some (.inl (m1 - pl)), some (.inl 0), none, none, none]) rfl ?_
  have L12 : ∀ (N : Nat) (v5_1 : Int) (s2 : pm_H), pm_Rng s2 → pm_Fr [(33, none)] s0 s2 → ((0 ≤ v5_1 ∧ v5_1 ≤ 10000) ∧ (pm_LR 11 (pm_b3 (pm_C (m1.toNat - 1) p) (pm_kl p) (pm_kl q) p (q + 1) (pm_bp pm_kl m1.toNat p) v5_1.toNat) (s2 33 m1) ∧ (∀ r i : Int, r ≠ m1 → s2 33 r i = s0 33 r i) ∧ v5_1 ≤ p + 1)) → (10001 - v5_1).toNat < N → G 12 [some (.inr (.inr (31, 0))), some (.inl m1), none, some (.inl (pl - 1)), some (.inl (m1 - pl)), some (.inl v5_1), none, none, none] [] 122 s2 := by
    intro N
    induction N with
    | zero => intro v5_1 s2 R3 F4 inv6 hm7; exact absurd hm7 (Nat.not_lt_zero _)
    | succ N ih5 =>
      intro v5_1 s2 R3 F4 inv6 hm7
      have V1 := (inv6.2).1
      have V2 := (inv6.2).2.1
      refine px_iload hG dX7_addLucky_12 rfl ?_
      refine px_iload_n hG dX7_addLucky_14 rfl ?_
      refine px_ic_gt hG dX7_addLucky_15 (tgt := 114) (by decide) ⟨by omega, by omega⟩ ⟨by omega, by omega⟩ (fun c8 => ?_) (fun c8 => ?_)
      · exact px_vret (st := []) hG dX7_addLucky_114 rfl rfl (fun m1_1 pl_1 ee => by cases ee; exact ⟨rfl, R3, F4, ⟨pm_b4_i V1 (by omega) hp hq, V2⟩⟩)
      · refine px_iconst hG dX7_addLucky_18 ?_
        refine px_istore hG dX7_addLucky_19 (Nat.le_of_ble_eq_true rfl) (L2 := [some (.inr (.inr (31, 0))), some (.inl m1), none, some (.inl (pl - 1)), some (.inl (m1 - pl)), some (.inl v5_1), some (.inl 0), none, none]) rfl ?_
        have L21 : ∀ (N : Nat) (v6_9 : Int) (s10 : pm_H), pm_Rng s10 → pm_Fr [(33, none)] s0 s10 → ((0 ≤ v6_9 ∧ v6_9 ≤ 10000) ∧ (pm_LR 11 (pm_b2 (pm_C (m1.toNat - 1) p * pm_lv (pm_kl p) v5_1.toNat) (pm_kl q) p v5_1.toNat (pm_b3 (pm_C (m1.toNat - 1) p) (pm_kl p) (pm_kl q) p (q + 1) (pm_bp pm_kl m1.toNat p) v5_1.toNat) v6_9.toNat) (s10 33 m1) ∧ (∀ r i : Int, r ≠ m1 → s10 33 r i = s0 33 r i) ∧ v6_9 ≤ q + 1)) → (10001 - v6_9).toNat < N → G 21 [some (.inr (.inr (31, 0))), some (.inl m1), none, some (.inl (pl - 1)), some (.inl (m1 - pl)), some (.inl v5_1), some (.inl v6_9), none, none] [] 122 s10 := by
          intro N
          induction N with
          | zero => intro v6_9 s10 R11 F12 inv14 hm15; exact absurd hm15 (Nat.not_lt_zero _)
          | succ N ih13 =>
            intro v6_9 s10 R11 F12 inv14 hm15
            have U1 := (inv14.2).1
            have U2 := (inv14.2).2.1
            refine px_iload hG dX7_addLucky_21 rfl ?_
            refine px_iload hG dX7_addLucky_23 rfl ?_
            refine px_ic_gt hG dX7_addLucky_25 (tgt := 108) (by decide) ⟨by omega, by omega⟩ ⟨by omega, by omega⟩ (fun c16 => ?_) (fun c16 => ?_)
            · refine px_iinc hG dX7_addLucky_108 (Nat.le_of_ble_eq_true rfl) rfl (L2 := [some (.inr (.inr (31, 0))), some (.inl m1), none, some (.inl (pl - 1)), some (.inl (m1 - pl)), some (.inl (v5_1 + 1)), some (.inl v6_9), none, none]) rfl ?_
              refine px_goto hG dX7_addLucky_111 (tgt := 12) (by decide) ?_
              refine px_weak hG (L2 := [some (.inr (.inr (31, 0))), some (.inl m1), none, some (.inl (pl - 1)), some (.inl (m1 - pl)), some (.inl (v5_1 + 1)), none, none, none]) ⟨Or.inr rfl, Or.inr rfl, Or.inr rfl, Or.inr rfl, Or.inr rfl, Or.inr rfl, Or.inl rfl, Or.inr rfl, Or.inr rfl, trivial⟩ ?_
              exact ih5 (v5_1 + 1) s10 R11 F12 (⟨by omega, ⟨pm_b3_i U1 (by omega) (by omega), U2, by omega⟩⟩) (by omega)
            · refine px_aload_n hG dX7_addLucky_28 rfl ?_
              refine gr_31_0 hG dX7_addLucky_29 fl_X7_27 R11 ?_
              refine px_iload_n hG dX7_addLucky_32 rfl ?_
              refine px_iconst hG dX7_addLucky_33 ?_
              refine px_isub hG dX7_addLucky_34 ?_
              refine px_iload_n hG dX7_addLucky_35 rfl ?_
              refine jv2 hG dX7_addLucky_36 ct_X1_ofe lk_X7_45 ⟨rfl, rfl⟩ (by decide) ⟨Nat.le_of_ble_eq_true rfl, Nat.le_of_ble_eq_true rfl, Nat.le_of_ble_eq_true rfl⟩ (Nat.le_of_ble_eq_true rfl) ⟨(m1 - 1), (pl - 1), rfl, rfl, R11, ⟨by omega, by omega, by omega, by omega, pm_CT_c CT (fun r i => F12 2 r i rfl)⟩⟩ (fun r17 t18 pr17 => ?_)
              obtain ⟨x19, rfl, rfl, br17⟩ := pr17 _ _ rfl
              show G 39 [some (.inr (.inr (31, 0))), some (.inl m1), none, some (.inl (pl - 1)), some (.inl (m1 - pl)), some (.inl v5_1), some (.inl v6_9), none, none] [.inl x19] 122 s10
              have B := (br17).1
              have N1 := (br17).2
              rw [p1, c1] at B
              refine px_i2l hG dX7_addLucky_39 ⟨by omega, by omega⟩ ?_
              refine px_aload_n hG dX7_addLucky_40 rfl ?_
              refine gr_31_3 hG dX7_addLucky_41 fl_X7_20 R11 ?_
              refine px_iload_n hG dX7_addLucky_44 rfl ?_
              refine aa_33 hG dX7_addLucky_45 (by omega) ?_
              refine px_iload hG dX7_addLucky_46 rfl ?_
              refine al_33 hG dX7_addLucky_48 (by omega) (by omega) (fun z20 ez20 => ?_)
              have XL := ez20
              rw [U2 _ _ (by omega), LL.2 _ (by omega) (by omega)] at XL
              refine px_lmul hG dX7_addLucky_49 ?_
              refine px_aload_n hG dX7_addLucky_50 rfl ?_
              refine gr_31_3 hG dX7_addLucky_51 fl_X7_20 R11 ?_
              refine px_iload hG dX7_addLucky_54 rfl ?_
              refine aa_33 hG dX7_addLucky_56 (by omega) ?_
              refine px_iload hG dX7_addLucky_57 rfl ?_
              refine al_33 hG dX7_addLucky_59 (by omega) (by omega) (fun z21 ez21 => ?_)
              have XR := ez21
              rw [U2 _ _ (by omega), LR.2 _ (by omega) (by omega)] at XR
              refine px_lmul hG dX7_addLucky_60 ?_
              refine px_lstore hG dX7_addLucky_61 (Nat.le_of_ble_eq_true rfl) (L2 := [some (.inr (.inr (31, 0))), some (.inl m1), none, some (.inl (pl - 1)), some (.inl (m1 - pl)), some (.inl v5_1), some (.inl v6_9), some (.inr (.inl ((x19 * z20) * z21))), none]) rfl ?_
              refine px_aload_n hG dX7_addLucky_63 rfl ?_
              refine gr_31_3 hG dX7_addLucky_64 fl_X7_20 R11 ?_
              refine px_iload_n hG dX7_addLucky_67 rfl ?_
              refine aa_33 hG dX7_addLucky_68 (by omega) ?_
              refine px_iload hG dX7_addLucky_69 rfl ?_
              refine px_iload hG dX7_addLucky_71 rfl ?_
              refine px_iadd hG dX7_addLucky_73 ?_
              refine px_dup2 hG dX7_addLucky_74 ?_
              refine al_33 hG dX7_addLucky_75 (by omega) (by omega) (fun z22 ez22 => ?_)
              have X7 := ez22
              refine px_lload hG dX7_addLucky_76 rfl ?_
              refine px_iload_n hG dX7_addLucky_78 rfl ?_
              refine px_i2l hG dX7_addLucky_79 ⟨by omega, by omega⟩ ?_
              refine px_lmul hG dX7_addLucky_80 ?_
              refine px_ladd hG dX7_addLucky_81 ?_
              refine as_33 hG dX7_addLucky_82 R11 (by omega) (by omega) (fun s23 qs23 Rs23 => ?_)
              have Fs23 := pm_Fr_up (F12) qs23 (M := [(33, none)]) rfl
              have E1 := qs23
              refine px_aload_n hG dX7_addLucky_83 rfl ?_
              refine gr_31_3 hG dX7_addLucky_84 fl_X7_20 Rs23 ?_
              refine px_iload_n hG dX7_addLucky_87 rfl ?_
              refine aa_33 hG dX7_addLucky_88 (by omega) ?_
              refine px_iload hG dX7_addLucky_89 rfl ?_
              refine px_iload hG dX7_addLucky_91 rfl ?_
              refine px_iadd hG dX7_addLucky_93 ?_
              refine px_iconst hG dX7_addLucky_94 ?_
              refine px_iadd hG dX7_addLucky_95 ?_
              refine px_dup2 hG dX7_addLucky_96 ?_
              refine al_33 hG dX7_addLucky_97 (by omega) (by omega) (fun z24 ez24 => ?_)
              have X8 := ez24
              refine px_lload hG dX7_addLucky_98 rfl ?_
              refine px_ladd hG dX7_addLucky_100 ?_
              refine as_33 hG dX7_addLucky_101 Rs23 (by omega) (by omega) (fun s25 qs25 Rs25 => ?_)
              have Fs25 := pm_Fr_up (Fs23) qs25 (M := [(33, none)]) rfl
              have E2 := qs25
              refine px_iinc hG dX7_addLucky_102 (Nat.le_of_ble_eq_true rfl) rfl (L2 := [some (.inr (.inr (31, 0))), some (.inl m1), none, some (.inl (pl - 1)), some (.inl (m1 - pl)), some (.inl v5_1), some (.inl (v6_9 + 1)), some (.inr (.inl ((x19 * z20) * z21))), none]) rfl ?_
              refine px_goto hG dX7_addLucky_105 (tgt := 21) (by decide) ?_
              refine px_weak hG (L2 := [some (.inr (.inr (31, 0))), some (.inl m1), none, some (.inl (pl - 1)), some (.inl (m1 - pl)), some (.inl v5_1), some (.inl (v6_9 + 1)), none, none]) ⟨Or.inr rfl, Or.inr rfl, Or.inr rfl, Or.inr rfl, Or.inr rfl, Or.inr rfl, Or.inr rfl, Or.inl rfl, Or.inr rfl, trivial⟩ ?_
              exact ih13 (v6_9 + 1) s25 Rs25 Fs25 (⟨by omega, ⟨pm_b2_i U1 E1 (by rw [X7]) E2 (by rw [X8]) rfl rfl hp.symm (by rw [XL, XR, ← B]) (by omega) (by omega) (by omega), fun r i h => (pm_ner E2 h).trans ((pm_ner E1 h).trans (U2 r i h)), by omega⟩⟩) (by omega)
        exact L21 _ 0 s2 R3 F4 (⟨by omega, ⟨V1, V2, by omega⟩⟩) (Nat.lt_succ_self _)
  refine px_weak hG (L2 := [some (.inr (.inr (31, 0))), some (.inl m1), none, some (.inl (pl - 1)), some (.inl (m1 - pl)), some (.inl 0), none, none, none]) ⟨Or.inr rfl, Or.inr rfl, Or.inl rfl, Or.inr rfl, Or.inr rfl, Or.inr rfl, Or.inr rfl, Or.inr rfl, Or.inr rfl, trivial⟩ ?_
  exact L12 _ 0 s0 R0 pm_Fr_rf (⟨by omega, ⟨LM, fun r i _ => rfl, by omega⟩⟩) (Nat.lt_succ_self _))
def pre_X7_learne (as : List pm_V) (n : Nat) (σ : pm_H) : Prop := ∃ n1 : Int, as = [.inr (.inr (31, 0)), .inl n1] ∧ n = 122 ∧ pm_Rng σ ∧ (1 ≤ n1 ∧ n1 ≤ 10 ∧ pm_CT σ ∧ pm_SG σ)
def po_X7_learne (as : List pm_V) (_ : Nat) (σ : pm_H) (r : Option pm_V) (τ : pm_H) : Prop := ∀ n1 : Int, as = [.inr (.inr (31, 0)), .inl n1] → r = none ∧ pm_Rng τ ∧ pm_Fr [(31, some 1), (32, none), (33, none)] σ τ ∧ (pm_SG τ ∧ n1 ≤ τ 31 0 1)
set_option maxRecDepth 20000 in
set_option maxHeartbeats 4000000 in
theorem ct_X7_learne : pm_Ct yX7_learn cX7_learn 4 none 2 0 pre_X7_learne po_X7_learne := pm_sound (ini := false) (by decide +kernel) pk_X7_learn (fun h => absurd h (by decide)) (by
  rintro as n s0 ⟨n1, rfl, rfl, R0, hpre⟩
  refine ⟨by decide, Nat.le_of_ble_eq_true rfl, fun G hG => ?_⟩
  have hG : pm_Rules (RX7, 2, 122, cX7_learn, -1, (fun _ => 0), false, none, po_X7_learne [.inr (.inr (31, 0)), .inl n1] 122 s0) G := hG
  show G 0 [some (.inr (.inr (31, 0))), some (.inl n1), none, none] [] 122 s0
  have CT := hpre.2.2.1
  have SG := hpre.2.2.2
  have B := pb_31_1 R0
  refine px_aload_n hG dX7_learn_0 rfl ?_
  refine gi_31_1 hG dX7_learn_1 fl_X7_9 R0 (fun x1 ex1 lx1 ux1 => ?_)
  refine px_iconst hG dX7_learn_4 ?_
  refine px_iadd hG dX7_learn_5 ?_
  refine px_istore_n hG dX7_learn_6 (Nat.le_of_ble_eq_true rfl) (L2 := [some (.inr (.inr (31, 0))), some (.inl n1), some (.inl (x1 + 1)), none]) rfl ?_
  have L7 : ∀ (N : Nat) (v2_2 : Int) (s3 : pm_H), pm_Rng s3 → pm_Fr [(31, some 1), (32, none), (33, none)] s0 s3 → s3 31 0 1 = x1 → ((x1 + 1 ≤ v2_2 ∧ v2_2 ≤ 10000) ∧ (pm_SK s3 (v2_2 - 1) ∧ s3 31 0 1 = s0 31 0 1 ∧ 1 ≤ v2_2 ∧ (v2_2 = s0 31 0 1 + 1 ∨ v2_2 ≤ n1 + 1) ∧ s0 31 0 1 + 1 ≤ v2_2)) → (10001 - v2_2).toNat < N → G 7 [some (.inr (.inr (31, 0))), some (.inl n1), some (.inl v2_2), none] [] 122 s3 := by
    intro N
    induction N with
    | zero => intro v2_2 s3 R4 F5 k7 inv8 hm9; exact absurd hm9 (Nat.not_lt_zero _)
    | succ N ih6 =>
      intro v2_2 s3 R4 F5 k7 inv8 hm9
      have V1 := (inv8.2).1
      have V2 := (inv8.2).2.1
      obtain ⟨vq, hvq⟩ : ∃ z : Int, z = v2_2 := ⟨_, rfl⟩
      have VQ := V1
      rw [← hvq] at VQ
      refine px_iload_n hG dX7_learn_7 rfl ?_
      refine px_iload_n hG dX7_learn_8 rfl ?_
      have J43_11 : ((v2_2 > n1)) → G 43 [some (.inr (.inr (31, 0))), some (.inl n1), none, none] [] 122 s3 := by
        intro inv12
        refine px_aload_n hG dX7_learn_43 rfl ?_
        refine px_aload_n hG dX7_learn_44 rfl ?_
        refine gi_31_1 hG dX7_learn_45 fl_X7_9 R4 (fun x13 ex13 lx13 ux13 => ?_)
        refine px_iload_n hG dX7_learn_48 rfl ?_
        refine px_max hG dX7_learn_49 lm_X7_39 (Nat.le_of_ble_eq_true rfl) (Nat.le_of_ble_eq_true rfl) ⟨⟨by omega, by omega⟩, ⟨by omega, by omega⟩⟩ (fun x14 bx14 => ?_)
        refine pi_31_1 hG dX7_learn_52 fl_X7_9 R4 (by omega) (fun s15 qs15 Rs15 => ?_)
        have Fs15 := pm_Fr_up (F5) qs15 (M := [(31, some 1), (32, none), (33, none)]) rfl
        have k16 : s15 31 0 1 = x14 := pm_at qs15
        have E := qs15
        have P1 := pm_at E
        have PV : vq - 1 = x14 := by omega
        rw [PV] at VQ
        exact px_vret (st := []) hG dX7_learn_55 rfl rfl (fun n1_1 ee => by cases ee; exact ⟨rfl, Rs15, Fs15, ⟨by unfold pm_SG; rw [P1]; exact pm_SK_c VQ (fun r i => pm_nec E (by decide)) (fun r i => pm_nec E (by decide)), by omega⟩⟩)
      refine px_ic_gt hG dX7_learn_9 (tgt := 43) (by decide) ⟨by omega, by omega⟩ ⟨by omega, by omega⟩ (fun c10 => ?_) (fun c10 => ?_)
      · refine px_weak hG (L2 := [some (.inr (.inr (31, 0))), some (.inl n1), none, none]) ⟨Or.inr rfl, Or.inr rfl, Or.inl rfl, Or.inr rfl, trivial⟩ ?_
        exact J43_11  (by omega)
      · refine px_iconst hG dX7_learn_12 ?_
        refine px_istore_n hG dX7_learn_13 (Nat.le_of_ble_eq_true rfl) (L2 := [some (.inr (.inr (31, 0))), some (.inl n1), some (.inl v2_2), some (.inl 1)]) rfl ?_
        have L14 : ∀ (N : Nat) (v3_17 : Int) (s18 : pm_H), pm_Rng s18 → pm_Fr [(31, some 1), (32, none), (33, none)] s0 s18 → s18 31 0 1 = x1 → ((1 ≤ v3_17 ∧ v3_17 ≤ 10000) ∧ (pm_SJ s18 v2_2 v3_17 ∧ s18 31 0 1 = s0 31 0 1 ∧ v3_17 ≤ v2_2 + 1)) → (10001 - v3_17).toNat < N → G 14 [some (.inr (.inr (31, 0))), some (.inl n1), some (.inl v2_2), some (.inl v3_17)] [] 122 s18 := by
          intro N
          induction N with
          | zero => intro v3_17 s18 R19 F20 k22 inv23 hm24; exact absurd hm24 (Nat.not_lt_zero _)
          | succ N ih21 =>
            intro v3_17 s18 R19 F20 k22 inv23 hm24
            have U1 := (inv23.2).1
            have U2 := (inv23.2).2.1
            have CT1 := pm_CT_c CT (fun r i => F20 2 r i rfl)
            refine px_iload_n hG dX7_learn_14 rfl ?_
            refine px_iload_n hG dX7_learn_15 rfl ?_
            refine px_ic_gt hG dX7_learn_16 (tgt := 37) (by decide) ⟨by omega, by omega⟩ ⟨by omega, by omega⟩ (fun c25 => ?_) (fun c25 => ?_)
            · refine px_iinc hG dX7_learn_37 (Nat.le_of_ble_eq_true rfl) rfl (L2 := [some (.inr (.inr (31, 0))), some (.inl n1), some (.inl (v2_2 + 1)), some (.inl v3_17)]) rfl ?_
              refine px_goto hG dX7_learn_40 (tgt := 7) (by decide) ?_
              refine px_weak hG (L2 := [some (.inr (.inr (31, 0))), some (.inl n1), some (.inl (v2_2 + 1)), none]) ⟨Or.inr rfl, Or.inr rfl, Or.inr rfl, Or.inl rfl, trivial⟩ ?_
              exact ih6 (v2_2 + 1) s18 R19 F20 k22 (⟨by omega, ⟨pm_SJ_e U1 (by omega) (by omega) (by omega), U2, by omega, by omega, by omega⟩⟩) (by omega)
            · have Q1 := (U1.1 (v3_17 - 1) (by omega) (by omega) (by omega)).1 (by omega)
              have Q2 := (U1.1 (v2_2 - v3_17) (by omega) (by omega) (by omega)).1 (by omega)
              refine px_aload_n hG dX7_learn_19 rfl ?_
              refine px_iload_n hG dX7_learn_20 rfl ?_
              refine px_iload_n hG dX7_learn_21 rfl ?_
              refine jv2 hG dX7_learn_22 ct_X7_addGoese lk_X7_61 ⟨rfl, rfl⟩ (by decide) ⟨Nat.le_of_ble_eq_true rfl, Nat.le_of_ble_eq_true rfl, Nat.le_of_ble_eq_true rfl⟩ (Nat.le_of_ble_eq_true rfl) ⟨v2_2, v3_17, rfl, rfl, R19, ⟨by omega, by omega, by omega, by omega, CT1, Q1.1, Q2.1, U1.2.1⟩⟩ (fun r26 t28 pr26 => ?_)
              obtain ⟨rfl, Rt28, Ft28, br26⟩ := pr26 _ _ rfl
              have Ff30 := pm_Fr_tr F20 Ft28 (M := [(31, some 1), (32, none), (33, none)]) rfl
              have k31 : t28 31 0 1 = x1 := (Ft28 31 0 1 rfl).trans k22
              show G 25 [some (.inr (.inr (31, 0))), some (.inl n1), some (.inl v2_2), some (.inl v3_17)] [] 122 t28
              have GB := br26
              have F1 := Ft28
              have CT2 := pm_CT_c CT1 (fun r i => F1 2 r i rfl)
              refine px_aload_n hG dX7_learn_25 rfl ?_
              refine px_iload_n hG dX7_learn_26 rfl ?_
              refine px_iload_n hG dX7_learn_27 rfl ?_
              refine jv2 hG dX7_learn_28 ct_X7_addLuckye lk_X7_65 ⟨rfl, rfl⟩ (by decide) ⟨Nat.le_of_ble_eq_true rfl, Nat.le_of_ble_eq_true rfl, Nat.le_of_ble_eq_true rfl⟩ (Nat.le_of_ble_eq_true rfl) ⟨v2_2, v3_17, rfl, rfl, Rt28, ⟨by omega, by omega, by omega, by omega, CT2, pm_LR_c Q1.2 (fun i => F1 33 _ i rfl), pm_LR_c Q2.2 (fun i => F1 33 _ i rfl), pm_LR_c U1.2.2 (fun i => F1 33 _ i rfl)⟩⟩ (fun r32 t34 pr32 => ?_)
              obtain ⟨rfl, Rt34, Ft34, br32⟩ := pr32 _ _ rfl
              have Ff36 := pm_Fr_tr Ff30 Ft34 (M := [(31, some 1), (32, none), (33, none)]) rfl
              have k37 : t34 31 0 1 = x1 := (Ft34 31 0 1 rfl).trans k31
              show G 31 [some (.inr (.inr (31, 0))), some (.inl n1), some (.inl v2_2), some (.inl v3_17)] [] 122 t34
              have K := br32
              have F2 := Ft34
              have NX := pm_SJ_s U1 GB.2 (fun r i => F1 33 r i rfl) (fun r i => F2 32 r i rfl) K.2 GB.1 K.1 (by omega)
              have KN := (F2 31 0 1 rfl).trans ((F1 31 0 1 rfl).trans U2)
              refine px_iinc hG dX7_learn_31 (Nat.le_of_ble_eq_true rfl) rfl (L2 := [some (.inr (.inr (31, 0))), some (.inl n1), some (.inl v2_2), some (.inl (v3_17 + 1))]) rfl ?_
              refine px_goto hG dX7_learn_34 (tgt := 14) (by decide) ?_
              exact ih21 (v3_17 + 1) t34 Rt34 Ff36 k37 (⟨by omega, ⟨NX, KN, by omega⟩⟩) (by omega)
        exact L14 _ 1 s3 R4 F5 k7 (⟨by omega, ⟨pm_SJ_0 V1 (by omega) (by omega), V2, by omega⟩⟩) (Nat.lt_succ_self _)
  exact L7 _ (x1 + 1) s0 R0 pm_Fr_rf ex1 (⟨by omega, ⟨by rw [show (x1 + 1) - 1 = s0 31 0 1 by omega]; exact SG, rfl, by omega, by omega, by omega⟩⟩) (Nat.lt_succ_self _))
def pre_X7_withGoese (as : List pm_V) (n : Nat) (σ : pm_H) : Prop := ∃ n1 vv : Int, as = [.inr (.inr (31, 0)), .inl n1, .inl vv] ∧ n = 122 ∧ pm_Rng σ ∧ (1 ≤ n1 ∧ n1 ≤ 10 ∧ pm_in vv ∧ pm_CT σ ∧ pm_SG σ)
def po_X7_withGoese (as : List pm_V) (_ : Nat) (σ : pm_H) (r : Option pm_V) (τ : pm_H) : Prop := ∀ n1 vv : Int, as = [.inr (.inr (31, 0)), .inl n1, .inl vv] → ∃ v : Int, r = some (.inr (.inl v)) ∧ pm_Rng τ ∧ pm_Fr [(31, some 1), (32, none), (33, none)] σ τ ∧ (pm_SG τ ∧ v = pm_sv0 n1 vv)
set_option maxRecDepth 20000 in
set_option maxHeartbeats 4000000 in
theorem ct_X7_withGoese : pm_Ct yX7_withGoes cX7_withGoes 3 (some .long) 3 0 pre_X7_withGoese po_X7_withGoese := pm_sound (ini := false) (by decide +kernel) pk_X7_withGoes (fun h => absurd h (by decide)) (by
  rintro as n s0 ⟨n1, vv, rfl, rfl, R0, hpre⟩
  refine ⟨by decide, Nat.le_of_ble_eq_true rfl, fun G hG => ?_⟩
  have hG : pm_Rules (RX7, 3, 122, cX7_withGoes, -1, (fun _ => 0), false, (some .long), po_X7_withGoese [.inr (.inr (31, 0)), .inl n1, .inl vv] 122 s0) G := hG
  show G 0 [some (.inr (.inr (31, 0))), some (.inl n1), some (.inl vv)] [] 122 s0
  have CT := hpre.2.2.2.1
  have SG := hpre.2.2.2.2
  refine px_aload_n hG dX7_withGoes_0 rfl ?_
  refine px_iload_n hG dX7_withGoes_1 rfl ?_
  refine jv1 hG dX7_withGoes_2 ct_X7_learne lk_X7_31 ⟨rfl, rfl⟩ (by decide) ⟨Nat.le_of_ble_eq_true rfl, Nat.le_of_ble_eq_true rfl, Nat.le_of_ble_eq_true rfl⟩ (Nat.le_of_ble_eq_true rfl) ⟨n1, rfl, rfl, R0, ⟨by omega, by omega, CT, SG⟩⟩ (fun r1 t3 pr1 => ?_)
  obtain ⟨rfl, Rt3, Ft3, br1⟩ := pr1 _ rfl
  have Ff5 := pm_Fr_mono Ft3 (M := [(31, some 1), (32, none), (33, none)]) rfl
  show G 5 [some (.inr (.inr (31, 0))), some (.inl n1), some (.inl vv)] [] 122 t3
  have SG2 := (br1).1
  have GN := (br1).2
  have W := ((SG2 n1 (by omega) (by omega)).1 GN).1
  refine px_iload_n hG dX7_withGoes_5 rfl ?_
  refine px_if_lt hG dX7_withGoes_6 (tgt := 15) (by decide) ⟨by omega, by omega⟩ (fun c6 => ?_) (fun c6 => ?_)
  · refine px_lconst hG dX7_withGoes_15 ?_
    show G 16 [some (.inr (.inr (31, 0))), some (.inl n1), some (.inl vv)] [.inr (.inl 0)] 122 t3
    refine px_goto hG dX7_withGoes_16 (tgt := 27) (by decide) ?_
    exact px_lret (st := []) hG dX7_withGoes_27 rfl rfl (fun n1_1 vv_1 ee => by cases ee; exact ⟨_, rfl, Rt3, Ff5, ⟨SG2, by first | exact pm_sv0_z W (by omega) | exact pm_sv0_i W X (by omega) (by omega)⟩⟩)
  · refine px_iload_n hG dX7_withGoes_9 rfl ?_
    refine px_bipush hG dX7_withGoes_10 (by decide) ?_
    refine px_ic_le hG dX7_withGoes_12 (tgt := 19) (by decide) ⟨by omega, by omega⟩ ⟨by omega, by omega⟩ (fun c7 => ?_) (fun c7 => ?_)
    · refine px_aload_n hG dX7_withGoes_19 rfl ?_
      refine gr_31_2 hG dX7_withGoes_20 fl_X7_17 Rt3 ?_
      refine px_iload_n hG dX7_withGoes_23 rfl ?_
      refine aa_32 hG dX7_withGoes_24 (by omega) ?_
      refine px_iload_n hG dX7_withGoes_25 rfl ?_
      refine al_32 hG dX7_withGoes_26 (by omega) (by omega) (fun z8 ez8 => ?_)
      have X := ez8
      exact px_lret (st := []) hG dX7_withGoes_27 rfl rfl (fun n1_1 vv_1 ee => by cases ee; exact ⟨_, rfl, Rt3, Ff5, ⟨SG2, by first | exact pm_sv0_z W (by omega) | exact pm_sv0_i W X (by omega) (by omega)⟩⟩)
    · refine px_lconst hG dX7_withGoes_15 ?_
      show G 16 [some (.inr (.inr (31, 0))), some (.inl n1), some (.inl vv)] [.inr (.inl 0)] 122 t3
      refine px_goto hG dX7_withGoes_16 (tgt := 27) (by decide) ?_
      exact px_lret (st := []) hG dX7_withGoes_27 rfl rfl (fun n1_1 vv_1 ee => by cases ee; exact ⟨_, rfl, Rt3, Ff5, ⟨SG2, by first | exact pm_sv0_z W (by omega) | exact pm_sv0_i W X (by omega) (by omega)⟩⟩))
def pre_X7_withLuckye (as : List pm_V) (n : Nat) (σ : pm_H) : Prop := ∃ n1 vv : Int, as = [.inr (.inr (31, 0)), .inl n1, .inl vv] ∧ n = 122 ∧ pm_Rng σ ∧ (1 ≤ n1 ∧ n1 ≤ 10 ∧ pm_in vv ∧ pm_CT σ ∧ pm_SG σ)
def po_X7_withLuckye (as : List pm_V) (_ : Nat) (σ : pm_H) (r : Option pm_V) (τ : pm_H) : Prop := ∀ n1 vv : Int, as = [.inr (.inr (31, 0)), .inl n1, .inl vv] → ∃ v : Int, r = some (.inr (.inl v)) ∧ pm_Rng τ ∧ pm_Fr [(31, some 1), (32, none), (33, none)] σ τ ∧ (pm_SG τ ∧ v = pm_sv1 n1 vv)
set_option maxRecDepth 20000 in
set_option maxHeartbeats 4000000 in
theorem ct_X7_withLuckye : pm_Ct yX7_withLucky cX7_withLucky 3 (some .long) 3 0 pre_X7_withLuckye po_X7_withLuckye := pm_sound (ini := false) (by decide +kernel) pk_X7_withLucky (fun h => absurd h (by decide)) (by
  rintro as n s0 ⟨n1, vv, rfl, rfl, R0, hpre⟩
  refine ⟨by decide, Nat.le_of_ble_eq_true rfl, fun G hG => ?_⟩
  have hG : pm_Rules (RX7, 3, 122, cX7_withLucky, -1, (fun _ => 0), false, (some .long), po_X7_withLuckye [.inr (.inr (31, 0)), .inl n1, .inl vv] 122 s0) G := hG
  show G 0 [some (.inr (.inr (31, 0))), some (.inl n1), some (.inl vv)] [] 122 s0
  have CT := hpre.2.2.2.1
  have SG := hpre.2.2.2.2
  refine px_aload_n hG dX7_withLucky_0 rfl ?_
  refine px_iload_n hG dX7_withLucky_1 rfl ?_
  refine jv1 hG dX7_withLucky_2 ct_X7_learne lk_X7_31 ⟨rfl, rfl⟩ (by decide) ⟨Nat.le_of_ble_eq_true rfl, Nat.le_of_ble_eq_true rfl, Nat.le_of_ble_eq_true rfl⟩ (Nat.le_of_ble_eq_true rfl) ⟨n1, rfl, rfl, R0, ⟨by omega, by omega, CT, SG⟩⟩ (fun r1 t3 pr1 => ?_)
  obtain ⟨rfl, Rt3, Ft3, br1⟩ := pr1 _ rfl
  have Ff5 := pm_Fr_mono Ft3 (M := [(31, some 1), (32, none), (33, none)]) rfl
  show G 5 [some (.inr (.inr (31, 0))), some (.inl n1), some (.inl vv)] [] 122 t3
  have SG2 := (br1).1
  have GN := (br1).2
  have W := ((SG2 n1 (by omega) (by omega)).1 GN).2
  refine px_iload_n hG dX7_withLucky_5 rfl ?_
  refine px_if_lt hG dX7_withLucky_6 (tgt := 14) (by decide) ⟨by omega, by omega⟩ (fun c6 => ?_) (fun c6 => ?_)
  · refine px_lconst hG dX7_withLucky_14 ?_
    show G 15 [some (.inr (.inr (31, 0))), some (.inl n1), some (.inl vv)] [.inr (.inl 0)] 122 t3
    refine px_goto hG dX7_withLucky_15 (tgt := 26) (by decide) ?_
    exact px_lret (st := []) hG dX7_withLucky_26 rfl rfl (fun n1_1 vv_1 ee => by cases ee; exact ⟨_, rfl, Rt3, Ff5, ⟨SG2, by first | exact pm_sv1_z (by omega) | exact pm_sv1_i W X (by omega) (by omega) (by omega)⟩⟩)
  · refine px_iload_n hG dX7_withLucky_9 rfl ?_
    refine px_iload_n hG dX7_withLucky_10 rfl ?_
    refine px_ic_le hG dX7_withLucky_11 (tgt := 18) (by decide) ⟨by omega, by omega⟩ ⟨by omega, by omega⟩ (fun c7 => ?_) (fun c7 => ?_)
    · refine px_aload_n hG dX7_withLucky_18 rfl ?_
      refine gr_31_3 hG dX7_withLucky_19 fl_X7_20 Rt3 ?_
      refine px_iload_n hG dX7_withLucky_22 rfl ?_
      refine aa_33 hG dX7_withLucky_23 (by omega) ?_
      refine px_iload_n hG dX7_withLucky_24 rfl ?_
      refine al_33 hG dX7_withLucky_25 (by omega) (by omega) (fun z8 ez8 => ?_)
      have X := ez8
      exact px_lret (st := []) hG dX7_withLucky_26 rfl rfl (fun n1_1 vv_1 ee => by cases ee; exact ⟨_, rfl, Rt3, Ff5, ⟨SG2, by first | exact pm_sv1_z (by omega) | exact pm_sv1_i W X (by omega) (by omega) (by omega)⟩⟩)
    · refine px_lconst hG dX7_withLucky_14 ?_
      show G 15 [some (.inr (.inr (31, 0))), some (.inl n1), some (.inl vv)] [.inr (.inl 0)] 122 t3
      refine px_goto hG dX7_withLucky_15 (tgt := 26) (by decide) ?_
      exact px_lret (st := []) hG dX7_withLucky_26 rfl rfl (fun n1_1 vv_1 ee => by cases ee; exact ⟨_, rfl, Rt3, Ff5, ⟨SG2, by first | exact pm_sv1_z (by omega) | exact pm_sv1_i W X (by omega) (by omega) (by omega)⟩⟩))
def pre_X10_spreade (as : List pm_V) (n : Nat) (σ : pm_H) : Prop := ∃ aa ab ac : Int, as = [.inr (.inr (0, 0)), .inl aa, .inl ab, .inl ac] ∧ n = 122 ∧ pm_Rng σ ∧ (pm_in aa ∧ pm_in ab ∧ pm_in ac ∧ (σ 3 0 3 ≤ σ 3 0 1 ∧ (σ 3 0 0 = 2 → 0 ≤ σ 3 0 2 ∧ σ 3 0 2 ≤ 9)) ∧ pm_CT σ ∧ pm_SG σ)
def po_X10_spreade (as : List pm_V) (_ : Nat) (σ : pm_H) (r : Option pm_V) (τ : pm_H) : Prop := ∀ aa ab ac : Int, as = [.inr (.inr (0, 0)), .inl aa, .inl ab, .inl ac] → ∃ v : Int, r = some (.inr (.inl v)) ∧ pm_Rng τ ∧ pm_Fr [(31, some 1), (32, none), (33, none), (34, none)] σ τ ∧ ((τ 3 0 3 ≤ τ 3 0 1 ∧ (τ 3 0 0 = 2 → 0 ≤ τ 3 0 2 ∧ τ 3 0 2 ≤ 9)) ∧ pm_CT τ ∧ pm_SG τ ∧ v = pm_sp aa ab ac)
set_option maxRecDepth 20000 in
set_option maxHeartbeats 4000000 in
theorem ct_X10_spreade : pm_Ct yX10_spread cX10_spread 4 (some .long) 4 0 pre_X10_spreade po_X10_spreade := pm_sound (ini := false) (by decide +kernel) pk_X10_spread (fun h => absurd h (by decide)) (by
  rintro as n s0 ⟨aa, ab, ac, rfl, rfl, R0, hpre⟩
  refine ⟨by decide, Nat.le_of_ble_eq_true rfl, fun G hG => ?_⟩
  have hG : pm_Rules (RX10, 4, 122, cX10_spread, -1, (fun _ => 0), false, (some .long), po_X10_spreade [.inr (.inr (0, 0)), .inl aa, .inl ab, .inl ac] 122 s0) G := hG
  show G 0 [some (.inr (.inr (0, 0))), some (.inl aa), some (.inl ab), some (.inl ac)] [] 122 s0
  have B0 := pb_3_0 R0
  have B1 := pb_3_1 R0
  have B2 := pb_3_2 R0
  have B3 := pb_3_3 R0
  have CT := hpre.2.2.2.2.1
  have SG := hpre.2.2.2.2.2
  refine px_iload_n hG dX10_spread_0 rfl ?_
  refine px_iconst hG dX10_spread_1 ?_
  refine px_ic_lt hG dX10_spread_2 (tgt := 11) (by decide) ⟨by omega, by omega⟩ ⟨by omega, by omega⟩ (fun c1 => ?_) (fun c1 => ?_)
  · refine px_ldc2 hG dX10_spread_11 cn_X10_170 ?_
    show G 14 [some (.inr (.inr (0, 0))), some (.inl aa), some (.inl ab), some (.inl ac)] [.inr (.inl (-1))] 122 s0
    exact px_lret (st := []) hG dX10_spread_14 rfl rfl (fun aa_1 ab_1 ac_1 ee => by cases ee; exact ⟨_, rfl, R0, pm_Fr_rf, ⟨by omega, CT, SG, pm_sp_b (by omega)⟩⟩)
  · refine px_iload_n hG dX10_spread_5 rfl ?_
    refine px_bipush hG dX10_spread_6 (by decide) ?_
    refine px_ic_le hG dX10_spread_8 (tgt := 15) (by decide) ⟨by omega, by omega⟩ ⟨by omega, by omega⟩ (fun c2 => ?_) (fun c2 => ?_)
    · refine px_iload_n hG dX10_spread_15 rfl ?_
      refine px_tsw hG dX10_spread_16 ⟨by omega, by omega⟩ (by decide) (And.intro (by decide) (And.intro (fun c16_0 => ?_) (And.intro (by decide) (And.intro (fun c16_1 => ?_) (And.intro (by decide) (And.intro (fun c16_2 => ?_) (And.intro (by decide) (And.intro (fun c16_3 => ?_) (And.intro (by decide) (And.intro (fun c16_4 => ?_) (And.intro (by decide) (And.intro (fun c16_5 => ?_) (trivial))))))))))))) (fun c16_d => ?_) (by decide)
      · show G 56 [some (.inr (.inr (0, 0))), some (.inl aa), some (.inl ab), some (.inl ac)] [] 122 s0
        refine px_aload_n hG dX10_spread_56 rfl ?_
        refine gr_0_7 hG dX10_spread_57 fl_X10_66 R0 ?_
        refine px_iload_n hG dX10_spread_60 rfl ?_
        refine px_iload_n hG dX10_spread_61 rfl ?_
        refine jv2 hG dX10_spread_62 ct_X7_withGoese lk_X10_295 ⟨rfl, rfl⟩ (by decide) ⟨Nat.le_of_ble_eq_true rfl, Nat.le_of_ble_eq_true rfl, Nat.le_of_ble_eq_true rfl⟩ (Nat.le_of_ble_eq_true rfl) ⟨ab, ac, rfl, rfl, R0, ⟨by omega, by omega, hpre.2.2.1, CT, SG⟩⟩ (fun r3 t5 pr3 => ?_)
        obtain ⟨z6, rfl, Rt5, Ft5, br3⟩ := pr3 _ _ rfl
        have Ff7 := pm_Fr_mono Ft5 (M := [(31, some 1), (32, none), (33, none), (34, none)]) rfl
        have jj8 := Ft5 3 0 0 rfl
        have jj9 := Ft5 3 0 1 rfl
        have jj10 := Ft5 3 0 2 rfl
        have jj11 := Ft5 3 0 3 rfl
        show G 65 [some (.inr (.inr (0, 0))), some (.inl aa), some (.inl ab), some (.inl ac)] [.inr (.inl z6)] 122 t5
        have B := br3
        have FF := Ft5
        have jj12 := Ff7 3 0 0 rfl
        have jj13 := Ff7 3 0 1 rfl
        have jj14 := Ff7 3 0 2 rfl
        have jj15 := Ff7 3 0 3 rfl
        exact px_lret (st := []) hG dX10_spread_65 rfl rfl (fun aa_1 ab_1 ac_1 ee => by cases ee; exact ⟨_, rfl, Rt5, Ff7, ⟨by omega, pm_CT_c CT (fun r i => FF 2 r i rfl), B.1, pm_sp_i (by omega) (by omega) (Or.inl ⟨by omega, B.2⟩)⟩⟩)
      · show G 66 [some (.inr (.inr (0, 0))), some (.inl aa), some (.inl ab), some (.inl ac)] [] 122 s0
        refine px_aload_n hG dX10_spread_66 rfl ?_
        refine gr_0_7 hG dX10_spread_67 fl_X10_66 R0 ?_
        refine px_iload_n hG dX10_spread_70 rfl ?_
        refine px_iload_n hG dX10_spread_71 rfl ?_
        refine jv2 hG dX10_spread_72 ct_X7_withLuckye lk_X10_298 ⟨rfl, rfl⟩ (by decide) ⟨Nat.le_of_ble_eq_true rfl, Nat.le_of_ble_eq_true rfl, Nat.le_of_ble_eq_true rfl⟩ (Nat.le_of_ble_eq_true rfl) ⟨ab, ac, rfl, rfl, R0, ⟨by omega, by omega, hpre.2.2.1, CT, SG⟩⟩ (fun r16 t18 pr16 => ?_)
        obtain ⟨z19, rfl, Rt18, Ft18, br16⟩ := pr16 _ _ rfl
        have Ff20 := pm_Fr_mono Ft18 (M := [(31, some 1), (32, none), (33, none), (34, none)]) rfl
        have jj21 := Ft18 3 0 0 rfl
        have jj22 := Ft18 3 0 1 rfl
        have jj23 := Ft18 3 0 2 rfl
        have jj24 := Ft18 3 0 3 rfl
        show G 75 [some (.inr (.inr (0, 0))), some (.inl aa), some (.inl ab), some (.inl ac)] [.inr (.inl z19)] 122 t18
        have B := br16
        have FF := Ft18
        have jj25 := Ff20 3 0 0 rfl
        have jj26 := Ff20 3 0 1 rfl
        have jj27 := Ff20 3 0 2 rfl
        have jj28 := Ff20 3 0 3 rfl
        exact px_lret (st := []) hG dX10_spread_75 rfl rfl (fun aa_1 ab_1 ac_1 ee => by cases ee; exact ⟨_, rfl, Rt18, Ff20, ⟨by omega, pm_CT_c CT (fun r i => FF 2 r i rfl), B.1, pm_sp_i (by omega) (by omega) (Or.inr (Or.inl ⟨by omega, B.2⟩))⟩⟩)
      · show G 76 [some (.inr (.inr (0, 0))), some (.inl aa), some (.inl ab), some (.inl ac)] [] 122 s0
        refine px_aload_n hG dX10_spread_76 rfl ?_
        refine gr_0_7 hG dX10_spread_77 fl_X10_66 R0 ?_
        refine px_iload_n hG dX10_spread_80 rfl ?_
        refine px_iload_n hG dX10_spread_81 rfl ?_
        refine jv2 hG dX10_spread_82 ct_X7_withLastAte lk_X10_301 ⟨rfl, rfl⟩ (by decide) ⟨Nat.le_of_ble_eq_true rfl, Nat.le_of_ble_eq_true rfl, Nat.le_of_ble_eq_true rfl⟩ (Nat.le_of_ble_eq_true rfl) ⟨ab, ac, rfl, rfl, R0, ⟨by omega, by omega, hpre.2.2.1, CT⟩⟩ (fun r29 t30 pr29 => ?_)
        obtain ⟨z31, rfl, rfl, br29⟩ := pr29 _ _ rfl
        show G 85 [some (.inr (.inr (0, 0))), some (.inl aa), some (.inl ab), some (.inl ac)] [.inr (.inl z31)] 122 s0
        have B := br29
        exact px_lret (st := []) hG dX10_spread_85 rfl rfl (fun aa_1 ab_1 ac_1 ee => by cases ee; exact ⟨_, rfl, R0, pm_Fr_rf, ⟨by omega, CT, SG, pm_sp_i (by omega) (by omega) (Or.inr (Or.inr (Or.inl ⟨by omega, B⟩)))⟩⟩)
      · show G 86 [some (.inr (.inr (0, 0))), some (.inl aa), some (.inl ab), some (.inl ac)] [] 122 s0
        refine px_aload_n hG dX10_spread_86 rfl ?_
        refine gr_0_7 hG dX10_spread_87 fl_X10_66 R0 ?_
        refine px_iload_n hG dX10_spread_90 rfl ?_
        refine px_iload_n hG dX10_spread_91 rfl ?_
        refine jv2 hG dX10_spread_92 ct_X7_withFirstWishe lk_X10_304 ⟨rfl, rfl⟩ (by decide) ⟨Nat.le_of_ble_eq_true rfl, Nat.le_of_ble_eq_true rfl, Nat.le_of_ble_eq_true rfl⟩ (Nat.le_of_ble_eq_true rfl) ⟨ab, ac, rfl, rfl, R0, ⟨by omega, by omega, hpre.2.2.1, CT⟩⟩ (fun r32 t33 pr32 => ?_)
        obtain ⟨z34, rfl, rfl, br32⟩ := pr32 _ _ rfl
        show G 95 [some (.inr (.inr (0, 0))), some (.inl aa), some (.inl ab), some (.inl ac)] [.inr (.inl z34)] 122 s0
        have B := br32
        exact px_lret (st := []) hG dX10_spread_95 rfl rfl (fun aa_1 ab_1 ac_1 ee => by cases ee; exact ⟨_, rfl, R0, pm_Fr_rf, ⟨by omega, CT, SG, pm_sp_i (by omega) (by omega) (Or.inr (Or.inr (Or.inr (Or.inl ⟨by omega, B⟩))))⟩⟩)
      · show G 96 [some (.inr (.inr (0, 0))), some (.inl aa), some (.inl ab), some (.inl ac)] [] 122 s0
        refine px_aload_n hG dX10_spread_96 rfl ?_
        refine gr_0_7 hG dX10_spread_97 fl_X10_66 R0 ?_
        refine px_iload_n hG dX10_spread_100 rfl ?_
        refine px_iload_n hG dX10_spread_101 rfl ?_
        refine jv2 hG dX10_spread_102 ct_X7_withOnese lk_X10_307 ⟨rfl, rfl⟩ (by decide) ⟨Nat.le_of_ble_eq_true rfl, Nat.le_of_ble_eq_true rfl, Nat.le_of_ble_eq_true rfl⟩ (Nat.le_of_ble_eq_true rfl) ⟨ab, ac, rfl, rfl, R0, ⟨by omega, by omega, hpre.2.2.1, CT⟩⟩ (fun r35 t36 pr35 => ?_)
        obtain ⟨z37, rfl, rfl, br35⟩ := pr35 _ _ rfl
        show G 105 [some (.inr (.inr (0, 0))), some (.inl aa), some (.inl ab), some (.inl ac)] [.inr (.inl z37)] 122 s0
        have B := br35
        exact px_lret (st := []) hG dX10_spread_105 rfl rfl (fun aa_1 ab_1 ac_1 ee => by cases ee; exact ⟨_, rfl, R0, pm_Fr_rf, ⟨by omega, CT, SG, pm_sp_i (by omega) (by omega) (Or.inr (Or.inr (Or.inr (Or.inr (Or.inl ⟨by omega, B⟩)))))⟩⟩)
      · show G 106 [some (.inr (.inr (0, 0))), some (.inl aa), some (.inl ab), some (.inl ac)] [] 122 s0
        refine px_aload_n hG dX10_spread_106 rfl ?_
        refine gr_0_7 hG dX10_spread_107 fl_X10_66 R0 ?_
        refine px_iload_n hG dX10_spread_110 rfl ?_
        refine px_iload_n hG dX10_spread_111 rfl ?_
        refine jv2 hG dX10_spread_112 ct_X7_withCutse lk_X10_310 ⟨rfl, rfl⟩ (by decide) ⟨Nat.le_of_ble_eq_true rfl, Nat.le_of_ble_eq_true rfl, Nat.le_of_ble_eq_true rfl⟩ (Nat.le_of_ble_eq_true rfl) ⟨ab, ac, rfl, rfl, R0, ⟨by omega, by omega, hpre.2.2.1, CT⟩⟩ (fun r38 t40 pr38 => ?_)
        obtain ⟨z41, rfl, Rt40, Ft40, br38⟩ := pr38 _ _ rfl
        have Ff42 := pm_Fr_mono Ft40 (M := [(31, some 1), (32, none), (33, none), (34, none)]) rfl
        have jj43 := Ft40 3 0 0 rfl
        have jj44 := Ft40 3 0 1 rfl
        have jj45 := Ft40 3 0 2 rfl
        have jj46 := Ft40 3 0 3 rfl
        show G 115 [some (.inr (.inr (0, 0))), some (.inl aa), some (.inl ab), some (.inl ac)] [.inr (.inl z41)] 122 t40
        have B := br38
        have FF := Ft40
        have jj47 := Ff42 3 0 0 rfl
        have jj48 := Ff42 3 0 1 rfl
        have jj49 := Ff42 3 0 2 rfl
        have jj50 := Ff42 3 0 3 rfl
        exact px_lret (st := []) hG dX10_spread_115 rfl rfl (fun aa_1 ab_1 ac_1 ee => by cases ee; exact ⟨_, rfl, Rt40, Ff42, ⟨by omega, pm_CT_c CT (fun r i => FF 2 r i rfl), pm_SG_c SG (FF 31 0 1 rfl) (fun r i => FF 32 r i rfl) (fun r i => FF 33 r i rfl), pm_sp_i (by omega) (by omega) (Or.inr (Or.inr (Or.inr (Or.inr (Or.inr (⟨by omega, B⟩))))))⟩⟩)
      · show G 116 [some (.inr (.inr (0, 0))), some (.inl aa), some (.inl ab), some (.inl ac)] [] 122 s0
        refine px_ldc2 hG dX10_spread_116 cn_X10_170 ?_
        show G 119 [some (.inr (.inr (0, 0))), some (.inl aa), some (.inl ab), some (.inl ac)] [.inr (.inl (-1))] 122 s0
        exact px_lret (st := []) hG dX10_spread_119 rfl rfl (fun aa_1 ab_1 ac_1 ee => by cases ee; exact ⟨_, rfl, R0, pm_Fr_rf, ⟨by omega, CT, SG, pm_sp_b (by omega)⟩⟩)
    · refine px_ldc2 hG dX10_spread_11 cn_X10_170 ?_
      show G 14 [some (.inr (.inr (0, 0))), some (.inl aa), some (.inl ab), some (.inl ac)] [.inr (.inl (-1))] 122 s0
      exact px_lret (st := []) hG dX10_spread_14 rfl rfl (fun aa_1 ab_1 ac_1 ee => by cases ee; exact ⟨_, rfl, R0, pm_Fr_rf, ⟨by omega, CT, SG, pm_sp_b (by omega)⟩⟩))
