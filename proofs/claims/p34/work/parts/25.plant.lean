/-! ===== the model: planting a tree of parents ===== -/
def pm_PT (s : pm_H) (n : Int) : Prop := ∃ ρ : Int → Nat, ∀ x : Int, 1 ≤ x → x ≤ n → 0 ≤ s 50 0 x ∧ s 50 0 x ≤ n ∧ ρ (s 50 0 x) < ρ x
theorem pm_PT_c {s s' : pm_H} {n : Int} (T : pm_PT s n) (e : ∀ x : Int, s' 50 0 x = s 50 0 x) : pm_PT s' n := by
  obtain ⟨ρ, h⟩ := T
  exact ⟨ρ, fun x a b => by rw [e]; exact h x a b⟩
def pm_pp (s : pm_H) (i c x : Int) : Prop := (∃ q : Int, 0 ≤ q ∧ q < i ∧ s 50 0 x = s 51 0 q) ∨ (x < c ∧ s 50 0 x = s 51 0 i)
def pm_pT (s : pm_H) (n m i c : Int) : Prop := ∃ o : Int → Int, pm_oc o 0 n.toNat = m - 1 ∧ s 51 0 0 = 0 ∧ (∀ q : Int, 1 ≤ q → q < m → 1 ≤ s 51 0 q ∧ s 51 0 q ≤ n ∧ o (s 51 0 q) ≠ 0) ∧
  (∀ q p : Int, 0 ≤ q → q < p → p < m → s 51 0 q ≠ s 51 0 p) ∧ (∀ x : Int, 1 ≤ x → x ≤ n → (o x ≠ 0 ↔ pm_pp s i c x)) ∧ (∀ x : Int, 1 ≤ x → x ≤ n → o x ≠ 0 → 1 ≤ s 41 0 x ∧ s 41 0 x ≤ n ∧ ∃ q : Int, 1 ≤ q ∧ q < m ∧ s 51 0 q = x)
theorem pm_pT_0 {s : pm_H} {n : Int} (h : s 51 0 0 = 0) : pm_pT s n 1 0 1 := ⟨fun _ => 0, by rw [pm_oc_0 (fun _ _ _ => rfl)]; rfl, h, fun q a b => by omega, fun q p a b c => by omega, fun x a b => ⟨fun z => absurd rfl z, fun z => by
    rcases z with ⟨q, h1, h2, _⟩ | ⟨h1, _⟩
    · omega
    · omega⟩, fun x a b z => absurd rfl z⟩
def pm_o1 (o : Int → Int) (c : Int) : Int → Int := fun y => if y = c then 1 else o y
theorem pm_o1_at (o : Int → Int) (c : Int) : pm_o1 o c c ≠ 0 := by
  unfold pm_o1
  rw [if_pos rfl]
  decide
theorem pm_o1_ne (o : Int → Int) {c y : Int} (h : y ≠ c) : pm_o1 o c y = o y := if_neg h
theorem pm_pT_o {s : pm_H} {n m i c : Int} {o : Int → Int} (h3 : ∀ q p : Int, 0 ≤ q → q < p → p < m → s 51 0 q ≠ s 51 0 p) (h4 : ∀ x : Int, 1 ≤ x → x ≤ n → (o x ≠ 0 ↔ pm_pp s i c x)) (him : i < m) (hc : 1 ≤ c ∧ c ≤ n) (he : s 50 0 c = s 51 0 i) :
    o c = 0 ∧ pm_oc (pm_o1 o c) 0 n.toNat = pm_oc o 0 n.toNat + 1 := by
  have oc : o c = 0 := by
    by_cases z : o c = 0
    · exact z
    · rcases (h4 c hc.1 hc.2).mp z with ⟨q, a, b, d⟩ | ⟨a, _⟩
      · exact absurd (d.symm.trans he) (h3 q i a b him)
      · omega
  have up := pm_oc_up (o := o) (o' := pm_o1 o c) (p := 0) (q := c) (k := n.toNat) hc.1 (by omega) oc (pm_o1_at o c) (fun i z => pm_o1_ne o z)
  rw [if_pos (by omega)] at up
  exact ⟨oc, up⟩
theorem pm_pT_p {s : pm_H} {n m i c : Int} (h : pm_pT s n m i c) (hi : 0 ≤ i) (him : i < m) (hc : 1 ≤ c ∧ c ≤ n) (he : s 50 0 c = s 51 0 i) : m ≤ n := by
  obtain ⟨o, h1, h0, h2, h3, h4, h5⟩ := h
  have up := (pm_pT_o h3 h4 him hc he).2
  have le := pm_oc_le (pm_o1 o c) (p := 0) (k := n.toNat) (by omega) (by omega)
  omega
theorem pm_pT_s {s s1 s2 s3 : pm_H} {n m i c : Int} (h : pm_pT s n m i c) (hi : 0 ≤ i) (him : i < m) (hc : 1 ≤ c ∧ c ≤ n) (he : s 50 0 c = s 51 0 i)
    (e1 : s1 = pm_up s 51 0 m c) (e2 : s2 = pm_up s1 41 0 c (i + 1)) (e3 : s3 = pm_up s2 42 0 c 1) : pm_pT s3 n (m + 1) i (c + 1) := by
  have hm := pm_pT_p h hi him hc he
  obtain ⟨o, h1, h0, h2, h3, h4, h5⟩ := h
  obtain ⟨oc, up⟩ := pm_pT_o h3 h4 him hc he
  have e51 : ∀ q : Int, q ≠ m → s3 51 0 q = s 51 0 q := fun q z => ((pm_nec e3 (by decide)).trans (pm_nec e2 (by decide))).trans (pm_nei e1 z)
  have m51 : s3 51 0 m = c := ((pm_nec e3 (by decide)).trans (pm_nec e2 (by decide))).trans (pm_at e1)
  have e50 : ∀ q : Int, s3 50 0 q = s 50 0 q := fun q => ((pm_nec e3 (by decide)).trans (pm_nec e2 (by decide))).trans (pm_nec e1 (by decide))
  have e41 : ∀ q : Int, q ≠ c → s3 41 0 q = s 41 0 q := fun q z => ((pm_nec e3 (by decide)).trans (pm_nei e2 z)).trans (pm_nec e1 (by decide))
  have m41 : s3 41 0 c = i + 1 := (pm_nec e3 (by decide)).trans (pm_at e2)
  have pp : ∀ x : Int, 1 ≤ x → x ≤ n → (pm_pp s3 i (c + 1) x ↔ pm_pp s i c x ∨ x = c) := fun x a b => by
    unfold pm_pp
    constructor
    · rintro (⟨q, q1, q2, q3⟩ | ⟨q1, q2⟩)
      · rw [e50, e51 q (by omega)] at q3
        exact Or.inl (Or.inl ⟨q, q1, q2, q3⟩)
      · rw [e50, e51 i (by omega)] at q2
        by_cases z : x = c
        · exact Or.inr z
        · exact Or.inl (Or.inr ⟨by omega, q2⟩)
    · rintro ((⟨q, q1, q2, q3⟩ | ⟨q1, q2⟩) | z)
      · exact Or.inl ⟨q, q1, q2, by rw [e50, e51 q (by omega)]; exact q3⟩
      · exact Or.inr ⟨by omega, by rw [e50, e51 i (by omega)]; exact q2⟩
      · exact Or.inr ⟨by omega, by rw [e50, e51 i (by omega), z]; exact he⟩
  refine ⟨pm_o1 o c, by rw [up]; omega, by rw [e51 0 (by omega)]; exact h0, fun q a b => ?_, fun q p a b d => ?_, fun x a b => ?_, fun x a b t => ?_⟩
  · by_cases z : q = m
    · rw [z, m51]
      exact ⟨hc.1, hc.2, pm_o1_at o c⟩
    · rw [e51 q z]
      have t := h2 q a (by omega)
      refine ⟨t.1, t.2.1, ?_⟩
      by_cases y : s 51 0 q = c
      · rw [y]
        exact pm_o1_at o c
      · rw [pm_o1_ne o y]
        exact t.2.2
  · by_cases z : p = m
    · rw [z, m51, e51 q (by omega)]
      intro y
      by_cases q0 : q = 0
      · rw [q0, h0] at y
        omega
      · have t := (h2 q (by omega) (by omega)).2.2
        rw [y] at t
        exact t oc
    · rw [e51 q (by omega), e51 p z]
      exact h3 q p a b (by omega)
  · rw [pp x a b]
    by_cases z : x = c
    · rw [z]
      exact ⟨fun _ => Or.inr rfl, fun _ => pm_o1_at o c⟩
    · rw [pm_o1_ne o z, h4 x a b]
      exact ⟨fun t => Or.inl t, fun t => t.elim id (fun y => absurd y z)⟩
  · by_cases z : x = c
    · rw [z, m41]
      exact ⟨by omega, by omega, m, by omega, by omega, m51⟩
    · rw [pm_o1_ne o z] at t
      obtain ⟨u1, u2, q, q1, q2, q3⟩ := h5 x a b t
      rw [e41 x z]
      exact ⟨u1, u2, q, q1, by omega, by rw [e51 q (by omega)]; exact q3⟩
theorem pm_pT_n {s : pm_H} {n m i c : Int} (h : pm_pT s n m i c) (he : s 50 0 c ≠ s 51 0 i) : pm_pT s n m i (c + 1) := by
  obtain ⟨o, h1, h0, h2, h3, h4, h5⟩ := h
  refine ⟨o, h1, h0, h2, h3, fun x a b => ?_, h5⟩
  rw [h4 x a b]
  unfold pm_pp
  constructor
  · rintro (z | ⟨z1, z2⟩)
    · exact Or.inl z
    · exact Or.inr ⟨by omega, z2⟩
  · rintro (z | ⟨z1, z2⟩)
    · exact Or.inl z
    · by_cases y : x = c
      · rw [y] at z2
        exact absurd z2 he
      · exact Or.inr ⟨by omega, z2⟩
theorem pm_pT_x {s : pm_H} {n m i c : Int} (h : pm_pT s n m i c) (hc : n < c) (hi : 0 ≤ i) : pm_pT s n m (i + 1) 1 := by
  obtain ⟨o, h1, h0, h2, h3, h4, h5⟩ := h
  refine ⟨o, h1, h0, h2, h3, fun x a b => ?_, h5⟩
  rw [h4 x a b]
  unfold pm_pp
  constructor
  · rintro (⟨q, q1, q2, q3⟩ | ⟨z1, z2⟩)
    · exact Or.inl ⟨q, q1, by omega, q3⟩
    · exact Or.inl ⟨i, hi, by omega, z2⟩
  · rintro (⟨q, q1, q2, q3⟩ | ⟨z1, z2⟩)
    · by_cases y : q = i
      · rw [y] at q3
        exact Or.inr ⟨by omega, q3⟩
      · exact Or.inl ⟨q, q1, by omega, q3⟩
    · omega
theorem pm_pT_all {s : pm_H} {n m i : Int} (h : pm_pT s n m i 1) (hi : m ≤ i) (T : pm_PT s n) : ∀ x : Int, 1 ≤ x → x ≤ n → 1 ≤ s 41 0 x ∧ s 41 0 x ≤ n := by
  obtain ⟨o, h1, h0, h2, h3, h4, h5⟩ := h
  obtain ⟨ρ, hρ⟩ := T
  have mn := pm_oc_nn o 0 n.toNat
  have key : ∀ N : Nat, ∀ x : Int, 1 ≤ x → x ≤ n → ρ x < N → o x ≠ 0 := by
    intro N
    induction N with
    | zero => intro x a b c; exact absurd c (Nat.not_lt_zero _)
    | succ N ih =>
      intro x a b c
      obtain ⟨p0, p1, p2⟩ := hρ x a b
      refine (h4 x a b).mpr (Or.inl ?_)
      by_cases z : s 50 0 x = 0
      · exact ⟨0, by omega, by omega, by rw [z, h0]⟩
      · have y := ih (s 50 0 x) (by omega) p1 (by omega)
        obtain ⟨_, _, q, q1, q2, q3⟩ := h5 (s 50 0 x) (by omega) p1 y
        exact ⟨q, by omega, by omega, q3.symm⟩
  intro x a b
  have t := h5 x a b (key (ρ x + 1) x a b (Nat.lt_succ_self _))
  exact ⟨t.1, t.2.1⟩
theorem pm_pT_J {s s' : pm_H} {n m i x : Int} (h : pm_pT s n m i 1) (hi : m ≤ i) (T : pm_PT s n) (e : s' = pm_up s 40 0 3 x) (hx : x = n) (hn : s 40 0 1 = n) : pm_J2 s' := by
  have a3 : s' 40 0 3 = n := (pm_at e).trans hx
  have a1 : s' 40 0 1 = n := (pm_nei e (by decide)).trans hn
  refine ⟨by omega, fun j a b => ?_⟩
  rw [a1, pm_nec e (by decide)]
  exact pm_pT_all h hi T j a (by omega)
/-! ===== the model: hanging edges ===== -/
def pm_hT (s : pm_H) (n : Int) : Prop := ∃ ρ : Int → Nat, s 50 0 0 = 0 ∧ ∀ x : Int, 1 ≤ x → x ≤ n → 0 ≤ s 50 0 x → s 50 0 x ≤ n ∧ 0 ≤ s 50 0 (s 50 0 x) ∧ ρ (s 50 0 x) < ρ x
def pm_ngf (s : pm_H) : Int → Int := fun x => if s 50 0 x < 0 then 1 else 0
def pm_ng (s : pm_H) (n : Int) : Int := pm_oc (pm_ngf s) 0 n.toNat
theorem pm_h0 {s s' : pm_H} {v x : Int} (W : ∀ q : Int, 0 ≤ q → q < v → s 50 0 q = if q = 0 then 0 else -1) (e : s' = pm_up s 50 0 v x) (hx : (v ≠ 0 ∧ x = -1) ∨ (v = 0 ∧ x = 0)) : ∀ q : Int, 0 ≤ q → q < v + 1 → s' 50 0 q = if q = 0 then 0 else -1 := fun q a b => by
  by_cases z : q = v
  · rw [z, pm_at e]
    rcases hx with ⟨h1, h2⟩ | ⟨h1, h2⟩
    · rw [if_neg h1, h2]
    · rw [if_pos h1, h2]
  · rw [pm_nei e z]
    exact W q a (by omega)
theorem pm_hT_0 {s : pm_H} {n : Int} (W : ∀ q : Int, 0 ≤ q → q ≤ n → s 50 0 q = if q = 0 then 0 else -1) (hn : 0 ≤ n) : pm_hT s n := ⟨fun _ => 0, by rw [W 0 (by omega) hn]; rfl, fun x a b z => by
  rw [W x (by omega) b, if_neg (by omega)] at z
  omega⟩
theorem pm_hT_s {s s' : pm_H} {n p q : Int} (H : pm_hT s n) (e : s' = pm_up s 50 0 p q) (hp : 0 ≤ p ∧ p ≤ n) (hp1 : s 50 0 p < 0) (hq : 0 ≤ q ∧ q ≤ n) (hq1 : 0 ≤ s 50 0 q) : pm_hT s' n ∧ pm_ng s' n + 1 = pm_ng s n := by
  obtain ⟨ρ, h0, h⟩ := H
  have pz : p ≠ 0 := fun z => by
    rw [z, h0] at hp1
    omega
  have e' : ∀ y : Int, y ≠ p → s' 50 0 y = s 50 0 y := fun y z => pm_nei e z
  have np : ∀ y : Int, 0 ≤ s 50 0 y → y ≠ p := fun y z w => by
    rw [w] at z
    omega
  have qp : q ≠ p := np q hq1
  constructor
  · refine ⟨fun y => if y = p then ρ q + 1 else ρ y, by rw [e' 0 (fun z => pz z.symm)]; exact h0, fun x a b z => ?_⟩
    by_cases y : x = p
    · rw [y, pm_at e, e' q qp]
      refine ⟨hq.2, hq1, ?_⟩
      show (if q = p then ρ q + 1 else ρ q) < (if p = p then ρ q + 1 else ρ p)
      rw [if_neg qp, if_pos rfl]
      exact Nat.lt_succ_self _
    · rw [e' x y] at z
      have t := h x a b z
      have u := np _ t.2.1
      rw [e' x y, e' _ u]
      refine ⟨t.1, t.2.1, ?_⟩
      show (if s 50 0 x = p then ρ q + 1 else ρ (s 50 0 x)) < (if x = p then ρ q + 1 else ρ x)
      rw [if_neg u, if_neg y]
      exact t.2.2
  · have up := pm_oc_up (o := pm_ngf s') (o' := pm_ngf s) (p := 0) (q := p) (k := n.toNat) (by omega) (by omega) (by unfold pm_ngf; rw [pm_at e, if_neg (by omega)]) (by unfold pm_ngf; rw [if_pos hp1]; decide) (fun i z => by unfold pm_ngf; rw [e' i z])
    rw [if_pos (by omega)] at up
    unfold pm_ng
    omega
theorem pm_hT_t {s s' : pm_H} {n p q a b : Int} (H : pm_hT s n) (e : s' = pm_up s 50 0 p q) (ha : 0 ≤ a ∧ a ≤ n) (hb : 0 ≤ b ∧ b ≤ n) (D : (s 50 0 a < 0 ∧ p = a ∧ q = b ∧ 0 ≤ s 50 0 b) ∨ (s 50 0 b < 0 ∧ p = b ∧ q = a ∧ 0 ≤ s 50 0 a)) : pm_hT s' n ∧ pm_ng s' n + 1 = pm_ng s n := by
  rcases D with ⟨d1, d2, d3, d4⟩ | ⟨d1, d2, d3, d4⟩
  · subst d2 d3
    exact pm_hT_s H e ha d1 hb d4
  · subst d2 d3
    exact pm_hT_s H e hb d1 ha d4
theorem pm_wm_n {b' b g g' ng : Int} (h : b' = 0 ∨ b' = 1) (hng : ng = g) (h1 : g' + b' ≤ ng) (hb : b ≠ 0) (g0 : 0 ≤ g) : (pm_wm b' g').toNat < (pm_wm b g).toNat := by
  unfold pm_wm
  rw [if_neg hb]
  rcases h with rfl | rfl
  · rw [if_pos rfl]
    omega
  · rw [if_neg (by decide)]
    omega
def pm_ED (s : pm_H) (n : Int) : Prop := (∀ e : Int, 0 ≤ e → e < n → 0 ≤ s 55 0 e ∧ s 55 0 e ≤ n ∧ 0 ≤ s 56 0 e ∧ s 56 0 e ≤ n) ∧ ∀ P : Int → Prop, (∀ e : Int, 0 ≤ e → e < n → (P (s 55 0 e) ↔ P (s 56 0 e))) → P 0 → ∀ x : Int, 0 ≤ x → x ≤ n → P x
theorem pm_hT_end {s0 s : pm_H} {n : Int} (h : pm_hT s n) (ok : ∀ e : Int, 0 ≤ e → e < n → (s 50 0 (s0 55 0 e) < 0 ↔ s 50 0 (s0 56 0 e) < 0)) (E : pm_ED s0 n) : pm_PT s n := by
  obtain ⟨ρ, h0, h1⟩ := h
  have all := E.2 (fun x => ¬ s 50 0 x < 0) (fun e a b => not_congr (ok e a b)) (by show ¬ s 50 0 0 < 0; omega)
  exact ⟨ρ, fun x a b => by
    have y : ¬ s 50 0 x < 0 := all x (by omega) b
    have t := h1 x a b (by omega)
    exact ⟨by omega, t.1, t.2.2⟩⟩
/-! ===== the model: codes ===== -/
def pm_ct (cd : Int → Int) (x : Int) : Nat → Int
  | 0 => 0
  | k + 1 => pm_ct cd x k + (if cd (k : Int) = x then 1 else 0)
theorem pm_ct_d (cd : Int → Int) (x : Int) (k d : Nat) : pm_ct cd x k ≤ pm_ct cd x (k + d) := by
  induction d with
  | zero => exact Int.le_refl _
  | succ d ih =>
    rw [show k + (d + 1) = (k + d) + 1 from rfl]
    simp only [pm_ct]
    split <;> omega
theorem pm_ct_mono (cd : Int → Int) (x : Int) {i m : Nat} (h : i ≤ m) : pm_ct cd x i ≤ pm_ct cd x m := by
  have := pm_ct_d cd x i (m - i)
  rw [show i + (m - i) = m by omega] at this
  exact this
theorem pm_ct_b (cd : Int → Int) (x : Int) (k : Nat) : 0 ≤ pm_ct cd x k ∧ pm_ct cd x k ≤ k := by
  induction k with
  | zero => exact ⟨Int.le_refl _, Int.le_refl _⟩
  | succ k ih => simp only [pm_ct]; split <;> omega
theorem pm_ct_i (cd : Int → Int) (x : Int) {v : Int} (h : 0 ≤ v) : pm_ct cd x (v + 1).toNat = pm_ct cd x v.toNat + (if cd v = x then 1 else 0) := by
  rw [show (v + 1).toNat = v.toNat + 1 by omega]
  simp only [pm_ct]
  rw [show ((v.toNat : Nat) : Int) = v by omega]
def pm_ds (f : Int → Int) : Nat → Int
  | 0 => 0
  | k + 1 => pm_ds f k + f (k : Int)
theorem pm_ds_cg {f g : Int → Int} {k : Nat} (h : ∀ i : Int, 0 ≤ i → i < k → f i = g i) : pm_ds f k = pm_ds g k := by
  induction k with
  | zero => rfl
  | succ k ih =>
    simp only [pm_ds]
    rw [ih (fun i a b => h i a (by omega)), h (k : Int) (by omega) (by omega)]
theorem pm_ds_nn {f : Int → Int} {k : Nat} (h : ∀ i : Int, 0 ≤ i → i < k → 0 ≤ f i) : 0 ≤ pm_ds f k := by
  induction k with
  | zero => exact Int.le_refl _
  | succ k ih =>
    simp only [pm_ds]
    have a := ih (fun i a b => h i a (by omega))
    have b := h (k : Int) (by omega) (by omega)
    omega
theorem pm_ds_le {f g : Int → Int} {k : Nat} (h : ∀ i : Int, 0 ≤ i → i < k → f i ≤ g i) : pm_ds f k ≤ pm_ds g k := by
  induction k with
  | zero => exact Int.le_refl _
  | succ k ih =>
    simp only [pm_ds]
    have a := ih (fun i a b => h i a (by omega))
    have b := h (k : Int) (by omega) (by omega)
    omega
theorem pm_ds_1 (k : Nat) : pm_ds (fun _ => 1) k = k := by
  induction k with
  | zero => rfl
  | succ k ih => simp only [pm_ds]; omega
theorem pm_ds_0 (k : Nat) : pm_ds (fun _ => 0) k = 0 := by
  induction k with
  | zero => rfl
  | succ k ih => simp only [pm_ds]; omega
theorem pm_ds_2 (f : Int → Int) (k : Nat) : pm_ds (fun x => 2 * f x) k = 2 * pm_ds f k := by
  induction k with
  | zero => rfl
  | succ k ih => simp only [pm_ds]; omega
theorem pm_ds_up {f g : Int → Int} {a : Int} {k : Nat} (h0 : 0 ≤ a) (h1 : a < k) (ho : ∀ i : Int, i ≠ a → g i = f i) : pm_ds g k = pm_ds f k + (g a - f a) := by
  induction k with
  | zero => omega
  | succ k ih =>
    simp only [pm_ds]
    by_cases z : (k : Int) = a
    · rw [pm_ds_cg (f := g) (g := f) (k := k) (fun i a b => ho i (by omega)), z]
      omega
    · rw [ih (by omega), ho _ z]
      omega
def pm_nz (f : Int → Int) : Int → Int := fun x => if f x = 0 then 0 else 1
def pm_dT (s : pm_H) (cd : Int → Int) (n i : Int) : Prop :=
  (∀ x : Int, 0 ≤ x → x ≤ n → (s 54 0 x = 0 ∧ pm_ct cd x (n - 1).toNat = pm_ct cd x i.toNat) ∨ s 54 0 x = 1 + (pm_ct cd x (n - 1).toNat - pm_ct cd x i.toNat)) ∧
  pm_ds (s 54 0) (n + 1).toNat = 2 * (n - i) ∧ pm_ds (pm_nz (s 54 0)) (n + 1).toNat = n + 1 - i ∧
  (∀ e : Int, 0 ≤ e → e < i → 0 ≤ s 55 0 e ∧ s 55 0 e ≤ n ∧ 0 ≤ s 56 0 e ∧ s 56 0 e ≤ n) ∧
  ∀ P : Int → Prop, (∀ e : Int, 0 ≤ e → e < i → (P (s 55 0 e) ↔ P (s 56 0 e))) → ∀ x : Int, 0 ≤ x → x ≤ n → s 54 0 x = 0 → ∃ y : Int, 0 ≤ y ∧ y ≤ n ∧ s 54 0 y ≠ 0 ∧ (P x ↔ P y)
theorem pm_gd_s {g g' v n : Int} {cd : Int → Int} (U : g = 0 ∨ (g = 1 ∧ ∀ q : Int, 0 ≤ q → q < v → 0 ≤ cd q ∧ cd q ≤ n)) (I : g' = 0 ∨ (g' = 1 ∧ g = 1 ∧ 0 ≤ cd v ∧ cd v ≤ n)) : g' = 0 ∨ (g' = 1 ∧ ∀ q : Int, 0 ≤ q → q < v + 1 → 0 ≤ cd q ∧ cd q ≤ n) := by
  rcases I with h | ⟨h1, h2, h3⟩
  · exact Or.inl h
  · exact Or.inr ⟨h1, pm_all_s (U.resolve_left (by omega)).2 h3⟩
theorem pm_gd_s1 {g g' v n : Int} {cd : Int → Int} (U : g = 0 ∨ (g = 1 ∧ ∀ q : Int, 1 ≤ q → q < v → 0 ≤ cd q ∧ cd q ≤ n)) (I : g' = 0 ∨ (g' = 1 ∧ g = 1 ∧ 0 ≤ cd v ∧ cd v ≤ n)) : g' = 0 ∨ (g' = 1 ∧ ∀ q : Int, 1 ≤ q → q < v + 1 → 0 ≤ cd q ∧ cd q ≤ n) := by
  rcases I with h | ⟨h1, h2, h3⟩
  · exact Or.inl h
  · exact Or.inr ⟨h1, pm_all1 (U.resolve_left (by omega)).2 h3⟩
theorem pm_d1 {s s' : pm_H} {v : Int} (W : ∀ q : Int, 0 ≤ q → q < v → s 54 0 q = 1) (e : s' = pm_up s 54 0 v (pm_wrap 1)) : ∀ q : Int, 0 ≤ q → q < v + 1 → s' 54 0 q = 1 := fun q a b => by
  by_cases z : q = v
  · rw [z, pm_at e]
    exact pm_wrap_id ⟨by decide, by decide⟩
  · rw [pm_nei e z]
    exact W q a (by omega)
theorem pm_d1s {s : pm_H} {n : Int} (W : ∀ q : Int, 0 ≤ q → q ≤ n → s 54 0 q = 1) (hn : 0 ≤ n) : pm_ds (s 54 0) (n + 1).toNat = n + 1 + 0 := by
  rw [pm_ds_cg (g := fun _ => 1) (fun i a b => W i a (by omega)), pm_ds_1]
  omega
theorem pm_d1_s {s s' : pm_H} {cd : Int → Int} {n v a d : Int} (D : ∀ x : Int, 0 ≤ x → x ≤ n → s 54 0 x = 1 + pm_ct cd x v.toNat) (S : pm_ds (s 54 0) (n + 1).toNat = n + 1 + v) (e : s' = pm_up s 54 0 a (pm_wrap (d + 1))) (ha : a = cd v) (hd : s 54 0 a = d) (hv : 0 ≤ v) (hv2 : v ≤ 100) (han : 0 ≤ a ∧ a ≤ n) :
    (∀ x : Int, 0 ≤ x → x ≤ n → s' 54 0 x = 1 + pm_ct cd x (v + 1).toNat) ∧ pm_ds (s' 54 0) (n + 1).toNat = n + 1 + (v + 1) := by
  have da := D a han.1 han.2
  have ba := pm_ct_b cd a v.toNat
  rw [pm_wrap_id ⟨by omega, by omega⟩] at e
  constructor
  · intro x h0 h1
    rw [pm_ct_i cd x hv]
    by_cases z : x = a
    · rw [z, pm_at e, if_pos ha.symm]
      omega
    · rw [pm_nei e z, if_neg (fun y => z (y.symm.trans ha.symm))]
      have := D x h0 h1
      omega
  · have up := pm_ds_up (f := s 54 0) (g := s' 54 0) (k := (n + 1).toNat) han.1 (by omega) (fun i z => pm_nei e z)
    rw [pm_at e] at up
    omega
theorem pm_ct_z (cd : Int → Int) (x : Int) : pm_ct cd x (0 : Int).toNat = 0 := rfl
theorem pm_dT_0 {s : pm_H} {cd : Int → Int} {n : Int} (hn : 1 ≤ n) (D : ∀ x : Int, 0 ≤ x → x ≤ n → s 54 0 x = 1 + pm_ct cd x (n - 1).toNat) (S : pm_ds (s 54 0) (n + 1).toNat = n + 1 + (n - 1)) : pm_dT s cd n 0 := by
  have pos : ∀ x : Int, 0 ≤ x → x ≤ n → s 54 0 x ≠ 0 := fun x a b => by
    have := D x a b
    have := (pm_ct_b cd x (n - 1).toNat).1
    omega
  refine ⟨fun x a b => Or.inr (by rw [D x a b, pm_ct_z]; omega), by omega, ?_, fun e a b => by omega, fun P _ x a b z => absurd z (pos x a b)⟩
  rw [pm_ds_cg (f := pm_nz (s 54 0)) (g := fun _ => 1) (fun i a b => (if_neg (pos i a (by omega)) : (if s 54 0 i = 0 then (0 : Int) else 1) = 1)), pm_ds_1]
  omega
theorem pm_dT_1 {s : pm_H} {cd : Int → Int} {n i : Int} (T : pm_dT s cd n i) (hi : 0 ≤ i) (hin : i ≤ n - 1) : ∃ l : Int, 0 ≤ l ∧ l ≤ n ∧ s 54 0 l = 1 := by
  by_cases q : ∃ l : Int, 0 ≤ l ∧ l ≤ n ∧ s 54 0 l = 1
  · exact q
  · have a : pm_ds (fun x => 2 * pm_nz (s 54 0) x) (n + 1).toNat ≤ pm_ds (s 54 0) (n + 1).toNat := pm_ds_le (fun x a b => by
      have d := T.1 x a (by omega)
      have m := pm_ct_mono cd x (show i.toNat ≤ (n - 1).toNat by omega)
      have ne : s 54 0 x ≠ 1 := fun z => q ⟨x, a, by omega, z⟩
      show 2 * (if s 54 0 x = 0 then 0 else 1) ≤ s 54 0 x
      split <;> omega)
    rw [pm_ds_2] at a
    have b := T.2.1
    have c := T.2.2.1
    omega
theorem pm_dT_s {s s1 s2 s3 s4 : pm_H} {cd : Int → Int} {n i a b b2 d : Int} (T : pm_dT s cd n i) (hi : 0 ≤ i) (hin : i < n - 1) (ha : 0 ≤ a ∧ a ≤ n) (h1 : s 54 0 a = 1) (hb2 : b2 = cd i) (hb : b = cd i) (hbn : 0 ≤ b ∧ b ≤ n)
    (e1 : s1 = pm_up s 55 0 i a) (e2 : s2 = pm_up s1 56 0 i b2) (e3 : s3 = pm_up s2 54 0 a (pm_wrap 0)) (e4 : s4 = pm_up s3 54 0 b (pm_wrap (d - 1))) (hd : s3 54 0 b = d) (hn : n ≤ 10) : pm_dT s4 cd n (i + 1) := by
  rw [pm_wrap_id ⟨by decide, by decide⟩] at e3
  have hb2' : b2 = b := hb2.trans hb.symm
  rw [hb2'] at e2
  have mono : ∀ x : Int, pm_ct cd x (i + 1).toNat ≤ pm_ct cd x (n - 1).toNat := fun x => pm_ct_mono cd x (by omega)
  have bnd : ∀ x : Int, 0 ≤ pm_ct cd x i.toNat ∧ pm_ct cd x (n - 1).toNat ≤ 10 := fun x => by
    have p := pm_ct_b cd x i.toNat
    have q := pm_ct_b cd x (n - 1).toNat
    omega
  have da := T.1 a ha.1 ha.2
  have ma := mono a
  rw [pm_ct_i cd a hi] at ma
  have ba : b ≠ a := fun z => by
    rw [if_pos (hb.symm.trans z)] at ma
    omega
  rw [if_neg (fun z => ba (hb.trans z))] at ma
  have db := T.1 b hbn.1 hbn.2
  have mb := mono b
  rw [pm_ct_i cd b hi, if_pos hb.symm] at mb
  have bb := bnd b
  have f3 : ∀ x : Int, x ≠ a → s3 54 0 x = s 54 0 x := fun x z => ((pm_nei e3 z).trans (pm_nec e2 (by decide))).trans (pm_nec e1 (by decide))
  have hdb : s 54 0 b = d := (f3 b ba).symm.trans hd
  rw [pm_wrap_id ⟨by omega, by omega⟩] at e4
  have a4 : s4 54 0 a = 0 := (pm_nei e4 (fun z => ba z.symm)).trans (pm_at e3)
  have b4 : s4 54 0 b = d - 1 := pm_at e4
  have x4 : ∀ x : Int, x ≠ a → x ≠ b → s4 54 0 x = s 54 0 x := fun x z y => (pm_nei e4 y).trans (f3 x z)
  have b4n : s4 54 0 b ≠ 0 := by omega
  have n4 : ∀ y : Int, s 54 0 y ≠ 0 → y ≠ a → s4 54 0 y ≠ 0 := fun y h z => by
    by_cases w : y = b
    · rw [w]
      exact b4n
    · rw [x4 y z w]
      exact h
  have e55 : ∀ e : Int, e ≠ i → s4 55 0 e = s 55 0 e := fun e z => ((pm_nec e4 (by decide)).trans (pm_nec e3 (by decide))).trans ((pm_nec e2 (by decide)).trans (pm_nei e1 z))
  have e56 : ∀ e : Int, e ≠ i → s4 56 0 e = s 56 0 e := fun e z => ((pm_nec e4 (by decide)).trans (pm_nec e3 (by decide))).trans ((pm_nei e2 z).trans (pm_nec e1 (by decide)))
  have i55 : s4 55 0 i = a := ((pm_nec e4 (by decide)).trans (pm_nec e3 (by decide))).trans ((pm_nec e2 (by decide)).trans (pm_at e1))
  have i56 : s4 56 0 i = b := ((pm_nec e4 (by decide)).trans (pm_nec e3 (by decide))).trans (pm_at e2)
  refine ⟨fun x h0 h2 => ?_, ?_, ?_, fun e h0 h2 => ?_, fun P hP x h0 h2 z => ?_⟩
  · rw [pm_ct_i cd x hi]
    by_cases y : x = a
    · rw [y, a4, if_neg (fun z => ba (hb.trans z))]
      exact Or.inl ⟨rfl, by omega⟩
    · by_cases w : x = b
      · rw [w, b4, if_pos hb.symm]
        exact Or.inr (by omega)
      · rw [x4 x y w, if_neg (fun z => w (z.symm.trans hb.symm))]
        have := T.1 x h0 h2
        omega
  · have u1 := pm_ds_up (f := s 54 0) (g := s3 54 0) (k := (n + 1).toNat) ha.1 (by omega) (fun x z => f3 x z)
    have u2 := pm_ds_up (f := s3 54 0) (g := s4 54 0) (k := (n + 1).toNat) hbn.1 (by omega) (fun x z => pm_nei e4 z)
    rw [pm_at e3] at u1
    have := T.2.1
    omega
  · have u := pm_ds_up (f := pm_nz (s 54 0)) (g := pm_nz (s4 54 0)) (k := (n + 1).toNat) ha.1 (by omega) (fun x z => by
      unfold pm_nz
      by_cases w : x = b
      · rw [w, if_neg b4n, if_neg (by omega)]
      · rw [x4 x z w])
    have q1 : pm_nz (s4 54 0) a = 0 := if_pos a4
    have q2 : pm_nz (s 54 0) a = 1 := if_neg (by omega)
    have := T.2.2.1
    omega
  · by_cases y : e = i
    · rw [y, i55, i56]
      exact ⟨ha.1, ha.2, hbn.1, hbn.2⟩
    · rw [e55 e y, e56 e y]
      exact T.2.2.2.1 e h0 (by omega)
  · have PI := hP i hi (by omega)
    rw [i55, i56] at PI
    by_cases y : x = a
    · rw [y]
      exact ⟨b, hbn.1, hbn.2, b4n, PI⟩
    · have w : x ≠ b := fun w => by
        rw [w] at z
        exact b4n z
      rw [x4 x y w] at z
      obtain ⟨t, t0, t1, t2, t3⟩ := T.2.2.2.2 P (fun e p q => by
        have := hP e p (by omega)
        rw [e55 e (by omega), e56 e (by omega)] at this
        exact this) x h0 h2 z
      by_cases v : t = a
      · rw [v] at t3
        exact ⟨b, hbn.1, hbn.2, b4n, t3.trans PI⟩
      · exact ⟨t, t0, t1, n4 t t2 v, t3⟩
theorem pm_ne1 {s : pm_H} {v n y : Int} (V : ∀ x : Int, v < x → x ≤ n → s 54 0 x ≠ 1) (X : s 54 0 v = y) (hy : y ≠ 1) : ∀ x : Int, v + -1 < x → x ≤ n → s 54 0 x ≠ 1 := fun x a b => by
  by_cases z : x = v
  · rw [z, X]
    exact hy
  · exact V x (by omega) b
theorem pm_dT_n {s : pm_H} {cd : Int → Int} {n : Int} (T : pm_dT s cd n (n - 1)) : ∀ x : Int, 0 ≤ x → x ≤ n → s 54 0 x = 0 ∨ s 54 0 x = 1 := fun x a b => by
  have := T.1 x a b
  omega
def pm_z1 (f : Int → Int) (a : Int) : Int → Int := fun y => if y = a then 0 else f y
theorem pm_z1_ds (f : Int → Int) {a : Int} {k : Nat} (h0 : 0 ≤ a) (h1 : a < k) : pm_ds (pm_z1 f a) k = pm_ds f k - f a := by
  have u := pm_ds_up (f := f) (g := pm_z1 f a) h0 h1 (fun i z => if_neg z)
  have z : pm_z1 f a a = 0 := if_pos rfl
  omega
theorem pm_dT_3 {s : pm_H} {cd : Int → Int} {n la : Int} (T : pm_dT s cd n (n - 1)) (hn : 1 ≤ n) (hl : 0 ≤ la ∧ la ≤ n) (h1 : s 54 0 la = 1) : ∃ l : Int, 0 ≤ l ∧ l ≤ n ∧ l ≠ la ∧ s 54 0 l = 1 := by
  by_cases q : ∃ l : Int, 0 ≤ l ∧ l ≤ n ∧ l ≠ la ∧ s 54 0 l = 1
  · exact q
  · have a := pm_z1_ds (s 54 0) (a := la) (k := (n + 1).toNat) hl.1 (by omega)
    have b : pm_ds (pm_z1 (s 54 0) la) (n + 1).toNat = 0 := by
      rw [pm_ds_cg (g := fun _ => 0) (fun x p r => ?_), pm_ds_0]
      unfold pm_z1
      by_cases z : x = la
      · exact if_pos z
      · rw [if_neg z]
        have d := pm_dT_n T x p (by omega)
        have ne : s 54 0 x ≠ 1 := fun y => q ⟨x, p, by omega, z, y⟩
        omega
    have c := T.2.1
    omega
theorem pm_dT_2 {s s1 s2 : pm_H} {cd : Int → Int} {n la ot p1 p2 : Int} (T : pm_dT s cd n (n - 1)) (hn : 1 ≤ n) (hl : 0 ≤ la ∧ la ≤ n) (h1 : s 54 0 la = 1) (ho : 0 ≤ ot ∧ ot ≤ n) (h2 : s 54 0 ot = 1) (ne : ot ≠ la)
    (e1 : s1 = pm_up s 55 0 p1 la) (hp1 : p1 = n - 1) (e2 : s2 = pm_up s1 56 0 p2 ot) (hp2 : p2 = n - 1) : pm_ED s2 n := by
  subst hp1 hp2
  have only : ∀ x : Int, 0 ≤ x → x ≤ n → s 54 0 x ≠ 0 → x = la ∨ x = ot := fun x a b z => by
    by_cases y : x = la
    · exact Or.inl y
    · by_cases w : x = ot
      · exact Or.inr w
      · exfalso
        have u1 := pm_z1_ds (s 54 0) (a := la) (k := (n + 1).toNat) hl.1 (by omega)
        have u2 := pm_z1_ds (pm_z1 (s 54 0) la) (a := ot) (k := (n + 1).toNat) ho.1 (by omega)
        have u3 := pm_z1_ds (pm_z1 (pm_z1 (s 54 0) la) ot) (a := x) (k := (n + 1).toNat) a (by omega)
        have v2 : pm_z1 (s 54 0) la ot = 1 := (if_neg ne).trans h2
        have v3 : pm_z1 (pm_z1 (s 54 0) la) ot x = s 54 0 x := (if_neg w).trans (if_neg y)
        have nn : 0 ≤ pm_ds (pm_z1 (pm_z1 (pm_z1 (s 54 0) la) ot) x) (n + 1).toNat := pm_ds_nn (fun i p r => by
          have d := pm_dT_n T i p (by omega)
          unfold pm_z1
          split
          · exact Int.le_refl _
          · split
            · exact Int.le_refl _
            · split <;> omega)
        have d := pm_dT_n T x a b
        have c := T.2.1
        omega
  have e55 : ∀ e : Int, e ≠ n - 1 → s2 55 0 e = s 55 0 e := fun e z => (pm_nec e2 (by decide)).trans (pm_nei e1 z)
  have e56 : ∀ e : Int, e ≠ n - 1 → s2 56 0 e = s 56 0 e := fun e z => (pm_nei e2 z).trans (pm_nec e1 (by decide))
  have i55 : s2 55 0 (n - 1) = la := (pm_nec e2 (by decide)).trans (pm_at e1)
  have i56 : s2 56 0 (n - 1) = ot := pm_at e2
  refine ⟨fun e a b => ?_, fun P hP P0 x a b => ?_⟩
  · by_cases z : e = n - 1
    · rw [z, i55, i56]
      exact ⟨hl.1, hl.2, ho.1, ho.2⟩
    · rw [e55 e z, e56 e z]
      exact T.2.2.2.1 e a (by omega)
  · have Q := T.2.2.2.2 P (fun e p q => by
      have := hP e p (by omega)
      rw [e55 e (by omega), e56 e (by omega)] at this
      exact this)
    have PL := hP (n - 1) (by omega) (by omega)
    rw [i55, i56] at PL
    have toL : ∀ x : Int, 0 ≤ x → x ≤ n → (P x ↔ P la) := fun x a b => by
      by_cases z : s 54 0 x = 0
      · obtain ⟨y, y0, y1, y2, y3⟩ := Q x a b z
        rcases only y y0 y1 y2 with r | r
        · rw [r] at y3
          exact y3
        · rw [r] at y3
          exact y3.trans PL.symm
      · rcases only x a b z with r | r
        · rw [r]
        · rw [r]
          exact PL.symm
    exact (toL x a b).mpr ((toL 0 (by omega) (by omega)).mp P0)
/-! ===== the model: parents given ===== -/
def pm_it (f : Int → Int) : Nat → Int → Int
  | 0, x => x
  | k + 1, x => f (pm_it f k x)
theorem pm_it_s {f : Int → Int} {v x : Int} (h : 0 ≤ v) : pm_it f (v + 1).toNat x = f (pm_it f v.toNat x) := by
  rw [show (v + 1).toNat = v.toNat + 1 by omega]
  rfl
theorem pm_it_f (f : Int → Int) (k : Nat) (x : Int) : pm_it f (k + 1) x = pm_it f k (f x) := by
  induction k with
  | zero => rfl
  | succ k ih => exact congrArg f ih
def pm_rk (f : Int → Int) : Nat → Int → Nat
  | 0, _ => 0
  | k + 1, x => if x = 0 then 0 else pm_rk f k (f x) + 1
theorem pm_rk_st (f : Int → Int) (k : Nat) : ∀ (j : Nat) (x : Int), pm_it f j x = 0 → j ≤ k → pm_rk f (k + 1) x = pm_rk f k x := by
  induction k with
  | zero =>
    intro j x h hj
    obtain rfl : j = 0 := by omega
    exact if_pos h
  | succ k ih =>
    intro j x h hj
    by_cases z : x = 0
    · exact (if_pos z).trans (if_pos z).symm
    · cases j with
      | zero => exact absurd h z
      | succ j =>
        rw [pm_it_f] at h
        have q := ih j (f x) h (by omega)
        have a : pm_rk f (k + 1 + 1) x = pm_rk f (k + 1) (f x) + 1 := if_neg z
        have b : pm_rk f (k + 1) x = pm_rk f k (f x) + 1 := if_neg z
        rw [a, b, q]
theorem pm_itx {f : Int → Int} {k x p : Int} (V : p = pm_it f k.toNat x) (hk : k ≤ 11) : p = 0 → ∃ j : Nat, j ≤ 11 ∧ pm_it f j x = 0 := fun h => ⟨k.toNat, by omega, V.symm.trans h⟩
theorem pm_gr_t {g g' p v n : Int} {cd : Int → Int} (U : g = 1 ∧ (∀ q : Int, 1 ≤ q → q ≤ n → 0 ≤ cd q ∧ cd q ≤ n) ∧ ∀ q : Int, 1 ≤ q → q < v → ∃ j : Nat, j ≤ 11 ∧ pm_it cd j q = 0) (HJ : p = 0 → ∃ j : Nat, j ≤ 11 ∧ pm_it cd j v = 0) (I : (p ≠ 0 ∧ g' = 0) ∨ (¬ (p ≠ 0) ∧ g' = 1)) :
    g' = 0 ∨ (g' = 1 ∧ (∀ q : Int, 1 ≤ q → q ≤ n → 0 ≤ cd q ∧ cd q ≤ n) ∧ ∀ q : Int, 1 ≤ q → q < v + 1 → ∃ j : Nat, j ≤ 11 ∧ pm_it cd j q = 0) := by
  rcases I with ⟨_, h⟩ | ⟨h1, h2⟩
  · exact Or.inl h
  · exact Or.inr ⟨h2, U.2.1, pm_all1 U.2.2 (HJ (by omega))⟩
theorem pm_pc_s {s s' : pm_H} {cd : Int → Int} {v x : Int} (W : ∀ q : Int, 1 ≤ q → q < v → s 50 0 q = cd q) (e : s' = pm_up s 50 0 v x) (hx : x = cd v) : ∀ q : Int, 1 ≤ q → q < v + 1 → s' 50 0 q = cd q := fun q a b => by
  by_cases z : q = v
  · rw [z, pm_at e]
    exact hx
  · rw [pm_nei e z]
    exact W q a (by omega)
theorem pm_PT_it {s : pm_H} {cd : Int → Int} {n : Int} (W : ∀ q : Int, 1 ≤ q → q ≤ n → s 50 0 q = cd q) (GW : ∀ q : Int, 1 ≤ q → q ≤ n → 0 ≤ cd q ∧ cd q ≤ n) (PS : ∀ q : Int, 1 ≤ q → q ≤ n → ∃ j : Nat, j ≤ 11 ∧ pm_it cd j q = 0) : pm_PT s n := ⟨pm_rk cd 12, fun x a b => by
  rw [W x a b]
  refine ⟨(GW x a b).1, (GW x a b).2, ?_⟩
  obtain ⟨j, j1, j2⟩ := PS x a b
  cases j with
  | zero => exact absurd j2 (by show ¬ x = 0; omega)
  | succ j =>
    rw [pm_it_f] at j2
    have q := pm_rk_st cd 11 j (cd x) j2 (by omega)
    have r : pm_rk cd 12 x = pm_rk cd 11 (cd x) + 1 := if_neg (by omega)
    rw [r, q]
    exact Nat.lt_succ_self _⟩

def pre_X11_plant (as : List pm_V) (n : Nat) (σ : pm_H) : Prop := as = [.inr (.inr (40, 0))] ∧ n = 122 ∧ pm_Rng σ ∧ ((pm_PT σ (σ 40 0 1)) ∧ pm_J2 σ)
def po_X11_plant (as : List pm_V) (_ : Nat) (σ : pm_H) (r : Option pm_V) (τ : pm_H) : Prop := as = [.inr (.inr (40, 0))] → r = none ∧ pm_Rng τ ∧ pm_Fr [(40, some 3), (41, none), (42, none), (51, none)] σ τ ∧ (pm_J2 τ)
set_option maxRecDepth 20000 in
set_option maxHeartbeats 4000000 in
theorem ct_X11_plant : pm_Ct yX11_plant cX11_plant 4 none 0 0 pre_X11_plant po_X11_plant := pm_sound (ini := false) (by decide +kernel) pk_X11_plant (fun h => absurd h (by decide)) (by
  rintro as n s0 ⟨rfl, rfl, R0, hpre⟩
  refine ⟨by decide, Nat.le_of_ble_eq_true rfl, fun G hG => ?_⟩
  have hG : pm_Rules (RX11, 0, 122, cX11_plant, -1, (fun _ => 0), false, none, po_X11_plant [.inr (.inr (40, 0))] 122 s0) G := hG
  show G 0 [some (.inr (.inr (40, 0))), none, none, none] [] 122 s0
  have B0 := pb_40_0 R0
  have B1 := pb_40_1 R0
  have B2 := pb_40_2 R0
  have B3 := pb_40_3 R0
  have J2 := hpre.2
  have HP := hpre.1
  have JK := J2.1
  have JW := J2.2
  refine px_iconst hG dX11_plant_0 ?_
  refine px_istore_n hG dX11_plant_1 (Nat.le_of_ble_eq_true rfl) (L2 := [some (.inr (.inr (40, 0))), some (.inl 1), none, none]) rfl ?_
  refine px_aload_n hG dX11_plant_2 rfl ?_
  refine gr_40_14 hG dX11_plant_3 fl_X11_45 R0 ?_
  refine px_iconst hG dX11_plant_6 ?_
  refine px_iconst hG dX11_plant_7 ?_
  refine as_51 hG dX11_plant_8 R0 (by omega) (by omega) (fun s1 qs1 Rs1 => ?_)
  have Fs1 := pm_Fr_up ((pm_Fr_rf : pm_Fr [(40, some 3), (41, none), (42, none), (51, none)] s0 s0)) qs1 (M := [(40, some 3), (41, none), (42, none), (51, none)]) rfl
  have jj2 := pm_nec qs1 (c' := 40) (r' := 0) (i' := 0) (by decide)
  have jj3 := pm_nec qs1 (c' := 40) (r' := 0) (i' := 1) (by decide)
  have jj4 := pm_nec qs1 (c' := 40) (r' := 0) (i' := 2) (by decide)
  have jj5 := pm_nec qs1 (c' := 40) (r' := 0) (i' := 3) (by decide)
  have E0 := qs1
  refine px_iconst hG dX11_plant_9 ?_
  refine px_istore_n hG dX11_plant_10 (Nat.le_of_ble_eq_true rfl) (L2 := [some (.inr (.inr (40, 0))), some (.inl 1), some (.inl 0), none]) rfl ?_
  have L11 : ∀ (N : Nat) (v1_6 : Int) (v2_7 : Int) (s8 : pm_H), pm_Rng s8 → pm_Fr [(40, some 3), (41, none), (42, none), (51, none)] s0 s8 → ((1 ≤ v1_6 ∧ v1_6 ≤ 10000) ∧ (0 ≤ v2_7 ∧ v2_7 ≤ 10000) ∧ (pm_pT s8 (s0 40 0 1) v1_6 v2_7 1 ∧ v2_7 ≤ v1_6 ∧ v1_6 ≤ s0 40 0 1 + 1)) → (10001 - v2_7).toNat < N → G 11 [some (.inr (.inr (40, 0))), some (.inl v1_6), some (.inl v2_7), none] [] 122 s8 := by
    intro N
    induction N with
    | zero => intro v1_6 v2_7 s8 R9 F10 inv12 hm13; exact absurd hm13 (Nat.not_lt_zero _)
    | succ N ih11 =>
      intro v1_6 v2_7 s8 R9 F10 inv12 hm13
      have jj14 := F10 40 0 0 rfl
      have jj15 := F10 40 0 1 rfl
      have jj16 := F10 40 0 2 rfl
      have U := (inv12.2.2).1
      have U2 := (inv12.2.2).2
      refine px_iload_n hG dX11_plant_11 rfl ?_
      refine px_iload_n hG dX11_plant_12 rfl ?_
      refine px_ic_ge hG dX11_plant_13 (tgt := 79) (by decide) ⟨by omega, by omega⟩ ⟨by omega, by omega⟩ (fun c17 => ?_) (fun c17 => ?_)
      · refine px_aload_n hG dX11_plant_79 rfl ?_
        refine px_aload_n hG dX11_plant_80 rfl ?_
        refine gi_40_1 hG dX11_plant_81 fl_X11_7 R9 (fun x18 ex18 lx18 ux18 => ?_)
        have ex18 : s0 40 0 1 = x18 := (F10 40 0 1 rfl).symm.trans ex18
        refine pi_40_3 hG dX11_plant_84 fl_X11_110 R9 (by omega) (fun s19 qs19 Rs19 => ?_)
        have Fs19 := pm_Fr_up (F10) qs19 (M := [(40, some 3), (41, none), (42, none), (51, none)]) rfl
        have k20 : s19 40 0 3 = x18 := pm_at qs19
        have Js19 := pm_pT_J U (by omega) (pm_PT_c HP (fun x => (pm_nec qs19 (by decide)).symm.trans (Fs19 50 0 x rfl))) qs19 (by omega) (by omega)
        have jj21 := Fs19 40 0 0 rfl
        have jj22 := Fs19 40 0 1 rfl
        have jj23 := Fs19 40 0 2 rfl
        exact px_vret (st := []) hG dX11_plant_87 rfl rfl (fun _ => by exact ⟨rfl, Rs19, Fs19, Js19⟩)
      · refine px_iconst hG dX11_plant_16 ?_
        refine px_istore_n hG dX11_plant_17 (Nat.le_of_ble_eq_true rfl) (L2 := [some (.inr (.inr (40, 0))), some (.inl v1_6), some (.inl v2_7), some (.inl 1)]) rfl ?_
        have L18 : ∀ (N : Nat) (v1_24 : Int) (v3_25 : Int) (s26 : pm_H), pm_Rng s26 → pm_Fr [(40, some 3), (41, none), (42, none), (51, none)] s0 s26 → ((v1_6 ≤ v1_24 ∧ v1_24 ≤ 10000) ∧ (1 ≤ v3_25 ∧ v3_25 ≤ 10000) ∧ (pm_pT s26 (s0 40 0 1) v1_24 v2_7 v3_25 ∧ v2_7 < v1_24 ∧ v1_24 ≤ s0 40 0 1 + 1)) → (10001 - v3_25).toNat < N → G 18 [some (.inr (.inr (40, 0))), some (.inl v1_24), some (.inl v2_7), some (.inl v3_25)] [] 122 s26 := by
          intro N
          induction N with
          | zero => intro v1_24 v3_25 s26 R27 F28 inv30 hm31; exact absurd hm31 (Nat.not_lt_zero _)
          | succ N ih29 =>
            intro v1_24 v3_25 s26 R27 F28 inv30 hm31
            have jj32 := F28 40 0 0 rfl
            have jj33 := F28 40 0 1 rfl
            have jj34 := F28 40 0 2 rfl
            have U := (inv30.2.2).1
            have U2 := (inv30.2.2).2
            refine px_iload_n hG dX11_plant_18 rfl ?_
            refine px_aload_n hG dX11_plant_19 rfl ?_
            refine gi_40_1 hG dX11_plant_20 fl_X11_7 R27 (fun x35 ex35 lx35 ux35 => ?_)
            have ex35 : s0 40 0 1 = x35 := (F28 40 0 1 rfl).symm.trans ex35
            refine px_ic_gt hG dX11_plant_23 (tgt := 73) (by decide) ⟨by omega, by omega⟩ ⟨by omega, by omega⟩ (fun c36 => ?_) (fun c36 => ?_)
            · refine px_iinc hG dX11_plant_73 (Nat.le_of_ble_eq_true rfl) rfl (L2 := [some (.inr (.inr (40, 0))), some (.inl v1_24), some (.inl (v2_7 + 1)), some (.inl v3_25)]) rfl ?_
              refine px_goto hG dX11_plant_76 (tgt := 11) (by decide) ?_
              refine px_weak hG (L2 := [some (.inr (.inr (40, 0))), some (.inl v1_24), some (.inl (v2_7 + 1)), none]) ⟨Or.inr rfl, Or.inr rfl, Or.inr rfl, Or.inl rfl, trivial⟩ ?_
              exact ih11 v1_24 (v2_7 + 1) s26 R27 F28 (⟨by omega, by omega, ⟨pm_pT_x U (by omega) (by omega), by omega, by omega⟩⟩) (by omega)
            · refine px_aload_n hG dX11_plant_26 rfl ?_
              refine gr_40_13 hG dX11_plant_27 fl_X11_42 R27 ?_
              refine px_iload_n hG dX11_plant_30 rfl ?_
              refine al_50 hG dX11_plant_31 R27 (by omega) (fun x37 ex37 lx37 ux37 => ?_)
              have X1 := ex37
              refine px_aload_n hG dX11_plant_32 rfl ?_
              refine gr_40_14 hG dX11_plant_33 fl_X11_45 R27 ?_
              refine px_iload_n hG dX11_plant_36 rfl ?_
              refine al_51 hG dX11_plant_37 R27 (by omega) (fun x38 ex38 lx38 ux38 => ?_)
              have X2 := ex38
              refine px_ic_ne hG dX11_plant_38 (tgt := 67) (by decide) ⟨by omega, by omega⟩ ⟨by omega, by omega⟩ (fun c39 => ?_) (fun c39 => ?_)
              · refine px_iinc hG dX11_plant_67 (Nat.le_of_ble_eq_true rfl) rfl (L2 := [some (.inr (.inr (40, 0))), some (.inl v1_24), some (.inl v2_7), some (.inl (v3_25 + 1))]) rfl ?_
                refine px_goto hG dX11_plant_70 (tgt := 18) (by decide) ?_
                exact ih29 v1_24 (v3_25 + 1) s26 R27 F28 (⟨by omega, by omega, by first | exact ⟨PS, by omega, by omega⟩ | exact ⟨pm_pT_n U (by omega), by omega, by omega⟩⟩) (by omega)
              · have X3 : s26 50 0 v3_25 = s26 51 0 v2_7 := by omega
                have MN := pm_pT_p U (by omega) (by omega) (by omega) X3
                refine px_aload_n hG dX11_plant_41 rfl ?_
                refine gr_40_14 hG dX11_plant_42 fl_X11_45 R27 ?_
                refine px_iload_n hG dX11_plant_45 rfl ?_
                refine px_iload_n hG dX11_plant_46 rfl ?_
                refine as_51 hG dX11_plant_47 R27 (by omega) (by omega) (fun s40 qs40 Rs40 => ?_)
                have Fs40 := pm_Fr_up (F28) qs40 (M := [(40, some 3), (41, none), (42, none), (51, none)]) rfl
                have jj41 := pm_nec qs40 (c' := 40) (r' := 0) (i' := 0) (by decide)
                have jj42 := pm_nec qs40 (c' := 40) (r' := 0) (i' := 1) (by decide)
                have jj43 := pm_nec qs40 (c' := 40) (r' := 0) (i' := 2) (by decide)
                have jj44 := pm_nec qs40 (c' := 40) (r' := 0) (i' := 3) (by decide)
                have E1 := qs40
                refine px_iinc hG dX11_plant_48 (Nat.le_of_ble_eq_true rfl) rfl (L2 := [some (.inr (.inr (40, 0))), some (.inl (v1_24 + 1)), some (.inl v2_7), some (.inl v3_25)]) rfl ?_
                refine px_aload_n hG dX11_plant_51 rfl ?_
                refine gr_40_4 hG dX11_plant_52 fl_X11_13 Rs40 ?_
                refine px_iload_n hG dX11_plant_55 rfl ?_
                refine px_iload_n hG dX11_plant_56 rfl ?_
                refine px_iconst hG dX11_plant_57 ?_
                refine px_iadd hG dX11_plant_58 ?_
                refine as_41 hG dX11_plant_59 Rs40 (by omega) (by omega) (fun s45 qs45 Rs45 => ?_)
                have Fs45 := pm_Fr_up (Fs40) qs45 (M := [(40, some 3), (41, none), (42, none), (51, none)]) rfl
                have jj46 := pm_nec qs45 (c' := 40) (r' := 0) (i' := 0) (by decide)
                have jj47 := pm_nec qs45 (c' := 40) (r' := 0) (i' := 1) (by decide)
                have jj48 := pm_nec qs45 (c' := 40) (r' := 0) (i' := 2) (by decide)
                have jj49 := pm_nec qs45 (c' := 40) (r' := 0) (i' := 3) (by decide)
                have E2 := qs45
                refine px_aload_n hG dX11_plant_60 rfl ?_
                refine gr_40_5 hG dX11_plant_61 fl_X11_17 Rs45 ?_
                refine px_iload_n hG dX11_plant_64 rfl ?_
                refine px_iconst hG dX11_plant_65 ?_
                refine as_42 hG dX11_plant_66 Rs45 (by omega) (by omega) (fun s50 qs50 Rs50 => ?_)
                have Fs50 := pm_Fr_up (Fs45) qs50 (M := [(40, some 3), (41, none), (42, none), (51, none)]) rfl
                have jj51 := pm_nec qs50 (c' := 40) (r' := 0) (i' := 0) (by decide)
                have jj52 := pm_nec qs50 (c' := 40) (r' := 0) (i' := 1) (by decide)
                have jj53 := pm_nec qs50 (c' := 40) (r' := 0) (i' := 2) (by decide)
                have jj54 := pm_nec qs50 (c' := 40) (r' := 0) (i' := 3) (by decide)
                have E3 := qs50
                have PS := pm_pT_s U (by omega) (by omega) (by omega) X3 E1 E2 E3
                refine px_iinc hG dX11_plant_67 (Nat.le_of_ble_eq_true rfl) rfl (L2 := [some (.inr (.inr (40, 0))), some (.inl (v1_24 + 1)), some (.inl v2_7), some (.inl (v3_25 + 1))]) rfl ?_
                refine px_goto hG dX11_plant_70 (tgt := 18) (by decide) ?_
                exact ih29 (v1_24 + 1) (v3_25 + 1) s50 Rs50 Fs50 (⟨by omega, by omega, by first | exact ⟨PS, by omega, by omega⟩ | exact ⟨pm_pT_n U (by omega), by omega, by omega⟩⟩) (by omega)
        exact L18 _ v1_6 1 s8 R9 F10 (⟨by omega, by omega, ⟨U, by omega, by omega⟩⟩) (Nat.lt_succ_self _)
  exact L11 _ 1 0 s1 Rs1 Fs1 (⟨by omega, by omega, ⟨pm_pT_0 (pm_at E0), by omega, by omega⟩⟩) (Nat.lt_succ_self _))
def pre_X11_hang (as : List pm_V) (n : Nat) (σ : pm_H) : Prop := as = [.inr (.inr (40, 0))] ∧ n = 122 ∧ pm_Rng σ ∧ ((pm_ED σ (σ 40 0 1)) ∧ pm_J2 σ)
def po_X11_hang (as : List pm_V) (_ : Nat) (σ : pm_H) (r : Option pm_V) (τ : pm_H) : Prop := as = [.inr (.inr (40, 0))] → r = none ∧ pm_Rng τ ∧ pm_Fr [(50, none)] σ τ ∧ (pm_PT τ (σ 40 0 1))
set_option maxRecDepth 20000 in
set_option maxHeartbeats 4000000 in
theorem ct_X11_hang : pm_Ct yX11_hang cX11_hang 5 none 0 0 pre_X11_hang po_X11_hang := pm_sound (ini := false) (by decide +kernel) pk_X11_hang (fun h => absurd h (by decide)) (by
  rintro as n s0 ⟨rfl, rfl, R0, hpre⟩
  refine ⟨by decide, Nat.le_of_ble_eq_true rfl, fun G hG => ?_⟩
  have hG : pm_Rules (RX11, 0, 122, cX11_hang, -1, (fun _ => 0), false, none, po_X11_hang [.inr (.inr (40, 0))] 122 s0) G := hG
  show G 0 [some (.inr (.inr (40, 0))), none, none, none, none] [] 122 s0
  have B0 := pb_40_0 R0
  have B1 := pb_40_1 R0
  have B2 := pb_40_2 R0
  have B3 := pb_40_3 R0
  have J2 := hpre.2
  have HP := hpre.1
  have JK := J2.1
  have JW := J2.2
  refine px_iconst hG dX11_hang_0 ?_
  refine px_istore_n hG dX11_hang_1 (Nat.le_of_ble_eq_true rfl) (L2 := [some (.inr (.inr (40, 0))), some (.inl 0), none, none, none]) rfl ?_
  have L2 : ∀ (N : Nat) (v1_1 : Int) (s2 : pm_H), pm_Rng s2 → pm_Fr [(50, none)] s0 s2 → ((0 ≤ v1_1 ∧ v1_1 ≤ 10000) ∧ (∀ q : Int, 0 ≤ q → q < v1_1 → s2 50 0 q = if q = 0 then 0 else -1)) → (10001 - v1_1).toNat < N → G 2 [some (.inr (.inr (40, 0))), some (.inl v1_1), none, none, none] [] 122 s2 := by
    intro N
    induction N with
    | zero => intro v1_1 s2 R3 F4 inv6 hm7; exact absurd hm7 (Nat.not_lt_zero _)
    | succ N ih5 =>
      intro v1_1 s2 R3 F4 inv6 hm7
      have jj8 := F4 40 0 0 rfl
      have jj9 := F4 40 0 1 rfl
      have jj10 := F4 40 0 2 rfl
      have jj11 := F4 40 0 3 rfl
      have W := inv6.2
      refine px_iload_n hG dX11_hang_2 rfl ?_
      refine px_aload_n hG dX11_hang_3 rfl ?_
      refine gi_40_1 hG dX11_hang_4 fl_X11_7 R3 (fun x12 ex12 lx12 ux12 => ?_)
      have ex12 : s0 40 0 1 = x12 := (F4 40 0 1 rfl).symm.trans ex12
      have J31_14 : ((v1_1 > x12)) → G 31 [some (.inr (.inr (40, 0))), none, none, none, none] [] 122 s2 := by
        intro inv15
        refine px_iconst hG dX11_hang_31 ?_
        refine px_istore_n hG dX11_hang_32 (Nat.le_of_ble_eq_true rfl) (L2 := [some (.inr (.inr (40, 0))), some (.inl 1), none, none, none]) rfl ?_
        have L33 : ∀ (N : Nat) (v1_16 : Int) (s17 : pm_H), pm_Rng s17 → pm_Fr [(50, none)] s0 s17 → ((pm_hT s17 (s0 40 0 1) ∧ (v1_16 = 0 ∨ v1_16 = 1) ∧ (v1_16 = 0 → ∀ e : Int, 0 ≤ e → e < s0 40 0 1 → (s17 50 0 (s0 55 0 e) < 0 ↔ s17 50 0 (s0 56 0 e) < 0)))) → (pm_wm v1_16 (pm_ng s17 (s0 40 0 1))).toNat < N → G 33 [some (.inr (.inr (40, 0))), some (.inl v1_16), none, none, none] [] 122 s17 := by
          intro N
          induction N with
          | zero => intro v1_16 s17 R18 F19 inv21 hm22; exact absurd hm22 (Nat.not_lt_zero _)
          | succ N ih20 =>
            intro v1_16 s17 R18 F19 inv21 hm22
            have jj23 := F19 40 0 0 rfl
            have jj24 := F19 40 0 1 rfl
            have jj25 := F19 40 0 2 rfl
            have jj26 := F19 40 0 3 rfl
            have U1 := (inv21).1
            have U2 := (inv21).2.1
            have U3 := (inv21).2.2
            obtain ⟨ng0, hng⟩ : ∃ z : Int, z = pm_ng s17 (s0 40 0 1) := ⟨_, rfl⟩
            have NN : 0 ≤ pm_ng s17 (s0 40 0 1) := pm_oc_nn _ _ _
            refine px_iload_n hG dX11_hang_33 rfl ?_
            refine px_if_eq hG dX11_hang_34 (tgt := 142) (by decide) ⟨by omega, by omega⟩ (fun c27 => ?_) (fun c27 => ?_)
            · have jj28 := F19 40 0 0 rfl
              have jj29 := F19 40 0 1 rfl
              have jj30 := F19 40 0 2 rfl
              have jj31 := F19 40 0 3 rfl
              exact px_vret (st := []) hG dX11_hang_142 rfl rfl (fun _ => by exact ⟨rfl, R18, F19, pm_hT_end U1 (U3 (by omega)) HP⟩)
            · have WL := fun (b2 g2 : Int) (h : b2 = 0 ∨ b2 = 1) (h1 : g2 + b2 ≤ ng0) => pm_wm_n (b := v1_16) h hng h1 (by omega) NN
              refine px_iconst hG dX11_hang_37 ?_
              refine px_istore_n hG dX11_hang_38 (Nat.le_of_ble_eq_true rfl) (L2 := [some (.inr (.inr (40, 0))), some (.inl 0), none, none, none]) rfl ?_
              refine px_iconst hG dX11_hang_39 ?_
              refine px_istore_n hG dX11_hang_40 (Nat.le_of_ble_eq_true rfl) (L2 := [some (.inr (.inr (40, 0))), some (.inl 0), some (.inl 0), none, none]) rfl ?_
              have L41 : ∀ (N : Nat) (v1_32 : Int) (v2_33 : Int) (s34 : pm_H), pm_Rng s34 → pm_Fr [(50, none)] s0 s34 → ((0 ≤ v2_33 ∧ v2_33 ≤ 10000) ∧ (pm_hT s34 (s0 40 0 1) ∧ (v1_32 = 0 ∨ v1_32 = 1) ∧ pm_ng s34 (s0 40 0 1) + v1_32 ≤ ng0 ∧ (v1_32 = 0 → ∀ e : Int, 0 ≤ e → e < v2_33 → (s34 50 0 (s0 55 0 e) < 0 ↔ s34 50 0 (s0 56 0 e) < 0)))) → (10001 - v2_33).toNat < N → G 41 [some (.inr (.inr (40, 0))), some (.inl v1_32), some (.inl v2_33), none, none] [] 122 s34 := by
                intro N
                induction N with
                | zero => intro v1_32 v2_33 s34 R35 F36 inv38 hm39; exact absurd hm39 (Nat.not_lt_zero _)
                | succ N ih37 =>
                  intro v1_32 v2_33 s34 R35 F36 inv38 hm39
                  have jj40 := F36 40 0 0 rfl
                  have jj41 := F36 40 0 1 rfl
                  have jj42 := F36 40 0 2 rfl
                  have jj43 := F36 40 0 3 rfl
                  have U1 := (inv38.2).1
                  have U2 := (inv38.2).2.1
                  have U4 := (inv38.2).2.2.1
                  have U5 := (inv38.2).2.2.2
                  have ED := HP.1 v2_33 (by omega)
                  refine px_iload_n hG dX11_hang_41 rfl ?_
                  refine px_aload_n hG dX11_hang_42 rfl ?_
                  refine gi_40_1 hG dX11_hang_43 fl_X11_7 R35 (fun x44 ex44 lx44 ux44 => ?_)
                  have ex44 : s0 40 0 1 = x44 := (F36 40 0 1 rfl).symm.trans ex44
                  refine px_ic_ge hG dX11_hang_46 (tgt := 139) (by decide) ⟨by omega, by omega⟩ ⟨by omega, by omega⟩ (fun c45 => ?_) (fun c45 => ?_)
                  · refine px_goto hG dX11_hang_139 (tgt := 33) (by decide) ?_
                    refine px_weak hG (L2 := [some (.inr (.inr (40, 0))), some (.inl v1_32), none, none, none]) ⟨Or.inr rfl, Or.inr rfl, Or.inl rfl, Or.inr rfl, Or.inr rfl, trivial⟩ ?_
                    exact ih20 v1_32 s34 R35 F36 (⟨U1, by omega, fun h e a b => U5 h e a (by omega)⟩) (by have q := WL _ _ U2 U4; omega)
                  · refine px_aload_n hG dX11_hang_49 rfl ?_
                    refine gr_40_18 hG dX11_hang_50 fl_X11_58 R35 ?_
                    refine px_iload_n hG dX11_hang_53 rfl ?_
                    refine al_55 hG dX11_hang_54 R35 (by omega) (fun x46 ex46 lx46 ux46 => ?_)
                    have XA := (F36 55 0 v2_33 rfl).symm.trans ex46
                    obtain ⟨ea, hea⟩ : ∃ z : Int, z = s0 55 0 v2_33 := ⟨_, rfl⟩
                    have ED1 := ED (by omega)
                    rw [← hea] at XA ED1
                    refine px_istore_n hG dX11_hang_55 (Nat.le_of_ble_eq_true rfl) (L2 := [some (.inr (.inr (40, 0))), some (.inl v1_32), some (.inl v2_33), some (.inl x46), none]) rfl ?_
                    refine px_aload_n hG dX11_hang_56 rfl ?_
                    refine gr_40_19 hG dX11_hang_57 fl_X11_61 R35 ?_
                    refine px_iload_n hG dX11_hang_60 rfl ?_
                    refine al_56 hG dX11_hang_61 R35 (by omega) (fun x47 ex47 lx47 ux47 => ?_)
                    have XB := (F36 56 0 v2_33 rfl).symm.trans ex47
                    obtain ⟨eb, heb⟩ : ∃ z : Int, z = s0 56 0 v2_33 := ⟨_, rfl⟩
                    rw [← heb] at XB ED1
                    refine px_istore hG dX11_hang_62 (Nat.le_of_ble_eq_true rfl) (L2 := [some (.inr (.inr (40, 0))), some (.inl v1_32), some (.inl v2_33), some (.inl x46), some (.inl x47)]) rfl ?_
                    refine px_aload_n hG dX11_hang_64 rfl ?_
                    refine gr_40_13 hG dX11_hang_65 fl_X11_42 R35 ?_
                    refine px_iload_n hG dX11_hang_68 rfl ?_
                    refine al_50 hG dX11_hang_69 R35 (by omega) (fun x48 ex48 lx48 ux48 => ?_)
                    have P1 := ex48
                    rw [← XA] at P1
                    have J78_51 : ∀ (j50 : Int), ((x48 ≥ 0 ∧ j50 = 0) ∨ (¬ (x48 ≥ 0) ∧ j50 = 1)) → G 78 [some (.inr (.inr (40, 0))), some (.inl v1_32), some (.inl v2_33), some (.inl x46), some (.inl x47)] [.inl j50] 122 s34 := by
                      intro j50 inv52
                      refine px_aload_n hG dX11_hang_78 rfl ?_
                      refine gr_40_13 hG dX11_hang_79 fl_X11_42 R35 ?_
                      refine px_iload hG dX11_hang_82 rfl ?_
                      refine al_50 hG dX11_hang_84 R35 (by omega) (fun x53 ex53 lx53 ux53 => ?_)
                      have P2 := ex53
                      rw [← XB] at P2
                      have J93_56 : ∀ (j55 : Int), ((x53 ≥ 0 ∧ j55 = 0) ∨ (¬ (x53 ≥ 0) ∧ j55 = 1)) → G 93 [some (.inr (.inr (40, 0))), some (.inl v1_32), some (.inl v2_33), some (.inl x46), some (.inl x47)] [.inl j55, .inl j50] 122 s34 := by
                        intro j55 inv57
                        refine px_ic_eq hG dX11_hang_93 (tgt := 133) (by decide) ⟨by omega, by omega⟩ ⟨by omega, by omega⟩ (fun c58 => ?_) (fun c58 => ?_)
                        · refine px_iinc hG dX11_hang_133 (Nat.le_of_ble_eq_true rfl) rfl (L2 := [some (.inr (.inr (40, 0))), some (.inl v1_32), some (.inl (v2_33 + 1)), some (.inl x46), some (.inl x47)]) rfl ?_
                          refine px_goto hG dX11_hang_136 (tgt := 41) (by decide) ?_
                          refine px_weak hG (L2 := [some (.inr (.inr (40, 0))), some (.inl v1_32), some (.inl (v2_33 + 1)), none, none]) ⟨Or.inr rfl, Or.inr rfl, Or.inr rfl, Or.inl rfl, Or.inl rfl, trivial⟩ ?_
                          exact ih37 v1_32 (v2_33 + 1) s34 R35 F36 (⟨by omega, by first | exact ⟨HS.1, by omega, by omega, fun h => by omega⟩ | exact ⟨U1, by omega, by omega, fun h => pm_all_s (U5 h) (by rw [← hea, ← heb]; omega)⟩⟩) (by omega)
                        · refine px_aload_n hG dX11_hang_96 rfl ?_
                          refine gr_40_13 hG dX11_hang_97 fl_X11_42 R35 ?_
                          refine px_aload_n hG dX11_hang_100 rfl ?_
                          refine gr_40_13 hG dX11_hang_101 fl_X11_42 R35 ?_
                          refine px_iload_n hG dX11_hang_104 rfl ?_
                          refine al_50 hG dX11_hang_105 R35 (by omega) (fun x59 ex59 lx59 ux59 => ?_)
                          have P3 := ex59
                          rw [← XA] at P3
                          have J115_62 : ∀ (j61 : Int), ((x59 ≥ 0 ∧ j61 = x47) ∨ (¬ (x59 ≥ 0) ∧ j61 = x46)) → G 115 [some (.inr (.inr (40, 0))), none, some (.inl v2_33), some (.inl x46), some (.inl x47)] [.inl j61, .inr (.inr (50, 0))] 122 s34 := by
                            intro j61 inv63
                            refine px_aload_n hG dX11_hang_115 rfl ?_
                            refine gr_40_13 hG dX11_hang_116 fl_X11_42 R35 ?_
                            refine px_iload_n hG dX11_hang_119 rfl ?_
                            refine al_50 hG dX11_hang_120 R35 (by omega) (fun x64 ex64 lx64 ux64 => ?_)
                            have P4 := ex64
                            rw [← XA] at P4
                            refine px_if_ge hG dX11_hang_121 (tgt := 129) (by decide) ⟨by omega, by omega⟩ (fun c65 => ?_) (fun c65 => ?_)
                            · refine px_iload_n hG dX11_hang_129 rfl ?_
                              refine as_50 hG dX11_hang_130 R35 (by omega) (by omega) (fun s66 qs66 Rs66 => ?_)
                              have Fs66 := pm_Fr_up (F36) qs66 (M := [(50, none)]) rfl
                              have jj67 := pm_nec qs66 (c' := 40) (r' := 0) (i' := 0) (by decide)
                              have jj68 := pm_nec qs66 (c' := 40) (r' := 0) (i' := 1) (by decide)
                              have jj69 := pm_nec qs66 (c' := 40) (r' := 0) (i' := 2) (by decide)
                              have jj70 := pm_nec qs66 (c' := 40) (r' := 0) (i' := 3) (by decide)
                              have E := qs66
                              have HS := pm_hT_t U1 E ⟨by omega, by omega⟩ ⟨by omega, by omega⟩ (show (s34 50 0 ea < 0 ∧ _ = ea ∧ _ = eb ∧ 0 ≤ s34 50 0 eb) ∨ (s34 50 0 eb < 0 ∧ _ = eb ∧ _ = ea ∧ 0 ≤ s34 50 0 ea) by omega)
                              refine px_iconst hG dX11_hang_131 ?_
                              refine px_istore_n hG dX11_hang_132 (Nat.le_of_ble_eq_true rfl) (L2 := [some (.inr (.inr (40, 0))), some (.inl 1), some (.inl v2_33), some (.inl x46), some (.inl x47)]) rfl ?_
                              refine px_iinc hG dX11_hang_133 (Nat.le_of_ble_eq_true rfl) rfl (L2 := [some (.inr (.inr (40, 0))), some (.inl 1), some (.inl (v2_33 + 1)), some (.inl x46), some (.inl x47)]) rfl ?_
                              refine px_goto hG dX11_hang_136 (tgt := 41) (by decide) ?_
                              refine px_weak hG (L2 := [some (.inr (.inr (40, 0))), some (.inl 1), some (.inl (v2_33 + 1)), none, none]) ⟨Or.inr rfl, Or.inr rfl, Or.inr rfl, Or.inl rfl, Or.inl rfl, trivial⟩ ?_
                              exact ih37 1 (v2_33 + 1) s66 Rs66 Fs66 (⟨by omega, by first | exact ⟨HS.1, by omega, by omega, fun h => by omega⟩ | exact ⟨U1, by omega, by omega, fun h => pm_all_s (U5 h) (by rw [← hea, ← heb]; omega)⟩⟩) (by omega)
                            · refine px_iload hG dX11_hang_124 rfl ?_
                              refine px_goto hG dX11_hang_126 (tgt := 130) (by decide) ?_
                              refine as_50 hG dX11_hang_130 R35 (by omega) (by omega) (fun s71 qs71 Rs71 => ?_)
                              have Fs71 := pm_Fr_up (F36) qs71 (M := [(50, none)]) rfl
                              have jj72 := pm_nec qs71 (c' := 40) (r' := 0) (i' := 0) (by decide)
                              have jj73 := pm_nec qs71 (c' := 40) (r' := 0) (i' := 1) (by decide)
                              have jj74 := pm_nec qs71 (c' := 40) (r' := 0) (i' := 2) (by decide)
                              have jj75 := pm_nec qs71 (c' := 40) (r' := 0) (i' := 3) (by decide)
                              have E := qs71
                              have HS := pm_hT_t U1 E ⟨by omega, by omega⟩ ⟨by omega, by omega⟩ (show (s34 50 0 ea < 0 ∧ _ = ea ∧ _ = eb ∧ 0 ≤ s34 50 0 eb) ∨ (s34 50 0 eb < 0 ∧ _ = eb ∧ _ = ea ∧ 0 ≤ s34 50 0 ea) by omega)
                              refine px_iconst hG dX11_hang_131 ?_
                              refine px_istore_n hG dX11_hang_132 (Nat.le_of_ble_eq_true rfl) (L2 := [some (.inr (.inr (40, 0))), some (.inl 1), some (.inl v2_33), some (.inl x46), some (.inl x47)]) rfl ?_
                              refine px_iinc hG dX11_hang_133 (Nat.le_of_ble_eq_true rfl) rfl (L2 := [some (.inr (.inr (40, 0))), some (.inl 1), some (.inl (v2_33 + 1)), some (.inl x46), some (.inl x47)]) rfl ?_
                              refine px_goto hG dX11_hang_136 (tgt := 41) (by decide) ?_
                              refine px_weak hG (L2 := [some (.inr (.inr (40, 0))), some (.inl 1), some (.inl (v2_33 + 1)), none, none]) ⟨Or.inr rfl, Or.inr rfl, Or.inr rfl, Or.inl rfl, Or.inl rfl, trivial⟩ ?_
                              exact ih37 1 (v2_33 + 1) s71 Rs71 Fs71 (⟨by omega, by first | exact ⟨HS.1, by omega, by omega, fun h => by omega⟩ | exact ⟨U1, by omega, by omega, fun h => pm_all_s (U5 h) (by rw [← hea, ← heb]; omega)⟩⟩) (by omega)
                          refine px_if_ge hG dX11_hang_106 (tgt := 113) (by decide) ⟨by omega, by omega⟩ (fun c60 => ?_) (fun c60 => ?_)
                          · refine px_iload hG dX11_hang_113 rfl ?_
                            refine px_weak hG (L2 := [some (.inr (.inr (40, 0))), none, some (.inl v2_33), some (.inl x46), some (.inl x47)]) ⟨Or.inr rfl, Or.inl rfl, Or.inr rfl, Or.inr rfl, Or.inr rfl, trivial⟩ ?_
                            exact J115_62 x47 (by omega)
                          · refine px_iload_n hG dX11_hang_109 rfl ?_
                            refine px_goto hG dX11_hang_110 (tgt := 115) (by decide) ?_
                            refine px_weak hG (L2 := [some (.inr (.inr (40, 0))), none, some (.inl v2_33), some (.inl x46), some (.inl x47)]) ⟨Or.inr rfl, Or.inl rfl, Or.inr rfl, Or.inr rfl, Or.inr rfl, trivial⟩ ?_
                            exact J115_62 x46 (by omega)
                      refine px_if_ge hG dX11_hang_85 (tgt := 92) (by decide) ⟨by omega, by omega⟩ (fun c54 => ?_) (fun c54 => ?_)
                      · refine px_iconst hG dX11_hang_92 ?_
                        exact J93_56 0 (by omega)
                      · refine px_iconst hG dX11_hang_88 ?_
                        refine px_goto hG dX11_hang_89 (tgt := 93) (by decide) ?_
                        exact J93_56 1 (by omega)
                    refine px_if_ge hG dX11_hang_70 (tgt := 77) (by decide) ⟨by omega, by omega⟩ (fun c49 => ?_) (fun c49 => ?_)
                    · refine px_iconst hG dX11_hang_77 ?_
                      exact J78_51 0 (by omega)
                    · refine px_iconst hG dX11_hang_73 ?_
                      refine px_goto hG dX11_hang_74 (tgt := 78) (by decide) ?_
                      exact J78_51 1 (by omega)
              exact L41 _ 0 0 s17 R18 F19 (⟨by omega, ⟨U1, by omega, by omega, fun _ e a b => by omega⟩⟩) (Nat.lt_succ_self _)
        exact L33 _ 1 s2 R3 F4 (⟨pm_hT_0 (fun q a b => W q a (by omega)) (by omega), by omega, fun h => by omega⟩) (Nat.lt_succ_self _)
      refine px_ic_gt hG dX11_hang_7 (tgt := 31) (by decide) ⟨by omega, by omega⟩ ⟨by omega, by omega⟩ (fun c13 => ?_) (fun c13 => ?_)
      · refine px_weak hG (L2 := [some (.inr (.inr (40, 0))), none, none, none, none]) ⟨Or.inr rfl, Or.inl rfl, Or.inr rfl, Or.inr rfl, Or.inr rfl, trivial⟩ ?_
        exact J31_14  (by omega)
      · refine px_aload_n hG dX11_hang_10 rfl ?_
        refine gr_40_13 hG dX11_hang_11 fl_X11_42 R3 ?_
        refine px_iload_n hG dX11_hang_14 rfl ?_
        refine px_iload_n hG dX11_hang_15 rfl ?_
        refine px_if_ne hG dX11_hang_16 (tgt := 23) (by decide) ⟨by omega, by omega⟩ (fun c76 => ?_) (fun c76 => ?_)
        · refine px_iconst hG dX11_hang_23 ?_
          refine as_50 hG dX11_hang_24 R3 (by omega) (by omega) (fun s77 qs77 Rs77 => ?_)
          have Fs77 := pm_Fr_up (F4) qs77 (M := [(50, none)]) rfl
          have jj78 := pm_nec qs77 (c' := 40) (r' := 0) (i' := 0) (by decide)
          have jj79 := pm_nec qs77 (c' := 40) (r' := 0) (i' := 1) (by decide)
          have jj80 := pm_nec qs77 (c' := 40) (r' := 0) (i' := 2) (by decide)
          have jj81 := pm_nec qs77 (c' := 40) (r' := 0) (i' := 3) (by decide)
          have E := qs77
          refine px_iinc hG dX11_hang_25 (Nat.le_of_ble_eq_true rfl) rfl (L2 := [some (.inr (.inr (40, 0))), some (.inl (v1_1 + 1)), none, none, none]) rfl ?_
          refine px_goto hG dX11_hang_28 (tgt := 2) (by decide) ?_
          exact ih5 (v1_1 + 1) s77 Rs77 Fs77 (⟨by omega, pm_h0 W E (by omega)⟩) (by omega)
        · refine px_iconst hG dX11_hang_19 ?_
          refine px_goto hG dX11_hang_20 (tgt := 24) (by decide) ?_
          refine as_50 hG dX11_hang_24 R3 (by omega) (by omega) (fun s82 qs82 Rs82 => ?_)
          have Fs82 := pm_Fr_up (F4) qs82 (M := [(50, none)]) rfl
          have jj83 := pm_nec qs82 (c' := 40) (r' := 0) (i' := 0) (by decide)
          have jj84 := pm_nec qs82 (c' := 40) (r' := 0) (i' := 1) (by decide)
          have jj85 := pm_nec qs82 (c' := 40) (r' := 0) (i' := 2) (by decide)
          have jj86 := pm_nec qs82 (c' := 40) (r' := 0) (i' := 3) (by decide)
          have E := qs82
          refine px_iinc hG dX11_hang_25 (Nat.le_of_ble_eq_true rfl) rfl (L2 := [some (.inr (.inr (40, 0))), some (.inl (v1_1 + 1)), none, none, none]) rfl ?_
          refine px_goto hG dX11_hang_28 (tgt := 2) (by decide) ?_
          exact ih5 (v1_1 + 1) s82 Rs82 Fs82 (⟨by omega, pm_h0 W E (by omega)⟩) (by omega)
  exact L2 _ 0 s0 R0 pm_Fr_rf (⟨by omega, fun q a b => by omega⟩) (Nat.lt_succ_self _))
def pre_X11_decode (as : List pm_V) (n : Nat) (σ : pm_H) : Prop := ∃ aa ab ac : Int, as = [.inr (.inr (40, 0)), .inl aa, .inl ab, .inl ac] ∧ n = 122 ∧ pm_Rng σ ∧ ((pm_in aa ∧ pm_in ab ∧ pm_in ac) ∧ pm_J2 σ)
def po_X11_decode (as : List pm_V) (_ : Nat) (σ : pm_H) (r : Option pm_V) (τ : pm_H) : Prop := ∀ aa ab ac : Int, as = [.inr (.inr (40, 0)), .inl aa, .inl ab, .inl ac] → ∃ v : Int, r = some (.inl v) ∧ pm_Rng τ ∧ pm_Fr [(40, some 3), (41, none), (42, none), (50, none), (51, none), (54, none), (55, none), (56, none)] σ τ ∧ (pm_J2 τ)
set_option maxRecDepth 20000 in
set_option maxHeartbeats 4000000 in
theorem ct_X11_decode : pm_Ct yX11_decode cX11_decode 8 (some .int) 2 0 pre_X11_decode po_X11_decode := pm_sound (ini := false) (by decide +kernel) pk_X11_decode (fun h => absurd h (by decide)) (by
  rintro as n s0 ⟨aa, ab, ac, rfl, rfl, R0, hpre⟩
  refine ⟨by decide, Nat.le_of_ble_eq_true rfl, fun G hG => ?_⟩
  have hG : pm_Rules (RX11, 2, 122, cX11_decode, -1, (fun _ => 0), false, (some .int), po_X11_decode [.inr (.inr (40, 0)), .inl aa, .inl ab, .inl ac] 122 s0) G := hG
  show G 0 [some (.inr (.inr (40, 0))), some (.inl aa), some (.inl ab), some (.inl ac), none, none, none, none] [] 122 s0
  have B0 := pb_40_0 R0
  have B1 := pb_40_1 R0
  have B2 := pb_40_2 R0
  have B3 := pb_40_3 R0
  have J2 := hpre.2
  have HP := hpre.1
  have JK := J2.1
  have JW := J2.2
  obtain ⟨cd, hcd⟩ : ∃ f : Int → Int, f = fun j => (s0 66 0 (20 * aa + (ac + j))) := ⟨_, rfl⟩
  have CD : ∀ j : Int, cd j = (s0 66 0 (20 * aa + (ac + j))) := fun j => congrFun hcd j
  refine px_iload_n hG dX11_decode_0 rfl ?_
  refine px_iload_n hG dX11_decode_1 rfl ?_
  refine js2 hG dX11_decode_2 ct_X11_isSheet lk_X11_211 ⟨Nat.le_of_ble_eq_true rfl, Nat.le_of_ble_eq_true rfl, Nat.le_of_ble_eq_true rfl⟩ (Nat.le_of_ble_eq_true rfl) ⟨aa, ab, rfl, rfl, R0, by omega⟩ (fun r1 t2 pr1 => ?_)
  obtain ⟨x3, rfl, rfl, br1⟩ := pr1 _ _ rfl
  show G 5 [some (.inr (.inr (40, 0))), some (.inl aa), some (.inl ab), some (.inl ac), none, none, none, none] [.inl x3] 122 s0
  refine px_if_ne hG dX11_decode_5 (tgt := 10) (by decide) ⟨by omega, by omega⟩ (fun c4 => ?_) (fun c4 => ?_)
  · refine px_aload_n hG dX11_decode_10 rfl ?_
    refine px_iload_n hG dX11_decode_11 rfl ?_
    refine px_iload_n hG dX11_decode_12 rfl ?_
    refine px_iload_n hG dX11_decode_13 rfl ?_
    refine px_aload_n hG dX11_decode_14 rfl ?_
    refine gi_40_1 hG dX11_decode_15 fl_X11_7 R0 (fun x5 ex5 lx5 ux5 => ?_)
    refine px_iconst hG dX11_decode_18 ?_
    refine px_isub hG dX11_decode_19 ?_
    refine jv4 hG dX11_decode_20 ct_X11_against lk_X11_214 ⟨rfl, rfl⟩ (by decide) ⟨Nat.le_of_ble_eq_true rfl, Nat.le_of_ble_eq_true rfl, Nat.le_of_ble_eq_true rfl⟩ (Nat.le_of_ble_eq_true rfl) ⟨aa, ab, ac, (x5 - 1), rfl, rfl, R0, by omega⟩ (fun r6 t7 pr6 => ?_)
    obtain ⟨x8, rfl, rfl, br6⟩ := pr6 _ _ _ _ rfl
    show G 23 [some (.inr (.inr (40, 0))), some (.inl aa), some (.inl ab), some (.inl ac), none, none, none, none] [.inl x8] 122 s0
    refine px_istore hG dX11_decode_23 (Nat.le_of_ble_eq_true rfl) (L2 := [some (.inr (.inr (40, 0))), some (.inl aa), some (.inl ab), some (.inl ac), some (.inl x8), none, none, none]) rfl ?_
    refine px_iload hG dX11_decode_25 rfl ?_
    refine px_if_ge hG dX11_decode_27 (tgt := 33) (by decide) ⟨by omega, by omega⟩ (fun c9 => ?_) (fun c9 => ?_)
    · refine px_aload_n hG dX11_decode_33 rfl ?_
      refine gi_40_0 hG dX11_decode_34 fl_X11_104 R0 (fun x10 ex10 lx10 ux10 => ?_)
      have J53_13 : ∀ (j12 : Int), ((x10 ≠ 0 ∧ j12 = 0) ∨ (¬ (x10 ≠ 0) ∧ j12 = 0) ∨ (¬ (x10 ≠ 0) ∧ j12 = 1)) → G 53 [some (.inr (.inr (40, 0))), some (.inl aa), none, some (.inl ac), none, none, none, none] [.inl j12] 122 s0 := by
        intro j12 inv14
        refine px_istore hG dX11_decode_53 (Nat.le_of_ble_eq_true rfl) (L2 := [some (.inr (.inr (40, 0))), some (.inl aa), none, some (.inl ac), none, some (.inl j12), none, none]) rfl ?_
        refine px_iconst hG dX11_decode_55 ?_
        refine px_istore hG dX11_decode_56 (Nat.le_of_ble_eq_true rfl) (L2 := [some (.inr (.inr (40, 0))), some (.inl aa), none, some (.inl ac), none, some (.inl j12), some (.inl 0), none]) rfl ?_
        have L58 : ∀ (N : Nat) (v5_15 : Int) (v6_16 : Int), ((0 ≤ v6_16 ∧ v6_16 ≤ 10000) ∧ (v5_15 = 0 ∨ (v5_15 = 1 ∧ ∀ q : Int, 0 ≤ q → q < v6_16 → 0 ≤ cd q ∧ cd q ≤ s0 40 0 1))) → (10001 - v6_16).toNat < N → G 58 [some (.inr (.inr (40, 0))), some (.inl aa), none, some (.inl ac), none, some (.inl v5_15), some (.inl v6_16), none] [] 122 s0 := by
          intro N
          induction N with
          | zero => intro v5_15 v6_16 inv18 hm19; exact absurd hm19 (Nat.not_lt_zero _)
          | succ N ih17 =>
            intro v5_15 v6_16 inv18 hm19
            have U := inv18.2
            refine px_iload hG dX11_decode_58 rfl ?_
            refine px_aload_n hG dX11_decode_60 rfl ?_
            refine gi_40_1 hG dX11_decode_61 fl_X11_7 R0 (fun x20 ex20 lx20 ux20 => ?_)
            refine px_iconst hG dX11_decode_64 ?_
            refine px_isub hG dX11_decode_65 ?_
            have J109_22 : ((v6_16 ≥ (x20 - 1))) → G 109 [some (.inr (.inr (40, 0))), some (.inl aa), none, some (.inl ac), none, some (.inl v5_15), none, none] [] 122 s0 := by
              intro inv23
              refine px_iload hG dX11_decode_109 rfl ?_
              refine px_if_ne hG dX11_decode_111 (tgt := 117) (by decide) ⟨by omega, by omega⟩ (fun c24 => ?_) (fun c24 => ?_)
              · have GW : ∀ q : Int, 0 ≤ q → q < s0 40 0 1 - 1 → 0 ≤ cd q ∧ cd q ≤ s0 40 0 1 := fun q a b => (U.resolve_left (by omega)).2 q a (by omega)
                refine px_iconst hG dX11_decode_117 ?_
                refine px_istore hG dX11_decode_118 (Nat.le_of_ble_eq_true rfl) (L2 := [some (.inr (.inr (40, 0))), some (.inl aa), none, some (.inl ac), none, some (.inl v5_15), some (.inl 0), none]) rfl ?_
                have L120 : ∀ (N : Nat) (v6_25 : Int) (s26 : pm_H), pm_Rng s26 → pm_Fr [(40, some 3), (41, none), (42, none), (50, none), (51, none), (54, none), (55, none), (56, none)] s0 s26 → s26 40 0 1 = x5 → s26 40 0 0 = x10 → ((0 ≤ v6_25 ∧ v6_25 ≤ 10000) ∧ (pm_J2 s26 ∧ ∀ q : Int, 0 ≤ q → q < v6_25 → s26 54 0 q = 1)) → (10001 - v6_25).toNat < N → G 120 [some (.inr (.inr (40, 0))), some (.inl aa), none, some (.inl ac), none, none, some (.inl v6_25), none] [] 122 s26 := by
                  intro N
                  induction N with
                  | zero => intro v6_25 s26 R27 F28 k30 k31 inv32 hm33; exact absurd hm33 (Nat.not_lt_zero _)
                  | succ N ih29 =>
                    intro v6_25 s26 R27 F28 k30 k31 inv32 hm33
                    have jj34 := F28 40 0 0 rfl
                    have jj35 := F28 40 0 1 rfl
                    have jj36 := F28 40 0 2 rfl
                    have Js26 := (inv32.2).1
                    have W := (inv32.2).2
                    refine px_iload hG dX11_decode_120 rfl ?_
                    refine px_aload_n hG dX11_decode_122 rfl ?_
                    refine gi_40_1 hG dX11_decode_123 fl_X11_7 R27 (fun x37 ex37 lx37 ux37 => ?_)
                    have ex37 : s0 40 0 1 = x37 := (F28 40 0 1 rfl).symm.trans ex37
                    have J143_39 : ((v6_25 > x37)) → G 143 [some (.inr (.inr (40, 0))), some (.inl aa), none, some (.inl ac), none, none, none, none] [] 122 s26 := by
                      intro inv40
                      refine px_iconst hG dX11_decode_143 ?_
                      refine px_istore hG dX11_decode_144 (Nat.le_of_ble_eq_true rfl) (L2 := [some (.inr (.inr (40, 0))), some (.inl aa), none, some (.inl ac), none, none, some (.inl 0), none]) rfl ?_
                      have L146 : ∀ (N : Nat) (v6_41 : Int) (s42 : pm_H), pm_Rng s42 → pm_Fr [(40, some 3), (41, none), (42, none), (50, none), (51, none), (54, none), (55, none), (56, none)] s0 s42 → s42 40 0 1 = x5 → s42 40 0 0 = x10 → ((0 ≤ v6_41 ∧ v6_41 ≤ 10000) ∧ (pm_J2 s42 ∧ (∀ x : Int, 0 ≤ x → x ≤ s0 40 0 1 → s42 54 0 x = 1 + pm_ct cd x v6_41.toNat) ∧ pm_ds (s42 54 0) (s0 40 0 1 + 1).toNat = s0 40 0 1 + 1 + v6_41 ∧ v6_41 ≤ s0 40 0 1 - 1)) → (10001 - v6_41).toNat < N → G 146 [some (.inr (.inr (40, 0))), some (.inl aa), none, some (.inl ac), none, none, some (.inl v6_41), none] [] 122 s42 := by
                        intro N
                        induction N with
                        | zero => intro v6_41 s42 R43 F44 k46 k47 inv48 hm49; exact absurd hm49 (Nat.not_lt_zero _)
                        | succ N ih45 =>
                          intro v6_41 s42 R43 F44 k46 k47 inv48 hm49
                          have jj50 := F44 40 0 0 rfl
                          have jj51 := F44 40 0 1 rfl
                          have jj52 := F44 40 0 2 rfl
                          have Js42 := (inv48.2).1
                          have U2 := (inv48.2).2.1
                          have U3 := (inv48.2).2.2.1
                          have U4 := (inv48.2).2.2.2
                          obtain ⟨i6, hi6⟩ : ∃ z : Int, z = v6_41 := ⟨_, rfl⟩
                          refine px_iload hG dX11_decode_146 rfl ?_
                          refine px_aload_n hG dX11_decode_148 rfl ?_
                          refine gi_40_1 hG dX11_decode_149 fl_X11_7 R43 (fun x53 ex53 lx53 ux53 => ?_)
                          have ex53 : s0 40 0 1 = x53 := (F44 40 0 1 rfl).symm.trans ex53
                          refine px_iconst hG dX11_decode_152 ?_
                          refine px_isub hG dX11_decode_153 ?_
                          have J181_55 : ((v6_41 ≥ (x53 - 1))) → G 181 [some (.inr (.inr (40, 0))), some (.inl aa), none, some (.inl ac), none, none, none, none] [] 122 s42 := by
                            intro inv56
                            have T0 : pm_dT s42 cd (s0 40 0 1) 0 := pm_dT_0 (by omega) (by rw [show s0 40 0 1 - 1 = i6 by omega, hi6]; exact U2) (by omega)
                            refine px_iconst hG dX11_decode_181 ?_
                            refine px_istore hG dX11_decode_182 (Nat.le_of_ble_eq_true rfl) (L2 := [some (.inr (.inr (40, 0))), some (.inl aa), none, some (.inl ac), none, none, some (.inl 0), none]) rfl ?_
                            have L184 : ∀ (N : Nat) (v6_57 : Int) (s58 : pm_H), pm_Rng s58 → pm_Fr [(40, some 3), (41, none), (42, none), (50, none), (51, none), (54, none), (55, none), (56, none)] s0 s58 → s58 40 0 1 = x5 → s58 40 0 0 = x10 → ((0 ≤ v6_57 ∧ v6_57 ≤ 10000) ∧ (pm_J2 s58 ∧ pm_dT s58 cd (s0 40 0 1) v6_57 ∧ v6_57 ≤ s0 40 0 1 - 1)) → (10001 - v6_57).toNat < N → G 184 [some (.inr (.inr (40, 0))), some (.inl aa), none, some (.inl ac), none, none, some (.inl v6_57), none] [] 122 s58 := by
                              intro N
                              induction N with
                              | zero => intro v6_57 s58 R59 F60 k62 k63 inv64 hm65; exact absurd hm65 (Nat.not_lt_zero _)
                              | succ N ih61 =>
                                intro v6_57 s58 R59 F60 k62 k63 inv64 hm65
                                have jj66 := F60 40 0 0 rfl
                                have jj67 := F60 40 0 1 rfl
                                have jj68 := F60 40 0 2 rfl
                                have Js58 := (inv64.2).1
                                have T := (inv64.2).2.1
                                have U4 := (inv64.2).2.2
                                obtain ⟨i8, hi8⟩ : ∃ z : Int, z = v6_57 := ⟨_, rfl⟩
                                refine px_iload hG dX11_decode_184 rfl ?_
                                refine px_aload_n hG dX11_decode_186 rfl ?_
                                refine gi_40_1 hG dX11_decode_187 fl_X11_7 R59 (fun x69 ex69 lx69 ux69 => ?_)
                                have ex69 : s0 40 0 1 = x69 := (F60 40 0 1 rfl).symm.trans ex69
                                refine px_iconst hG dX11_decode_190 ?_
                                refine px_isub hG dX11_decode_191 ?_
                                have J273_71 : ((v6_57 ≥ (x69 - 1))) → G 273 [some (.inr (.inr (40, 0))), none, none, none, none, none, none, none] [] 122 s58 := by
                                  intro inv72
                                  have TE : pm_dT s58 cd (s0 40 0 1) (s0 40 0 1 - 1) := by rw [show s0 40 0 1 - 1 = i8 by omega, hi8]; exact T
                                  obtain ⟨l1, L1, L2, L3⟩ := pm_dT_1 TE (by omega) (by omega)
                                  refine px_aload_n hG dX11_decode_273 rfl ?_
                                  refine gi_40_1 hG dX11_decode_274 fl_X11_7 R59 (fun x73 ex73 lx73 ux73 => ?_)
                                  have ex73 : s0 40 0 1 = x73 := (F60 40 0 1 rfl).symm.trans ex73
                                  refine px_istore hG dX11_decode_277 (Nat.le_of_ble_eq_true rfl) (L2 := [some (.inr (.inr (40, 0))), none, none, none, none, none, some (.inl x73), none]) rfl ?_
                                  have L279 : ∀ (N : Nat) (v6_74 : Int), ((-10000 ≤ v6_74 ∧ v6_74 ≤ x73) ∧ (l1 ≤ v6_74 ∧ ∀ x : Int, v6_74 < x → x ≤ s0 40 0 1 → s58 54 0 x ≠ 1)) → (v6_74 + 10001).toNat < N → G 279 [some (.inr (.inr (40, 0))), none, none, none, none, none, some (.inl v6_74), none] [] 122 s58 := by
                                    intro N
                                    induction N with
                                    | zero => intro v6_74 inv76 hm77; exact absurd hm77 (Nat.not_lt_zero _)
                                    | succ N ih75 =>
                                      intro v6_74 inv76 hm77
                                      have LV := (inv76.2).1
                                      have V := (inv76.2).2
                                      refine px_aload_n hG dX11_decode_279 rfl ?_
                                      refine gr_40_17 hG dX11_decode_280 fl_X11_55 R59 ?_
                                      refine px_iload hG dX11_decode_283 rfl ?_
                                      refine al_54 hG dX11_decode_285 R59 (by omega) (fun x78 ex78 lx78 ux78 => ?_)
                                      have X8 := ex78
                                      have XL : v6_74 = l1 → x78 = 1 := fun h => by rw [← ex78, h]; exact L3
                                      refine px_iconst hG dX11_decode_286 ?_
                                      have J296_80 : ((x78 = 1)) → G 296 [some (.inr (.inr (40, 0))), none, none, none, none, none, some (.inl v6_74), none] [] 122 s58 := by
                                        intro inv81
                                        obtain ⟨l2, M1, M2, M3, M4⟩ := pm_dT_3 TE (by omega) (la := v6_74) ⟨by omega, by omega⟩ (X8.trans (by omega))
                                        have M5 : l2 < v6_74 := by
                                          by_cases z : l2 < v6_74
                                          · exact z
                                          · exact absurd M4 (V l2 (by omega) (by omega))
                                        refine px_iload hG dX11_decode_296 rfl ?_
                                        refine px_iconst hG dX11_decode_298 ?_
                                        refine px_isub hG dX11_decode_299 ?_
                                        refine px_istore hG dX11_decode_300 (Nat.le_of_ble_eq_true rfl) (L2 := [some (.inr (.inr (40, 0))), none, none, none, none, none, some (.inl v6_74), some (.inl (v6_74 - 1))]) rfl ?_
                                        have L302 : ∀ (N : Nat) (v7_82 : Int), ((-10000 ≤ v7_82 ∧ v7_82 ≤ v6_74 - 1) ∧ (l2 ≤ v7_82)) → (v7_82 + 10001).toNat < N → G 302 [some (.inr (.inr (40, 0))), none, none, none, none, none, some (.inl v6_74), some (.inl v7_82)] [] 122 s58 := by
                                          intro N
                                          induction N with
                                          | zero => intro v7_82 inv84 hm85; exact absurd hm85 (Nat.not_lt_zero _)
                                          | succ N ih83 =>
                                            intro v7_82 inv84 hm85
                                            have LV2 := inv84.2
                                            refine px_aload_n hG dX11_decode_302 rfl ?_
                                            refine gr_40_17 hG dX11_decode_303 fl_X11_55 R59 ?_
                                            refine px_iload hG dX11_decode_306 rfl ?_
                                            refine al_54 hG dX11_decode_308 R59 (by omega) (fun x86 ex86 lx86 ux86 => ?_)
                                            have X9 := ex86
                                            have XM : v7_82 = l2 → x86 = 1 := fun h => by rw [← ex86, h]; exact M4
                                            refine px_iconst hG dX11_decode_309 ?_
                                            have J319_88 : ((x86 = 1)) → G 319 [some (.inr (.inr (40, 0))), none, none, none, none, none, some (.inl v6_74), some (.inl v7_82)] [] 122 s58 := by
                                              intro inv89
                                              refine px_aload_n hG dX11_decode_319 rfl ?_
                                              refine gr_40_18 hG dX11_decode_320 fl_X11_58 R59 ?_
                                              refine px_aload_n hG dX11_decode_323 rfl ?_
                                              refine gi_40_1 hG dX11_decode_324 fl_X11_7 R59 (fun x90 ex90 lx90 ux90 => ?_)
                                              have ex90 : s0 40 0 1 = x90 := (F60 40 0 1 rfl).symm.trans ex90
                                              refine px_iconst hG dX11_decode_327 ?_
                                              refine px_isub hG dX11_decode_328 ?_
                                              refine px_iload hG dX11_decode_329 rfl ?_
                                              refine as_55 hG dX11_decode_331 R59 (by omega) (by omega) (fun s91 qs91 Rs91 => ?_)
                                              have Fs91 := pm_Fr_up (F60) qs91 (M := [(40, some 3), (41, none), (42, none), (50, none), (51, none), (54, none), (55, none), (56, none)]) rfl
                                              have k92 : s91 40 0 1 = x5 := (pm_nec qs91 (by decide)).trans k62
                                              have k93 : s91 40 0 0 = x10 := (pm_nec qs91 (by decide)).trans k63
                                              have jj94 := pm_nec qs91 (c' := 40) (r' := 0) (i' := 0) (by decide)
                                              have jj95 := pm_nec qs91 (c' := 40) (r' := 0) (i' := 1) (by decide)
                                              have jj96 := pm_nec qs91 (c' := 40) (r' := 0) (i' := 2) (by decide)
                                              have jj97 := pm_nec qs91 (c' := 40) (r' := 0) (i' := 3) (by decide)
                                              have Js91 := pm_J2_up qs91 (by decide) (by decide) Js58
                                              have E5 := qs91
                                              refine px_aload_n hG dX11_decode_332 rfl ?_
                                              refine gr_40_19 hG dX11_decode_333 fl_X11_61 Rs91 ?_
                                              refine px_aload_n hG dX11_decode_336 rfl ?_
                                              refine gi_40_1 hG dX11_decode_337 fl_X11_7 Rs91 (fun x98 ex98 lx98 ux98 => ?_)
                                              have ex98 : s0 40 0 1 = x98 := (Fs91 40 0 1 rfl).symm.trans ex98
                                              refine px_iconst hG dX11_decode_340 ?_
                                              refine px_isub hG dX11_decode_341 ?_
                                              refine px_iload hG dX11_decode_342 rfl ?_
                                              refine as_56 hG dX11_decode_344 Rs91 (by omega) (by omega) (fun s99 qs99 Rs99 => ?_)
                                              have Fs99 := pm_Fr_up (Fs91) qs99 (M := [(40, some 3), (41, none), (42, none), (50, none), (51, none), (54, none), (55, none), (56, none)]) rfl
                                              have k100 : s99 40 0 1 = x5 := (pm_nec qs99 (by decide)).trans k92
                                              have k101 : s99 40 0 0 = x10 := (pm_nec qs99 (by decide)).trans k93
                                              have jj102 := pm_nec qs99 (c' := 40) (r' := 0) (i' := 0) (by decide)
                                              have jj103 := pm_nec qs99 (c' := 40) (r' := 0) (i' := 1) (by decide)
                                              have jj104 := pm_nec qs99 (c' := 40) (r' := 0) (i' := 2) (by decide)
                                              have jj105 := pm_nec qs99 (c' := 40) (r' := 0) (i' := 3) (by decide)
                                              have Js99 := pm_J2_up qs99 (by decide) (by decide) Js91
                                              have E6 := qs99
                                              have ED := pm_dT_2 TE (by omega) ⟨by omega, by omega⟩ (X8.trans (by omega)) ⟨by omega, by omega⟩ (X9.trans (by omega)) (by omega) E5 (by omega) E6 (by omega)
                                              refine px_aload_n hG dX11_decode_345 rfl ?_
                                              refine jv0 hG dX11_decode_346 ct_X11_hang lk_X11_222 ⟨rfl, rfl⟩ (by decide) ⟨Nat.le_of_ble_eq_true rfl, Nat.le_of_ble_eq_true rfl, Nat.le_of_ble_eq_true rfl⟩ (Nat.le_of_ble_eq_true rfl) ⟨rfl, rfl, Rs99, ⟨by rw [Fs99 40 0 1 rfl]; exact ED, Js99⟩⟩ (fun r106 t108 pr106 => ?_)
                                              obtain ⟨rfl, Rt108, Ft108, br106⟩ := pr106 rfl
                                              have Ff110 := pm_Fr_tr Fs99 Ft108 (M := [(40, some 3), (41, none), (42, none), (50, none), (51, none), (54, none), (55, none), (56, none)]) rfl
                                              have jj111 := Ft108 40 0 0 rfl
                                              have jj112 := Ft108 40 0 1 rfl
                                              have jj113 := Ft108 40 0 2 rfl
                                              have jj114 := Ft108 40 0 3 rfl
                                              have Jt108 := pm_J2_fr Ft108 rfl Js99
                                              have k115 : t108 40 0 1 = x5 := (Ft108 40 0 1 rfl).trans k100
                                              have k116 : t108 40 0 0 = x10 := (Ft108 40 0 0 rfl).trans k101
                                              show G 349 [some (.inr (.inr (40, 0))), none, none, none, none, none, some (.inl v6_74), some (.inl v7_82)] [] 122 t108
                                              have PT := br106
                                              rw [Fs99 40 0 1 rfl] at PT
                                              refine px_aload_n hG dX11_decode_349 rfl ?_
                                              refine jv0 hG dX11_decode_350 ct_X11_plant lk_X11_225 ⟨rfl, rfl⟩ (by decide) ⟨Nat.le_of_ble_eq_true rfl, Nat.le_of_ble_eq_true rfl, Nat.le_of_ble_eq_true rfl⟩ (Nat.le_of_ble_eq_true rfl) ⟨rfl, rfl, Rt108, ⟨by rw [Ff110 40 0 1 rfl]; exact PT, Jt108⟩⟩ (fun r117 t119 pr117 => ?_)
                                              obtain ⟨rfl, Rt119, Ft119, br117⟩ := pr117 rfl
                                              have Ff121 := pm_Fr_tr Ff110 Ft119 (M := [(40, some 3), (41, none), (42, none), (50, none), (51, none), (54, none), (55, none), (56, none)]) rfl
                                              have jj122 := Ft119 40 0 0 rfl
                                              have jj123 := Ft119 40 0 1 rfl
                                              have jj124 := Ft119 40 0 2 rfl
                                              have Jt119 : pm_J2 t119 := br117
                                              have k125 : t119 40 0 1 = x5 := (Ft119 40 0 1 rfl).trans k115
                                              have k126 : t119 40 0 0 = x10 := (Ft119 40 0 0 rfl).trans k116
                                              show G 353 [some (.inr (.inr (40, 0))), none, none, none, none, none, some (.inl v6_74), some (.inl v7_82)] [] 122 t119
                                              refine px_aload_n hG dX11_decode_353 rfl ?_
                                              refine gi_40_1 hG dX11_decode_354 fl_X11_7 Rt119 (fun x127 ex127 lx127 ux127 => ?_)
                                              have ex127 : s0 40 0 1 = x127 := (Ff121 40 0 1 rfl).symm.trans ex127
                                              have jj128 := Ff121 40 0 0 rfl
                                              have jj129 := Ff121 40 0 1 rfl
                                              have jj130 := Ff121 40 0 2 rfl
                                              exact px_iret (st := []) hG dX11_decode_357 rfl rfl (fun aa_1 ab_1 ac_1 ee => by cases ee; exact ⟨_, rfl, Rt119, Ff121, Jt119⟩)
                                            refine px_ic_eq hG dX11_decode_310 (tgt := 319) (by decide) ⟨by omega, by omega⟩ ⟨by omega, by omega⟩ (fun c87 => ?_) (fun c87 => ?_)
                                            · exact J319_88  (by omega)
                                            · refine px_iinc hG dX11_decode_313 (Nat.le_of_ble_eq_true rfl) rfl (L2 := [some (.inr (.inr (40, 0))), none, none, none, none, none, some (.inl v6_74), some (.inl (v7_82 + -1))]) rfl ?_
                                              refine px_goto hG dX11_decode_316 (tgt := 302) (by decide) ?_
                                              exact ih83 (v7_82 + -1) (⟨by omega, by omega⟩) (by omega)
                                        exact L302 _ (v6_74 - 1) (⟨by omega, by omega⟩) (Nat.lt_succ_self _)
                                      refine px_ic_eq hG dX11_decode_287 (tgt := 296) (by decide) ⟨by omega, by omega⟩ ⟨by omega, by omega⟩ (fun c79 => ?_) (fun c79 => ?_)
                                      · exact J296_80  (by omega)
                                      · refine px_iinc hG dX11_decode_290 (Nat.le_of_ble_eq_true rfl) rfl (L2 := [some (.inr (.inr (40, 0))), none, none, none, none, none, some (.inl (v6_74 + -1)), none]) rfl ?_
                                        refine px_goto hG dX11_decode_293 (tgt := 279) (by decide) ?_
                                        exact ih75 (v6_74 + -1) (⟨by omega, ⟨by omega, pm_ne1 V X8 (by omega)⟩⟩) (by omega)
                                  exact L279 _ x73 (⟨by omega, ⟨by omega, fun x a b => by omega⟩⟩) (Nat.lt_succ_self _)
                                refine px_ic_ge hG dX11_decode_192 (tgt := 273) (by decide) ⟨by omega, by omega⟩ ⟨by omega, by omega⟩ (fun c70 => ?_) (fun c70 => ?_)
                                · refine px_weak hG (L2 := [some (.inr (.inr (40, 0))), none, none, none, none, none, none, none]) ⟨Or.inr rfl, Or.inl rfl, Or.inr rfl, Or.inl rfl, Or.inr rfl, Or.inr rfl, Or.inl rfl, Or.inr rfl, trivial⟩ ?_
                                  exact J273_71  (by omega)
                                · obtain ⟨ll, L1, L2, L3⟩ := pm_dT_1 T (by omega) (by omega)
                                  have G1 := GW v6_57 (by omega) (by omega)
                                  refine px_aload_n hG dX11_decode_195 rfl ?_
                                  refine gi_40_1 hG dX11_decode_196 fl_X11_7 R59 (fun x131 ex131 lx131 ux131 => ?_)
                                  have ex131 : s0 40 0 1 = x131 := (F60 40 0 1 rfl).symm.trans ex131
                                  refine px_istore hG dX11_decode_199 (Nat.le_of_ble_eq_true rfl) (L2 := [some (.inr (.inr (40, 0))), some (.inl aa), none, some (.inl ac), none, none, some (.inl v6_57), some (.inl x131)]) rfl ?_
                                  have L201 : ∀ (N : Nat) (v7_132 : Int), ((-10000 ≤ v7_132 ∧ v7_132 ≤ x131) ∧ (ll ≤ v7_132)) → (v7_132 + 10001).toNat < N → G 201 [some (.inr (.inr (40, 0))), some (.inl aa), none, some (.inl ac), none, none, some (.inl v6_57), some (.inl v7_132)] [] 122 s58 := by
                                    intro N
                                    induction N with
                                    | zero => intro v7_132 inv134 hm135; exact absurd hm135 (Nat.not_lt_zero _)
                                    | succ N ih133 =>
                                      intro v7_132 inv134 hm135
                                      have LV := inv134.2
                                      refine px_aload_n hG dX11_decode_201 rfl ?_
                                      refine gr_40_17 hG dX11_decode_202 fl_X11_55 R59 ?_
                                      refine px_iload hG dX11_decode_205 rfl ?_
                                      refine al_54 hG dX11_decode_207 R59 (by omega) (fun x136 ex136 lx136 ux136 => ?_)
                                      have X7 := ex136
                                      have XL : v7_132 = ll → x136 = 1 := fun h => by rw [← ex136, h]; exact L3
                                      refine px_iconst hG dX11_decode_208 ?_
                                      have J218_138 : ((x136 = 1)) → G 218 [some (.inr (.inr (40, 0))), some (.inl aa), none, some (.inl ac), none, none, some (.inl v6_57), some (.inl v7_132)] [] 122 s58 := by
                                        intro inv139
                                        refine px_aload_n hG dX11_decode_218 rfl ?_
                                        refine gr_40_18 hG dX11_decode_219 fl_X11_58 R59 ?_
                                        refine px_iload hG dX11_decode_222 rfl ?_
                                        refine px_iload hG dX11_decode_224 rfl ?_
                                        refine as_55 hG dX11_decode_226 R59 (by omega) (by omega) (fun s140 qs140 Rs140 => ?_)
                                        have Fs140 := pm_Fr_up (F60) qs140 (M := [(40, some 3), (41, none), (42, none), (50, none), (51, none), (54, none), (55, none), (56, none)]) rfl
                                        have k141 : s140 40 0 1 = x5 := (pm_nec qs140 (by decide)).trans k62
                                        have k142 : s140 40 0 0 = x10 := (pm_nec qs140 (by decide)).trans k63
                                        have jj143 := pm_nec qs140 (c' := 40) (r' := 0) (i' := 0) (by decide)
                                        have jj144 := pm_nec qs140 (c' := 40) (r' := 0) (i' := 1) (by decide)
                                        have jj145 := pm_nec qs140 (c' := 40) (r' := 0) (i' := 2) (by decide)
                                        have jj146 := pm_nec qs140 (c' := 40) (r' := 0) (i' := 3) (by decide)
                                        have Js140 := pm_J2_up qs140 (by decide) (by decide) Js58
                                        have E1 := qs140
                                        refine px_aload_n hG dX11_decode_227 rfl ?_
                                        refine gr_40_19 hG dX11_decode_228 fl_X11_61 Rs140 ?_
                                        refine px_iload hG dX11_decode_231 rfl ?_
                                        refine px_aload_n hG dX11_decode_233 rfl ?_
                                        refine px_iload_n hG dX11_decode_234 rfl ?_
                                        refine px_iload_n hG dX11_decode_235 rfl ?_
                                        refine px_iload hG dX11_decode_236 rfl ?_
                                        refine px_iadd hG dX11_decode_238 ?_
                                        refine jv2 hG dX11_decode_239 ct_X11_read lk_X11_218 ⟨rfl, rfl⟩ (by decide) ⟨Nat.le_of_ble_eq_true rfl, Nat.le_of_ble_eq_true rfl, Nat.le_of_ble_eq_true rfl⟩ (Nat.le_of_ble_eq_true rfl) ⟨aa, (ac + v6_57), rfl, rfl, Rs140, by omega⟩ (fun r147 t148 pr147 => ?_)
                                        obtain ⟨x149, rfl, rfl, br147⟩ := pr147 _ _ rfl
                                        show G 242 [some (.inr (.inr (40, 0))), some (.inl aa), none, some (.inl ac), none, none, some (.inl v6_57), some (.inl v7_132)] [.inl x149, .inl v6_57, .inr (.inr (56, 0))] 122 s140
                                        have XC : x149 = cd v6_57 := by rw [CD v6_57, ← Fs140 66 0 (20 * aa + (ac + v6_57)) rfl]; exact br147.1
                                        refine as_56 hG dX11_decode_242 Rs140 (by omega) (by omega) (fun s150 qs150 Rs150 => ?_)
                                        have Fs150 := pm_Fr_up (Fs140) qs150 (M := [(40, some 3), (41, none), (42, none), (50, none), (51, none), (54, none), (55, none), (56, none)]) rfl
                                        have k151 : s150 40 0 1 = x5 := (pm_nec qs150 (by decide)).trans k141
                                        have k152 : s150 40 0 0 = x10 := (pm_nec qs150 (by decide)).trans k142
                                        have jj153 := pm_nec qs150 (c' := 40) (r' := 0) (i' := 0) (by decide)
                                        have jj154 := pm_nec qs150 (c' := 40) (r' := 0) (i' := 1) (by decide)
                                        have jj155 := pm_nec qs150 (c' := 40) (r' := 0) (i' := 2) (by decide)
                                        have jj156 := pm_nec qs150 (c' := 40) (r' := 0) (i' := 3) (by decide)
                                        have Js150 := pm_J2_up qs150 (by decide) (by decide) Js140
                                        have E2 := qs150
                                        refine px_aload_n hG dX11_decode_243 rfl ?_
                                        refine gr_40_17 hG dX11_decode_244 fl_X11_55 Rs150 ?_
                                        refine px_iload hG dX11_decode_247 rfl ?_
                                        refine px_iconst hG dX11_decode_249 ?_
                                        refine as_54 hG dX11_decode_250 Rs150 (by omega) (fun s157 qs157 Rs157 => ?_)
                                        have Fs157 := pm_Fr_up (Fs150) qs157 (M := [(40, some 3), (41, none), (42, none), (50, none), (51, none), (54, none), (55, none), (56, none)]) rfl
                                        have k158 : s157 40 0 1 = x5 := (pm_nec qs157 (by decide)).trans k151
                                        have k159 : s157 40 0 0 = x10 := (pm_nec qs157 (by decide)).trans k152
                                        have jj160 := pm_nec qs157 (c' := 40) (r' := 0) (i' := 0) (by decide)
                                        have jj161 := pm_nec qs157 (c' := 40) (r' := 0) (i' := 1) (by decide)
                                        have jj162 := pm_nec qs157 (c' := 40) (r' := 0) (i' := 2) (by decide)
                                        have jj163 := pm_nec qs157 (c' := 40) (r' := 0) (i' := 3) (by decide)
                                        have Js157 := pm_J2_up qs157 (by decide) (by decide) Js150
                                        have E3 := qs157
                                        refine px_aload_n hG dX11_decode_251 rfl ?_
                                        refine gr_40_17 hG dX11_decode_252 fl_X11_55 Rs157 ?_
                                        refine px_aload_n hG dX11_decode_255 rfl ?_
                                        refine gr_40_19 hG dX11_decode_256 fl_X11_61 Rs157 ?_
                                        refine px_iload hG dX11_decode_259 rfl ?_
                                        refine al_56 hG dX11_decode_261 Rs157 (by omega) (fun x164 ex164 lx164 ux164 => ?_)
                                        have XO : x164 = cd v6_57 := by rw [← ex164, pm_nec E3 (by decide), pm_at E2]; exact XC
                                        refine px_dup2 hG dX11_decode_262 ?_
                                        refine al_54 hG dX11_decode_263 Rs157 (by omega) (fun x165 ex165 lx165 ux165 => ?_)
                                        have XD := ex165
                                        refine px_iconst hG dX11_decode_264 ?_
                                        refine px_isub hG dX11_decode_265 ?_
                                        refine as_54 hG dX11_decode_266 Rs157 (by omega) (fun s166 qs166 Rs166 => ?_)
                                        have Fs166 := pm_Fr_up (Fs157) qs166 (M := [(40, some 3), (41, none), (42, none), (50, none), (51, none), (54, none), (55, none), (56, none)]) rfl
                                        have k167 : s166 40 0 1 = x5 := (pm_nec qs166 (by decide)).trans k158
                                        have k168 : s166 40 0 0 = x10 := (pm_nec qs166 (by decide)).trans k159
                                        have jj169 := pm_nec qs166 (c' := 40) (r' := 0) (i' := 0) (by decide)
                                        have jj170 := pm_nec qs166 (c' := 40) (r' := 0) (i' := 1) (by decide)
                                        have jj171 := pm_nec qs166 (c' := 40) (r' := 0) (i' := 2) (by decide)
                                        have jj172 := pm_nec qs166 (c' := 40) (r' := 0) (i' := 3) (by decide)
                                        have Js166 := pm_J2_up qs166 (by decide) (by decide) Js157
                                        have E4 := qs166
                                        have TS := pm_dT_s T (by omega) (by omega) ⟨by omega, by omega⟩ (X7.trans (by omega)) XC XO ⟨by omega, by omega⟩ E1 E2 E3 E4 XD (by omega)
                                        refine px_iinc hG dX11_decode_267 (Nat.le_of_ble_eq_true rfl) rfl (L2 := [some (.inr (.inr (40, 0))), some (.inl aa), none, some (.inl ac), none, none, some (.inl (v6_57 + 1)), some (.inl v7_132)]) rfl ?_
                                        refine px_goto hG dX11_decode_270 (tgt := 184) (by decide) ?_
                                        refine px_weak hG (L2 := [some (.inr (.inr (40, 0))), some (.inl aa), none, some (.inl ac), none, none, some (.inl (v6_57 + 1)), none]) ⟨Or.inr rfl, Or.inr rfl, Or.inr rfl, Or.inr rfl, Or.inr rfl, Or.inr rfl, Or.inr rfl, Or.inl rfl, trivial⟩ ?_
                                        exact ih61 (v6_57 + 1) s166 Rs166 Fs166 k167 k168 (⟨by omega, ⟨Js166, TS, by omega⟩⟩) (by omega)
                                      refine px_ic_eq hG dX11_decode_209 (tgt := 218) (by decide) ⟨by omega, by omega⟩ ⟨by omega, by omega⟩ (fun c137 => ?_) (fun c137 => ?_)
                                      · exact J218_138  (by omega)
                                      · refine px_iinc hG dX11_decode_212 (Nat.le_of_ble_eq_true rfl) rfl (L2 := [some (.inr (.inr (40, 0))), some (.inl aa), none, some (.inl ac), none, none, some (.inl v6_57), some (.inl (v7_132 + -1))]) rfl ?_
                                        refine px_goto hG dX11_decode_215 (tgt := 201) (by decide) ?_
                                        exact ih133 (v7_132 + -1) (⟨by omega, by omega⟩) (by omega)
                                  exact L201 _ x131 (⟨by omega, by omega⟩) (Nat.lt_succ_self _)
                            exact L184 _ 0 s42 R43 F44 k46 k47 (⟨by omega, ⟨Js42, T0, by omega⟩⟩) (Nat.lt_succ_self _)
                          refine px_ic_ge hG dX11_decode_154 (tgt := 181) (by decide) ⟨by omega, by omega⟩ ⟨by omega, by omega⟩ (fun c54 => ?_) (fun c54 => ?_)
                          · refine px_weak hG (L2 := [some (.inr (.inr (40, 0))), some (.inl aa), none, some (.inl ac), none, none, none, none]) ⟨Or.inr rfl, Or.inr rfl, Or.inr rfl, Or.inr rfl, Or.inr rfl, Or.inr rfl, Or.inl rfl, Or.inr rfl, trivial⟩ ?_
                            exact J181_55  (by omega)
                          · refine px_aload_n hG dX11_decode_157 rfl ?_
                            refine gr_40_17 hG dX11_decode_158 fl_X11_55 R43 ?_
                            refine px_aload_n hG dX11_decode_161 rfl ?_
                            refine px_iload_n hG dX11_decode_162 rfl ?_
                            refine px_iload_n hG dX11_decode_163 rfl ?_
                            refine px_iload hG dX11_decode_164 rfl ?_
                            refine px_iadd hG dX11_decode_166 ?_
                            refine jv2 hG dX11_decode_167 ct_X11_read lk_X11_218 ⟨rfl, rfl⟩ (by decide) ⟨Nat.le_of_ble_eq_true rfl, Nat.le_of_ble_eq_true rfl, Nat.le_of_ble_eq_true rfl⟩ (Nat.le_of_ble_eq_true rfl) ⟨aa, (ac + v6_41), rfl, rfl, R43, by omega⟩ (fun r173 t174 pr173 => ?_)
                            obtain ⟨x175, rfl, rfl, br173⟩ := pr173 _ _ rfl
                            show G 170 [some (.inr (.inr (40, 0))), some (.inl aa), none, some (.inl ac), none, none, some (.inl v6_41), none] [.inl x175, .inr (.inr (54, 0))] 122 s42
                            have XC : x175 = cd v6_41 := by rw [CD v6_41, ← F44 66 0 (20 * aa + (ac + v6_41)) rfl]; exact br173.1
                            have G1 := GW v6_41 (by omega) (by omega)
                            refine px_dup2 hG dX11_decode_170 ?_
                            refine al_54 hG dX11_decode_171 R43 (by omega) (fun x176 ex176 lx176 ux176 => ?_)
                            have XD := ex176
                            refine px_iconst hG dX11_decode_172 ?_
                            refine px_iadd hG dX11_decode_173 ?_
                            refine as_54 hG dX11_decode_174 R43 (by omega) (fun s177 qs177 Rs177 => ?_)
                            have Fs177 := pm_Fr_up (F44) qs177 (M := [(40, some 3), (41, none), (42, none), (50, none), (51, none), (54, none), (55, none), (56, none)]) rfl
                            have k178 : s177 40 0 1 = x5 := (pm_nec qs177 (by decide)).trans k46
                            have k179 : s177 40 0 0 = x10 := (pm_nec qs177 (by decide)).trans k47
                            have jj180 := pm_nec qs177 (c' := 40) (r' := 0) (i' := 0) (by decide)
                            have jj181 := pm_nec qs177 (c' := 40) (r' := 0) (i' := 1) (by decide)
                            have jj182 := pm_nec qs177 (c' := 40) (r' := 0) (i' := 2) (by decide)
                            have jj183 := pm_nec qs177 (c' := 40) (r' := 0) (i' := 3) (by decide)
                            have Js177 := pm_J2_up qs177 (by decide) (by decide) Js42
                            have E := qs177
                            have DS := pm_d1_s U2 U3 E XC XD (by omega) (by omega) (by omega)
                            refine px_iinc hG dX11_decode_175 (Nat.le_of_ble_eq_true rfl) rfl (L2 := [some (.inr (.inr (40, 0))), some (.inl aa), none, some (.inl ac), none, none, some (.inl (v6_41 + 1)), none]) rfl ?_
                            refine px_goto hG dX11_decode_178 (tgt := 146) (by decide) ?_
                            exact ih45 (v6_41 + 1) s177 Rs177 Fs177 k178 k179 (⟨by omega, ⟨Js177, DS.1, DS.2, by omega⟩⟩) (by omega)
                      exact L146 _ 0 s26 R27 F28 k30 k31 (⟨by omega, ⟨Js26, fun x a b => by rw [W x a (by omega)]; rfl, pm_d1s (fun x a b => W x a (by omega)) (by omega), by omega⟩⟩) (Nat.lt_succ_self _)
                    refine px_ic_gt hG dX11_decode_126 (tgt := 143) (by decide) ⟨by omega, by omega⟩ ⟨by omega, by omega⟩ (fun c38 => ?_) (fun c38 => ?_)
                    · refine px_weak hG (L2 := [some (.inr (.inr (40, 0))), some (.inl aa), none, some (.inl ac), none, none, none, none]) ⟨Or.inr rfl, Or.inr rfl, Or.inr rfl, Or.inr rfl, Or.inr rfl, Or.inr rfl, Or.inl rfl, Or.inr rfl, trivial⟩ ?_
                      exact J143_39  (by omega)
                    · refine px_aload_n hG dX11_decode_129 rfl ?_
                      refine gr_40_17 hG dX11_decode_130 fl_X11_55 R27 ?_
                      refine px_iload hG dX11_decode_133 rfl ?_
                      refine px_iconst hG dX11_decode_135 ?_
                      refine as_54 hG dX11_decode_136 R27 (by omega) (fun s184 qs184 Rs184 => ?_)
                      have Fs184 := pm_Fr_up (F28) qs184 (M := [(40, some 3), (41, none), (42, none), (50, none), (51, none), (54, none), (55, none), (56, none)]) rfl
                      have k185 : s184 40 0 1 = x5 := (pm_nec qs184 (by decide)).trans k30
                      have k186 : s184 40 0 0 = x10 := (pm_nec qs184 (by decide)).trans k31
                      have jj187 := pm_nec qs184 (c' := 40) (r' := 0) (i' := 0) (by decide)
                      have jj188 := pm_nec qs184 (c' := 40) (r' := 0) (i' := 1) (by decide)
                      have jj189 := pm_nec qs184 (c' := 40) (r' := 0) (i' := 2) (by decide)
                      have jj190 := pm_nec qs184 (c' := 40) (r' := 0) (i' := 3) (by decide)
                      have Js184 := pm_J2_up qs184 (by decide) (by decide) Js26
                      have E := qs184
                      refine px_iinc hG dX11_decode_137 (Nat.le_of_ble_eq_true rfl) rfl (L2 := [some (.inr (.inr (40, 0))), some (.inl aa), none, some (.inl ac), none, none, some (.inl (v6_25 + 1)), none]) rfl ?_
                      refine px_goto hG dX11_decode_140 (tgt := 120) (by decide) ?_
                      exact ih29 (v6_25 + 1) s184 Rs184 Fs184 k185 k186 (⟨by omega, ⟨Js184, pm_d1 W E⟩⟩) (by omega)
                refine px_weak hG (L2 := [some (.inr (.inr (40, 0))), some (.inl aa), none, some (.inl ac), none, none, some (.inl 0), none]) ⟨Or.inr rfl, Or.inr rfl, Or.inr rfl, Or.inr rfl, Or.inr rfl, Or.inl rfl, Or.inr rfl, Or.inr rfl, trivial⟩ ?_
                exact L120 _ 0 s0 R0 pm_Fr_rf ex5 ex10 (⟨by omega, ⟨J2, fun q a b => by omega⟩⟩) (Nat.lt_succ_self _)
              · refine px_bipush hG dX11_decode_114 (by decide) ?_
                exact px_iret (st := []) hG dX11_decode_116 rfl rfl (fun aa_1 ab_1 ac_1 ee => by cases ee; exact ⟨_, rfl, R0, pm_Fr_rf, J2⟩)
            refine px_ic_ge hG dX11_decode_66 (tgt := 109) (by decide) ⟨by omega, by omega⟩ ⟨by omega, by omega⟩ (fun c21 => ?_) (fun c21 => ?_)
            · refine px_weak hG (L2 := [some (.inr (.inr (40, 0))), some (.inl aa), none, some (.inl ac), none, some (.inl v5_15), none, none]) ⟨Or.inr rfl, Or.inr rfl, Or.inr rfl, Or.inr rfl, Or.inr rfl, Or.inr rfl, Or.inl rfl, Or.inr rfl, trivial⟩ ?_
              exact J109_22  (by omega)
            · refine px_iload hG dX11_decode_69 rfl ?_
              have J101_193 : ∀ (j192 : Int), (j192 = 0 ∨ (j192 = 1 ∧ v5_15 = 1 ∧ 0 ≤ cd v6_16 ∧ cd v6_16 ≤ s0 40 0 1)) → G 101 [some (.inr (.inr (40, 0))), some (.inl aa), none, some (.inl ac), none, none, some (.inl v6_16), none] [.inl j192] 122 s0 := by
                intro j192 inv194
                have I1 := inv194
                refine px_istore hG dX11_decode_101 (Nat.le_of_ble_eq_true rfl) (L2 := [some (.inr (.inr (40, 0))), some (.inl aa), none, some (.inl ac), none, some (.inl j192), some (.inl v6_16), none]) rfl ?_
                refine px_iinc hG dX11_decode_103 (Nat.le_of_ble_eq_true rfl) rfl (L2 := [some (.inr (.inr (40, 0))), some (.inl aa), none, some (.inl ac), none, some (.inl j192), some (.inl (v6_16 + 1)), none]) rfl ?_
                refine px_goto hG dX11_decode_106 (tgt := 58) (by decide) ?_
                exact ih17 j192 (v6_16 + 1) (⟨by omega, pm_gd_s U I1⟩) (by omega)
              refine px_if_eq hG dX11_decode_71 (tgt := 100) (by decide) ⟨by omega, by omega⟩ (fun c191 => ?_) (fun c191 => ?_)
              · refine px_iconst hG dX11_decode_100 ?_
                refine px_weak hG (L2 := [some (.inr (.inr (40, 0))), some (.inl aa), none, some (.inl ac), none, none, some (.inl v6_16), none]) ⟨Or.inr rfl, Or.inr rfl, Or.inr rfl, Or.inr rfl, Or.inr rfl, Or.inl rfl, Or.inr rfl, Or.inr rfl, trivial⟩ ?_
                exact J101_193 0 (by omega)
              · refine px_aload_n hG dX11_decode_74 rfl ?_
                refine px_iload_n hG dX11_decode_75 rfl ?_
                refine px_iload_n hG dX11_decode_76 rfl ?_
                refine px_iload hG dX11_decode_77 rfl ?_
                refine px_iadd hG dX11_decode_79 ?_
                refine jv2 hG dX11_decode_80 ct_X11_read lk_X11_218 ⟨rfl, rfl⟩ (by decide) ⟨Nat.le_of_ble_eq_true rfl, Nat.le_of_ble_eq_true rfl, Nat.le_of_ble_eq_true rfl⟩ (Nat.le_of_ble_eq_true rfl) ⟨aa, (ac + v6_16), rfl, rfl, R0, by omega⟩ (fun r195 t196 pr195 => ?_)
                obtain ⟨x197, rfl, rfl, br195⟩ := pr195 _ _ rfl
                show G 83 [some (.inr (.inr (40, 0))), some (.inl aa), none, some (.inl ac), none, some (.inl v5_15), some (.inl v6_16), none] [.inl x197] 122 s0
                have X1 := br195
                have X2 := CD v6_16
                refine px_i2l hG dX11_decode_83 ⟨by omega, by omega⟩ ?_
                refine px_lconst hG dX11_decode_84 ?_
                show G 85 [some (.inr (.inr (40, 0))), some (.inl aa), none, some (.inl ac), none, some (.inl v5_15), some (.inl v6_16), none] [.inr (.inl 0), .inr (.inl x197)] 122 s0
                refine px_aload_n hG dX11_decode_85 rfl ?_
                refine gi_40_1 hG dX11_decode_86 fl_X11_7 R0 (fun x198 ex198 lx198 ux198 => ?_)
                refine px_i2l hG dX11_decode_89 ⟨by omega, by omega⟩ ?_
                refine js3 hG dX11_decode_90 ct_X11_in lk_X11_96 ⟨Nat.le_of_ble_eq_true rfl, Nat.le_of_ble_eq_true rfl, Nat.le_of_ble_eq_true rfl⟩ (Nat.le_of_ble_eq_true rfl) ⟨x197, 0, x198, rfl, rfl, R0, by omega⟩ (fun r199 t200 pr199 => ?_)
                obtain ⟨x201, rfl, rfl, br199⟩ := pr199 _ _ _ rfl
                show G 93 [some (.inr (.inr (40, 0))), some (.inl aa), none, some (.inl ac), none, some (.inl v5_15), some (.inl v6_16), none] [.inl x201] 122 s0
                refine px_if_eq hG dX11_decode_93 (tgt := 100) (by decide) ⟨by omega, by omega⟩ (fun c202 => ?_) (fun c202 => ?_)
                · refine px_iconst hG dX11_decode_100 ?_
                  refine px_weak hG (L2 := [some (.inr (.inr (40, 0))), some (.inl aa), none, some (.inl ac), none, none, some (.inl v6_16), none]) ⟨Or.inr rfl, Or.inr rfl, Or.inr rfl, Or.inr rfl, Or.inr rfl, Or.inl rfl, Or.inr rfl, Or.inr rfl, trivial⟩ ?_
                  exact J101_193 0 (by omega)
                · refine px_iconst hG dX11_decode_96 ?_
                  refine px_goto hG dX11_decode_97 (tgt := 101) (by decide) ?_
                  refine px_weak hG (L2 := [some (.inr (.inr (40, 0))), some (.inl aa), none, some (.inl ac), none, none, some (.inl v6_16), none]) ⟨Or.inr rfl, Or.inr rfl, Or.inr rfl, Or.inr rfl, Or.inr rfl, Or.inl rfl, Or.inr rfl, Or.inr rfl, trivial⟩ ?_
                  exact J101_193 1 (by omega)
        exact L58 _ j12 0 (⟨by omega, (show j12 = 0 ∨ j12 = 1 by omega).imp id (fun h => ⟨h, fun q a b => by omega⟩)⟩) (Nat.lt_succ_self _)
      refine px_if_ne hG dX11_decode_37 (tgt := 52) (by decide) ⟨by omega, by omega⟩ (fun c11 => ?_) (fun c11 => ?_)
      · refine px_iconst hG dX11_decode_52 ?_
        refine px_weak hG (L2 := [some (.inr (.inr (40, 0))), some (.inl aa), none, some (.inl ac), none, none, none, none]) ⟨Or.inr rfl, Or.inr rfl, Or.inl rfl, Or.inr rfl, Or.inl rfl, Or.inr rfl, Or.inr rfl, Or.inr rfl, trivial⟩ ?_
        exact J53_13 0 (by omega)
      · refine px_aload_n hG dX11_decode_40 rfl ?_
        refine gi_40_1 hG dX11_decode_41 fl_X11_7 R0 (fun x203 ex203 lx203 ux203 => ?_)
        refine px_iconst hG dX11_decode_44 ?_
        refine px_ic_le hG dX11_decode_45 (tgt := 52) (by decide) ⟨by omega, by omega⟩ ⟨by omega, by omega⟩ (fun c204 => ?_) (fun c204 => ?_)
        · refine px_iconst hG dX11_decode_52 ?_
          refine px_weak hG (L2 := [some (.inr (.inr (40, 0))), some (.inl aa), none, some (.inl ac), none, none, none, none]) ⟨Or.inr rfl, Or.inr rfl, Or.inl rfl, Or.inr rfl, Or.inl rfl, Or.inr rfl, Or.inr rfl, Or.inr rfl, trivial⟩ ?_
          exact J53_13 0 (by omega)
        · refine px_iconst hG dX11_decode_48 ?_
          refine px_goto hG dX11_decode_49 (tgt := 53) (by decide) ?_
          refine px_weak hG (L2 := [some (.inr (.inr (40, 0))), some (.inl aa), none, some (.inl ac), none, none, none, none]) ⟨Or.inr rfl, Or.inr rfl, Or.inl rfl, Or.inr rfl, Or.inl rfl, Or.inr rfl, Or.inr rfl, Or.inr rfl, trivial⟩ ?_
          exact J53_13 1 (by omega)
    · refine px_iload hG dX11_decode_30 rfl ?_
      exact px_iret (st := []) hG dX11_decode_32 rfl rfl (fun aa_1 ab_1 ac_1 ee => by cases ee; exact ⟨_, rfl, R0, pm_Fr_rf, J2⟩)
  · refine px_iconst hG dX11_decode_8 ?_
    exact px_iret (st := []) hG dX11_decode_9 rfl rfl (fun aa_1 ab_1 ac_1 ee => by cases ee; exact ⟨_, rfl, R0, pm_Fr_rf, J2⟩))
def pre_X11_grow (as : List pm_V) (n : Nat) (σ : pm_H) : Prop := ∃ aa ab ac : Int, as = [.inr (.inr (40, 0)), .inl aa, .inl ab, .inl ac] ∧ n = 122 ∧ pm_Rng σ ∧ ((pm_in aa ∧ pm_in ab ∧ pm_in ac) ∧ pm_J2 σ)
def po_X11_grow (as : List pm_V) (_ : Nat) (σ : pm_H) (r : Option pm_V) (τ : pm_H) : Prop := ∀ aa ab ac : Int, as = [.inr (.inr (40, 0)), .inl aa, .inl ab, .inl ac] → ∃ v : Int, r = some (.inl v) ∧ pm_Rng τ ∧ pm_Fr [(40, some 3), (41, none), (42, none), (50, none), (51, none)] σ τ ∧ (pm_J2 τ)
set_option maxRecDepth 20000 in
set_option maxHeartbeats 4000000 in
theorem ct_X11_grow : pm_Ct yX11_grow cX11_grow 9 (some .int) 2 0 pre_X11_grow po_X11_grow := pm_sound (ini := false) (by decide +kernel) pk_X11_grow (fun h => absurd h (by decide)) (by
  rintro as n s0 ⟨aa, ab, ac, rfl, rfl, R0, hpre⟩
  refine ⟨by decide, Nat.le_of_ble_eq_true rfl, fun G hG => ?_⟩
  have hG : pm_Rules (RX11, 2, 122, cX11_grow, -1, (fun _ => 0), false, (some .int), po_X11_grow [.inr (.inr (40, 0)), .inl aa, .inl ab, .inl ac] 122 s0) G := hG
  show G 0 [some (.inr (.inr (40, 0))), some (.inl aa), some (.inl ab), some (.inl ac), none, none, none, none, none] [] 122 s0
  have B0 := pb_40_0 R0
  have B1 := pb_40_1 R0
  have B2 := pb_40_2 R0
  have B3 := pb_40_3 R0
  have J2 := hpre.2
  have HP := hpre.1
  have JK := J2.1
  have JW := J2.2
  obtain ⟨cd, hcd⟩ : ∃ f : Int → Int, f = fun j => (s0 66 0 (20 * aa + (ac + j - 1))) := ⟨_, rfl⟩
  have CD : ∀ j : Int, cd j = (s0 66 0 (20 * aa + (ac + j - 1))) := fun j => congrFun hcd j
  refine px_iload_n hG dX11_grow_0 rfl ?_
  refine px_iload_n hG dX11_grow_1 rfl ?_
  refine js2 hG dX11_grow_2 ct_X11_isSheet lk_X11_211 ⟨Nat.le_of_ble_eq_true rfl, Nat.le_of_ble_eq_true rfl, Nat.le_of_ble_eq_true rfl⟩ (Nat.le_of_ble_eq_true rfl) ⟨aa, ab, rfl, rfl, R0, by omega⟩ (fun r1 t2 pr1 => ?_)
  obtain ⟨x3, rfl, rfl, br1⟩ := pr1 _ _ rfl
  show G 5 [some (.inr (.inr (40, 0))), some (.inl aa), some (.inl ab), some (.inl ac), none, none, none, none, none] [.inl x3] 122 s0
  refine px_if_ne hG dX11_grow_5 (tgt := 10) (by decide) ⟨by omega, by omega⟩ (fun c4 => ?_) (fun c4 => ?_)
  · refine px_aload_n hG dX11_grow_10 rfl ?_
    refine px_iload_n hG dX11_grow_11 rfl ?_
    refine px_iload_n hG dX11_grow_12 rfl ?_
    refine px_iload_n hG dX11_grow_13 rfl ?_
    refine px_aload_n hG dX11_grow_14 rfl ?_
    refine gi_40_1 hG dX11_grow_15 fl_X11_7 R0 (fun x5 ex5 lx5 ux5 => ?_)
    refine jv4 hG dX11_grow_18 ct_X11_against lk_X11_214 ⟨rfl, rfl⟩ (by decide) ⟨Nat.le_of_ble_eq_true rfl, Nat.le_of_ble_eq_true rfl, Nat.le_of_ble_eq_true rfl⟩ (Nat.le_of_ble_eq_true rfl) ⟨aa, ab, ac, x5, rfl, rfl, R0, by omega⟩ (fun r6 t7 pr6 => ?_)
    obtain ⟨x8, rfl, rfl, br6⟩ := pr6 _ _ _ _ rfl
    show G 21 [some (.inr (.inr (40, 0))), some (.inl aa), some (.inl ab), some (.inl ac), none, none, none, none, none] [.inl x8] 122 s0
    refine px_istore hG dX11_grow_21 (Nat.le_of_ble_eq_true rfl) (L2 := [some (.inr (.inr (40, 0))), some (.inl aa), some (.inl ab), some (.inl ac), some (.inl x8), none, none, none, none]) rfl ?_
    refine px_iload hG dX11_grow_23 rfl ?_
    refine px_if_ge hG dX11_grow_25 (tgt := 31) (by decide) ⟨by omega, by omega⟩ (fun c9 => ?_) (fun c9 => ?_)
    · refine px_aload_n hG dX11_grow_31 rfl ?_
      refine gi_40_0 hG dX11_grow_32 fl_X11_104 R0 (fun x10 ex10 lx10 ux10 => ?_)
      have J43_13 : ∀ (j12 : Int), ((x10 ≠ 0 ∧ j12 = 0) ∨ (¬ (x10 ≠ 0) ∧ j12 = 1)) → G 43 [some (.inr (.inr (40, 0))), some (.inl aa), none, some (.inl ac), none, none, none, none, none] [.inl j12] 122 s0 := by
        intro j12 inv14
        refine px_istore hG dX11_grow_43 (Nat.le_of_ble_eq_true rfl) (L2 := [some (.inr (.inr (40, 0))), some (.inl aa), none, some (.inl ac), none, some (.inl j12), none, none, none]) rfl ?_
        refine px_iconst hG dX11_grow_45 ?_
        refine px_istore hG dX11_grow_46 (Nat.le_of_ble_eq_true rfl) (L2 := [some (.inr (.inr (40, 0))), some (.inl aa), none, some (.inl ac), none, some (.inl j12), some (.inl 1), none, none]) rfl ?_
        have L48 : ∀ (N : Nat) (v5_15 : Int) (v6_16 : Int), ((1 ≤ v6_16 ∧ v6_16 ≤ 10000) ∧ (v5_15 = 0 ∨ (v5_15 = 1 ∧ ∀ q : Int, 1 ≤ q → q < v6_16 → 0 ≤ cd q ∧ cd q ≤ s0 40 0 1))) → (10001 - v6_16).toNat < N → G 48 [some (.inr (.inr (40, 0))), some (.inl aa), none, some (.inl ac), none, some (.inl v5_15), some (.inl v6_16), none, none] [] 122 s0 := by
          intro N
          induction N with
          | zero => intro v5_15 v6_16 inv18 hm19; exact absurd hm19 (Nat.not_lt_zero _)
          | succ N ih17 =>
            intro v5_15 v6_16 inv18 hm19
            have U := inv18.2
            refine px_iload hG dX11_grow_48 rfl ?_
            refine px_aload_n hG dX11_grow_50 rfl ?_
            refine gi_40_1 hG dX11_grow_51 fl_X11_7 R0 (fun x20 ex20 lx20 ux20 => ?_)
            have J99_22 : ((v6_16 > x20)) → G 99 [some (.inr (.inr (40, 0))), some (.inl aa), none, some (.inl ac), none, some (.inl v5_15), none, none, none] [] 122 s0 := by
              intro inv23
              refine px_iconst hG dX11_grow_99 ?_
              refine px_istore hG dX11_grow_100 (Nat.le_of_ble_eq_true rfl) (L2 := [some (.inr (.inr (40, 0))), some (.inl aa), none, some (.inl ac), none, some (.inl v5_15), some (.inl 1), none, none]) rfl ?_
              have L102 : ∀ (N : Nat) (v5_24 : Int) (v6_25 : Int), ((1 ≤ v6_25 ∧ v6_25 ≤ 10000) ∧ (v5_24 = 0 ∨ (v5_24 = 1 ∧ (∀ q : Int, 1 ≤ q → q ≤ s0 40 0 1 → 0 ≤ cd q ∧ cd q ≤ s0 40 0 1) ∧ ∀ q : Int, 1 ≤ q → q < v6_25 → ∃ j : Nat, j ≤ 11 ∧ pm_it cd j q = 0))) → (10001 - v6_25).toNat < N → G 102 [some (.inr (.inr (40, 0))), some (.inl aa), none, some (.inl ac), none, some (.inl v5_24), some (.inl v6_25), none, none] [] 122 s0 := by
                intro N
                induction N with
                | zero => intro v5_24 v6_25 inv27 hm28; exact absurd hm28 (Nat.not_lt_zero _)
                | succ N ih26 =>
                  intro v5_24 v6_25 inv27 hm28
                  have U := inv27.2
                  refine px_iload hG dX11_grow_102 rfl ?_
                  refine px_aload_n hG dX11_grow_104 rfl ?_
                  refine gi_40_1 hG dX11_grow_105 fl_X11_7 R0 (fun x29 ex29 lx29 ux29 => ?_)
                  have J174_31 : ((v6_25 > x29) ∨ (¬ (v6_25 > x29) ∧ v5_24 = 0)) → G 174 [some (.inr (.inr (40, 0))), some (.inl aa), none, some (.inl ac), none, some (.inl v5_24), none, none, none] [] 122 s0 := by
                    intro inv32
                    refine px_iload hG dX11_grow_174 rfl ?_
                    refine px_if_ne hG dX11_grow_176 (tgt := 182) (by decide) ⟨by omega, by omega⟩ (fun c33 => ?_) (fun c33 => ?_)
                    · have GB := U.resolve_left (by omega)
                      have GW := GB.2.1
                      have PTS : ∀ q : Int, 1 ≤ q → q ≤ s0 40 0 1 → ∃ j : Nat, j ≤ 11 ∧ pm_it cd j q = 0 := fun q a b => GB.2.2 q a (by omega)
                      refine px_aload_n hG dX11_grow_182 rfl ?_
                      refine gr_40_13 hG dX11_grow_183 fl_X11_42 R0 ?_
                      refine px_iconst hG dX11_grow_186 ?_
                      refine px_iconst hG dX11_grow_187 ?_
                      refine as_50 hG dX11_grow_188 R0 (by omega) (by omega) (fun s34 qs34 Rs34 => ?_)
                      have Fs34 := pm_Fr_up ((pm_Fr_rf : pm_Fr [(40, some 3), (41, none), (42, none), (50, none), (51, none)] s0 s0)) qs34 (M := [(40, some 3), (41, none), (42, none), (50, none), (51, none)]) rfl
                      have k35 : s34 40 0 1 = x5 := (pm_nec qs34 (by decide)).trans ex5
                      have k36 : s34 40 0 0 = x10 := (pm_nec qs34 (by decide)).trans ex10
                      have jj37 := pm_nec qs34 (c' := 40) (r' := 0) (i' := 0) (by decide)
                      have jj38 := pm_nec qs34 (c' := 40) (r' := 0) (i' := 1) (by decide)
                      have jj39 := pm_nec qs34 (c' := 40) (r' := 0) (i' := 2) (by decide)
                      have jj40 := pm_nec qs34 (c' := 40) (r' := 0) (i' := 3) (by decide)
                      have Js34 := pm_J2_up qs34 (by decide) (by decide) J2
                      refine px_iconst hG dX11_grow_189 ?_
                      refine px_istore hG dX11_grow_190 (Nat.le_of_ble_eq_true rfl) (L2 := [some (.inr (.inr (40, 0))), some (.inl aa), none, some (.inl ac), none, some (.inl v5_24), some (.inl 1), none, none]) rfl ?_
                      have L192 : ∀ (N : Nat) (v6_41 : Int) (s42 : pm_H), pm_Rng s42 → pm_Fr [(40, some 3), (41, none), (42, none), (50, none), (51, none)] s0 s42 → s42 40 0 1 = x5 → s42 40 0 0 = x10 → ((1 ≤ v6_41 ∧ v6_41 ≤ 10000) ∧ (pm_J2 s42 ∧ ∀ q : Int, 1 ≤ q → q < v6_41 → s42 50 0 q = cd q)) → (10001 - v6_41).toNat < N → G 192 [some (.inr (.inr (40, 0))), some (.inl aa), none, some (.inl ac), none, none, some (.inl v6_41), none, none] [] 122 s42 := by
                        intro N
                        induction N with
                        | zero => intro v6_41 s42 R43 F44 k46 k47 inv48 hm49; exact absurd hm49 (Nat.not_lt_zero _)
                        | succ N ih45 =>
                          intro v6_41 s42 R43 F44 k46 k47 inv48 hm49
                          have jj50 := F44 40 0 0 rfl
                          have jj51 := F44 40 0 1 rfl
                          have jj52 := F44 40 0 2 rfl
                          have Js42 := (inv48.2).1
                          have W := (inv48.2).2
                          refine px_iload hG dX11_grow_192 rfl ?_
                          refine px_aload_n hG dX11_grow_194 rfl ?_
                          refine gi_40_1 hG dX11_grow_195 fl_X11_7 R43 (fun x53 ex53 lx53 ux53 => ?_)
                          have ex53 : s0 40 0 1 = x53 := (F44 40 0 1 rfl).symm.trans ex53
                          refine px_ic_gt hG dX11_grow_198 (tgt := 225) (by decide) ⟨by omega, by omega⟩ ⟨by omega, by omega⟩ (fun c54 => ?_) (fun c54 => ?_)
                          · refine px_aload_n hG dX11_grow_225 rfl ?_
                            refine jv0 hG dX11_grow_226 ct_X11_plant lk_X11_225 ⟨rfl, rfl⟩ (by decide) ⟨Nat.le_of_ble_eq_true rfl, Nat.le_of_ble_eq_true rfl, Nat.le_of_ble_eq_true rfl⟩ (Nat.le_of_ble_eq_true rfl) ⟨rfl, rfl, R43, ⟨by rw [F44 40 0 1 rfl]; exact pm_PT_it (fun q a b => W q a (by omega)) GW PTS, Js42⟩⟩ (fun r55 t57 pr55 => ?_)
                            obtain ⟨rfl, Rt57, Ft57, br55⟩ := pr55 rfl
                            have Ff59 := pm_Fr_tr F44 Ft57 (M := [(40, some 3), (41, none), (42, none), (50, none), (51, none)]) rfl
                            have jj60 := Ft57 40 0 0 rfl
                            have jj61 := Ft57 40 0 1 rfl
                            have jj62 := Ft57 40 0 2 rfl
                            have Jt57 : pm_J2 t57 := br55
                            have k63 : t57 40 0 1 = x5 := (Ft57 40 0 1 rfl).trans k46
                            have k64 : t57 40 0 0 = x10 := (Ft57 40 0 0 rfl).trans k47
                            show G 229 [some (.inr (.inr (40, 0))), some (.inl aa), none, some (.inl ac), none, none, some (.inl v6_41), none, none] [] 122 t57
                            refine px_aload_n hG dX11_grow_229 rfl ?_
                            refine gi_40_1 hG dX11_grow_230 fl_X11_7 Rt57 (fun x65 ex65 lx65 ux65 => ?_)
                            have ex65 : s0 40 0 1 = x65 := (Ff59 40 0 1 rfl).symm.trans ex65
                            have jj66 := Ff59 40 0 0 rfl
                            have jj67 := Ff59 40 0 1 rfl
                            have jj68 := Ff59 40 0 2 rfl
                            exact px_iret (st := []) hG dX11_grow_233 rfl rfl (fun aa_1 ab_1 ac_1 ee => by cases ee; exact ⟨_, rfl, Rt57, Ff59, Jt57⟩)
                          · refine px_aload_n hG dX11_grow_201 rfl ?_
                            refine gr_40_13 hG dX11_grow_202 fl_X11_42 R43 ?_
                            refine px_iload hG dX11_grow_205 rfl ?_
                            refine px_aload_n hG dX11_grow_207 rfl ?_
                            refine px_iload_n hG dX11_grow_208 rfl ?_
                            refine px_iload_n hG dX11_grow_209 rfl ?_
                            refine px_iload hG dX11_grow_210 rfl ?_
                            refine px_iadd hG dX11_grow_212 ?_
                            refine px_iconst hG dX11_grow_213 ?_
                            refine px_isub hG dX11_grow_214 ?_
                            refine jv2 hG dX11_grow_215 ct_X11_read lk_X11_218 ⟨rfl, rfl⟩ (by decide) ⟨Nat.le_of_ble_eq_true rfl, Nat.le_of_ble_eq_true rfl, Nat.le_of_ble_eq_true rfl⟩ (Nat.le_of_ble_eq_true rfl) ⟨aa, ((ac + v6_41) - 1), rfl, rfl, R43, by omega⟩ (fun r69 t70 pr69 => ?_)
                            obtain ⟨x71, rfl, rfl, br69⟩ := pr69 _ _ rfl
                            show G 218 [some (.inr (.inr (40, 0))), some (.inl aa), none, some (.inl ac), none, none, some (.inl v6_41), none, none] [.inl x71, .inl v6_41, .inr (.inr (50, 0))] 122 s42
                            have XC : x71 = cd v6_41 := by rw [CD v6_41, ← F44 66 0 (20 * aa + (ac + v6_41 - 1)) rfl]; exact br69.1
                            have G1 := GW v6_41 (by omega) (by omega)
                            refine as_50 hG dX11_grow_218 R43 (by omega) (by omega) (fun s72 qs72 Rs72 => ?_)
                            have Fs72 := pm_Fr_up (F44) qs72 (M := [(40, some 3), (41, none), (42, none), (50, none), (51, none)]) rfl
                            have k73 : s72 40 0 1 = x5 := (pm_nec qs72 (by decide)).trans k46
                            have k74 : s72 40 0 0 = x10 := (pm_nec qs72 (by decide)).trans k47
                            have jj75 := pm_nec qs72 (c' := 40) (r' := 0) (i' := 0) (by decide)
                            have jj76 := pm_nec qs72 (c' := 40) (r' := 0) (i' := 1) (by decide)
                            have jj77 := pm_nec qs72 (c' := 40) (r' := 0) (i' := 2) (by decide)
                            have jj78 := pm_nec qs72 (c' := 40) (r' := 0) (i' := 3) (by decide)
                            have Js72 := pm_J2_up qs72 (by decide) (by decide) Js42
                            have E := qs72
                            refine px_iinc hG dX11_grow_219 (Nat.le_of_ble_eq_true rfl) rfl (L2 := [some (.inr (.inr (40, 0))), some (.inl aa), none, some (.inl ac), none, none, some (.inl (v6_41 + 1)), none, none]) rfl ?_
                            refine px_goto hG dX11_grow_222 (tgt := 192) (by decide) ?_
                            exact ih45 (v6_41 + 1) s72 Rs72 Fs72 k73 k74 (⟨by omega, ⟨Js72, pm_pc_s W E XC⟩⟩) (by omega)
                      refine px_weak hG (L2 := [some (.inr (.inr (40, 0))), some (.inl aa), none, some (.inl ac), none, none, some (.inl 1), none, none]) ⟨Or.inr rfl, Or.inr rfl, Or.inr rfl, Or.inr rfl, Or.inr rfl, Or.inl rfl, Or.inr rfl, Or.inr rfl, Or.inr rfl, trivial⟩ ?_
                      exact L192 _ 1 s34 Rs34 Fs34 k35 k36 (⟨by omega, ⟨Js34, fun q a b => by omega⟩⟩) (Nat.lt_succ_self _)
                    · refine px_bipush hG dX11_grow_179 (by decide) ?_
                      exact px_iret (st := []) hG dX11_grow_181 rfl rfl (fun aa_1 ab_1 ac_1 ee => by cases ee; exact ⟨_, rfl, R0, pm_Fr_rf, J2⟩)
                  refine px_ic_gt hG dX11_grow_108 (tgt := 174) (by decide) ⟨by omega, by omega⟩ ⟨by omega, by omega⟩ (fun c30 => ?_) (fun c30 => ?_)
                  · refine px_weak hG (L2 := [some (.inr (.inr (40, 0))), some (.inl aa), none, some (.inl ac), none, some (.inl v5_24), none, none, none]) ⟨Or.inr rfl, Or.inr rfl, Or.inr rfl, Or.inr rfl, Or.inr rfl, Or.inr rfl, Or.inl rfl, Or.inr rfl, Or.inr rfl, trivial⟩ ?_
                    exact J174_31  (by omega)
                  · refine px_iload hG dX11_grow_111 rfl ?_
                    refine px_if_eq hG dX11_grow_113 (tgt := 174) (by decide) ⟨by omega, by omega⟩ (fun c79 => ?_) (fun c79 => ?_)
                    · refine px_weak hG (L2 := [some (.inr (.inr (40, 0))), some (.inl aa), none, some (.inl ac), none, some (.inl v5_24), none, none, none]) ⟨Or.inr rfl, Or.inr rfl, Or.inr rfl, Or.inr rfl, Or.inr rfl, Or.inr rfl, Or.inl rfl, Or.inr rfl, Or.inr rfl, trivial⟩ ?_
                      exact J174_31  (by omega)
                    · have GA := U.resolve_left (by omega)
                      have GW := GA.2.1
                      refine px_iload hG dX11_grow_116 rfl ?_
                      refine px_istore hG dX11_grow_118 (Nat.le_of_ble_eq_true rfl) (L2 := [some (.inr (.inr (40, 0))), some (.inl aa), none, some (.inl ac), none, some (.inl v5_24), some (.inl v6_25), some (.inl v6_25), none]) rfl ?_
                      refine px_iconst hG dX11_grow_120 ?_
                      refine px_istore hG dX11_grow_121 (Nat.le_of_ble_eq_true rfl) (L2 := [some (.inr (.inr (40, 0))), some (.inl aa), none, some (.inl ac), none, some (.inl v5_24), some (.inl v6_25), some (.inl v6_25), some (.inl 0)]) rfl ?_
                      have L123 : ∀ (N : Nat) (v7_80 : Int) (v8_81 : Int), ((0 ≤ v8_81 ∧ v8_81 ≤ 10000) ∧ (0 ≤ v7_80 ∧ v7_80 ≤ s0 40 0 1 ∧ v8_81 ≤ s0 40 0 1 + 1 ∧ v7_80 = pm_it cd v8_81.toNat v6_25)) → (10001 - v8_81).toNat < N → G 123 [some (.inr (.inr (40, 0))), some (.inl aa), none, some (.inl ac), none, none, some (.inl v6_25), some (.inl v7_80), some (.inl v8_81)] [] 122 s0 := by
                        intro N
                        induction N with
                        | zero => intro v7_80 v8_81 inv83 hm84; exact absurd hm84 (Nat.not_lt_zero _)
                        | succ N ih82 =>
                          intro v7_80 v8_81 inv83 hm84
                          have V1 := (inv83.2).1
                          have V2 := (inv83.2).2.1
                          have V3 := (inv83.2).2.2.1
                          have V4 := (inv83.2).2.2.2
                          refine px_iload hG dX11_grow_123 rfl ?_
                          refine px_aload_n hG dX11_grow_125 rfl ?_
                          refine gi_40_1 hG dX11_grow_126 fl_X11_7 R0 (fun x85 ex85 lx85 ux85 => ?_)
                          have J156_87 : ((v8_81 > x85) ∨ (¬ (v8_81 > x85) ∧ v7_80 = 0)) → G 156 [some (.inr (.inr (40, 0))), some (.inl aa), none, some (.inl ac), none, none, some (.inl v6_25), some (.inl v7_80), none] [] 122 s0 := by
                            intro inv88
                            have HJ := pm_itx V4 (by omega)
                            refine px_iload hG dX11_grow_156 rfl ?_
                            refine px_if_ne hG dX11_grow_158 (tgt := 165) (by decide) ⟨by omega, by omega⟩ (fun c89 => ?_) (fun c89 => ?_)
                            · refine px_iconst hG dX11_grow_165 ?_
                              refine px_istore hG dX11_grow_166 (Nat.le_of_ble_eq_true rfl) (L2 := [some (.inr (.inr (40, 0))), some (.inl aa), none, some (.inl ac), none, some (.inl 0), some (.inl v6_25), some (.inl v7_80), none]) rfl ?_
                              refine px_iinc hG dX11_grow_168 (Nat.le_of_ble_eq_true rfl) rfl (L2 := [some (.inr (.inr (40, 0))), some (.inl aa), none, some (.inl ac), none, some (.inl 0), some (.inl (v6_25 + 1)), some (.inl v7_80), none]) rfl ?_
                              refine px_goto hG dX11_grow_171 (tgt := 102) (by decide) ?_
                              refine px_weak hG (L2 := [some (.inr (.inr (40, 0))), some (.inl aa), none, some (.inl ac), none, some (.inl 0), some (.inl (v6_25 + 1)), none, none]) ⟨Or.inr rfl, Or.inr rfl, Or.inr rfl, Or.inr rfl, Or.inr rfl, Or.inr rfl, Or.inr rfl, Or.inl rfl, Or.inr rfl, trivial⟩ ?_
                              exact ih26 0 (v6_25 + 1) (⟨by omega, pm_gr_t GA HJ (by omega)⟩) (by omega)
                            · refine px_iconst hG dX11_grow_161 ?_
                              refine px_goto hG dX11_grow_162 (tgt := 166) (by decide) ?_
                              refine px_istore hG dX11_grow_166 (Nat.le_of_ble_eq_true rfl) (L2 := [some (.inr (.inr (40, 0))), some (.inl aa), none, some (.inl ac), none, some (.inl 1), some (.inl v6_25), some (.inl v7_80), none]) rfl ?_
                              refine px_iinc hG dX11_grow_168 (Nat.le_of_ble_eq_true rfl) rfl (L2 := [some (.inr (.inr (40, 0))), some (.inl aa), none, some (.inl ac), none, some (.inl 1), some (.inl (v6_25 + 1)), some (.inl v7_80), none]) rfl ?_
                              refine px_goto hG dX11_grow_171 (tgt := 102) (by decide) ?_
                              refine px_weak hG (L2 := [some (.inr (.inr (40, 0))), some (.inl aa), none, some (.inl ac), none, some (.inl 1), some (.inl (v6_25 + 1)), none, none]) ⟨Or.inr rfl, Or.inr rfl, Or.inr rfl, Or.inr rfl, Or.inr rfl, Or.inr rfl, Or.inr rfl, Or.inl rfl, Or.inr rfl, trivial⟩ ?_
                              exact ih26 1 (v6_25 + 1) (⟨by omega, pm_gr_t GA HJ (by omega)⟩) (by omega)
                          refine px_ic_gt hG dX11_grow_129 (tgt := 156) (by decide) ⟨by omega, by omega⟩ ⟨by omega, by omega⟩ (fun c86 => ?_) (fun c86 => ?_)
                          · refine px_weak hG (L2 := [some (.inr (.inr (40, 0))), some (.inl aa), none, some (.inl ac), none, none, some (.inl v6_25), some (.inl v7_80), none]) ⟨Or.inr rfl, Or.inr rfl, Or.inr rfl, Or.inr rfl, Or.inr rfl, Or.inr rfl, Or.inr rfl, Or.inr rfl, Or.inl rfl, trivial⟩ ?_
                            exact J156_87  (by omega)
                          · refine px_iload hG dX11_grow_132 rfl ?_
                            refine px_if_eq hG dX11_grow_134 (tgt := 156) (by decide) ⟨by omega, by omega⟩ (fun c90 => ?_) (fun c90 => ?_)
                            · refine px_weak hG (L2 := [some (.inr (.inr (40, 0))), some (.inl aa), none, some (.inl ac), none, none, some (.inl v6_25), some (.inl v7_80), none]) ⟨Or.inr rfl, Or.inr rfl, Or.inr rfl, Or.inr rfl, Or.inr rfl, Or.inr rfl, Or.inr rfl, Or.inr rfl, Or.inl rfl, trivial⟩ ?_
                              exact J156_87  (by omega)
                            · refine px_aload_n hG dX11_grow_137 rfl ?_
                              refine px_iload_n hG dX11_grow_138 rfl ?_
                              refine px_iload_n hG dX11_grow_139 rfl ?_
                              refine px_iload hG dX11_grow_140 rfl ?_
                              refine px_iadd hG dX11_grow_142 ?_
                              refine px_iconst hG dX11_grow_143 ?_
                              refine px_isub hG dX11_grow_144 ?_
                              refine jv2 hG dX11_grow_145 ct_X11_read lk_X11_218 ⟨rfl, rfl⟩ (by decide) ⟨Nat.le_of_ble_eq_true rfl, Nat.le_of_ble_eq_true rfl, Nat.le_of_ble_eq_true rfl⟩ (Nat.le_of_ble_eq_true rfl) ⟨aa, ((ac + v7_80) - 1), rfl, rfl, R0, by omega⟩ (fun r91 t92 pr91 => ?_)
                              obtain ⟨x93, rfl, rfl, br91⟩ := pr91 _ _ rfl
                              show G 148 [some (.inr (.inr (40, 0))), some (.inl aa), none, some (.inl ac), none, none, some (.inl v6_25), some (.inl v7_80), some (.inl v8_81)] [.inl x93] 122 s0
                              have XC : x93 = cd v7_80 := by rw [CD v7_80]; exact br91.1
                              have G1 := GW v7_80 (by omega) (by omega)
                              refine px_istore hG dX11_grow_148 (Nat.le_of_ble_eq_true rfl) (L2 := [some (.inr (.inr (40, 0))), some (.inl aa), none, some (.inl ac), none, none, some (.inl v6_25), some (.inl x93), some (.inl v8_81)]) rfl ?_
                              refine px_iinc hG dX11_grow_150 (Nat.le_of_ble_eq_true rfl) rfl (L2 := [some (.inr (.inr (40, 0))), some (.inl aa), none, some (.inl ac), none, none, some (.inl v6_25), some (.inl x93), some (.inl (v8_81 + 1))]) rfl ?_
                              refine px_goto hG dX11_grow_153 (tgt := 123) (by decide) ?_
                              exact ih82 x93 (v8_81 + 1) (⟨by omega, ⟨by omega, by omega, by omega, by rw [pm_it_s (by omega), ← V4]; exact XC⟩⟩) (by omega)
                      refine px_weak hG (L2 := [some (.inr (.inr (40, 0))), some (.inl aa), none, some (.inl ac), none, none, some (.inl v6_25), some (.inl v6_25), some (.inl 0)]) ⟨Or.inr rfl, Or.inr rfl, Or.inr rfl, Or.inr rfl, Or.inr rfl, Or.inl rfl, Or.inr rfl, Or.inr rfl, Or.inr rfl, trivial⟩ ?_
                      exact L123 _ v6_25 0 (⟨by omega, ⟨by omega, by omega, by omega, rfl⟩⟩) (Nat.lt_succ_self _)
              exact L102 _ v5_15 1 (⟨by omega, U.imp id (fun h => ⟨h.1, fun q a b => h.2 q a (by omega), fun q a b => by omega⟩)⟩) (Nat.lt_succ_self _)
            refine px_ic_gt hG dX11_grow_54 (tgt := 99) (by decide) ⟨by omega, by omega⟩ ⟨by omega, by omega⟩ (fun c21 => ?_) (fun c21 => ?_)
            · refine px_weak hG (L2 := [some (.inr (.inr (40, 0))), some (.inl aa), none, some (.inl ac), none, some (.inl v5_15), none, none, none]) ⟨Or.inr rfl, Or.inr rfl, Or.inr rfl, Or.inr rfl, Or.inr rfl, Or.inr rfl, Or.inl rfl, Or.inr rfl, Or.inr rfl, trivial⟩ ?_
              exact J99_22  (by omega)
            · refine px_iload hG dX11_grow_57 rfl ?_
              have J91_96 : ∀ (j95 : Int), (j95 = 0 ∨ (j95 = 1 ∧ v5_15 = 1 ∧ 0 ≤ cd v6_16 ∧ cd v6_16 ≤ s0 40 0 1)) → G 91 [some (.inr (.inr (40, 0))), some (.inl aa), none, some (.inl ac), none, none, some (.inl v6_16), none, none] [.inl j95] 122 s0 := by
                intro j95 inv97
                have I1 := inv97
                refine px_istore hG dX11_grow_91 (Nat.le_of_ble_eq_true rfl) (L2 := [some (.inr (.inr (40, 0))), some (.inl aa), none, some (.inl ac), none, some (.inl j95), some (.inl v6_16), none, none]) rfl ?_
                refine px_iinc hG dX11_grow_93 (Nat.le_of_ble_eq_true rfl) rfl (L2 := [some (.inr (.inr (40, 0))), some (.inl aa), none, some (.inl ac), none, some (.inl j95), some (.inl (v6_16 + 1)), none, none]) rfl ?_
                refine px_goto hG dX11_grow_96 (tgt := 48) (by decide) ?_
                exact ih17 j95 (v6_16 + 1) (⟨by omega, pm_gd_s1 U I1⟩) (by omega)
              refine px_if_eq hG dX11_grow_59 (tgt := 90) (by decide) ⟨by omega, by omega⟩ (fun c94 => ?_) (fun c94 => ?_)
              · refine px_iconst hG dX11_grow_90 ?_
                refine px_weak hG (L2 := [some (.inr (.inr (40, 0))), some (.inl aa), none, some (.inl ac), none, none, some (.inl v6_16), none, none]) ⟨Or.inr rfl, Or.inr rfl, Or.inr rfl, Or.inr rfl, Or.inr rfl, Or.inl rfl, Or.inr rfl, Or.inr rfl, Or.inr rfl, trivial⟩ ?_
                exact J91_96 0 (by omega)
              · refine px_aload_n hG dX11_grow_62 rfl ?_
                refine px_iload_n hG dX11_grow_63 rfl ?_
                refine px_iload_n hG dX11_grow_64 rfl ?_
                refine px_iload hG dX11_grow_65 rfl ?_
                refine px_iadd hG dX11_grow_67 ?_
                refine px_iconst hG dX11_grow_68 ?_
                refine px_isub hG dX11_grow_69 ?_
                refine jv2 hG dX11_grow_70 ct_X11_read lk_X11_218 ⟨rfl, rfl⟩ (by decide) ⟨Nat.le_of_ble_eq_true rfl, Nat.le_of_ble_eq_true rfl, Nat.le_of_ble_eq_true rfl⟩ (Nat.le_of_ble_eq_true rfl) ⟨aa, ((ac + v6_16) - 1), rfl, rfl, R0, by omega⟩ (fun r98 t99 pr98 => ?_)
                obtain ⟨x100, rfl, rfl, br98⟩ := pr98 _ _ rfl
                show G 73 [some (.inr (.inr (40, 0))), some (.inl aa), none, some (.inl ac), none, some (.inl v5_15), some (.inl v6_16), none, none] [.inl x100] 122 s0
                have X1 := br98
                have X2 := CD v6_16
                refine px_i2l hG dX11_grow_73 ⟨by omega, by omega⟩ ?_
                refine px_lconst hG dX11_grow_74 ?_
                show G 75 [some (.inr (.inr (40, 0))), some (.inl aa), none, some (.inl ac), none, some (.inl v5_15), some (.inl v6_16), none, none] [.inr (.inl 0), .inr (.inl x100)] 122 s0
                refine px_aload_n hG dX11_grow_75 rfl ?_
                refine gi_40_1 hG dX11_grow_76 fl_X11_7 R0 (fun x101 ex101 lx101 ux101 => ?_)
                refine px_i2l hG dX11_grow_79 ⟨by omega, by omega⟩ ?_
                refine js3 hG dX11_grow_80 ct_X11_in lk_X11_96 ⟨Nat.le_of_ble_eq_true rfl, Nat.le_of_ble_eq_true rfl, Nat.le_of_ble_eq_true rfl⟩ (Nat.le_of_ble_eq_true rfl) ⟨x100, 0, x101, rfl, rfl, R0, by omega⟩ (fun r102 t103 pr102 => ?_)
                obtain ⟨x104, rfl, rfl, br102⟩ := pr102 _ _ _ rfl
                show G 83 [some (.inr (.inr (40, 0))), some (.inl aa), none, some (.inl ac), none, some (.inl v5_15), some (.inl v6_16), none, none] [.inl x104] 122 s0
                refine px_if_eq hG dX11_grow_83 (tgt := 90) (by decide) ⟨by omega, by omega⟩ (fun c105 => ?_) (fun c105 => ?_)
                · refine px_iconst hG dX11_grow_90 ?_
                  refine px_weak hG (L2 := [some (.inr (.inr (40, 0))), some (.inl aa), none, some (.inl ac), none, none, some (.inl v6_16), none, none]) ⟨Or.inr rfl, Or.inr rfl, Or.inr rfl, Or.inr rfl, Or.inr rfl, Or.inl rfl, Or.inr rfl, Or.inr rfl, Or.inr rfl, trivial⟩ ?_
                  exact J91_96 0 (by omega)
                · refine px_iconst hG dX11_grow_86 ?_
                  refine px_goto hG dX11_grow_87 (tgt := 91) (by decide) ?_
                  refine px_weak hG (L2 := [some (.inr (.inr (40, 0))), some (.inl aa), none, some (.inl ac), none, none, some (.inl v6_16), none, none]) ⟨Or.inr rfl, Or.inr rfl, Or.inr rfl, Or.inr rfl, Or.inr rfl, Or.inl rfl, Or.inr rfl, Or.inr rfl, Or.inr rfl, trivial⟩ ?_
                  exact J91_96 1 (by omega)
        exact L48 _ j12 1 (⟨by omega, (show j12 = 0 ∨ j12 = 1 by omega).imp id (fun h => ⟨h, fun q a b => by omega⟩)⟩) (Nat.lt_succ_self _)
      refine px_if_ne hG dX11_grow_35 (tgt := 42) (by decide) ⟨by omega, by omega⟩ (fun c11 => ?_) (fun c11 => ?_)
      · refine px_iconst hG dX11_grow_42 ?_
        refine px_weak hG (L2 := [some (.inr (.inr (40, 0))), some (.inl aa), none, some (.inl ac), none, none, none, none, none]) ⟨Or.inr rfl, Or.inr rfl, Or.inl rfl, Or.inr rfl, Or.inl rfl, Or.inr rfl, Or.inr rfl, Or.inr rfl, Or.inr rfl, trivial⟩ ?_
        exact J43_13 0 (by omega)
      · refine px_iconst hG dX11_grow_38 ?_
        refine px_goto hG dX11_grow_39 (tgt := 43) (by decide) ?_
        refine px_weak hG (L2 := [some (.inr (.inr (40, 0))), some (.inl aa), none, some (.inl ac), none, none, none, none, none]) ⟨Or.inr rfl, Or.inr rfl, Or.inl rfl, Or.inr rfl, Or.inl rfl, Or.inr rfl, Or.inr rfl, Or.inr rfl, Or.inr rfl, trivial⟩ ?_
        exact J43_13 1 (by omega)
    · refine px_iload hG dX11_grow_28 rfl ?_
      exact px_iret (st := []) hG dX11_grow_30 rfl rfl (fun aa_1 ab_1 ac_1 ee => by cases ee; exact ⟨_, rfl, R0, pm_Fr_rf, J2⟩)
  · refine px_iconst hG dX11_grow_8 ?_
    exact px_iret (st := []) hG dX11_grow_9 rfl rfl (fun aa_1 ab_1 ac_1 ee => by cases ee; exact ⟨_, rfl, R0, pm_Fr_rf, J2⟩))
