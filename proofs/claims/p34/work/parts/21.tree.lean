/-! ===== the model: trees and codes ===== -/
def pm_fpl (s0 : pm_H) (i c x : Int) : Prop := 1 ≤ x ∧ x ≤ s0 40 0 3 ∧ (s0 41 0 x < i ∨ (s0 41 0 x = i ∧ x < c))
def pm_fT (s0 s : pm_H) (m i c : Int) : Prop := s 51 0 0 = 0 ∧ s 52 0 0 = 1 ∧ (∀ q : Int, 1 ≤ q → q < m → pm_fpl s0 i c (s 51 0 q)) ∧
  (∀ q : Int, 0 ≤ q → q < m → s 52 0 (s 51 0 q) = q + 1) ∧ ∀ x : Int, pm_fpl s0 i c x → ∃ q : Int, 0 ≤ q ∧ q < m ∧ s 50 0 x = s 51 0 q ∧ q + 1 < s 52 0 x
def pm_tr (s : pm_H) (n : Int) : Prop := ∀ x : Int, 1 ≤ x → x ≤ n → 0 ≤ s 50 0 x ∧ s 50 0 x ≤ n ∧ s 52 0 (s 50 0 x) < s 52 0 x
theorem pm_fT_0 {s0 s s1 s2 : pm_H} (E1 : s1 = pm_up s 51 0 0 0) (E2 : s2 = pm_up s1 52 0 0 1) (h : ∀ j : Int, 1 ≤ j → j ≤ s0 40 0 3 → 1 ≤ s0 41 0 j) : pm_fT s0 s2 1 1 1 := by
  have a : s2 51 0 0 = 0 := (pm_nec E2 (by decide)).trans (pm_at E1)
  have b : s2 52 0 0 = 1 := pm_at E2
  refine ⟨a, b, fun q h1 h2 => by omega, fun q h1 h2 => ?_, fun x hx => ?_⟩
  · have : q = 0 := by omega
    subst this
    rw [a, b]
    rfl
  · have h1 := h x hx.1 hx.2.1
    have h2 := hx.2.2
    have h3 := hx.1
    omega
theorem pm_fT_n {s0 s : pm_H} {m i c : Int} (h : pm_fT s0 s m i c) (hc : s0 41 0 c ≠ i) : pm_fT s0 s m i (c + 1) := by
  have e : ∀ x : Int, pm_fpl s0 i (c + 1) x ↔ pm_fpl s0 i c x := fun x => by
    by_cases z : x = c
    · subst z
      unfold pm_fpl
      constructor
      · intro ⟨a, b, d⟩
        exact ⟨a, b, by omega⟩
      · intro ⟨a, b, d⟩
        exact ⟨a, b, by omega⟩
    · unfold pm_fpl
      constructor
      · intro ⟨a, b, d⟩
        exact ⟨a, b, by omega⟩
      · intro ⟨a, b, d⟩
        exact ⟨a, b, by omega⟩
  exact ⟨h.1, h.2.1, fun q a b => (e _).mpr (h.2.2.1 q a b), h.2.2.2.1, fun x hx => h.2.2.2.2 x ((e x).mp hx)⟩
theorem pm_fT_x {s0 s : pm_H} {m i c : Int} (h : pm_fT s0 s m i c) (hc : s0 40 0 3 < c) : pm_fT s0 s m (i + 1) 1 := by
  have e : ∀ x : Int, pm_fpl s0 (i + 1) 1 x ↔ pm_fpl s0 i c x := fun x => by
    unfold pm_fpl
    constructor
    · intro ⟨a, b, d⟩
      exact ⟨a, b, by omega⟩
    · intro ⟨a, b, d⟩
      exact ⟨a, b, by omega⟩
  exact ⟨h.1, h.2.1, fun q a b => (e _).mpr (h.2.2.1 q a b), h.2.2.2.1, fun x hx => h.2.2.2.2 x ((e x).mp hx)⟩
theorem pm_fT_s {s0 s s3 s4 s5 : pm_H} {m i c x : Int} (h : pm_fT s0 s m i c) (hw : s0 41 0 c = i) (hc : 1 ≤ c ∧ c ≤ s0 40 0 3) (hi : 1 ≤ i) (him : i ≤ m) (hx : s 51 0 (i - 1) = x)
    (E3 : s3 = pm_up s 50 0 c x) (E4 : s4 = pm_up s3 51 0 m c) (E5 : s5 = pm_up s4 52 0 c (m + 1)) : pm_fT s0 s5 (m + 1) i (c + 1) := by
  obtain ⟨h0, h1, h2, h3, h4⟩ := h
  have e51 : ∀ q : Int, q ≠ m → s5 51 0 q = s 51 0 q := fun q z => ((pm_nec E5 (by decide)).trans (pm_nei E4 z)).trans (pm_nec E3 (by decide))
  have m51 : s5 51 0 m = c := (pm_nec E5 (by decide)).trans (pm_at E4)
  have e52 : ∀ q : Int, q ≠ c → s5 52 0 q = s 52 0 q := fun q z => ((pm_nei E5 z).trans (pm_nec E4 (by decide))).trans (pm_nec E3 (by decide))
  have m52 : s5 52 0 c = m + 1 := pm_at E5
  have e50 : ∀ q : Int, q ≠ c → s5 50 0 q = s 50 0 q := fun q z => ((pm_nec E5 (by decide)).trans (pm_nec E4 (by decide))).trans (pm_nei E3 z)
  have m50 : s5 50 0 c = x := ((pm_nec E5 (by decide)).trans (pm_nec E4 (by decide))).trans (pm_at E3)
  have nc : ∀ q : Int, 0 ≤ q → q < m → s 51 0 q ≠ c := fun q a b z => by
    by_cases q0 : q = 0
    · subst q0
      omega
    · have := (h2 q (by omega) b).2.2
      rw [z] at this
      omega
  have pf : ∀ x : Int, pm_fpl s0 i c x → pm_fpl s0 i (c + 1) x := fun x ⟨a, b, d⟩ => ⟨a, b, by omega⟩
  refine ⟨by rw [e51 0 (by omega)]; exact h0, by rw [e52 0 (by omega)]; exact h1, fun q a b => ?_, fun q a b => ?_, fun y hy => ?_⟩
  · by_cases z : q = m
    · subst z
      rw [m51]
      exact ⟨hc.1, hc.2, Or.inr ⟨hw, by omega⟩⟩
    · rw [e51 q z]
      exact pf _ (h2 q a (by omega))
  · by_cases z : q = m
    · subst z
      rw [m51, m52]
    · rw [e51 q z, e52 _ (nc q a (by omega))]
      exact h3 q a (by omega)
  · by_cases z : y = c
    · subst z
      exact ⟨i - 1, by omega, by omega, by rw [m50, e51 _ (by omega)]; exact hx.symm, by rw [m52]; omega⟩
    · obtain ⟨q, a, b, d, f⟩ := h4 y ⟨hy.1, hy.2.1, by have := hy.2.2; omega⟩
      exact ⟨q, a, by omega, by rw [e50 y z, e51 q (by omega)]; exact d, by rw [e52 y z]; exact f⟩
theorem pm_fT_e {s0 s : pm_H} {m i n : Int} (h : pm_fT s0 s m i 1) (hw : ∀ j : Int, 1 ≤ j → j ≤ n → s0 41 0 j < i) (hk : s0 40 0 3 = n) : pm_tr s n := fun x a b => by
  obtain ⟨h0, h1, h2, h3, h4⟩ := h
  obtain ⟨q, q0, q1, q2, q3⟩ := h4 x ⟨a, by omega, Or.inl (hw x a b)⟩
  rw [q2, h3 q q0 q1]
  by_cases z : q = 0
  · subst z
    omega
  · have := h2 q (by omega) q1
    exact ⟨by have := this.1; omega, by have := this.2.1; omega, q3⟩
theorem pm_fTp {M : List (Nat × Option Int)} {σ τ : pm_H} (h : pm_Fr M σ τ) (hm : pm_j2M M = true) (q : σ 40 0 3 = σ 40 0 1 ∧ pm_pl σ ∧ (∀ p : Int, 0 ≤ p → p ≤ σ 40 0 1 → pm_gt (σ 41 0) p (σ 40 0 3).toNat ≤ σ 40 0 1 - p)) : τ 40 0 3 = τ 40 0 1 ∧ (∀ p : Int, 0 ≤ p → p ≤ τ 40 0 1 → pm_gt (τ 41 0) p (τ 40 0 3).toNat ≤ τ 40 0 1 - p) := by
  have h1 := h 40 0 1 (pm_j2M_in hm 40 1 (Or.inr ⟨rfl, Or.inl rfl⟩))
  have h3 := h 40 0 3 (pm_j2M_in hm 40 3 (Or.inr ⟨rfl, Or.inr rfl⟩))
  have h4 : τ 41 0 = σ 41 0 := funext fun i => h 41 0 i (pm_j2M_in hm 41 i (Or.inl rfl))
  rw [h1, h3, h4]
  exact ⟨q.1, q.2.2⟩
theorem pm_tr_up {s s' : pm_H} {c : Nat} {r i x n : Int} (e : s' = pm_up s c r i x) (h : 50 ≠ c) (h1 : 52 ≠ c) (T : pm_tr s n) : pm_tr s' n := fun y a b => by
  rw [pm_nec e h, pm_nec e h1, pm_nec e h1]
  exact T y a b
/-! neighbours that stand -/
def pm_nbH (s : pm_H) (nd : Int) : Prop := 1 ≤ nd ∧ s 53 0 nd = 0 ∧ s 53 0 (s 50 0 nd) = 0
def pm_nb (s : pm_H) (nd : Int) : Nat → Int
  | 0 => 0
  | k + 1 => pm_nb s nd k + (if (k : Int) + 1 ≠ nd ∧ s 50 0 ((k : Int) + 1) = nd ∧ s 53 0 ((k : Int) + 1) = 0 then 1 else 0)
theorem pm_nb_nn (s : pm_H) (nd : Int) (k : Nat) : 0 ≤ pm_nb s nd k := by
  induction k with
  | zero => exact Int.le_refl _
  | succ k ih => simp only [pm_nb]; split <;> omega
theorem pm_nb_0 {s : pm_H} {nd : Int} {k : Nat} (h : ∀ y : Int, 1 ≤ y → y ≤ k → s 50 0 y = nd → s 53 0 y ≠ 0) : pm_nb s nd k = 0 := by
  induction k with
  | zero => rfl
  | succ k ih =>
    simp only [pm_nb]
    rw [ih (fun y a b => h y a (by omega)), if_neg (fun z => h ((k : Int) + 1) (by omega) (by omega) z.2.1 z.2.2)]
    rfl
theorem pm_nb_1 {s : pm_H} {nd y : Int} {k : Nat} (h1 : 1 ≤ y) (h2 : y ≤ k) (h3 : y ≠ nd) (h4 : s 50 0 y = nd) (h5 : s 53 0 y = 0) : 1 ≤ pm_nb s nd k := by
  induction k with
  | zero => omega
  | succ k ih =>
    simp only [pm_nb]
    by_cases z : y = (k : Int) + 1
    · subst z
      rw [if_pos ⟨h3, h4, h5⟩]
      have := pm_nb_nn s nd k
      omega
    · have := ih (by omega)
      split <;> omega
theorem pm_nb_s {s : pm_H} {nd c : Int} (hc : 1 ≤ c) : pm_nb s nd (c + 1 - 1).toNat = pm_nb s nd (c - 1).toNat + (if c ≠ nd ∧ s 50 0 c = nd ∧ s 53 0 c = 0 then 1 else 0) := by
  have e : (c + 1 - 1).toNat = (c - 1).toNat + 1 := by omega
  have e2 : (((c - 1).toNat : Nat) : Int) + 1 = c := by omega
  rw [e]
  simp only [pm_nb]
  rw [e2]
theorem pm_nb_st {s : pm_H} {nd c o m m' : Int} (hc : 1 ≤ c) (U : pm_nbH s nd → m = (if nd < c then 1 else 0) + pm_nb s nd (c - 1).toNat)
    (J : (c = nd ∧ o = s 50 0 nd) ∨ (c ≠ nd ∧ s 50 0 c = nd ∧ o = c) ∨ (c ≠ nd ∧ s 50 0 c ≠ nd ∧ o = -1)) (hp : pm_nbH s nd → 0 ≤ s 50 0 nd)
    (K : (o < 0 ∧ m' = m) ∨ (0 ≤ o ∧ s 53 0 c ≠ 0 ∧ m' = m) ∨ (0 ≤ o ∧ s 53 0 o ≠ 0 ∧ m' = m) ∨ (0 ≤ o ∧ s 53 0 c = 0 ∧ s 53 0 o = 0 ∧ m' = m + 1)) :
    pm_nbH s nd → m' = (if nd < c + 1 then 1 else 0) + pm_nb s nd (c + 1 - 1).toNat := fun h => by
  have u := U h
  have p := hp h
  obtain ⟨h1, h2, h3⟩ := h
  rw [pm_nb_s hc]
  have X : ((if c ≠ nd ∧ s 50 0 c = nd ∧ s 53 0 c = 0 then (1 : Int) else 0) = 1 ∧ c ≠ nd ∧ s 50 0 c = nd ∧ s 53 0 c = 0) ∨ ((if c ≠ nd ∧ s 50 0 c = nd ∧ s 53 0 c = 0 then (1 : Int) else 0) = 0 ∧ ¬ (c ≠ nd ∧ s 50 0 c = nd ∧ s 53 0 c = 0)) := by
    by_cases q : c ≠ nd ∧ s 50 0 c = nd ∧ s 53 0 c = 0
    · exact Or.inl ⟨if_pos q, q⟩
    · exact Or.inr ⟨if_neg q, q⟩
  generalize (if c ≠ nd ∧ s 50 0 c = nd ∧ s 53 0 c = 0 then (1 : Int) else 0) = w at X ⊢
  rcases J with ⟨j1, j2⟩ | ⟨j1, j2, j3⟩ | ⟨j1, j2, j3⟩
  · subst j1 j2
    rcases X with ⟨_, x, _⟩ | ⟨x, _⟩
    · exact absurd rfl x
    · rcases K with k | k | k | k
      · omega
      · exact absurd h2 k.2.1
      · exact absurd h3 k.2.1
      · split at u <;> split <;> omega
  · subst j3
    rcases X with ⟨x, x1⟩ | ⟨x, x1⟩
    · rcases K with k | k | k | k
      · omega
      · exact absurd x1.2.2 k.2.1
      · exact absurd x1.2.2 k.2.1
      · split at u <;> split <;> omega
    · have z : s 53 0 o ≠ 0 := fun z => x1 ⟨j1, j2, z⟩
      rcases K with k | k | k | k
      · omega
      · split at u <;> split <;> omega
      · split at u <;> split <;> omega
      · exact absurd k.2.1 z
  · rcases X with ⟨_, x⟩ | ⟨x, _⟩
    · exact absurd x.2.1 j2
    · rcases K with k | k | k | k
      · split at u <;> split <;> omega
      · omega
      · omega
      · omega
/-! what stands is a tree: it has a leaf -/
def pm_cl (s : pm_H) (n : Int) : Prop := s 53 0 0 = 0 ∧ ∀ x : Int, 1 ≤ x → x ≤ n → s 53 0 x = 0 → s 53 0 (s 50 0 x) = 0
theorem pm_z53 {s s' : pm_H} {v : Int} (h : ∀ i : Int, 0 ≤ i → i < v → s 53 0 i = 0) (e : s' = pm_up s 53 0 v 0) : ∀ i : Int, 0 ≤ i → i < v + 1 → s' 53 0 i = 0 := pm_zstep h e
theorem pm_oc_0 {o : Int → Int} {p : Int} {k : Nat} (h : ∀ q : Int, 1 ≤ q → q ≤ k → o q = 0) : pm_oc o p k = 0 := by
  induction k with
  | zero => rfl
  | succ k ih =>
    simp only [pm_oc]
    have := h ((k : Int) + 1) (by omega) (by omega)
    rw [ih (fun q a b => h q a (by omega)), if_neg (fun w => w.2 this)]
    rfl
theorem pm_oc_all {o : Int → Int} {k : Nat} (h : ∀ q : Int, 1 ≤ q → q ≤ k → o q ≠ 0) : pm_oc o 0 k = k := by
  induction k with
  | zero => rfl
  | succ k ih =>
    simp only [pm_oc]
    rw [ih (fun q a b => h q a (by omega)), if_pos ⟨by omega, h ((k : Int) + 1) (by omega) (by omega)⟩]
    omega
theorem pm_cl_s {s s' : pm_H} {n a : Int} (C : pm_cl s n) (e : s' = pm_up s 53 0 a 1) (ha : 1 ≤ a) (N : ∀ y : Int, 1 ≤ y → y ≤ n → s 50 0 y = a → s 53 0 y ≠ 0) : pm_cl s' n := by
  refine ⟨by rw [pm_nei e (by omega)]; exact C.1, fun x h1 h2 h3 => ?_⟩
  have xa : x ≠ a := fun z => by
    subst z
    rw [pm_at e] at h3
    omega
  rw [pm_nei e xa] at h3
  rw [pm_nec e (c' := 50) (by decide)]
  have pa : s 50 0 x ≠ a := fun z => N x h1 h2 z h3
  rw [pm_nei e pa]
  exact C.2 x h1 h2 h3
theorem pm_leaf1 {s : pm_H} {n : Int} (T : pm_tr s n) (R : pm_Rng s) (N : Nat) : ∀ x : Int, 1 ≤ x → x ≤ n → s 53 0 x = 0 → 11 - s 52 0 x < N → ∃ l : Int, 1 ≤ l ∧ l ≤ n ∧ s 53 0 l = 0 ∧ ∀ y : Int, 1 ≤ y → y ≤ n → s 50 0 y = l → s 53 0 y ≠ 0 := by
  induction N with
  | zero =>
    intro x h1 h2 h3 h4
    have a : s 52 0 x ≤ 11 := (R 52 0 x).2
    omega
  | succ N ih =>
    intro x h1 h2 h3 h4
    by_cases q : ∃ y : Int, 1 ≤ y ∧ y ≤ n ∧ s 50 0 y = x ∧ s 53 0 y = 0
    · obtain ⟨y, y1, y2, y3, y4⟩ := q
      have t := (T y y1 y2).2.2
      rw [y3] at t
      exact ih y y1 y2 y4 (by omega)
    · exact ⟨x, h1, h2, h3, fun y y1 y2 y3 y4 => q ⟨y, y1, y2, y3, y4⟩⟩
theorem pm_leaf {s : pm_H} {n t : Int} (T : pm_tr s n) (R : pm_Rng s) (h1 : 1 ≤ n) (ht : t < n) (C : pm_oc (s 53 0) 0 n.toNat ≤ t) : ∃ l : Int, 1 ≤ l ∧ l ≤ n ∧ s 53 0 l = 0 ∧ ∀ y : Int, 1 ≤ y → y ≤ n → s 50 0 y = l → s 53 0 y ≠ 0 := by
  by_cases q : ∃ x : Int, 1 ≤ x ∧ x ≤ n ∧ s 53 0 x = 0
  · obtain ⟨x, x1, x2, x3⟩ := q
    exact pm_leaf1 T R (12 - s 52 0 x).toNat x x1 x2 x3 (by have a : s 52 0 x ≤ 11 := (R 52 0 x).2; omega)
  · have a := pm_oc_all (o := s 53 0) (k := n.toNat) (fun x a b z => q ⟨x, a, by omega, z⟩)
    omega
theorem pm_cl_0 {s : pm_H} {n : Int} (h : ∀ q : Int, 0 ≤ q → q ≤ n → s 53 0 q = 0) (T : pm_tr s n) (hn : 0 ≤ n) : pm_cl s n := ⟨h 0 (by omega) hn, fun x a b _ => h _ (T x a b).1 (T x a b).2.1⟩

def pre_X11_findTreet (as : List pm_V) (n : Nat) (σ : pm_H) : Prop := as = [.inr (.inr (40, 0))] ∧ n = 122 ∧ pm_Rng σ ∧ ((σ 40 0 3 = σ 40 0 1 ∧ (∀ p : Int, 0 ≤ p → p ≤ σ 40 0 1 → pm_gt (σ 41 0) p (σ 40 0 3).toNat ≤ σ 40 0 1 - p)) ∧ pm_J2 σ)
def po_X11_findTreet (as : List pm_V) (_ : Nat) (σ : pm_H) (r : Option pm_V) (τ : pm_H) : Prop := as = [.inr (.inr (40, 0))] → r = none ∧ pm_Rng τ ∧ pm_Fr [(50, none), (51, none), (52, none)] σ τ ∧ (pm_tr τ (σ 40 0 1))
set_option maxRecDepth 20000 in
set_option maxHeartbeats 4000000 in
theorem ct_X11_findTreet : pm_Ct yX11_findTree cX11_findTree 4 none 0 0 pre_X11_findTreet po_X11_findTreet := pm_sound (ini := false) (by decide +kernel) pk_X11_findTree (fun h => absurd h (by decide)) (by
  rintro as n s0 ⟨rfl, rfl, R0, hpre⟩
  refine ⟨by decide, Nat.le_of_ble_eq_true rfl, fun G hG => ?_⟩
  have hG : pm_Rules (RX11, 0, 122, cX11_findTree, -1, (fun _ => 0), false, none, po_X11_findTreet [.inr (.inr (40, 0))] 122 s0) G := hG
  show G 0 [some (.inr (.inr (40, 0))), none, none, none] [] 122 s0
  have B0 := pb_40_0 R0
  have B1 := pb_40_1 R0
  have B2 := pb_40_2 R0
  have B3 := pb_40_3 R0
  have J2 := hpre.2
  have HP := hpre.1
  have JK := J2.1
  have JW := J2.2
  have GD : pm_gd (s0 41 0) (s0 40 0 3).toNat := ⟨fun j a b => (JW j a (by omega)).1, fun p a b => by have q := HP.2 p a (by omega); omega⟩
  refine px_iconst hG dX11_findTree_0 ?_
  refine px_istore_n hG dX11_findTree_1 (Nat.le_of_ble_eq_true rfl) (L2 := [some (.inr (.inr (40, 0))), some (.inl 1), none, none]) rfl ?_
  refine px_aload_n hG dX11_findTree_2 rfl ?_
  refine gr_40_14 hG dX11_findTree_3 fl_X11_45 R0 ?_
  refine px_iconst hG dX11_findTree_6 ?_
  refine px_iconst hG dX11_findTree_7 ?_
  refine as_51 hG dX11_findTree_8 R0 (by omega) (by omega) (fun s1 qs1 Rs1 => ?_)
  have Fs1 := pm_Fr_up ((pm_Fr_rf : pm_Fr [(50, none), (51, none), (52, none)] s0 s0)) qs1 (M := [(50, none), (51, none), (52, none)]) rfl
  have jj2 := pm_nec qs1 (c' := 40) (r' := 0) (i' := 0) (by decide)
  have jj3 := pm_nec qs1 (c' := 40) (r' := 0) (i' := 1) (by decide)
  have jj4 := pm_nec qs1 (c' := 40) (r' := 0) (i' := 2) (by decide)
  have jj5 := pm_nec qs1 (c' := 40) (r' := 0) (i' := 3) (by decide)
  have E1 := qs1
  refine px_aload_n hG dX11_findTree_9 rfl ?_
  refine gr_40_15 hG dX11_findTree_10 fl_X11_48 Rs1 ?_
  refine px_iconst hG dX11_findTree_13 ?_
  refine px_iconst hG dX11_findTree_14 ?_
  refine as_52 hG dX11_findTree_15 Rs1 (by omega) (by omega) (fun s6 qs6 Rs6 => ?_)
  have Fs6 := pm_Fr_up (Fs1) qs6 (M := [(50, none), (51, none), (52, none)]) rfl
  have jj7 := pm_nec qs6 (c' := 40) (r' := 0) (i' := 0) (by decide)
  have jj8 := pm_nec qs6 (c' := 40) (r' := 0) (i' := 1) (by decide)
  have jj9 := pm_nec qs6 (c' := 40) (r' := 0) (i' := 2) (by decide)
  have jj10 := pm_nec qs6 (c' := 40) (r' := 0) (i' := 3) (by decide)
  have E2 := qs6
  have FT := pm_fT_0 E1 E2 (fun j a b => (JW j a b).1)
  refine px_iconst hG dX11_findTree_16 ?_
  refine px_istore_n hG dX11_findTree_17 (Nat.le_of_ble_eq_true rfl) (L2 := [some (.inr (.inr (40, 0))), some (.inl 1), some (.inl 1), none]) rfl ?_
  have L18 : ∀ (N : Nat) (v1_11 : Int) (v2_12 : Int) (s13 : pm_H), pm_Rng s13 → pm_Fr [(50, none), (51, none), (52, none)] s0 s13 → ((1 ≤ v1_11 ∧ v1_11 ≤ 10000) ∧ (1 ≤ v2_12 ∧ v2_12 ≤ 10000) ∧ (v1_11 = 1 + pm_sc (s0 41 0) v2_12 1 (s0 40 0 3).toNat ∧ 1 ≤ v2_12 ∧ pm_fT s0 s13 v1_11 v2_12 1)) → (10001 - v2_12).toNat < N → G 18 [some (.inr (.inr (40, 0))), some (.inl v1_11), some (.inl v2_12), none] [] 122 s13 := by
    intro N
    induction N with
    | zero => intro v1_11 v2_12 s13 R14 F15 inv17 hm18; exact absurd hm18 (Nat.not_lt_zero _)
    | succ N ih16 =>
      intro v1_11 v2_12 s13 R14 F15 inv17 hm18
      have jj19 := F15 40 0 0 rfl
      have jj20 := F15 40 0 1 rfl
      have jj21 := F15 40 0 2 rfl
      have jj22 := F15 40 0 3 rfl
      have W := (inv17.2.2).1
      have W3 := (inv17.2.2).2.2
      have WB := pm_sc_le (s0 41 0) v2_12 1 (s0 40 0 3).toNat
      refine px_iload_n hG dX11_findTree_18 rfl ?_
      refine px_aload_n hG dX11_findTree_19 rfl ?_
      refine gi_40_1 hG dX11_findTree_20 fl_X11_7 R14 (fun x23 ex23 lx23 ux23 => ?_)
      have ex23 : s0 40 0 1 = x23 := (F15 40 0 1 rfl).symm.trans ex23
      refine px_ic_gt hG dX11_findTree_23 (tgt := 89) (by decide) ⟨by omega, by omega⟩ ⟨by omega, by omega⟩ (fun c24 => ?_) (fun c24 => ?_)
      · have jj25 := F15 40 0 0 rfl
        have jj26 := F15 40 0 1 rfl
        have jj27 := F15 40 0 2 rfl
        have jj28 := F15 40 0 3 rfl
        exact px_vret (st := []) hG dX11_findTree_89 rfl rfl (fun _ => by exact ⟨rfl, R14, F15, pm_fT_e W3 (fun j a b => by have q := JW j a (by omega); omega) (by omega)⟩)
      · refine px_iconst hG dX11_findTree_26 ?_
        refine px_istore_n hG dX11_findTree_27 (Nat.le_of_ble_eq_true rfl) (L2 := [some (.inr (.inr (40, 0))), some (.inl v1_11), some (.inl v2_12), some (.inl 1)]) rfl ?_
        have L28 : ∀ (N : Nat) (v1_29 : Int) (v3_30 : Int) (s31 : pm_H), pm_Rng s31 → pm_Fr [(50, none), (51, none), (52, none)] s0 s31 → ((v1_11 ≤ v1_29 ∧ v1_29 ≤ 10000) ∧ (1 ≤ v3_30 ∧ v3_30 ≤ 10000) ∧ (v1_29 = 1 + pm_sc (s0 41 0) v2_12 v3_30 (s0 40 0 3).toNat ∧ pm_fT s0 s31 v1_29 v2_12 v3_30)) → (10001 - v3_30).toNat < N → G 28 [some (.inr (.inr (40, 0))), some (.inl v1_29), some (.inl v2_12), some (.inl v3_30)] [] 122 s31 := by
          intro N
          induction N with
          | zero => intro v1_29 v3_30 s31 R32 F33 inv35 hm36; exact absurd hm36 (Nat.not_lt_zero _)
          | succ N ih34 =>
            intro v1_29 v3_30 s31 R32 F33 inv35 hm36
            have jj37 := F33 40 0 0 rfl
            have jj38 := F33 40 0 1 rfl
            have jj39 := F33 40 0 2 rfl
            have jj40 := F33 40 0 3 rfl
            have U := (inv35.2.2).1
            have UT := (inv35.2.2).2
            have UB := pm_sc_le (s0 41 0) v2_12 v3_30 (s0 40 0 3).toNat
            have UN := pm_sc_nn (s0 41 0) v2_12 v3_30 (s0 40 0 3).toNat
            have UG := pm_sc_gd (v := v2_12) (c := v3_30) GD (by omega) (by omega) (by omega)
            refine px_iload_n hG dX11_findTree_28 rfl ?_
            refine px_aload_n hG dX11_findTree_29 rfl ?_
            refine gi_40_3 hG dX11_findTree_30 fl_X11_110 R32 (fun x41 ex41 lx41 ux41 => ?_)
            have ex41 : s0 40 0 3 = x41 := (F33 40 0 3 rfl).symm.trans ex41
            refine px_ic_gt hG dX11_findTree_33 (tgt := 83) (by decide) ⟨by omega, by omega⟩ ⟨by omega, by omega⟩ (fun c42 => ?_) (fun c42 => ?_)
            · have NX := pm_sc_nx (f := s0 41 0) (v := v2_12) (c := v3_30) (k := (s0 40 0 3).toNat) (by omega)
              refine px_iinc hG dX11_findTree_83 (Nat.le_of_ble_eq_true rfl) rfl (L2 := [some (.inr (.inr (40, 0))), some (.inl v1_29), some (.inl (v2_12 + 1)), some (.inl v3_30)]) rfl ?_
              refine px_goto hG dX11_findTree_86 (tgt := 18) (by decide) ?_
              refine px_weak hG (L2 := [some (.inr (.inr (40, 0))), some (.inl v1_29), some (.inl (v2_12 + 1)), none]) ⟨Or.inr rfl, Or.inr rfl, Or.inr rfl, Or.inl rfl, trivial⟩ ?_
              exact ih16 v1_29 (v2_12 + 1) s31 R32 F33 (⟨by omega, by omega, ⟨by omega, by omega, pm_fT_x UT (by omega)⟩⟩) (by omega)
            · refine px_aload_n hG dX11_findTree_36 rfl ?_
              refine gr_40_4 hG dX11_findTree_37 fl_X11_13 R32 ?_
              refine px_iload_n hG dX11_findTree_40 rfl ?_
              refine al_41 hG dX11_findTree_41 R32 (by omega) (fun x43 ex43 lx43 ux43 => ?_)
              have X1 := (F33 41 0 v3_30 rfl).symm.trans ex43
              refine px_iload_n hG dX11_findTree_42 rfl ?_
              refine px_ic_ne hG dX11_findTree_43 (tgt := 77) (by decide) ⟨by omega, by omega⟩ ⟨by omega, by omega⟩ (fun c44 => ?_) (fun c44 => ?_)
              · refine px_iinc hG dX11_findTree_77 (Nat.le_of_ble_eq_true rfl) rfl (L2 := [some (.inr (.inr (40, 0))), some (.inl v1_29), some (.inl v2_12), some (.inl (v3_30 + 1))]) rfl ?_
                refine px_goto hG dX11_findTree_80 (tgt := 28) (by decide) ?_
                exact ih34 v1_29 (v3_30 + 1) s31 R32 F33 (⟨by omega, by omega, by first | exact ⟨by omega, FS⟩ | exact ⟨by rw [pm_sc_st (by omega)]; omega, pm_fT_n UT (by omega)⟩⟩) (by omega)
              · have V := pm_sc_up (f := s0 41 0) (v := v2_12) (c := v3_30) (k := (s0 40 0 3).toNat) (by omega) (by omega) (by omega) (by omega)
                have VB := pm_sc_le (s0 41 0) v2_12 (v3_30 + 1) (s0 40 0 3).toNat
                refine px_aload_n hG dX11_findTree_46 rfl ?_
                refine gr_40_13 hG dX11_findTree_47 fl_X11_42 R32 ?_
                refine px_iload_n hG dX11_findTree_50 rfl ?_
                refine px_aload_n hG dX11_findTree_51 rfl ?_
                refine gr_40_14 hG dX11_findTree_52 fl_X11_45 R32 ?_
                refine px_iload_n hG dX11_findTree_55 rfl ?_
                refine px_iconst hG dX11_findTree_56 ?_
                refine px_isub hG dX11_findTree_57 ?_
                refine al_51 hG dX11_findTree_58 R32 (by omega) (fun x45 ex45 lx45 ux45 => ?_)
                have X2 := ex45
                refine as_50 hG dX11_findTree_59 R32 (by omega) (by omega) (fun s46 qs46 Rs46 => ?_)
                have Fs46 := pm_Fr_up (F33) qs46 (M := [(50, none), (51, none), (52, none)]) rfl
                have jj47 := pm_nec qs46 (c' := 40) (r' := 0) (i' := 0) (by decide)
                have jj48 := pm_nec qs46 (c' := 40) (r' := 0) (i' := 1) (by decide)
                have jj49 := pm_nec qs46 (c' := 40) (r' := 0) (i' := 2) (by decide)
                have jj50 := pm_nec qs46 (c' := 40) (r' := 0) (i' := 3) (by decide)
                have E3 := qs46
                refine px_aload_n hG dX11_findTree_60 rfl ?_
                refine gr_40_14 hG dX11_findTree_61 fl_X11_45 Rs46 ?_
                refine px_iload_n hG dX11_findTree_64 rfl ?_
                refine px_iload_n hG dX11_findTree_65 rfl ?_
                refine as_51 hG dX11_findTree_66 Rs46 (by omega) (by omega) (fun s51 qs51 Rs51 => ?_)
                have Fs51 := pm_Fr_up (Fs46) qs51 (M := [(50, none), (51, none), (52, none)]) rfl
                have jj52 := pm_nec qs51 (c' := 40) (r' := 0) (i' := 0) (by decide)
                have jj53 := pm_nec qs51 (c' := 40) (r' := 0) (i' := 1) (by decide)
                have jj54 := pm_nec qs51 (c' := 40) (r' := 0) (i' := 2) (by decide)
                have jj55 := pm_nec qs51 (c' := 40) (r' := 0) (i' := 3) (by decide)
                have E4 := qs51
                refine px_iinc hG dX11_findTree_67 (Nat.le_of_ble_eq_true rfl) rfl (L2 := [some (.inr (.inr (40, 0))), some (.inl (v1_29 + 1)), some (.inl v2_12), some (.inl v3_30)]) rfl ?_
                refine px_aload_n hG dX11_findTree_70 rfl ?_
                refine gr_40_15 hG dX11_findTree_71 fl_X11_48 Rs51 ?_
                refine px_iload_n hG dX11_findTree_74 rfl ?_
                refine px_iload_n hG dX11_findTree_75 rfl ?_
                refine as_52 hG dX11_findTree_76 Rs51 (by omega) (by omega) (fun s56 qs56 Rs56 => ?_)
                have Fs56 := pm_Fr_up (Fs51) qs56 (M := [(50, none), (51, none), (52, none)]) rfl
                have jj57 := pm_nec qs56 (c' := 40) (r' := 0) (i' := 0) (by decide)
                have jj58 := pm_nec qs56 (c' := 40) (r' := 0) (i' := 1) (by decide)
                have jj59 := pm_nec qs56 (c' := 40) (r' := 0) (i' := 2) (by decide)
                have jj60 := pm_nec qs56 (c' := 40) (r' := 0) (i' := 3) (by decide)
                have E5 := qs56
                have FS := pm_fT_s UT (by omega) (by omega) (by omega) (by omega) X2 E3 E4 E5
                refine px_iinc hG dX11_findTree_77 (Nat.le_of_ble_eq_true rfl) rfl (L2 := [some (.inr (.inr (40, 0))), some (.inl (v1_29 + 1)), some (.inl v2_12), some (.inl (v3_30 + 1))]) rfl ?_
                refine px_goto hG dX11_findTree_80 (tgt := 28) (by decide) ?_
                exact ih34 (v1_29 + 1) (v3_30 + 1) s56 Rs56 Fs56 (⟨by omega, by omega, by first | exact ⟨by omega, FS⟩ | exact ⟨by rw [pm_sc_st (by omega)]; omega, pm_fT_n UT (by omega)⟩⟩) (by omega)
        exact L28 _ v1_11 1 s13 R14 F15 (⟨by omega, by omega, ⟨W, W3⟩⟩) (Nat.lt_succ_self _)
  exact L18 _ 1 1 s6 Rs6 Fs6 (⟨by omega, by omega, ⟨by rw [pm_sc_0]; rfl, by omega, FT⟩⟩) (Nat.lt_succ_self _))
def pre_X11_isBelow (as : List pm_V) (n : Nat) (σ : pm_H) : Prop := ∃ c1 tp : Int, as = [.inr (.inr (40, 0)), .inl c1, .inl tp] ∧ n = 122 ∧ pm_Rng σ ∧ ((pm_tr σ (σ 40 0 1) ∧ 0 ≤ c1 ∧ c1 ≤ σ 40 0 1 ∧ pm_in tp) ∧ pm_J2 σ)
def po_X11_isBelow (as : List pm_V) (_ : Nat) (σ : pm_H) (r : Option pm_V) (τ : pm_H) : Prop := ∀ c1 tp : Int, as = [.inr (.inr (40, 0)), .inl c1, .inl tp] → ∃ v : Int, r = some (.inl v) ∧ σ = τ ∧ ((v = 0 ∨ v = 1))
set_option maxRecDepth 20000 in
set_option maxHeartbeats 4000000 in
theorem ct_X11_isBelow : pm_Ct yX11_isBelow cX11_isBelow 4 (some .boolean) 0 0 pre_X11_isBelow po_X11_isBelow := pm_sound (ini := false) (by decide +kernel) pk_X11_isBelow (fun h => absurd h (by decide)) (by
  rintro as n s0 ⟨c1, tp, rfl, rfl, R0, hpre⟩
  refine ⟨by decide, Nat.le_of_ble_eq_true rfl, fun G hG => ?_⟩
  have hG : pm_Rules (RX11, 0, 122, cX11_isBelow, -1, (fun _ => 0), false, (some .boolean), po_X11_isBelow [.inr (.inr (40, 0)), .inl c1, .inl tp] 122 s0) G := hG
  show G 0 [some (.inr (.inr (40, 0))), some (.inl c1), some (.inl tp), none] [] 122 s0
  have B0 := pb_40_0 R0
  have B1 := pb_40_1 R0
  have B2 := pb_40_2 R0
  have B3 := pb_40_3 R0
  have J2 := hpre.2
  have HP := hpre.1
  have JK := J2.1
  have JW := J2.2
  refine px_iload_n hG dX11_isBelow_0 rfl ?_
  refine px_istore_n hG dX11_isBelow_1 (Nat.le_of_ble_eq_true rfl) (L2 := [some (.inr (.inr (40, 0))), some (.inl c1), some (.inl tp), some (.inl c1)]) rfl ?_
  have L2 : ∀ (N : Nat) (v3_1 : Int), ((0 ≤ v3_1 ∧ v3_1 ≤ s0 40 0 1)) → (s0 52 0 v3_1).toNat < N → G 2 [some (.inr (.inr (40, 0))), none, some (.inl tp), some (.inl v3_1)] [] 122 s0 := by
    intro N
    induction N with
    | zero => intro v3_1 inv3 hm4; exact absurd hm4 (Nat.not_lt_zero _)
    | succ N ih2 =>
      intro v3_1 inv3 hm4
      refine px_iload_n hG dX11_isBelow_2 rfl ?_
      refine px_if_eq hG dX11_isBelow_3 (tgt := 20) (by decide) ⟨by omega, by omega⟩ (fun c5 => ?_) (fun c5 => ?_)
      · refine px_iconst hG dX11_isBelow_20 ?_
        exact px_zret (st := []) hG dX11_isBelow_21 rfl (by omega) rfl (fun c1_1 tp_1 ee => by cases ee; exact ⟨_, rfl, rfl, by omega⟩)
      · refine px_aload_n hG dX11_isBelow_6 rfl ?_
        refine gr_40_13 hG dX11_isBelow_7 fl_X11_42 R0 ?_
        refine px_iload_n hG dX11_isBelow_10 rfl ?_
        refine al_50 hG dX11_isBelow_11 R0 (by omega) (fun x6 ex6 lx6 ux6 => ?_)
        have T := HP.1 v3_1 (by omega) (by omega)
        rw [ex6] at T
        have T2 : 0 ≤ s0 52 0 x6 := (R0 52 0 x6).1
        refine px_istore_n hG dX11_isBelow_12 (Nat.le_of_ble_eq_true rfl) (L2 := [some (.inr (.inr (40, 0))), none, some (.inl tp), some (.inl x6)]) rfl ?_
        refine px_iload_n hG dX11_isBelow_13 rfl ?_
        refine px_iload_n hG dX11_isBelow_14 rfl ?_
        refine px_ic_ne hG dX11_isBelow_15 (tgt := 2) (by decide) ⟨by omega, by omega⟩ ⟨by omega, by omega⟩ (fun c7 => ?_) (fun c7 => ?_)
        · exact ih2 x6 (by omega) (by omega)
        · refine px_iconst hG dX11_isBelow_18 ?_
          exact px_zret (st := []) hG dX11_isBelow_19 rfl (by omega) rfl (fun c1_1 tp_1 ee => by cases ee; exact ⟨_, rfl, rfl, by omega⟩)
  refine px_weak hG (L2 := [some (.inr (.inr (40, 0))), none, some (.inl tp), some (.inl c1)]) ⟨Or.inr rfl, Or.inl rfl, Or.inr rfl, Or.inr rfl, trivial⟩ ?_
  exact L2 _ c1 (by omega) (Nat.lt_succ_self _))
def pre_X11_node (as : List pm_V) (n : Nat) (σ : pm_H) : Prop := ∃ aa ab : Int, as = [.inr (.inr (40, 0)), .inl aa, .inl ab] ∧ n = 122 ∧ pm_Rng σ ∧ ((pm_in aa ∧ pm_in ab) ∧ pm_J2 σ)
def po_X11_node (as : List pm_V) (_ : Nat) (σ : pm_H) (r : Option pm_V) (τ : pm_H) : Prop := ∀ aa ab : Int, as = [.inr (.inr (40, 0)), .inl aa, .inl ab] → ∃ v : Int, r = some (.inl v) ∧ pm_Rng τ ∧ pm_Fr [(43, none), (44, none), (50, none), (51, none), (52, none)] σ τ
set_option maxRecDepth 20000 in
set_option maxHeartbeats 4000000 in
theorem ct_X11_node : pm_Ct yX11_node cX11_node 5 (some .int) 5 0 pre_X11_node po_X11_node := pm_sound (ini := false) (by decide +kernel) pk_X11_node (fun h => absurd h (by decide)) (by
  rintro as n s0 ⟨aa, ab, rfl, rfl, R0, hpre⟩
  refine ⟨by decide, Nat.le_of_ble_eq_true rfl, fun G hG => ?_⟩
  have hG : pm_Rules (RX11, 5, 122, cX11_node, -1, (fun _ => 0), false, (some .int), po_X11_node [.inr (.inr (40, 0)), .inl aa, .inl ab] 122 s0) G := hG
  show G 0 [some (.inr (.inr (40, 0))), some (.inl aa), some (.inl ab), none, none] [] 122 s0
  have B0 := pb_40_0 R0
  have B1 := pb_40_1 R0
  have B2 := pb_40_2 R0
  have B3 := pb_40_3 R0
  have J2 := hpre.2
  have HP := hpre.1
  have JK := J2.1
  have JW := J2.2
  refine px_aload_n hG dX11_node_0 rfl ?_
  refine px_iload_n hG dX11_node_1 rfl ?_
  refine jv1 hG dX11_node_2 ct_X11_isCar lk_X11_117 ⟨rfl, rfl⟩ (by decide) ⟨Nat.le_of_ble_eq_true rfl, Nat.le_of_ble_eq_true rfl, Nat.le_of_ble_eq_true rfl⟩ (Nat.le_of_ble_eq_true rfl) ⟨aa, rfl, rfl, R0, ⟨by omega, J2⟩⟩ (fun r1 t2 pr1 => ?_)
  obtain ⟨x3, rfl, rfl, br1⟩ := pr1 _ rfl
  show G 5 [some (.inr (.inr (40, 0))), some (.inl aa), some (.inl ab), none, none] [.inl x3] 122 s0
  refine px_if_eq hG dX11_node_5 (tgt := 20) (by decide) ⟨by omega, by omega⟩ (fun c4 => ?_) (fun c4 => ?_)
  · refine px_iconst hG dX11_node_20 ?_
    exact px_iret (st := []) hG dX11_node_21 rfl rfl (fun aa_1 ab_1 ee => by cases ee; exact ⟨_, rfl, R0, pm_Fr_rf⟩)
  · refine px_iload_n hG dX11_node_8 rfl ?_
    refine px_i2l hG dX11_node_9 ⟨by omega, by omega⟩ ?_
    refine px_lconst hG dX11_node_10 ?_
    show G 11 [some (.inr (.inr (40, 0))), some (.inl aa), some (.inl ab), none, none] [.inr (.inl 0), .inr (.inl ab)] 122 s0
    refine px_ldc2 hG dX11_node_11 cn_X11_121 ?_
    show G 14 [some (.inr (.inr (40, 0))), some (.inl aa), some (.inl ab), none, none] [.inr (.inl 4), .inr (.inl 0), .inr (.inl ab)] 122 s0
    refine js3 hG dX11_node_14 ct_X11_in lk_X11_96 ⟨Nat.le_of_ble_eq_true rfl, Nat.le_of_ble_eq_true rfl, Nat.le_of_ble_eq_true rfl⟩ (Nat.le_of_ble_eq_true rfl) ⟨ab, 0, 4, rfl, rfl, R0, by omega⟩ (fun r5 t6 pr5 => ?_)
    obtain ⟨x7, rfl, rfl, br5⟩ := pr5 _ _ _ rfl
    show G 17 [some (.inr (.inr (40, 0))), some (.inl aa), some (.inl ab), none, none] [.inl x7] 122 s0
    refine px_if_ne hG dX11_node_17 (tgt := 22) (by decide) ⟨by omega, by omega⟩ (fun c8 => ?_) (fun c8 => ?_)
    · refine px_aload_n hG dX11_node_22 rfl ?_
      refine jv0 hG dX11_node_23 ct_X11_isFull lk_X11_189 ⟨rfl, rfl⟩ (by decide) ⟨Nat.le_of_ble_eq_true rfl, Nat.le_of_ble_eq_true rfl, Nat.le_of_ble_eq_true rfl⟩ (Nat.le_of_ble_eq_true rfl) ⟨rfl, rfl, R0, J2⟩ (fun r9 t11 pr9 => ?_)
      obtain ⟨x12, rfl, Rt11, Ft11, br9⟩ := pr9 rfl
      have Ff13 := pm_Fr_mono Ft11 (M := [(43, none), (44, none), (50, none), (51, none), (52, none)]) rfl
      have jj14 := Ft11 40 0 0 rfl
      have jj15 := Ft11 40 0 1 rfl
      have jj16 := Ft11 40 0 2 rfl
      have jj17 := Ft11 40 0 3 rfl
      show G 26 [some (.inr (.inr (40, 0))), some (.inl aa), some (.inl ab), none, none] [.inl x12] 122 t11
      have FU := br9
      refine px_if_ne hG dX11_node_26 (tgt := 32) (by decide) ⟨by omega, by omega⟩ (fun c18 => ?_) (fun c18 => ?_)
      · refine px_aload_n hG dX11_node_32 rfl ?_
        refine jv0 hG dX11_node_33 ct_X11_findTreet lk_X11_202 ⟨rfl, rfl⟩ (by decide) ⟨Nat.le_of_ble_eq_true rfl, Nat.le_of_ble_eq_true rfl, Nat.le_of_ble_eq_true rfl⟩ (Nat.le_of_ble_eq_true rfl) ⟨rfl, rfl, Rt11, ⟨pm_fTp Ff13 rfl (FU.2 (by omega)), (pm_J2_fr Ff13 rfl J2)⟩⟩ (fun r19 t21 pr19 => ?_)
        obtain ⟨rfl, Rt21, Ft21, br19⟩ := pr19 rfl
        have Ff23 := pm_Fr_tr Ff13 Ft21 (M := [(43, none), (44, none), (50, none), (51, none), (52, none)]) rfl
        have jj24 := Ft21 40 0 0 rfl
        have jj25 := Ft21 40 0 1 rfl
        have jj26 := Ft21 40 0 2 rfl
        have jj27 := Ft21 40 0 3 rfl
        show G 36 [some (.inr (.inr (40, 0))), some (.inl aa), some (.inl ab), none, none] [] 122 t21
        have T := br19
        have NO : t11 40 0 1 = s0 40 0 1 := Ff13 40 0 1 rfl
        have NE : t21 40 0 1 = s0 40 0 1 := Ff23 40 0 1 rfl
        rw [NO] at T
        refine px_iconst hG dX11_node_36 ?_
        refine px_istore_n hG dX11_node_37 (Nat.le_of_ble_eq_true rfl) (L2 := [some (.inr (.inr (40, 0))), some (.inl aa), some (.inl ab), some (.inl 0), none]) rfl ?_
        refine px_iload_n hG dX11_node_38 rfl ?_
        refine px_tsw hG dX11_node_39 ⟨by omega, by omega⟩ (by decide) (And.intro (by decide) (And.intro (fun c39_0 => ?_) (And.intro (by decide) (And.intro (fun c39_1 => ?_) (And.intro (by decide) (And.intro (fun c39_2 => ?_) (And.intro (by decide) (And.intro (fun c39_3 => ?_) (trivial))))))))) (fun c39_d => ?_) (by decide)
        · show G 68 [some (.inr (.inr (40, 0))), some (.inl aa), some (.inl ab), some (.inl 0), none] [] 122 t21
          refine px_aload_n hG dX11_node_68 rfl ?_
          refine gr_40_13 hG dX11_node_69 fl_X11_42 Rt21 ?_
          refine px_iload_n hG dX11_node_72 rfl ?_
          refine al_50 hG dX11_node_73 Rt21 (by omega) (fun x28 ex28 lx28 ux28 => ?_)
          have jj29 := Ff23 40 0 0 rfl
          have jj30 := Ff23 40 0 1 rfl
          have jj31 := Ff23 40 0 2 rfl
          have jj32 := Ff23 40 0 3 rfl
          exact px_iret (st := []) hG dX11_node_74 rfl rfl (fun aa_1 ab_1 ee => by cases ee; exact ⟨_, rfl, Rt21, Ff23⟩)
        · show G 75 [some (.inr (.inr (40, 0))), some (.inl aa), some (.inl ab), some (.inl 0), none] [] 122 t21
          refine px_iload_n hG dX11_node_75 rfl ?_
          refine px_istore hG dX11_node_76 (Nat.le_of_ble_eq_true rfl) (L2 := [some (.inr (.inr (40, 0))), some (.inl aa), some (.inl ab), some (.inl 0), some (.inl aa)]) rfl ?_
          have L78 : ∀ (N : Nat) (v3_33 : Int) (v4_34 : Int), ((0 ≤ v4_34 ∧ v4_34 ≤ s0 40 0 1)) → (t21 52 0 v4_34).toNat < N → G 78 [some (.inr (.inr (40, 0))), none, none, some (.inl v3_33), some (.inl v4_34)] [] 122 t21 := by
            intro N
            induction N with
            | zero => intro v3_33 v4_34 inv36 hm37; exact absurd hm37 (Nat.not_lt_zero _)
            | succ N ih35 =>
              intro v3_33 v4_34 inv36 hm37
              refine px_iload hG dX11_node_78 rfl ?_
              refine px_if_eq hG dX11_node_80 (tgt := 98) (by decide) ⟨by omega, by omega⟩ (fun c38 => ?_) (fun c38 => ?_)
              · refine px_iload_n hG dX11_node_98 rfl ?_
                have jj39 := Ff23 40 0 0 rfl
                have jj40 := Ff23 40 0 1 rfl
                have jj41 := Ff23 40 0 2 rfl
                have jj42 := Ff23 40 0 3 rfl
                exact px_iret (st := []) hG dX11_node_99 rfl rfl (fun aa_1 ab_1 ee => by cases ee; exact ⟨_, rfl, Rt21, Ff23⟩)
              · refine px_iinc hG dX11_node_83 (Nat.le_of_ble_eq_true rfl) rfl (L2 := [some (.inr (.inr (40, 0))), none, none, some (.inl (v3_33 + 1)), some (.inl v4_34)]) rfl ?_
                refine px_aload_n hG dX11_node_86 rfl ?_
                refine gr_40_13 hG dX11_node_87 fl_X11_42 Rt21 ?_
                refine px_iload hG dX11_node_90 rfl ?_
                refine al_50 hG dX11_node_92 Rt21 (by omega) (fun x43 ex43 lx43 ux43 => ?_)
                have T1 := T v4_34 (by omega) (by omega)
                rw [ex43] at T1
                have T2 : 0 ≤ t21 52 0 x43 := (Rt21 52 0 x43).1
                refine px_istore hG dX11_node_93 (Nat.le_of_ble_eq_true rfl) (L2 := [some (.inr (.inr (40, 0))), none, none, some (.inl (v3_33 + 1)), some (.inl x43)]) rfl ?_
                refine px_goto hG dX11_node_95 (tgt := 78) (by decide) ?_
                exact ih35 (v3_33 + 1) x43 (by omega) (by omega)
          refine px_weak hG (L2 := [some (.inr (.inr (40, 0))), none, none, some (.inl 0), some (.inl aa)]) ⟨Or.inr rfl, Or.inl rfl, Or.inl rfl, Or.inr rfl, Or.inr rfl, trivial⟩ ?_
          exact L78 _ 0 aa (by omega) (Nat.lt_succ_self _)
        · show G 100 [some (.inr (.inr (40, 0))), some (.inl aa), some (.inl ab), some (.inl 0), none] [] 122 t21
          refine px_iconst hG dX11_node_100 ?_
          refine px_istore hG dX11_node_101 (Nat.le_of_ble_eq_true rfl) (L2 := [some (.inr (.inr (40, 0))), some (.inl aa), some (.inl ab), some (.inl 0), some (.inl 1)]) rfl ?_
          have L103 : ∀ (N : Nat) (v3_44 : Int) (v4_45 : Int), ((1 ≤ v4_45 ∧ v4_45 ≤ 10000)) → (10001 - v4_45).toNat < N → G 103 [some (.inr (.inr (40, 0))), some (.inl aa), some (.inl ab), some (.inl v3_44), some (.inl v4_45)] [] 122 t21 := by
            intro N
            induction N with
            | zero => intro v3_44 v4_45 inv47 hm48; exact absurd hm48 (Nat.not_lt_zero _)
            | succ N ih46 =>
              intro v3_44 v4_45 inv47 hm48
              refine px_iload hG dX11_node_103 rfl ?_
              refine px_aload_n hG dX11_node_105 rfl ?_
              refine gi_40_1 hG dX11_node_106 fl_X11_7 Rt21 (fun x49 ex49 lx49 ux49 => ?_)
              have ex49 : s0 40 0 1 = x49 := (Ff23 40 0 1 rfl).symm.trans ex49
              refine px_ic_gt hG dX11_node_109 (tgt := 155) (by decide) ⟨by omega, by omega⟩ ⟨by omega, by omega⟩ (fun c50 => ?_) (fun c50 => ?_)
              · refine px_iload_n hG dX11_node_155 rfl ?_
                have jj51 := Ff23 40 0 0 rfl
                have jj52 := Ff23 40 0 1 rfl
                have jj53 := Ff23 40 0 2 rfl
                have jj54 := Ff23 40 0 3 rfl
                exact px_iret (st := []) hG dX11_node_156 rfl rfl (fun aa_1 ab_1 ee => by cases ee; exact ⟨_, rfl, Rt21, Ff23⟩)
              · refine px_iload_n hG dX11_node_112 rfl ?_
                refine px_iload_n hG dX11_node_113 rfl ?_
                refine px_iconst hG dX11_node_114 ?_
                have J147_57 : ∀ (j56 : Int), (j56 = 0 ∨ j56 = 1) → G 147 [some (.inr (.inr (40, 0))), some (.inl aa), some (.inl ab), none, some (.inl v4_45)] [.inl j56, .inl v3_44] 122 t21 := by
                  intro j56 inv58
                  refine px_iadd hG dX11_node_147 ?_
                  refine px_istore_n hG dX11_node_148 (Nat.le_of_ble_eq_true rfl) (L2 := [some (.inr (.inr (40, 0))), some (.inl aa), some (.inl ab), some (.inl (v3_44 + j56)), some (.inl v4_45)]) rfl ?_
                  refine px_iinc hG dX11_node_149 (Nat.le_of_ble_eq_true rfl) rfl (L2 := [some (.inr (.inr (40, 0))), some (.inl aa), some (.inl ab), some (.inl (v3_44 + j56)), some (.inl (v4_45 + 1))]) rfl ?_
                  refine px_goto hG dX11_node_152 (tgt := 103) (by decide) ?_
                  exact ih46 (v3_44 + j56) (v4_45 + 1) (by omega) (by omega)
                refine px_ic_ne hG dX11_node_115 (tgt := 132) (by decide) ⟨by omega, by omega⟩ ⟨by omega, by omega⟩ (fun c55 => ?_) (fun c55 => ?_)
                · refine px_aload_n hG dX11_node_132 rfl ?_
                  refine px_iload hG dX11_node_133 rfl ?_
                  refine px_iload_n hG dX11_node_135 rfl ?_
                  refine jv2 hG dX11_node_136 ct_X11_isBelow lk_X11_205 ⟨rfl, rfl⟩ (by decide) ⟨Nat.le_of_ble_eq_true rfl, Nat.le_of_ble_eq_true rfl, Nat.le_of_ble_eq_true rfl⟩ (Nat.le_of_ble_eq_true rfl) ⟨v4_45, aa, rfl, rfl, Rt21, ⟨⟨by rw [NE]; exact T, by omega, by omega, by omega⟩, (pm_J2_fr Ff23 rfl J2)⟩⟩ (fun r59 t60 pr59 => ?_)
                  obtain ⟨x61, rfl, rfl, br59⟩ := pr59 _ _ rfl
                  show G 139 [some (.inr (.inr (40, 0))), some (.inl aa), some (.inl ab), some (.inl v3_44), some (.inl v4_45)] [.inl x61, .inl v3_44] 122 t21
                  refine px_if_eq hG dX11_node_139 (tgt := 146) (by decide) ⟨by omega, by omega⟩ (fun c62 => ?_) (fun c62 => ?_)
                  · refine px_iconst hG dX11_node_146 ?_
                    refine px_weak hG (L2 := [some (.inr (.inr (40, 0))), some (.inl aa), some (.inl ab), none, some (.inl v4_45)]) ⟨Or.inr rfl, Or.inr rfl, Or.inr rfl, Or.inl rfl, Or.inr rfl, trivial⟩ ?_
                    exact J147_57 0 (by omega)
                  · refine px_iconst hG dX11_node_142 ?_
                    refine px_goto hG dX11_node_143 (tgt := 147) (by decide) ?_
                    refine px_weak hG (L2 := [some (.inr (.inr (40, 0))), some (.inl aa), some (.inl ab), none, some (.inl v4_45)]) ⟨Or.inr rfl, Or.inr rfl, Or.inr rfl, Or.inl rfl, Or.inr rfl, trivial⟩ ?_
                    exact J147_57 1 (by omega)
                · refine px_aload_n hG dX11_node_118 rfl ?_
                  refine gr_40_13 hG dX11_node_119 fl_X11_42 Rt21 ?_
                  refine px_iload hG dX11_node_122 rfl ?_
                  refine al_50 hG dX11_node_124 Rt21 (by omega) (fun x63 ex63 lx63 ux63 => ?_)
                  refine px_iload_n hG dX11_node_125 rfl ?_
                  refine px_ic_ne hG dX11_node_126 (tgt := 146) (by decide) ⟨by omega, by omega⟩ ⟨by omega, by omega⟩ (fun c64 => ?_) (fun c64 => ?_)
                  · refine px_iconst hG dX11_node_146 ?_
                    refine px_weak hG (L2 := [some (.inr (.inr (40, 0))), some (.inl aa), some (.inl ab), none, some (.inl v4_45)]) ⟨Or.inr rfl, Or.inr rfl, Or.inr rfl, Or.inl rfl, Or.inr rfl, trivial⟩ ?_
                    exact J147_57 0 (by omega)
                  · refine px_goto hG dX11_node_129 (tgt := 142) (by decide) ?_
                    refine px_iconst hG dX11_node_142 ?_
                    refine px_goto hG dX11_node_143 (tgt := 147) (by decide) ?_
                    refine px_weak hG (L2 := [some (.inr (.inr (40, 0))), some (.inl aa), some (.inl ab), none, some (.inl v4_45)]) ⟨Or.inr rfl, Or.inr rfl, Or.inr rfl, Or.inl rfl, Or.inr rfl, trivial⟩ ?_
                    exact J147_57 1 (by omega)
          exact L103 _ 0 1 (by omega) (Nat.lt_succ_self _)
        · show G 100 [some (.inr (.inr (40, 0))), some (.inl aa), some (.inl ab), some (.inl 0), none] [] 122 t21
          refine px_iconst hG dX11_node_100 ?_
          refine px_istore hG dX11_node_101 (Nat.le_of_ble_eq_true rfl) (L2 := [some (.inr (.inr (40, 0))), some (.inl aa), some (.inl ab), some (.inl 0), some (.inl 1)]) rfl ?_
          have L67 : ∀ (N : Nat) (v3_65 : Int) (v4_66 : Int), ((1 ≤ v4_66 ∧ v4_66 ≤ 10000)) → (10001 - v4_66).toNat < N → G 103 [some (.inr (.inr (40, 0))), some (.inl aa), some (.inl ab), some (.inl v3_65), some (.inl v4_66)] [] 122 t21 := by
            intro N
            induction N with
            | zero => intro v3_65 v4_66 inv69 hm70; exact absurd hm70 (Nat.not_lt_zero _)
            | succ N ih68 =>
              intro v3_65 v4_66 inv69 hm70
              refine px_iload hG dX11_node_103 rfl ?_
              refine px_aload_n hG dX11_node_105 rfl ?_
              refine gi_40_1 hG dX11_node_106 fl_X11_7 Rt21 (fun x71 ex71 lx71 ux71 => ?_)
              have ex71 : s0 40 0 1 = x71 := (Ff23 40 0 1 rfl).symm.trans ex71
              refine px_ic_gt hG dX11_node_109 (tgt := 155) (by decide) ⟨by omega, by omega⟩ ⟨by omega, by omega⟩ (fun c72 => ?_) (fun c72 => ?_)
              · refine px_iload_n hG dX11_node_155 rfl ?_
                have jj73 := Ff23 40 0 0 rfl
                have jj74 := Ff23 40 0 1 rfl
                have jj75 := Ff23 40 0 2 rfl
                have jj76 := Ff23 40 0 3 rfl
                exact px_iret (st := []) hG dX11_node_156 rfl rfl (fun aa_1 ab_1 ee => by cases ee; exact ⟨_, rfl, Rt21, Ff23⟩)
              · refine px_iload_n hG dX11_node_112 rfl ?_
                refine px_iload_n hG dX11_node_113 rfl ?_
                refine px_iconst hG dX11_node_114 ?_
                have J147_79 : ∀ (j78 : Int), (j78 = 0 ∨ j78 = 1) → G 147 [some (.inr (.inr (40, 0))), some (.inl aa), some (.inl ab), none, some (.inl v4_66)] [.inl j78, .inl v3_65] 122 t21 := by
                  intro j78 inv80
                  refine px_iadd hG dX11_node_147 ?_
                  refine px_istore_n hG dX11_node_148 (Nat.le_of_ble_eq_true rfl) (L2 := [some (.inr (.inr (40, 0))), some (.inl aa), some (.inl ab), some (.inl (v3_65 + j78)), some (.inl v4_66)]) rfl ?_
                  refine px_iinc hG dX11_node_149 (Nat.le_of_ble_eq_true rfl) rfl (L2 := [some (.inr (.inr (40, 0))), some (.inl aa), some (.inl ab), some (.inl (v3_65 + j78)), some (.inl (v4_66 + 1))]) rfl ?_
                  refine px_goto hG dX11_node_152 (tgt := 103) (by decide) ?_
                  exact ih68 (v3_65 + j78) (v4_66 + 1) (by omega) (by omega)
                refine px_ic_ne hG dX11_node_115 (tgt := 132) (by decide) ⟨by omega, by omega⟩ ⟨by omega, by omega⟩ (fun c77 => ?_) (fun c77 => ?_)
                · refine px_aload_n hG dX11_node_132 rfl ?_
                  refine px_iload hG dX11_node_133 rfl ?_
                  refine px_iload_n hG dX11_node_135 rfl ?_
                  refine jv2 hG dX11_node_136 ct_X11_isBelow lk_X11_205 ⟨rfl, rfl⟩ (by decide) ⟨Nat.le_of_ble_eq_true rfl, Nat.le_of_ble_eq_true rfl, Nat.le_of_ble_eq_true rfl⟩ (Nat.le_of_ble_eq_true rfl) ⟨v4_66, aa, rfl, rfl, Rt21, ⟨⟨by rw [NE]; exact T, by omega, by omega, by omega⟩, (pm_J2_fr Ff23 rfl J2)⟩⟩ (fun r81 t82 pr81 => ?_)
                  obtain ⟨x83, rfl, rfl, br81⟩ := pr81 _ _ rfl
                  show G 139 [some (.inr (.inr (40, 0))), some (.inl aa), some (.inl ab), some (.inl v3_65), some (.inl v4_66)] [.inl x83, .inl v3_65] 122 t21
                  refine px_if_eq hG dX11_node_139 (tgt := 146) (by decide) ⟨by omega, by omega⟩ (fun c84 => ?_) (fun c84 => ?_)
                  · refine px_iconst hG dX11_node_146 ?_
                    refine px_weak hG (L2 := [some (.inr (.inr (40, 0))), some (.inl aa), some (.inl ab), none, some (.inl v4_66)]) ⟨Or.inr rfl, Or.inr rfl, Or.inr rfl, Or.inl rfl, Or.inr rfl, trivial⟩ ?_
                    exact J147_79 0 (by omega)
                  · refine px_iconst hG dX11_node_142 ?_
                    refine px_goto hG dX11_node_143 (tgt := 147) (by decide) ?_
                    refine px_weak hG (L2 := [some (.inr (.inr (40, 0))), some (.inl aa), some (.inl ab), none, some (.inl v4_66)]) ⟨Or.inr rfl, Or.inr rfl, Or.inr rfl, Or.inl rfl, Or.inr rfl, trivial⟩ ?_
                    exact J147_79 1 (by omega)
                · refine px_aload_n hG dX11_node_118 rfl ?_
                  refine gr_40_13 hG dX11_node_119 fl_X11_42 Rt21 ?_
                  refine px_iload hG dX11_node_122 rfl ?_
                  refine al_50 hG dX11_node_124 Rt21 (by omega) (fun x85 ex85 lx85 ux85 => ?_)
                  refine px_iload_n hG dX11_node_125 rfl ?_
                  refine px_ic_ne hG dX11_node_126 (tgt := 146) (by decide) ⟨by omega, by omega⟩ ⟨by omega, by omega⟩ (fun c86 => ?_) (fun c86 => ?_)
                  · refine px_iconst hG dX11_node_146 ?_
                    refine px_weak hG (L2 := [some (.inr (.inr (40, 0))), some (.inl aa), some (.inl ab), none, some (.inl v4_66)]) ⟨Or.inr rfl, Or.inr rfl, Or.inr rfl, Or.inl rfl, Or.inr rfl, trivial⟩ ?_
                    exact J147_79 0 (by omega)
                  · refine px_goto hG dX11_node_129 (tgt := 142) (by decide) ?_
                    refine px_iconst hG dX11_node_142 ?_
                    refine px_goto hG dX11_node_143 (tgt := 147) (by decide) ?_
                    refine px_weak hG (L2 := [some (.inr (.inr (40, 0))), some (.inl aa), some (.inl ab), none, some (.inl v4_66)]) ⟨Or.inr rfl, Or.inr rfl, Or.inr rfl, Or.inl rfl, Or.inr rfl, trivial⟩ ?_
                    exact J147_79 1 (by omega)
          exact L67 _ 0 1 (by omega) (Nat.lt_succ_self _)
        · show G 157 [some (.inr (.inr (40, 0))), some (.inl aa), some (.inl ab), some (.inl 0), none] [] 122 t21
          refine px_aload_n hG dX11_node_157 rfl ?_
          refine gr_40_15 hG dX11_node_158 fl_X11_48 Rt21 ?_
          refine px_iload_n hG dX11_node_161 rfl ?_
          refine al_52 hG dX11_node_162 Rt21 (by omega) (fun x87 ex87 lx87 ux87 => ?_)
          have jj88 := Ff23 40 0 0 rfl
          have jj89 := Ff23 40 0 1 rfl
          have jj90 := Ff23 40 0 2 rfl
          have jj91 := Ff23 40 0 3 rfl
          exact px_iret (st := []) hG dX11_node_163 rfl rfl (fun aa_1 ab_1 ee => by cases ee; exact ⟨_, rfl, Rt21, Ff23⟩)
      · refine px_bipush hG dX11_node_29 (by decide) ?_
        have jj92 := Ff13 40 0 0 rfl
        have jj93 := Ff13 40 0 1 rfl
        have jj94 := Ff13 40 0 2 rfl
        have jj95 := Ff13 40 0 3 rfl
        exact px_iret (st := []) hG dX11_node_31 rfl rfl (fun aa_1 ab_1 ee => by cases ee; exact ⟨_, rfl, Rt11, Ff13⟩)
    · refine px_iconst hG dX11_node_20 ?_
      exact px_iret (st := []) hG dX11_node_21 rfl rfl (fun aa_1 ab_1 ee => by cases ee; exact ⟨_, rfl, R0, pm_Fr_rf⟩))
def pre_X11_inv (as : List pm_V) (n : Nat) (σ : pm_H) : Prop := as = [.inr (.inr (40, 0))] ∧ n = 122 ∧ pm_Rng σ ∧ (pm_J2 σ)
def po_X11_inv (as : List pm_V) (_ : Nat) (σ : pm_H) (r : Option pm_V) (τ : pm_H) : Prop := as = [.inr (.inr (40, 0))] → ∃ v : Int, r = some (.inl v) ∧ pm_Rng τ ∧ pm_Fr [(43, none), (44, none), (50, none), (51, none), (52, none)] σ τ
set_option maxRecDepth 20000 in
set_option maxHeartbeats 4000000 in
theorem ct_X11_inv : pm_Ct yX11_inv cX11_inv 4 (some .int) 5 0 pre_X11_inv po_X11_inv := pm_sound (ini := false) (by decide +kernel) pk_X11_inv (fun h => absurd h (by decide)) (by
  rintro as n s0 ⟨rfl, rfl, R0, hpre⟩
  refine ⟨by decide, Nat.le_of_ble_eq_true rfl, fun G hG => ?_⟩
  have hG : pm_Rules (RX11, 5, 122, cX11_inv, -1, (fun _ => 0), false, (some .int), po_X11_inv [.inr (.inr (40, 0))] 122 s0) G := hG
  show G 0 [some (.inr (.inr (40, 0))), none, none, none] [] 122 s0
  have B0 := pb_40_0 R0
  have B1 := pb_40_1 R0
  have B2 := pb_40_2 R0
  have B3 := pb_40_3 R0
  have J2 := hpre
  have JK := J2.1
  have JW := J2.2
  refine px_aload_n hG dX11_inv_0 rfl ?_
  refine jv0 hG dX11_inv_1 ct_X11_isFull lk_X11_189 ⟨rfl, rfl⟩ (by decide) ⟨Nat.le_of_ble_eq_true rfl, Nat.le_of_ble_eq_true rfl, Nat.le_of_ble_eq_true rfl⟩ (Nat.le_of_ble_eq_true rfl) ⟨rfl, rfl, R0, J2⟩ (fun r1 t3 pr1 => ?_)
  obtain ⟨x4, rfl, Rt3, Ft3, br1⟩ := pr1 rfl
  have Ff5 := pm_Fr_mono Ft3 (M := [(43, none), (44, none), (50, none), (51, none), (52, none)]) rfl
  have jj6 := Ft3 40 0 0 rfl
  have jj7 := Ft3 40 0 1 rfl
  have jj8 := Ft3 40 0 2 rfl
  have jj9 := Ft3 40 0 3 rfl
  show G 4 [some (.inr (.inr (40, 0))), none, none, none] [.inl x4] 122 t3
  have FU := br1
  refine px_if_ne hG dX11_inv_4 (tgt := 10) (by decide) ⟨by omega, by omega⟩ (fun c10 => ?_) (fun c10 => ?_)
  · refine px_aload_n hG dX11_inv_10 rfl ?_
    refine jv0 hG dX11_inv_11 ct_X11_findTreet lk_X11_202 ⟨rfl, rfl⟩ (by decide) ⟨Nat.le_of_ble_eq_true rfl, Nat.le_of_ble_eq_true rfl, Nat.le_of_ble_eq_true rfl⟩ (Nat.le_of_ble_eq_true rfl) ⟨rfl, rfl, Rt3, ⟨pm_fTp Ff5 rfl (FU.2 (by omega)), (pm_J2_fr Ff5 rfl J2)⟩⟩ (fun r11 t13 pr11 => ?_)
    obtain ⟨rfl, Rt13, Ft13, br11⟩ := pr11 rfl
    have Ff15 := pm_Fr_tr Ff5 Ft13 (M := [(43, none), (44, none), (50, none), (51, none), (52, none)]) rfl
    have jj16 := Ft13 40 0 0 rfl
    have jj17 := Ft13 40 0 1 rfl
    have jj18 := Ft13 40 0 2 rfl
    have jj19 := Ft13 40 0 3 rfl
    show G 14 [some (.inr (.inr (40, 0))), none, none, none] [] 122 t13
    have T := br11
    have NO : t3 40 0 1 = s0 40 0 1 := Ff5 40 0 1 rfl
    have NE : t13 40 0 1 = s0 40 0 1 := Ff15 40 0 1 rfl
    rw [NO] at T
    refine px_iconst hG dX11_inv_14 ?_
    refine px_istore_n hG dX11_inv_15 (Nat.le_of_ble_eq_true rfl) (L2 := [some (.inr (.inr (40, 0))), some (.inl 0), none, none]) rfl ?_
    refine px_iconst hG dX11_inv_16 ?_
    refine px_istore_n hG dX11_inv_17 (Nat.le_of_ble_eq_true rfl) (L2 := [some (.inr (.inr (40, 0))), some (.inl 0), some (.inl 1), none]) rfl ?_
    have L18 : ∀ (N : Nat) (v1_20 : Int) (v2_21 : Int), ((1 ≤ v2_21 ∧ v2_21 ≤ 10000)) → (10001 - v2_21).toNat < N → G 18 [some (.inr (.inr (40, 0))), some (.inl v1_20), some (.inl v2_21), none] [] 122 t13 := by
      intro N
      induction N with
      | zero => intro v1_20 v2_21 inv23 hm24; exact absurd hm24 (Nat.not_lt_zero _)
      | succ N ih22 =>
        intro v1_20 v2_21 inv23 hm24
        refine px_iload_n hG dX11_inv_18 rfl ?_
        refine px_aload_n hG dX11_inv_19 rfl ?_
        refine gi_40_1 hG dX11_inv_20 fl_X11_7 Rt13 (fun x25 ex25 lx25 ux25 => ?_)
        have ex25 : s0 40 0 1 = x25 := (Ff15 40 0 1 rfl).symm.trans ex25
        refine px_ic_gt hG dX11_inv_23 (tgt := 67) (by decide) ⟨by omega, by omega⟩ ⟨by omega, by omega⟩ (fun c26 => ?_) (fun c26 => ?_)
        · refine px_iload_n hG dX11_inv_67 rfl ?_
          have jj27 := Ff15 40 0 0 rfl
          have jj28 := Ff15 40 0 1 rfl
          have jj29 := Ff15 40 0 2 rfl
          have jj30 := Ff15 40 0 3 rfl
          exact px_iret (st := []) hG dX11_inv_68 rfl rfl (fun _ => by exact ⟨_, rfl, Rt13, Ff15⟩)
        · refine px_iload_n hG dX11_inv_26 rfl ?_
          refine px_iconst hG dX11_inv_27 ?_
          refine px_iadd hG dX11_inv_28 ?_
          refine px_istore_n hG dX11_inv_29 (Nat.le_of_ble_eq_true rfl) (L2 := [some (.inr (.inr (40, 0))), some (.inl v1_20), some (.inl v2_21), some (.inl (v2_21 + 1))]) rfl ?_
          have L30 : ∀ (N : Nat) (v1_31 : Int) (v3_32 : Int), ((v2_21 + 1 ≤ v3_32 ∧ v3_32 ≤ 10000)) → (10001 - v3_32).toNat < N → G 30 [some (.inr (.inr (40, 0))), some (.inl v1_31), some (.inl v2_21), some (.inl v3_32)] [] 122 t13 := by
            intro N
            induction N with
            | zero => intro v1_31 v3_32 inv34 hm35; exact absurd hm35 (Nat.not_lt_zero _)
            | succ N ih33 =>
              intro v1_31 v3_32 inv34 hm35
              refine px_iload_n hG dX11_inv_30 rfl ?_
              refine px_aload_n hG dX11_inv_31 rfl ?_
              refine gi_40_1 hG dX11_inv_32 fl_X11_7 Rt13 (fun x36 ex36 lx36 ux36 => ?_)
              have ex36 : s0 40 0 1 = x36 := (Ff15 40 0 1 rfl).symm.trans ex36
              refine px_ic_gt hG dX11_inv_35 (tgt := 61) (by decide) ⟨by omega, by omega⟩ ⟨by omega, by omega⟩ (fun c37 => ?_) (fun c37 => ?_)
              · refine px_iinc hG dX11_inv_61 (Nat.le_of_ble_eq_true rfl) rfl (L2 := [some (.inr (.inr (40, 0))), some (.inl v1_31), some (.inl (v2_21 + 1)), some (.inl v3_32)]) rfl ?_
                refine px_goto hG dX11_inv_64 (tgt := 18) (by decide) ?_
                refine px_weak hG (L2 := [some (.inr (.inr (40, 0))), some (.inl v1_31), some (.inl (v2_21 + 1)), none]) ⟨Or.inr rfl, Or.inr rfl, Or.inr rfl, Or.inl rfl, trivial⟩ ?_
                exact ih22 v1_31 (v2_21 + 1) (by omega) (by omega)
              · refine px_iload_n hG dX11_inv_38 rfl ?_
                refine px_aload_n hG dX11_inv_39 rfl ?_
                refine px_iload_n hG dX11_inv_40 rfl ?_
                refine px_iload_n hG dX11_inv_41 rfl ?_
                refine jv2 hG dX11_inv_42 ct_X11_isBelow lk_X11_205 ⟨rfl, rfl⟩ (by decide) ⟨Nat.le_of_ble_eq_true rfl, Nat.le_of_ble_eq_true rfl, Nat.le_of_ble_eq_true rfl⟩ (Nat.le_of_ble_eq_true rfl) ⟨v2_21, v3_32, rfl, rfl, Rt13, ⟨⟨by rw [NE]; exact T, by omega, by omega, by omega⟩, (pm_J2_fr Ff15 rfl J2)⟩⟩ (fun r38 t39 pr38 => ?_)
                obtain ⟨x40, rfl, rfl, br38⟩ := pr38 _ _ rfl
                show G 45 [some (.inr (.inr (40, 0))), some (.inl v1_31), some (.inl v2_21), some (.inl v3_32)] [.inl x40, .inl v1_31] 122 t13
                have J53_43 : ∀ (j42 : Int), (j42 = 0 ∨ j42 = 1) → G 53 [some (.inr (.inr (40, 0))), none, some (.inl v2_21), some (.inl v3_32)] [.inl j42, .inl v1_31] 122 t13 := by
                  intro j42 inv44
                  refine px_iadd hG dX11_inv_53 ?_
                  refine px_istore_n hG dX11_inv_54 (Nat.le_of_ble_eq_true rfl) (L2 := [some (.inr (.inr (40, 0))), some (.inl (v1_31 + j42)), some (.inl v2_21), some (.inl v3_32)]) rfl ?_
                  refine px_iinc hG dX11_inv_55 (Nat.le_of_ble_eq_true rfl) rfl (L2 := [some (.inr (.inr (40, 0))), some (.inl (v1_31 + j42)), some (.inl v2_21), some (.inl (v3_32 + 1))]) rfl ?_
                  refine px_goto hG dX11_inv_58 (tgt := 30) (by decide) ?_
                  exact ih33 (v1_31 + j42) (v3_32 + 1) (by omega) (by omega)
                refine px_if_eq hG dX11_inv_45 (tgt := 52) (by decide) ⟨by omega, by omega⟩ (fun c41 => ?_) (fun c41 => ?_)
                · refine px_iconst hG dX11_inv_52 ?_
                  refine px_weak hG (L2 := [some (.inr (.inr (40, 0))), none, some (.inl v2_21), some (.inl v3_32)]) ⟨Or.inr rfl, Or.inl rfl, Or.inr rfl, Or.inr rfl, trivial⟩ ?_
                  exact J53_43 0 (by omega)
                · refine px_iconst hG dX11_inv_48 ?_
                  refine px_goto hG dX11_inv_49 (tgt := 53) (by decide) ?_
                  refine px_weak hG (L2 := [some (.inr (.inr (40, 0))), none, some (.inl v2_21), some (.inl v3_32)]) ⟨Or.inr rfl, Or.inl rfl, Or.inr rfl, Or.inr rfl, trivial⟩ ?_
                  exact J53_43 1 (by omega)
          exact L30 _ v1_20 (v2_21 + 1) (by omega) (Nat.lt_succ_self _)
    exact L18 _ 0 1 (by omega) (Nat.lt_succ_self _)
  · refine px_bipush hG dX11_inv_7 (by decide) ?_
    have jj45 := Ff5 40 0 0 rfl
    have jj46 := Ff5 40 0 1 rfl
    have jj47 := Ff5 40 0 2 rfl
    have jj48 := Ff5 40 0 3 rfl
    exact px_iret (st := []) hG dX11_inv_9 rfl rfl (fun _ => by exact ⟨_, rfl, Rt3, Ff5⟩))
def pre_X11_neighbourOf (as : List pm_V) (n : Nat) (σ : pm_H) : Prop := ∃ nd : Int, as = [.inr (.inr (40, 0)), .inl nd] ∧ n = 122 ∧ pm_Rng σ ∧ ((pm_tr σ (σ 40 0 1) ∧ 0 ≤ nd ∧ nd ≤ σ 40 0 1) ∧ pm_J2 σ)
def po_X11_neighbourOf (as : List pm_V) (_ : Nat) (σ : pm_H) (r : Option pm_V) (τ : pm_H) : Prop := ∀ nd : Int, as = [.inr (.inr (40, 0)), .inl nd] → ∃ v : Int, r = some (.inl v) ∧ σ = τ ∧ (-1 ≤ v ∧ v ≤ 10 ∧ (pm_nbH σ nd → (∀ y : Int, 1 ≤ y → y ≤ σ 40 0 1 → σ 50 0 y = nd → σ 53 0 y ≠ 0) → 0 ≤ v) ∧ (pm_nbH σ nd → 0 ≤ v → (∀ y : Int, 1 ≤ y → y ≤ σ 40 0 1 → σ 50 0 y = nd → σ 53 0 y ≠ 0)))
set_option maxRecDepth 20000 in
set_option maxHeartbeats 4000000 in
theorem ct_X11_neighbourOf : pm_Ct yX11_neighbourOf cX11_neighbourOf 6 (some .int) 0 0 pre_X11_neighbourOf po_X11_neighbourOf := pm_sound (ini := false) (by decide +kernel) pk_X11_neighbourOf (fun h => absurd h (by decide)) (by
  rintro as n s0 ⟨nd, rfl, rfl, R0, hpre⟩
  refine ⟨by decide, Nat.le_of_ble_eq_true rfl, fun G hG => ?_⟩
  have hG : pm_Rules (RX11, 0, 122, cX11_neighbourOf, -1, (fun _ => 0), false, (some .int), po_X11_neighbourOf [.inr (.inr (40, 0)), .inl nd] 122 s0) G := hG
  show G 0 [some (.inr (.inr (40, 0))), some (.inl nd), none, none, none, none] [] 122 s0
  have B0 := pb_40_0 R0
  have B1 := pb_40_1 R0
  have B2 := pb_40_2 R0
  have B3 := pb_40_3 R0
  have J2 := hpre.2
  have HP := hpre.1
  have JK := J2.1
  have JW := J2.2
  refine px_iconst hG dX11_neighbourOf_0 ?_
  refine px_istore_n hG dX11_neighbourOf_1 (Nat.le_of_ble_eq_true rfl) (L2 := [some (.inr (.inr (40, 0))), some (.inl nd), some (.inl (-1)), none, none, none]) rfl ?_
  refine px_iconst hG dX11_neighbourOf_2 ?_
  refine px_istore_n hG dX11_neighbourOf_3 (Nat.le_of_ble_eq_true rfl) (L2 := [some (.inr (.inr (40, 0))), some (.inl nd), some (.inl (-1)), some (.inl 0), none, none]) rfl ?_
  refine px_iconst hG dX11_neighbourOf_4 ?_
  refine px_istore hG dX11_neighbourOf_5 (Nat.le_of_ble_eq_true rfl) (L2 := [some (.inr (.inr (40, 0))), some (.inl nd), some (.inl (-1)), some (.inl 0), some (.inl 1), none]) rfl ?_
  have L7 : ∀ (N : Nat) (v2_1 : Int) (v3_2 : Int) (v4_3 : Int), ((0 ≤ v3_2 ∧ v3_2 ≤ 10000) ∧ (1 ≤ v4_3 ∧ v4_3 ≤ 10000) ∧ (-1 ≤ v2_1 ∧ v2_1 ≤ 10 ∧ (1 ≤ v3_2 → 0 ≤ v2_1) ∧ v3_2 ≤ v4_3 - 1 ∧ v4_3 ≤ s0 40 0 1 + 1 ∧ (pm_nbH s0 nd → v3_2 = (if nd < v4_3 then 1 else 0) + pm_nb s0 nd (v4_3 - 1).toNat))) → (10001 - v4_3).toNat < N → G 7 [some (.inr (.inr (40, 0))), some (.inl nd), some (.inl v2_1), some (.inl v3_2), some (.inl v4_3), none] [] 122 s0 := by
    intro N
    induction N with
    | zero => intro v2_1 v3_2 v4_3 inv5 hm6; exact absurd hm6 (Nat.not_lt_zero _)
    | succ N ih4 =>
      intro v2_1 v3_2 v4_3 inv5 hm6
      have W := inv5.2.2
      have U := W.2.2.2.2.2
      obtain ⟨c4, hc4⟩ : ∃ z : Int, z = v4_3 := ⟨_, rfl⟩
      refine px_iload hG dX11_neighbourOf_7 rfl ?_
      refine px_aload_n hG dX11_neighbourOf_9 rfl ?_
      refine gi_40_1 hG dX11_neighbourOf_10 fl_X11_7 R0 (fun x7 ex7 lx7 ux7 => ?_)
      have J88_9 : ((v4_3 > x7)) → G 88 [none, none, some (.inl v2_1), some (.inl v3_2), none, none] [] 122 s0 := by
        intro inv10
        have U9 : pm_nbH s0 nd → v3_2 = 1 + pm_nb s0 nd (s0 40 0 1).toNat := fun h => by have a := U h; rw [if_pos (by omega), ← hc4, show c4 - 1 = s0 40 0 1 by omega] at a; exact a
        refine px_iload_n hG dX11_neighbourOf_88 rfl ?_
        refine px_iconst hG dX11_neighbourOf_89 ?_
        refine px_ic_ne hG dX11_neighbourOf_90 (tgt := 97) (by decide) ⟨by omega, by omega⟩ ⟨by omega, by omega⟩ (fun c11 => ?_) (fun c11 => ?_)
        · refine px_iconst hG dX11_neighbourOf_97 ?_
          exact px_iret (st := []) hG dX11_neighbourOf_98 rfl rfl (fun nd_1 ee => by cases ee; exact ⟨_, rfl, rfl, ⟨by omega, by omega, fun h q => by have a := U9 h; rw [pm_nb_0 (fun y y1 y2 => q y y1 (by omega))] at a; omega, fun h q y y1 y2 y3 y4 => by have a := U9 h; have b := pm_nb_1 (s := s0) (nd := nd) (k := (s0 40 0 1).toNat) y1 (by omega) (fun z => by have t := (HP.1 y y1 y2).2.2; rw [y3, z] at t; omega) y3 y4; omega⟩⟩)
        · refine px_iload_n hG dX11_neighbourOf_93 rfl ?_
          refine px_goto hG dX11_neighbourOf_94 (tgt := 98) (by decide) ?_
          exact px_iret (st := []) hG dX11_neighbourOf_98 rfl rfl (fun nd_1 ee => by cases ee; exact ⟨_, rfl, rfl, ⟨by omega, by omega, fun h q => by have a := U9 h; rw [pm_nb_0 (fun y y1 y2 => q y y1 (by omega))] at a; omega, fun h q y y1 y2 y3 y4 => by have a := U9 h; have b := pm_nb_1 (s := s0) (nd := nd) (k := (s0 40 0 1).toNat) y1 (by omega) (fun z => by have t := (HP.1 y y1 y2).2.2; rw [y3, z] at t; omega) y3 y4; omega⟩⟩)
      refine px_ic_gt hG dX11_neighbourOf_13 (tgt := 88) (by decide) ⟨by omega, by omega⟩ ⟨by omega, by omega⟩ (fun c8 => ?_) (fun c8 => ?_)
      · refine px_weak hG (L2 := [none, none, some (.inl v2_1), some (.inl v3_2), none, none]) ⟨Or.inl rfl, Or.inl rfl, Or.inr rfl, Or.inr rfl, Or.inl rfl, Or.inr rfl, trivial⟩ ?_
        exact J88_9  (by omega)
      · refine px_iload hG dX11_neighbourOf_16 rfl ?_
        refine px_iload_n hG dX11_neighbourOf_18 rfl ?_
        have J49_14 : ∀ (j13 : Int), (-1 ≤ j13 ∧ j13 ≤ 10 ∧ ((v4_3 = nd ∧ j13 = s0 50 0 nd) ∨ (v4_3 ≠ nd ∧ s0 50 0 v4_3 = nd ∧ j13 = v4_3) ∨ (v4_3 ≠ nd ∧ s0 50 0 v4_3 ≠ nd ∧ j13 = -1))) → G 49 [some (.inr (.inr (40, 0))), some (.inl nd), some (.inl v2_1), some (.inl v3_2), some (.inl v4_3), none] [.inl j13] 122 s0 := by
          intro j13 inv15
          refine px_istore hG dX11_neighbourOf_49 (Nat.le_of_ble_eq_true rfl) (L2 := [some (.inr (.inr (40, 0))), some (.inl nd), some (.inl v2_1), some (.inl v3_2), some (.inl v4_3), some (.inl j13)]) rfl ?_
          obtain ⟨o5, ho5⟩ : ∃ q : Int, q = j13 := ⟨_, rfl⟩
          refine px_iload hG dX11_neighbourOf_51 rfl ?_
          refine px_if_lt hG dX11_neighbourOf_53 (tgt := 82) (by decide) ⟨by omega, by omega⟩ (fun c16 => ?_) (fun c16 => ?_)
          · refine px_iinc hG dX11_neighbourOf_82 (Nat.le_of_ble_eq_true rfl) rfl (L2 := [some (.inr (.inr (40, 0))), some (.inl nd), some (.inl v2_1), some (.inl v3_2), some (.inl (v4_3 + 1)), some (.inl j13)]) rfl ?_
            refine px_goto hG dX11_neighbourOf_85 (tgt := 7) (by decide) ?_
            refine px_weak hG (L2 := [some (.inr (.inr (40, 0))), some (.inl nd), some (.inl v2_1), some (.inl v3_2), some (.inl (v4_3 + 1)), none]) ⟨Or.inr rfl, Or.inr rfl, Or.inr rfl, Or.inr rfl, Or.inr rfl, Or.inl rfl, trivial⟩ ?_
            exact ih4 v2_1 v3_2 (v4_3 + 1) (⟨by omega, by omega, ⟨by omega, by omega, by omega, by omega, by omega, pm_nb_st (o := o5) (by omega) U (by omega) (fun h => (HP.1 nd h.1 (by omega)).1) (by omega)⟩⟩) (by omega)
          · refine px_aload_n hG dX11_neighbourOf_56 rfl ?_
            refine gr_40_16 hG dX11_neighbourOf_57 fl_X11_51 R0 ?_
            refine px_iload hG dX11_neighbourOf_60 rfl ?_
            refine al_53 hG dX11_neighbourOf_62 R0 (by omega) (fun x17 ex17 lx17 ux17 => ?_)
            refine px_if_ne hG dX11_neighbourOf_63 (tgt := 82) (by decide) ⟨by omega, by omega⟩ (fun c18 => ?_) (fun c18 => ?_)
            · refine px_iinc hG dX11_neighbourOf_82 (Nat.le_of_ble_eq_true rfl) rfl (L2 := [some (.inr (.inr (40, 0))), some (.inl nd), some (.inl v2_1), some (.inl v3_2), some (.inl (v4_3 + 1)), some (.inl j13)]) rfl ?_
              refine px_goto hG dX11_neighbourOf_85 (tgt := 7) (by decide) ?_
              refine px_weak hG (L2 := [some (.inr (.inr (40, 0))), some (.inl nd), some (.inl v2_1), some (.inl v3_2), some (.inl (v4_3 + 1)), none]) ⟨Or.inr rfl, Or.inr rfl, Or.inr rfl, Or.inr rfl, Or.inr rfl, Or.inl rfl, trivial⟩ ?_
              exact ih4 v2_1 v3_2 (v4_3 + 1) (⟨by omega, by omega, ⟨by omega, by omega, by omega, by omega, by omega, pm_nb_st (o := o5) (by omega) U (by omega) (fun h => (HP.1 nd h.1 (by omega)).1) (by omega)⟩⟩) (by omega)
            · refine px_aload_n hG dX11_neighbourOf_66 rfl ?_
              refine gr_40_16 hG dX11_neighbourOf_67 fl_X11_51 R0 ?_
              refine px_iload hG dX11_neighbourOf_70 rfl ?_
              refine al_53 hG dX11_neighbourOf_72 R0 (by omega) (fun x19 ex19 lx19 ux19 => ?_)
              have X7 := ex19
              rw [← ho5] at X7
              refine px_if_ne hG dX11_neighbourOf_73 (tgt := 82) (by decide) ⟨by omega, by omega⟩ (fun c20 => ?_) (fun c20 => ?_)
              · refine px_iinc hG dX11_neighbourOf_82 (Nat.le_of_ble_eq_true rfl) rfl (L2 := [some (.inr (.inr (40, 0))), some (.inl nd), some (.inl v2_1), some (.inl v3_2), some (.inl (v4_3 + 1)), some (.inl j13)]) rfl ?_
                refine px_goto hG dX11_neighbourOf_85 (tgt := 7) (by decide) ?_
                refine px_weak hG (L2 := [some (.inr (.inr (40, 0))), some (.inl nd), some (.inl v2_1), some (.inl v3_2), some (.inl (v4_3 + 1)), none]) ⟨Or.inr rfl, Or.inr rfl, Or.inr rfl, Or.inr rfl, Or.inr rfl, Or.inl rfl, trivial⟩ ?_
                exact ih4 v2_1 v3_2 (v4_3 + 1) (⟨by omega, by omega, ⟨by omega, by omega, by omega, by omega, by omega, pm_nb_st (o := o5) (by omega) U (by omega) (fun h => (HP.1 nd h.1 (by omega)).1) (by omega)⟩⟩) (by omega)
              · refine px_iload hG dX11_neighbourOf_76 rfl ?_
                refine px_istore_n hG dX11_neighbourOf_78 (Nat.le_of_ble_eq_true rfl) (L2 := [some (.inr (.inr (40, 0))), some (.inl nd), some (.inl j13), some (.inl v3_2), some (.inl v4_3), some (.inl j13)]) rfl ?_
                refine px_iinc hG dX11_neighbourOf_79 (Nat.le_of_ble_eq_true rfl) rfl (L2 := [some (.inr (.inr (40, 0))), some (.inl nd), some (.inl j13), some (.inl (v3_2 + 1)), some (.inl v4_3), some (.inl j13)]) rfl ?_
                refine px_iinc hG dX11_neighbourOf_82 (Nat.le_of_ble_eq_true rfl) rfl (L2 := [some (.inr (.inr (40, 0))), some (.inl nd), some (.inl j13), some (.inl (v3_2 + 1)), some (.inl (v4_3 + 1)), some (.inl j13)]) rfl ?_
                refine px_goto hG dX11_neighbourOf_85 (tgt := 7) (by decide) ?_
                refine px_weak hG (L2 := [some (.inr (.inr (40, 0))), some (.inl nd), some (.inl j13), some (.inl (v3_2 + 1)), some (.inl (v4_3 + 1)), none]) ⟨Or.inr rfl, Or.inr rfl, Or.inr rfl, Or.inr rfl, Or.inr rfl, Or.inl rfl, trivial⟩ ?_
                exact ih4 j13 (v3_2 + 1) (v4_3 + 1) (⟨by omega, by omega, ⟨by omega, by omega, by omega, by omega, by omega, pm_nb_st (o := o5) (by omega) U (by omega) (fun h => (HP.1 nd h.1 (by omega)).1) (by omega)⟩⟩) (by omega)
        refine px_ic_ne hG dX11_neighbourOf_19 (tgt := 32) (by decide) ⟨by omega, by omega⟩ ⟨by omega, by omega⟩ (fun c12 => ?_) (fun c12 => ?_)
        · refine px_aload_n hG dX11_neighbourOf_32 rfl ?_
          refine gr_40_13 hG dX11_neighbourOf_33 fl_X11_42 R0 ?_
          refine px_iload hG dX11_neighbourOf_36 rfl ?_
          refine al_50 hG dX11_neighbourOf_38 R0 (by omega) (fun x21 ex21 lx21 ux21 => ?_)
          refine px_iload_n hG dX11_neighbourOf_39 rfl ?_
          refine px_ic_ne hG dX11_neighbourOf_40 (tgt := 48) (by decide) ⟨by omega, by omega⟩ ⟨by omega, by omega⟩ (fun c22 => ?_) (fun c22 => ?_)
          · refine px_iconst hG dX11_neighbourOf_48 ?_
            exact J49_14 (-1) (by omega)
          · refine px_iload hG dX11_neighbourOf_43 rfl ?_
            refine px_goto hG dX11_neighbourOf_45 (tgt := 49) (by decide) ?_
            exact J49_14 v4_3 (by omega)
        · refine px_aload_n hG dX11_neighbourOf_22 rfl ?_
          refine gr_40_13 hG dX11_neighbourOf_23 fl_X11_42 R0 ?_
          refine px_iload hG dX11_neighbourOf_26 rfl ?_
          refine al_50 hG dX11_neighbourOf_28 R0 (by omega) (fun x23 ex23 lx23 ux23 => ?_)
          have X5 : s0 50 0 nd = x23 := by rw [← show v4_3 = nd by omega]; exact ex23
          refine px_goto hG dX11_neighbourOf_29 (tgt := 49) (by decide) ?_
          exact J49_14 x23 (by omega)
  exact L7 _ (-1) 0 1 (⟨by omega, by omega, ⟨by omega, by omega, by omega, by omega, by omega, fun h => by have h1 := h.1; rw [if_neg (by omega)]; rfl⟩⟩) (Nat.lt_succ_self _))
def pre_X11_code (as : List pm_V) (n : Nat) (σ : pm_H) : Prop := ∃ aa : Int, as = [.inr (.inr (40, 0)), .inl aa] ∧ n = 122 ∧ pm_Rng σ ∧ ((pm_in aa) ∧ pm_J2 σ)
def po_X11_code (as : List pm_V) (_ : Nat) (σ : pm_H) (r : Option pm_V) (τ : pm_H) : Prop := ∀ aa : Int, as = [.inr (.inr (40, 0)), .inl aa] → ∃ v : Int, r = some (.inl v) ∧ pm_Rng τ ∧ pm_Fr [(43, none), (44, none), (50, none), (51, none), (52, none), (53, none)] σ τ
set_option maxRecDepth 20000 in
set_option maxHeartbeats 4000000 in
theorem ct_X11_code : pm_Ct yX11_code cX11_code 5 (some .int) 5 0 pre_X11_code po_X11_code := pm_sound (ini := false) (by decide +kernel) pk_X11_code (fun h => absurd h (by decide)) (by
  rintro as n s0 ⟨aa, rfl, rfl, R0, hpre⟩
  refine ⟨by decide, Nat.le_of_ble_eq_true rfl, fun G hG => ?_⟩
  have hG : pm_Rules (RX11, 5, 122, cX11_code, -1, (fun _ => 0), false, (some .int), po_X11_code [.inr (.inr (40, 0)), .inl aa] 122 s0) G := hG
  show G 0 [some (.inr (.inr (40, 0))), some (.inl aa), none, none, none] [] 122 s0
  have B0 := pb_40_0 R0
  have B1 := pb_40_1 R0
  have B2 := pb_40_2 R0
  have B3 := pb_40_3 R0
  have J2 := hpre.2
  have HP := hpre.1
  have JK := J2.1
  have JW := J2.2
  refine px_iload_n hG dX11_code_0 rfl ?_
  refine px_i2l hG dX11_code_1 ⟨by omega, by omega⟩ ?_
  refine px_lconst hG dX11_code_2 ?_
  show G 3 [some (.inr (.inr (40, 0))), some (.inl aa), none, none, none] [.inr (.inl 0), .inr (.inl aa)] 122 s0
  refine px_aload_n hG dX11_code_3 rfl ?_
  refine gi_40_1 hG dX11_code_4 fl_X11_7 R0 (fun x1 ex1 lx1 ux1 => ?_)
  refine px_iconst hG dX11_code_7 ?_
  refine px_isub hG dX11_code_8 ?_
  refine px_i2l hG dX11_code_9 ⟨by omega, by omega⟩ ?_
  refine js3 hG dX11_code_10 ct_X11_in lk_X11_96 ⟨Nat.le_of_ble_eq_true rfl, Nat.le_of_ble_eq_true rfl, Nat.le_of_ble_eq_true rfl⟩ (Nat.le_of_ble_eq_true rfl) ⟨aa, 0, (x1 - 2), rfl, rfl, R0, by omega⟩ (fun r2 t3 pr2 => ?_)
  obtain ⟨x4, rfl, rfl, br2⟩ := pr2 _ _ _ rfl
  show G 13 [some (.inr (.inr (40, 0))), some (.inl aa), none, none, none] [.inl x4] 122 s0
  refine px_if_ne hG dX11_code_13 (tgt := 18) (by decide) ⟨by omega, by omega⟩ (fun c5 => ?_) (fun c5 => ?_)
  · refine px_aload_n hG dX11_code_18 rfl ?_
    refine jv0 hG dX11_code_19 ct_X11_isFull lk_X11_189 ⟨rfl, rfl⟩ (by decide) ⟨Nat.le_of_ble_eq_true rfl, Nat.le_of_ble_eq_true rfl, Nat.le_of_ble_eq_true rfl⟩ (Nat.le_of_ble_eq_true rfl) ⟨rfl, rfl, R0, J2⟩ (fun r6 t8 pr6 => ?_)
    obtain ⟨x9, rfl, Rt8, Ft8, br6⟩ := pr6 rfl
    have Ff10 := pm_Fr_mono Ft8 (M := [(43, none), (44, none), (50, none), (51, none), (52, none), (53, none)]) rfl
    have jj11 := Ft8 40 0 0 rfl
    have jj12 := Ft8 40 0 1 rfl
    have jj13 := Ft8 40 0 2 rfl
    have jj14 := Ft8 40 0 3 rfl
    have k15 : t8 40 0 1 = x1 := (Ft8 40 0 1 rfl).trans ex1
    show G 22 [some (.inr (.inr (40, 0))), some (.inl aa), none, none, none] [.inl x9] 122 t8
    have FU := br6
    refine px_if_ne hG dX11_code_22 (tgt := 28) (by decide) ⟨by omega, by omega⟩ (fun c16 => ?_) (fun c16 => ?_)
    · refine px_aload_n hG dX11_code_28 rfl ?_
      refine jv0 hG dX11_code_29 ct_X11_findTreet lk_X11_202 ⟨rfl, rfl⟩ (by decide) ⟨Nat.le_of_ble_eq_true rfl, Nat.le_of_ble_eq_true rfl, Nat.le_of_ble_eq_true rfl⟩ (Nat.le_of_ble_eq_true rfl) ⟨rfl, rfl, Rt8, ⟨pm_fTp Ff10 rfl (FU.2 (by omega)), (pm_J2_fr Ff10 rfl J2)⟩⟩ (fun r17 t19 pr17 => ?_)
      obtain ⟨rfl, Rt19, Ft19, br17⟩ := pr17 rfl
      have Ff21 := pm_Fr_tr Ff10 Ft19 (M := [(43, none), (44, none), (50, none), (51, none), (52, none), (53, none)]) rfl
      have jj22 := Ft19 40 0 0 rfl
      have jj23 := Ft19 40 0 1 rfl
      have jj24 := Ft19 40 0 2 rfl
      have jj25 := Ft19 40 0 3 rfl
      have k26 : t19 40 0 1 = x1 := (Ft19 40 0 1 rfl).trans k15
      show G 32 [some (.inr (.inr (40, 0))), some (.inl aa), none, none, none] [] 122 t19
      have T := br17
      have NO : t8 40 0 1 = s0 40 0 1 := Ff10 40 0 1 rfl
      have NE : t19 40 0 1 = s0 40 0 1 := Ff21 40 0 1 rfl
      rw [NO] at T
      refine px_iconst hG dX11_code_32 ?_
      refine px_istore_n hG dX11_code_33 (Nat.le_of_ble_eq_true rfl) (L2 := [some (.inr (.inr (40, 0))), some (.inl aa), some (.inl 0), none, none]) rfl ?_
      have L34 : ∀ (N : Nat) (v2_27 : Int) (s28 : pm_H), pm_Rng s28 → pm_Fr [(43, none), (44, none), (50, none), (51, none), (52, none), (53, none)] s0 s28 → s28 40 0 1 = x1 → ((0 ≤ v2_27 ∧ v2_27 ≤ 10000) ∧ (pm_tr s28 (s0 40 0 1) ∧ ∀ q : Int, 0 ≤ q → q < v2_27 → s28 53 0 q = 0)) → (10001 - v2_27).toNat < N → G 34 [some (.inr (.inr (40, 0))), some (.inl aa), some (.inl v2_27), none, none] [] 122 s28 := by
        intro N
        induction N with
        | zero => intro v2_27 s28 R29 F30 k32 inv33 hm34; exact absurd hm34 (Nat.not_lt_zero _)
        | succ N ih31 =>
          intro v2_27 s28 R29 F30 k32 inv33 hm34
          have jj35 := F30 40 0 0 rfl
          have jj36 := F30 40 0 1 rfl
          have jj37 := F30 40 0 2 rfl
          have jj38 := F30 40 0 3 rfl
          have T := (inv33.2).1
          have Z := (inv33.2).2
          refine px_iload_n hG dX11_code_34 rfl ?_
          refine px_aload_n hG dX11_code_35 rfl ?_
          refine gi_40_1 hG dX11_code_36 fl_X11_7 R29 (fun x39 ex39 lx39 ux39 => ?_)
          have ex39 : s0 40 0 1 = x39 := (F30 40 0 1 rfl).symm.trans ex39
          have J55_41 : ((v2_27 > x39)) → G 55 [some (.inr (.inr (40, 0))), some (.inl aa), none, none, none] [] 122 s28 := by
            intro inv42
            refine px_iconst hG dX11_code_55 ?_
            refine px_istore_n hG dX11_code_56 (Nat.le_of_ble_eq_true rfl) (L2 := [some (.inr (.inr (40, 0))), some (.inl aa), some (.inl (-1)), none, none]) rfl ?_
            refine px_iconst hG dX11_code_57 ?_
            refine px_istore_n hG dX11_code_58 (Nat.le_of_ble_eq_true rfl) (L2 := [some (.inr (.inr (40, 0))), some (.inl aa), some (.inl (-1)), some (.inl 0), none]) rfl ?_
            have L59 : ∀ (N : Nat) (v2_43 : Int) (v3_44 : Int) (s45 : pm_H), pm_Rng s45 → pm_Fr [(43, none), (44, none), (50, none), (51, none), (52, none), (53, none)] s0 s45 → s45 40 0 1 = x1 → ((0 ≤ v3_44 ∧ v3_44 ≤ 10000) ∧ (pm_tr s45 (s0 40 0 1) ∧ pm_cl s45 (s0 40 0 1) ∧ pm_oc (s45 53 0) 0 (s0 40 0 1).toNat ≤ v3_44)) → (10001 - v3_44).toNat < N → G 59 [some (.inr (.inr (40, 0))), some (.inl aa), some (.inl v2_43), some (.inl v3_44), none] [] 122 s45 := by
              intro N
              induction N with
              | zero => intro v2_43 v3_44 s45 R46 F47 k49 inv50 hm51; exact absurd hm51 (Nat.not_lt_zero _)
              | succ N ih48 =>
                intro v2_43 v3_44 s45 R46 F47 k49 inv50 hm51
                have jj52 := F47 40 0 0 rfl
                have jj53 := F47 40 0 1 rfl
                have jj54 := F47 40 0 2 rfl
                have jj55 := F47 40 0 3 rfl
                have T := (inv50.2).1
                have CL := (inv50.2).2.1
                have CN := (inv50.2).2.2
                refine px_iload_n hG dX11_code_59 rfl ?_
                refine px_iload_n hG dX11_code_60 rfl ?_
                refine px_ic_gt hG dX11_code_61 (tgt := 116) (by decide) ⟨by omega, by omega⟩ ⟨by omega, by omega⟩ (fun c56 => ?_) (fun c56 => ?_)
                · refine px_iload_n hG dX11_code_116 rfl ?_
                  have jj57 := F47 40 0 0 rfl
                  have jj58 := F47 40 0 1 rfl
                  have jj59 := F47 40 0 2 rfl
                  have jj60 := F47 40 0 3 rfl
                  exact px_iret (st := []) hG dX11_code_117 rfl rfl (fun aa_1 ee => by cases ee; exact ⟨_, rfl, R46, F47⟩)
                · have NE : s45 40 0 1 = s0 40 0 1 := F47 40 0 1 rfl
                  obtain ⟨ll, L1, L2, L3, L4⟩ := pm_leaf (n := s0 40 0 1) T R46 (by omega) (by omega) CN
                  refine px_aload_n hG dX11_code_64 rfl ?_
                  refine gi_40_1 hG dX11_code_65 fl_X11_7 R46 (fun x61 ex61 lx61 ux61 => ?_)
                  have ex61 : s0 40 0 1 = x61 := (F47 40 0 1 rfl).symm.trans ex61
                  refine px_istore hG dX11_code_68 (Nat.le_of_ble_eq_true rfl) (L2 := [some (.inr (.inr (40, 0))), some (.inl aa), some (.inl v2_43), some (.inl v3_44), some (.inl x61)]) rfl ?_
                  have L70 : ∀ (N : Nat) (v4_62 : Int), ((-10000 ≤ v4_62 ∧ v4_62 ≤ x61) ∧ (ll ≤ v4_62)) → (v4_62 + 10001).toNat < N → G 70 [some (.inr (.inr (40, 0))), some (.inl aa), none, some (.inl v3_44), some (.inl v4_62)] [] 122 s45 := by
                    intro N
                    induction N with
                    | zero => intro v4_62 inv64 hm65; exact absurd hm65 (Nat.not_lt_zero _)
                    | succ N ih63 =>
                      intro v4_62 inv64 hm65
                      have LV := inv64.2
                      refine px_aload_n hG dX11_code_70 rfl ?_
                      refine gr_40_16 hG dX11_code_71 fl_X11_51 R46 ?_
                      refine px_iload hG dX11_code_74 rfl ?_
                      refine al_53 hG dX11_code_76 R46 (by omega) (fun x66 ex66 lx66 ux66 => ?_)
                      have S0 := ex66
                      have S1 : v4_62 = ll → x66 = 0 := fun h => by rw [← ex66, h]; exact L3
                      have J80_68 : ((¬ (x66 ≠ 0))) → G 80 [some (.inr (.inr (40, 0))), some (.inl aa), none, some (.inl v3_44), some (.inl v4_62)] [] 122 s45 := by
                        intro inv69
                        refine px_aload_n hG dX11_code_80 rfl ?_
                        refine px_iload hG dX11_code_81 rfl ?_
                        refine jv1 hG dX11_code_83 ct_X11_neighbourOf lk_X11_208 ⟨rfl, rfl⟩ (by decide) ⟨Nat.le_of_ble_eq_true rfl, Nat.le_of_ble_eq_true rfl, Nat.le_of_ble_eq_true rfl⟩ (Nat.le_of_ble_eq_true rfl) ⟨v4_62, rfl, rfl, R46, ⟨⟨by rw [NE]; exact T, by omega, by omega⟩, (pm_J2_fr F47 rfl J2)⟩⟩ (fun r70 t71 pr70 => ?_)
                        obtain ⟨x72, rfl, rfl, br70⟩ := pr70 _ rfl
                        show G 86 [some (.inr (.inr (40, 0))), some (.inl aa), none, some (.inl v3_44), some (.inl v4_62)] [.inl x72] 122 s45
                        have NB := br70
                        rw [NE] at NB
                        have S2 : v4_62 = ll → 0 ≤ x72 := fun h => NB.2.2.1 (by rw [h]; exact ⟨L1, L3, CL.2 ll L1 L2 L3⟩) (by rw [h]; exact L4)
                        have J95_74 : ((x72 ≥ 0)) → G 95 [some (.inr (.inr (40, 0))), some (.inl aa), none, some (.inl v3_44), some (.inl v4_62)] [] 122 s45 := by
                          intro inv75
                          refine px_aload_n hG dX11_code_95 rfl ?_
                          refine px_iload hG dX11_code_96 rfl ?_
                          refine jv1 hG dX11_code_98 ct_X11_neighbourOf lk_X11_208 ⟨rfl, rfl⟩ (by decide) ⟨Nat.le_of_ble_eq_true rfl, Nat.le_of_ble_eq_true rfl, Nat.le_of_ble_eq_true rfl⟩ (Nat.le_of_ble_eq_true rfl) ⟨v4_62, rfl, rfl, R46, ⟨⟨by rw [NE]; exact T, by omega, by omega⟩, (pm_J2_fr F47 rfl J2)⟩⟩ (fun r76 t77 pr76 => ?_)
                          obtain ⟨x78, rfl, rfl, br76⟩ := pr76 _ rfl
                          show G 101 [some (.inr (.inr (40, 0))), some (.inl aa), none, some (.inl v3_44), some (.inl v4_62)] [.inl x78] 122 s45
                          refine px_istore_n hG dX11_code_101 (Nat.le_of_ble_eq_true rfl) (L2 := [some (.inr (.inr (40, 0))), some (.inl aa), some (.inl x78), some (.inl v3_44), some (.inl v4_62)]) rfl ?_
                          refine px_aload_n hG dX11_code_102 rfl ?_
                          refine gr_40_16 hG dX11_code_103 fl_X11_51 R46 ?_
                          refine px_iload hG dX11_code_106 rfl ?_
                          refine px_iconst hG dX11_code_108 ?_
                          refine as_53 hG dX11_code_109 R46 (by omega) (by omega) (fun s79 qs79 Rs79 => ?_)
                          have Fs79 := pm_Fr_up (F47) qs79 (M := [(43, none), (44, none), (50, none), (51, none), (52, none), (53, none)]) rfl
                          have k80 : s79 40 0 1 = x1 := (pm_nec qs79 (by decide)).trans k49
                          have jj81 := pm_nec qs79 (c' := 40) (r' := 0) (i' := 0) (by decide)
                          have jj82 := pm_nec qs79 (c' := 40) (r' := 0) (i' := 1) (by decide)
                          have jj83 := pm_nec qs79 (c' := 40) (r' := 0) (i' := 2) (by decide)
                          have jj84 := pm_nec qs79 (c' := 40) (r' := 0) (i' := 3) (by decide)
                          have E := qs79
                          have N1 := NB.2.2.2 ⟨by omega, by omega, CL.2 v4_62 (by omega) (by omega) (by omega)⟩ (by omega)
                          have CL2 := pm_cl_s CL E (by omega) N1
                          have CN2 := pm_oc_up (o := s45 53 0) (o' := s79 53 0) (p := 0) (q := v4_62) (k := (s0 40 0 1).toNat) (by omega) (by omega) (by omega) (by rw [pm_at E]; omega) (fun i z => pm_nei E z)
                          rw [if_pos (by omega)] at CN2
                          refine px_iinc hG dX11_code_110 (Nat.le_of_ble_eq_true rfl) rfl (L2 := [some (.inr (.inr (40, 0))), some (.inl aa), some (.inl x78), some (.inl (v3_44 + 1)), some (.inl v4_62)]) rfl ?_
                          refine px_goto hG dX11_code_113 (tgt := 59) (by decide) ?_
                          refine px_weak hG (L2 := [some (.inr (.inr (40, 0))), some (.inl aa), some (.inl x78), some (.inl (v3_44 + 1)), none]) ⟨Or.inr rfl, Or.inr rfl, Or.inr rfl, Or.inr rfl, Or.inl rfl, trivial⟩ ?_
                          exact ih48 x78 (v3_44 + 1) s79 Rs79 Fs79 k80 (⟨by omega, ⟨pm_tr_up E (by decide) (by decide) T, CL2, by omega⟩⟩) (by omega)
                        refine px_if_ge hG dX11_code_86 (tgt := 95) (by decide) ⟨by omega, by omega⟩ (fun c73 => ?_) (fun c73 => ?_)
                        · exact J95_74  (by omega)
                        · refine px_iinc hG dX11_code_89 (Nat.le_of_ble_eq_true rfl) rfl (L2 := [some (.inr (.inr (40, 0))), some (.inl aa), none, some (.inl v3_44), some (.inl (v4_62 + -1))]) rfl ?_
                          refine px_goto hG dX11_code_92 (tgt := 70) (by decide) ?_
                          exact ih63 (v4_62 + -1) (⟨by omega, by omega⟩) (by omega)
                      refine px_if_ne hG dX11_code_77 (tgt := 89) (by decide) ⟨by omega, by omega⟩ (fun c67 => ?_) (fun c67 => ?_)
                      · refine px_iinc hG dX11_code_89 (Nat.le_of_ble_eq_true rfl) rfl (L2 := [some (.inr (.inr (40, 0))), some (.inl aa), none, some (.inl v3_44), some (.inl (v4_62 + -1))]) rfl ?_
                        refine px_goto hG dX11_code_92 (tgt := 70) (by decide) ?_
                        exact ih63 (v4_62 + -1) (⟨by omega, by omega⟩) (by omega)
                      · exact J80_68  (by omega)
                  refine px_weak hG (L2 := [some (.inr (.inr (40, 0))), some (.inl aa), none, some (.inl v3_44), some (.inl x61)]) ⟨Or.inr rfl, Or.inr rfl, Or.inl rfl, Or.inr rfl, Or.inr rfl, trivial⟩ ?_
                  exact L70 _ x61 (⟨by omega, by omega⟩) (Nat.lt_succ_self _)
            exact L59 _ (-1) 0 s28 R29 F30 k32 (⟨by omega, ⟨T, pm_cl_0 (fun q a b => Z q a (by omega)) T (by omega), by rw [pm_oc_0 (fun q a b => Z q (by omega) (by omega))]; omega⟩⟩) (Nat.lt_succ_self _)
          refine px_ic_gt hG dX11_code_39 (tgt := 55) (by decide) ⟨by omega, by omega⟩ ⟨by omega, by omega⟩ (fun c40 => ?_) (fun c40 => ?_)
          · refine px_weak hG (L2 := [some (.inr (.inr (40, 0))), some (.inl aa), none, none, none]) ⟨Or.inr rfl, Or.inr rfl, Or.inl rfl, Or.inr rfl, Or.inr rfl, trivial⟩ ?_
            exact J55_41  (by omega)
          · refine px_aload_n hG dX11_code_42 rfl ?_
            refine gr_40_16 hG dX11_code_43 fl_X11_51 R29 ?_
            refine px_iload_n hG dX11_code_46 rfl ?_
            refine px_iconst hG dX11_code_47 ?_
            refine as_53 hG dX11_code_48 R29 (by omega) (by omega) (fun s85 qs85 Rs85 => ?_)
            have Fs85 := pm_Fr_up (F30) qs85 (M := [(43, none), (44, none), (50, none), (51, none), (52, none), (53, none)]) rfl
            have k86 : s85 40 0 1 = x1 := (pm_nec qs85 (by decide)).trans k32
            have jj87 := pm_nec qs85 (c' := 40) (r' := 0) (i' := 0) (by decide)
            have jj88 := pm_nec qs85 (c' := 40) (r' := 0) (i' := 1) (by decide)
            have jj89 := pm_nec qs85 (c' := 40) (r' := 0) (i' := 2) (by decide)
            have jj90 := pm_nec qs85 (c' := 40) (r' := 0) (i' := 3) (by decide)
            have E := qs85
            refine px_iinc hG dX11_code_49 (Nat.le_of_ble_eq_true rfl) rfl (L2 := [some (.inr (.inr (40, 0))), some (.inl aa), some (.inl (v2_27 + 1)), none, none]) rfl ?_
            refine px_goto hG dX11_code_52 (tgt := 34) (by decide) ?_
            exact ih31 (v2_27 + 1) s85 Rs85 Fs85 k86 (⟨by omega, ⟨pm_tr_up E (by decide) (by decide) T, pm_z53 Z E⟩⟩) (by omega)
      exact L34 _ 0 t19 Rt19 Ff21 k26 (⟨by omega, ⟨T, fun q a b => by omega⟩⟩) (Nat.lt_succ_self _)
    · refine px_bipush hG dX11_code_25 (by decide) ?_
      have jj91 := Ff10 40 0 0 rfl
      have jj92 := Ff10 40 0 1 rfl
      have jj93 := Ff10 40 0 2 rfl
      have jj94 := Ff10 40 0 3 rfl
      exact px_iret (st := []) hG dX11_code_27 rfl rfl (fun aa_1 ee => by cases ee; exact ⟨_, rfl, Rt8, Ff10⟩)
  · refine px_iconst hG dX11_code_16 ?_
    exact px_iret (st := []) hG dX11_code_17 rfl rfl (fun aa_1 ee => by cases ee; exact ⟨_, rfl, R0, pm_Fr_rf⟩))
