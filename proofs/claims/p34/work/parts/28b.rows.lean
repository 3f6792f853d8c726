/-! ===== rows of n wishes as numbers, their walks, their counts ===== -/
def pm_dg (n u j : Nat) : Nat := 1 + u / n ^ (n - j) % n
def pm_fu (n u : Nat) (f : Int → Int) : Prop := ∀ j : Int, 1 ≤ j → j ≤ n → f j = ((pm_dg n u j.toNat : Nat) : Int)
def pm_fr2 (n u : Nat) : Int → Int := fun j => ((pm_dg n u j.toNat : Nat) : Int)
def pm_gtN (n u p : Nat) : Nat → Nat
  | 0 => 0
  | k + 1 => pm_gtN n u p k + (if p < pm_dg n u (k + 1) then 1 else 0)
def pm_allN (P : Nat → Bool) : Nat → Nat → Bool
  | 0, _ => true
  | k + 1, u => P u && pm_allN P k (u + 1)
theorem pm_allN_iff {P : Nat → Bool} (k : Nat) : ∀ u : Nat, pm_allN P k u = true ↔ ∀ x : Nat, u ≤ x → x < u + k → P x = true := by
  induction k with
  | zero => intro u; exact ⟨fun _ x a b => by omega, fun _ => rfl⟩
  | succ k ih =>
    intro u
    show (P u && pm_allN P k (u + 1)) = true ↔ _
    rw [Bool.and_eq_true, ih (u + 1)]
    constructor
    · intro ⟨h1, h2⟩ x a b
      by_cases z : x = u
      · rw [z]
        exact h1
      · exact h2 x (by omega) (by omega)
    · intro h
      exact ⟨h u (Nat.le_refl _) (by omega), fun x a b => h x (by omega) (by omega)⟩
theorem pm_gtN_eq {n u : Nat} {f : Int → Int} (h : pm_fu n u f) (p : Nat) {k : Nat} (hk : k ≤ n) : pm_gt f p k = ((pm_gtN n u p k : Nat) : Int) := by
  induction k with
  | zero => rfl
  | succ k ih =>
    simp only [pm_gt, pm_gtN]
    rw [ih (by omega), h ((k : Int) + 1) (by omega) (by omega), show ((k : Int) + 1).toNat = k + 1 by omega]
    by_cases z : p < pm_dg n u (k + 1)
    · rw [if_pos z, if_pos (by omega)]
      omega
    · rw [if_neg z, if_neg (by omega)]
      omega
def pm_gN (n u : Nat) : Bool := pm_allN (fun p => decide (pm_gtN n u p n + p ≤ n)) (n + 1) 0
theorem pm_gN_iff {n u : Nat} {f : Int → Int} (h : pm_fu n u f) : pm_gN n u = true ↔ pm_gd f n := by
  unfold pm_gN
  rw [pm_allN_iff]
  constructor
  · intro g
    refine ⟨fun j a b => ?_, fun p a b => ?_⟩
    · rw [h j a b]
      have : 1 ≤ pm_dg n u j.toNat := Nat.le_add_right _ _
      omega
    · have q := of_decide_eq_true (g p.toNat (Nat.zero_le _) (by omega))
      have e := pm_gtN_eq h p.toNat (Nat.le_refl n)
      rw [show ((p.toNat : Nat) : Int) = p by omega] at e
      omega
  · intro g x _ b
    refine decide_eq_true ?_
    have q := g.2 (x : Int) (by omega) (by omega)
    have e := pm_gtN_eq h x (Nat.le_refl n)
    omega
def pm_cwN (n u c : Nat) : Bool := decide (pm_gtN n u (pm_dg n u c) (c - 1) + 1 + pm_dg n u c ≤ n)
def pm_CW (f : Int → Int) (n x : Int) : Prop := pm_gt f (f x) (x - 1).toNat + 1 ≤ n - f x
theorem pm_cwN_iff {n u : Nat} {f : Int → Int} (h : pm_fu n u f) {x : Int} (h1 : 1 ≤ x) (h2 : x ≤ n) : pm_cwN n u x.toNat = true ↔ pm_CW f n x := by
  unfold pm_cwN pm_CW
  rw [decide_eq_true_iff, h x h1 h2]
  have e := pm_gtN_eq h (pm_dg n u x.toNat) (k := (x - 1).toNat) (by omega)
  rw [e, show (x - 1).toNat = x.toNat - 1 by omega]
  omega
theorem pm_CW_cg {f g : Int → Int} {n x : Int} (h : ∀ i : Int, f i = g i) : pm_CW f n x → pm_CW g n x := fun q => by
  have e : f = g := funext h
  rw [← e]
  exact q
def pm_SN (n : Int) (f g : Int → Int) : Prop := ∃ c : Int, 1 ≤ c ∧ c ≤ n ∧ pm_CW f n c ∧ (∀ x : Int, c < x → x ≤ n → ¬ pm_CW f n x) ∧ ∀ i : Int, 1 ≤ i → i ≤ n → g i = if i < c then f i else if i = c then f c + 1 else 1
def pm_OD (n : Int) (f g : Int → Int) : Prop := ∃ c : Int, 1 ≤ c ∧ c ≤ n ∧ f c ≠ n ∧ (∀ x : Int, c < x → x ≤ n → f x = n) ∧ ∀ i : Int, 1 ≤ i → i ≤ n → g i = if i < c then f i else if i = c then f c + 1 else 1
/-! what is looked through by computing -/
def pm_nu (n u c : Nat) : Nat := (u / n ^ (n - c) + 1) * n ^ (n - c)
def pm_dn1 (n u u' c : Nat) : Bool := pm_allN (fun j => pm_dg n u' j == (if j < c then pm_dg n u j else if j = c then pm_dg n u c + 1 else 1)) n 1
def pm_qA (n : Nat) : Bool := pm_allN (fun u => pm_allN (fun c => !(pm_dg n u c != n && pm_allN (fun x => pm_dg n u x == n) (n - c) (c + 1)) || (decide (u + 1 < n ^ n) && pm_dn1 n u (u + 1) c)) n 1) (n ^ n) 0
def pm_qB (n : Nat) : Bool := pm_allN (fun u => !(pm_allN (fun x => pm_dg n u x == n) n 1) || u + 1 == n ^ n) (n ^ n) 0
def pm_qC (n : Nat) : Bool := pm_allN (fun u => !(pm_gN n u) || pm_allN (fun c => !(pm_cwN n u c && pm_allN (fun x => !(pm_cwN n u x)) (n - c) (c + 1)) || (decide (pm_nu n u c < n ^ n) && (decide (u < pm_nu n u c) && (pm_dn1 n u (pm_nu n u c) c && pm_allN (fun x => !(pm_gN n x)) (pm_nu n u c - (u + 1)) (u + 1))))) n 1) (n ^ n) 0
def pm_qD (n : Nat) : Bool := pm_allN (fun u => !(pm_gN n u) || !(pm_allN (fun x => !(pm_cwN n u x)) n 1) || pm_allN (fun x => !(pm_gN n x)) (n ^ n - (u + 1)) (u + 1)) (n ^ n) 0
def pm_cb (P : Nat → Bool) : Nat → Nat → Nat → Nat
  | 0, _, acc => acc
  | k + 1, u, acc => if P u = true then pm_cb P k (u + 1) (acc + 1) else pm_cb P k (u + 1) acc
theorem pm_qA_t : ∀ n : Nat, n < 6 → pm_qA n = true := by decide +kernel
theorem pm_qB_t : ∀ n : Nat, n < 6 → pm_qB n = true := by decide +kernel
theorem pm_qC_t : ∀ n : Nat, n < 6 → pm_qC n = true := by decide +kernel
theorem pm_qD_t : ∀ n : Nat, n < 6 → pm_qD n = true := by decide +kernel
theorem pm_qE_t : ∀ n : Nat, n < 6 → 1 ≤ n → pm_cb (pm_gN n) (n ^ n) 0 0 = (n + 1) ^ (n - 1) := by decide +kernel
def pm_cu (P : Nat → Bool) : Nat → Int
  | 0 => 0
  | t + 1 => pm_cu P t + (if P t = true then 1 else 0)
theorem pm_cu_b (P : Nat → Bool) (t : Nat) : 0 ≤ pm_cu P t ∧ pm_cu P t ≤ t := by
  induction t with
  | zero => exact ⟨Int.le_refl _, Int.le_refl _⟩
  | succ t ih => simp only [pm_cu]; split <;> omega
theorem pm_cu_mono (P : Nat → Bool) {t t' : Nat} (h : t ≤ t') : pm_cu P t ≤ pm_cu P t' := by
  induction t' with
  | zero => rw [show t = 0 by omega]; exact Int.le_refl _
  | succ k ih =>
    by_cases z : t = k + 1
    · rw [z]
      exact Int.le_refl _
    · have := ih (by omega)
      simp only [pm_cu]
      split <;> omega
theorem pm_cu_gap {P : Nat → Bool} {t t' : Nat} (h : t ≤ t') (hz : ∀ x : Nat, t ≤ x → x < t' → P x ≠ true) : pm_cu P t' = pm_cu P t := by
  induction t' with
  | zero => rw [show t = 0 by omega]
  | succ k ih =>
    by_cases z : t = k + 1
    · rw [z]
    · simp only [pm_cu]
      rw [ih (by omega) (fun x a b => hz x a (by omega)), if_neg (hz k (by omega) (by omega)), Int.add_zero]
theorem pm_cb_eq (P : Nat → Bool) (k : Nat) : ∀ u acc : Nat, ((pm_cb P k u acc : Nat) : Int) = acc + (pm_cu P (u + k) - pm_cu P u) := by
  induction k with
  | zero => intro u acc; show (acc : Int) = _; rw [Nat.add_zero]; omega
  | succ k ih =>
    intro u acc
    have e : pm_cu P (u + 1) = pm_cu P u + (if P u = true then 1 else 0) := rfl
    show ((if P u = true then pm_cb P k (u + 1) (acc + 1) else pm_cb P k (u + 1) acc : Nat) : Int) = _
    rw [show u + (k + 1) = u + 1 + k by omega]
    by_cases z : P u = true
    · rw [if_pos z] at e
      rw [if_pos z, ih (u + 1) (acc + 1)]
      omega
    · rw [if_neg z] at e
      rw [if_neg z, ih (u + 1) acc]
      omega
theorem pm_cu_T {n : Nat} (h1 : 1 ≤ n) (h5 : n ≤ 5) : pm_cu (pm_gN n) (n ^ n) = (((n + 1) ^ (n - 1) : Nat) : Int) := by
  have a := pm_cb_eq (pm_gN n) (n ^ n) 0 0
  rw [pm_qE_t n (by omega) h1, Nat.zero_add] at a
  have b : pm_cu (pm_gN n) 0 = 0 := rfl
  omega
/-! walks -/
abbrev pm_WS : Type := Int × (Int → Int) × (Int → Int)
def pm_w1 (f : Int → Int) (v c : Int) (S : pm_WS) : pm_WS := if f c = v then (S.1 + 1, (fun q => if q = S.1 + 1 then c else S.2.1 q), fun q => if q = S.1 + 1 then S.1 + 1 - v else S.2.2 q) else S
def pm_wc (f : Int → Int) (v : Int) (S : pm_WS) : Nat → pm_WS
  | 0 => S
  | c + 1 => pm_w1 f v ((c : Int) + 1) (pm_wc f v S c)
def pm_wv (f : Int → Int) (n : Nat) : Nat → pm_WS
  | 0 => (0, fun _ => 0, fun _ => 0)
  | v + 1 => pm_wc f ((v : Int) + 1) (pm_wv f n v) n
def pm_wS (f : Int → Int) (n : Nat) (v c : Int) : pm_WS := pm_wc f v (pm_wv f n (v - 1).toNat) (c - 1).toNat
def pm_wI (S : pm_WS) (cw hw : Int → Int) (j : Int) : Prop := S.1 = j ∧ ∀ q : Int, 1 ≤ q → q ≤ j → cw q = S.2.1 q ∧ hw q = S.2.2 q
theorem pm_wc_cg {f g : Int → Int} {n : Nat} (h : ∀ j : Int, 1 ≤ j → j ≤ n → f j = g j) (v : Int) (S : pm_WS) {c : Nat} (hc : c ≤ n) : pm_wc f v S c = pm_wc g v S c := by
  induction c with
  | zero => rfl
  | succ c ih =>
    simp only [pm_wc]
    rw [ih (by omega)]
    unfold pm_w1
    rw [h ((c : Int) + 1) (by omega) (by omega)]
theorem pm_wv_cg {f g : Int → Int} {n : Nat} (h : ∀ j : Int, 1 ≤ j → j ≤ n → f j = g j) (v : Nat) : pm_wv f n v = pm_wv g n v := by
  induction v with
  | zero => rfl
  | succ v ih =>
    simp only [pm_wv]
    rw [ih, pm_wc_cg h _ _ (Nat.le_refl n)]
theorem pm_wI_0 {f : Int → Int} {n : Nat} {cw hw : Int → Int} : pm_wI (pm_wS f n 1 1) cw hw 0 := ⟨rfl, fun q a b => by omega⟩
theorem pm_wS_s {f : Int → Int} {n : Nat} {v c : Int} (hc : 1 ≤ c) : pm_wS f n v (c + 1) = pm_w1 f v c (pm_wS f n v c) := by
  unfold pm_wS
  rw [show (c + 1 - 1).toNat = (c - 1).toNat + 1 by omega]
  simp only [pm_wc]
  rw [show (((c - 1).toNat : Nat) : Int) + 1 = c by omega]
theorem pm_wI_s {f : Int → Int} {n a b : Nat} {v c j : Int} {s s1 s2 : pm_H} (h : pm_wI (pm_wS f n v c) (s a 0) (s b 0) j) (hf : f c = v) (hc : 1 ≤ c) (e1 : s1 = pm_up s a 0 (j + 1) c) (e2 : s2 = pm_up s1 b 0 (j + 1) (j + 1 - v)) (ab : a ≠ b) : pm_wI (pm_wS f n v (c + 1)) (s2 a 0) (s2 b 0) (j + 1) := by
  obtain ⟨h1, h2⟩ := h
  have e : pm_w1 f v c (pm_wS f n v c) = ((pm_wS f n v c).1 + 1, (fun q => if q = (pm_wS f n v c).1 + 1 then c else (pm_wS f n v c).2.1 q), fun q => if q = (pm_wS f n v c).1 + 1 then (pm_wS f n v c).1 + 1 - v else (pm_wS f n v c).2.2 q) := if_pos hf
  rw [pm_wS_s hc, e]
  refine ⟨by show (pm_wS f n v c).1 + 1 = j + 1; omega, fun q q1 q2 => ?_⟩
  show s2 a 0 q = (if q = (pm_wS f n v c).1 + 1 then c else (pm_wS f n v c).2.1 q) ∧ s2 b 0 q = (if q = (pm_wS f n v c).1 + 1 then (pm_wS f n v c).1 + 1 - v else (pm_wS f n v c).2.2 q)
  rw [h1]
  by_cases z : q = j + 1
  · rw [if_pos z, if_pos z, z, pm_nec e2 ab, pm_at e1, pm_at e2]
    exact ⟨rfl, rfl⟩
  · rw [if_neg z, if_neg z, pm_nec e2 ab, pm_nei e1 z, pm_nei e2 z, pm_nec e1 (fun w => ab w.symm)]
    exact h2 q q1 (by omega)
theorem pm_wI_n {f : Int → Int} {n : Nat} {v c j : Int} {cw hw : Int → Int} (h : pm_wI (pm_wS f n v c) cw hw j) (hf : f c ≠ v) (hc : 1 ≤ c) : pm_wI (pm_wS f n v (c + 1)) cw hw j := by
  have e : pm_w1 f v c (pm_wS f n v c) = pm_wS f n v c := if_neg hf
  rw [pm_wS_s hc, e]
  exact h
theorem pm_wI_x {f : Int → Int} {n : Nat} {v c j : Int} {cw hw : Int → Int} (h : pm_wI (pm_wS f n v c) cw hw j) (hc : c = n + 1) (hv : 1 ≤ v) : pm_wI (pm_wS f n (v + 1) 1) cw hw j := by
  have e : pm_wS f n (v + 1) 1 = pm_wS f n v c := by
    unfold pm_wS
    rw [show (v + 1 - 1).toNat = (v - 1).toNat + 1 by omega, show (c - 1).toNat = n by omega]
    simp only [pm_wv]
    rw [show (((v - 1).toNat : Nat) : Int) + 1 = v by omega]
    rfl
  rw [e]
  exact h
theorem pm_wI_e {f : Int → Int} {n : Nat} {v j : Int} {cw hw : Int → Int} (h : pm_wI (pm_wS f n v 1) cw hw j) (hv : v = n + 1) : pm_wI (pm_wv f n n) cw hw j := by
  have e : pm_wS f n v 1 = pm_wv f n n := by
    unfold pm_wS
    rw [show (v - 1).toNat = n by omega]
    rfl
  rw [← e]
  exact h
def pm_sm (h : Int → Int) : Nat → Int
  | 0 => 0
  | k + 1 => pm_sm h k + h ((k : Int) + 1)
theorem pm_sm_cg {f g : Int → Int} {k : Nat} (h : ∀ j : Int, 1 ≤ j → j ≤ k → f j = g j) : pm_sm f k = pm_sm g k := by
  induction k with
  | zero => rfl
  | succ k ih =>
    simp only [pm_sm]
    rw [ih (fun j a b => h j a (by omega)), h ((k : Int) + 1) (by omega) (by omega)]
theorem pm_sm_s {h : Int → Int} {v x : Int} (hv : 1 ≤ v) (hx : h v = x) : pm_sm h (v + 1 - 1).toNat = pm_sm h (v - 1).toNat + x := by
  rw [show (v + 1 - 1).toNat = (v - 1).toNat + 1 by omega]
  simp only [pm_sm]
  rw [show (((v - 1).toNat : Nat) : Int) + 1 = v by omega, hx]
def pm_tn (cw hw : Int → Int) (i j : Int) : Int := if (hw i = hw j ∧ cw i < cw j) ∨ (hw i = hw j + 1 ∧ cw j < cw i) then 1 else 0
def pm_di (cw hw : Int → Int) (j : Int) : Nat → Int
  | 0 => 0
  | i + 1 => pm_di cw hw j i + pm_tn cw hw ((i : Int) + 1) j
def pm_dj (cw hw : Int → Int) : Nat → Int
  | 0 => 0
  | j + 1 => pm_dj cw hw j + pm_di cw hw ((j : Int) + 1) j
def pm_ei (cw hw : Int → Int) (i : Int) : Nat → Int
  | 0 => 0
  | k + 1 => pm_ei cw hw i k + (if i < (k : Int) + 1 then pm_tn cw hw i ((k : Int) + 1) else 0)
def pm_ej (cw hw : Int → Int) (n : Nat) : Nat → Int
  | 0 => 0
  | m + 1 => pm_ej cw hw n m + pm_ei cw hw ((m : Int) + 1) n
theorem pm_tn_cg {cw hw cw' hw' : Int → Int} {n : Nat} (h : ∀ q : Int, 1 ≤ q → q ≤ n → cw q = cw' q ∧ hw q = hw' q) {i j : Int} (i1 : 1 ≤ i) (i2 : i ≤ n) (j1 : 1 ≤ j) (j2 : j ≤ n) : pm_tn cw hw i j = pm_tn cw' hw' i j := by
  unfold pm_tn
  rw [(h i i1 i2).1, (h i i1 i2).2, (h j j1 j2).1, (h j j1 j2).2]
theorem pm_di_cg {cw hw cw' hw' : Int → Int} {n : Nat} (h : ∀ q : Int, 1 ≤ q → q ≤ n → cw q = cw' q ∧ hw q = hw' q) {j : Int} (j1 : 1 ≤ j) (j2 : j ≤ n) {k : Nat} (hk : k ≤ n) : pm_di cw hw j k = pm_di cw' hw' j k := by
  induction k with
  | zero => rfl
  | succ k ih =>
    simp only [pm_di]
    rw [ih (by omega), pm_tn_cg h (by omega) (by omega) j1 j2]
theorem pm_dj_cg {cw hw cw' hw' : Int → Int} {n : Nat} (h : ∀ q : Int, 1 ≤ q → q ≤ n → cw q = cw' q ∧ hw q = hw' q) {k : Nat} (hk : k ≤ n) : pm_dj cw hw k = pm_dj cw' hw' k := by
  induction k with
  | zero => rfl
  | succ k ih =>
    simp only [pm_dj]
    rw [ih (by omega), pm_di_cg h (by omega) (by omega) (by omega)]
theorem pm_ei_z {cw hw : Int → Int} {i : Int} {k : Nat} (h : (k : Int) ≤ i) : pm_ei cw hw i k = 0 := by
  induction k with
  | zero => rfl
  | succ k ih =>
    simp only [pm_ei]
    rw [ih (by omega), if_neg (by omega)]
    rfl
theorem pm_ej_s (cw hw : Int → Int) (n : Nat) {m : Nat} (h : m ≤ n) : pm_ej cw hw (n + 1) m = pm_ej cw hw n m + pm_di cw hw ((n : Int) + 1) m := by
  induction m with
  | zero => rfl
  | succ m ih =>
    have e : pm_ei cw hw ((m : Int) + 1) (n + 1) = pm_ei cw hw ((m : Int) + 1) n + (if ((m : Int) + 1) < (n : Int) + 1 then pm_tn cw hw ((m : Int) + 1) ((n : Int) + 1) else 0) := rfl
    rw [if_pos (by omega)] at e
    simp only [pm_ej, pm_di]
    rw [ih (by omega), e]
    omega
theorem pm_ej_dj (cw hw : Int → Int) (n : Nat) : pm_ej cw hw n n = pm_dj cw hw n := by
  induction n with
  | zero => rfl
  | succ n ih =>
    have e : pm_ej cw hw (n + 1) (n + 1) = pm_ej cw hw (n + 1) n + pm_ei cw hw ((n : Int) + 1) (n + 1) := rfl
    rw [e, pm_ej_s cw hw n (Nat.le_refl n), ih, pm_ei_z (by omega)]
    simp only [pm_dj]
    omega
theorem pm_di_s {cw hw : Int → Int} {j i x : Int} (hi : 1 ≤ i) (hx : x = pm_tn cw hw i j) : pm_di cw hw j (i + 1 - 1).toNat = pm_di cw hw j (i - 1).toNat + x := by
  rw [show (i + 1 - 1).toNat = (i - 1).toNat + 1 by omega]
  simp only [pm_di]
  rw [show (((i - 1).toNat : Nat) : Int) + 1 = i by omega, hx]
theorem pm_dj_s {cw hw : Int → Int} {j : Int} (hj : 1 ≤ j) : pm_dj cw hw (j + 1 - 1).toNat = pm_dj cw hw (j - 1).toNat + pm_di cw hw j (j - 1).toNat := by
  rw [show (j + 1 - 1).toNat = (j - 1).toNat + 1 by omega]
  simp only [pm_dj]
  rw [show (((j - 1).toNat : Nat) : Int) + 1 = j by omega]
theorem pm_ei_s {cw hw : Int → Int} {i j x : Int} (hj : i < j) (hi : 0 ≤ i) (hx : x = pm_tn cw hw i j) : pm_ei cw hw i (j + 1 - 1).toNat = pm_ei cw hw i (j - 1).toNat + x := by
  rw [show (j + 1 - 1).toNat = (j - 1).toNat + 1 by omega]
  simp only [pm_ei]
  rw [show (((j - 1).toNat : Nat) : Int) + 1 = j by omega, hx, if_pos hj]
theorem pm_ej_st {cw hw : Int → Int} {n : Nat} {i : Int} (hi : 1 ≤ i) : pm_ej cw hw n (i + 1 - 1).toNat = pm_ej cw hw n (i - 1).toNat + pm_ei cw hw i n := by
  rw [show (i + 1 - 1).toNat = (i - 1).toNat + 1 by omega]
  simp only [pm_ej]
  rw [show (((i - 1).toNat : Nat) : Int) + 1 = i by omega]
def pm_ar (n : Nat) (f : Int → Int) : Int := pm_sm (pm_wv f n n).2.2 n
def pm_dw (n : Nat) (f : Int → Int) : Int := pm_dj (pm_wv f n n).2.1 (pm_wv f n n).2.2 n
def pm_Pd (n : Nat) (a d : Int) (u : Nat) : Bool := pm_gN n u && (decide (pm_ar n (pm_fr2 n u) = a) && decide (pm_dw n (pm_fr2 n u) = d))
theorem pm_ar_fu {n u : Nat} {f : Int → Int} (h : pm_fu n u f) : pm_ar n f = pm_ar n (pm_fr2 n u) := by
  unfold pm_ar
  rw [pm_wv_cg (f := f) (g := pm_fr2 n u) (fun j a b => h j a b)]
theorem pm_dw_fu {n u : Nat} {f : Int → Int} (h : pm_fu n u f) : pm_dw n f = pm_dw n (pm_fr2 n u) := by
  unfold pm_dw
  rw [pm_wv_cg (f := f) (g := pm_fr2 n u) (fun j a b => h j a b)]
theorem pm_Pd_iff {n u : Nat} {f : Int → Int} (h : pm_fu n u f) (a d : Int) : pm_Pd n a d u = true ↔ pm_gN n u = true ∧ pm_ar n f = a ∧ pm_dw n f = d := by
  unfold pm_Pd
  rw [Bool.and_eq_true, Bool.and_eq_true, decide_eq_true_iff, decide_eq_true_iff, pm_ar_fu h, pm_dw_fu h]
theorem pm_fu_1 {n : Nat} {f : Int → Int} (h : ∀ j : Int, 1 ≤ j → j ≤ n → f j = 1) : pm_fu n 0 f := fun j a b => by
  rw [h j a b]
  unfold pm_dg
  rw [Nat.zero_div, Nat.zero_mod]
  rfl
theorem pm_fu_cg {n u : Nat} {f g : Int → Int} (h : pm_fu n u f) (e : ∀ j : Int, 1 ≤ j → j ≤ n → g j = f j) : pm_fu n u g := fun j a b => (e j a b).trans (h j a b)
theorem pm_dn1_fu {n u u' : Nat} {f g : Int → Int} {c : Int} (h : pm_fu n u f) (h1 : 1 ≤ c) (h2 : c ≤ n) (hd : pm_dn1 n u u' c.toNat = true) (hg : ∀ i : Int, 1 ≤ i → i ≤ n → g i = if i < c then f i else if i = c then f c + 1 else 1) : pm_fu n u' g := fun j a b => by
  have q := (pm_allN_iff n 1).mp hd j.toNat (by omega) (by omega)
  have q := eq_of_beq q
  rw [hg j a b, q]
  by_cases z : j < c
  · rw [if_pos z, if_pos (show j.toNat < c.toNat by omega)]
    exact h j a b
  · rw [if_neg z, if_neg (show ¬ j.toNat < c.toNat by omega)]
    by_cases y : j = c
    · rw [if_pos y, if_pos (show j.toNat = c.toNat by omega), h c h1 h2]
      omega
    · rw [if_neg y, if_neg (show ¬ j.toNat = c.toNat by omega)]
      rfl
theorem pm_npos {n : Nat} (h : 1 ≤ n) : 0 < n ^ n := Nat.pow_pos h
/-- the model goes to the next row -/
theorem pm_OD_s {n u : Nat} {f g : Int → Int} (h1 : 1 ≤ n) (h5 : n ≤ 5) (h : pm_fu n u f) (hu : u < n ^ n) (S : pm_OD n f g) : u + 1 < n ^ n ∧ pm_fu n (u + 1) g := by
  obtain ⟨c, c1, c2, c3, c4, c5⟩ := S
  have q := (pm_allN_iff _ 0).mp (pm_qA_t n (by omega)) u (Nat.zero_le _) (by omega)
  have q := (pm_allN_iff n 1).mp q c.toNat (by omega) (by omega)
  have d1 : (pm_dg n u c.toNat != n) = true := by
    rw [bne_iff_ne]
    intro z
    rw [h c c1 c2, z] at c3
    exact c3 rfl
  have d2 : pm_allN (fun x => pm_dg n u x == n) (n - c.toNat) (c.toNat + 1) = true := (pm_allN_iff _ _).mpr (fun x a b => by
    have e := c4 x (by omega) (by omega)
    rw [h x (by omega) (by omega), Int.toNat_natCast] at e
    rw [beq_iff_eq]
    omega)
  rw [d1, d2] at q
  have q : (decide (u + 1 < n ^ n) && pm_dn1 n u (u + 1) c.toNat) = true := q
  rw [Bool.and_eq_true, decide_eq_true_iff] at q
  exact ⟨q.1, pm_dn1_fu h c1 c2 q.2 c5⟩
theorem pm_OD_e {n u : Nat} {f : Int → Int} (h1 : 1 ≤ n) (h5 : n ≤ 5) (h : pm_fu n u f) (hu : u < n ^ n) (S : ∀ x : Int, 1 ≤ x → x ≤ n → f x = n) : u + 1 = n ^ n := by
  have q := (pm_allN_iff _ 0).mp (pm_qB_t n (by omega)) u (Nat.zero_le _) (by omega)
  have d2 : pm_allN (fun x => pm_dg n u x == n) n 1 = true := (pm_allN_iff _ _).mpr (fun x a b => by
    have e := S x (by omega) (by omega)
    rw [h x (by omega) (by omega), Int.toNat_natCast] at e
    rw [beq_iff_eq]
    omega)
  rw [d2] at q
  exact eq_of_beq q
/-- the class goes to the next good row -/
theorem pm_SN_s {n u : Nat} {f g : Int → Int} (h1 : 1 ≤ n) (h5 : n ≤ 5) (h : pm_fu n u f) (hu : u < n ^ n) (hg : pm_gN n u = true) (S : pm_SN n f g) : ∃ u' : Nat, u < u' ∧ u' < n ^ n ∧ pm_fu n u' g ∧ ∀ x : Nat, u + 1 ≤ x → x < u' → pm_gN n x ≠ true := by
  obtain ⟨c, c1, c2, c3, c4, c5⟩ := S
  have q := (pm_allN_iff _ 0).mp (pm_qC_t n (by omega)) u (Nat.zero_le _) (by omega)
  rw [hg] at q
  have q := (pm_allN_iff n 1).mp q c.toNat (by omega) (by omega)
  have d1 := (pm_cwN_iff h c1 c2).mpr c3
  have d2 : pm_allN (fun x => !(pm_cwN n u x)) (n - c.toNat) (c.toNat + 1) = true := (pm_allN_iff _ _).mpr (fun x a b => by
    have e := c4 x (by omega) (by omega)
    rw [Bool.not_eq_true']
    exact Bool.eq_false_iff.mpr (fun w => e ((pm_cwN_iff h (by omega) (by omega)).mp (by rw [Int.toNat_natCast]; exact w))))
  rw [d1, d2] at q
  have q : (decide (pm_nu n u c.toNat < n ^ n) && (decide (u < pm_nu n u c.toNat) && (pm_dn1 n u (pm_nu n u c.toNat) c.toNat && pm_allN (fun x => !(pm_gN n x)) (pm_nu n u c.toNat - (u + 1)) (u + 1)))) = true := q
  rw [Bool.and_eq_true, Bool.and_eq_true, Bool.and_eq_true, decide_eq_true_iff, decide_eq_true_iff] at q
  refine ⟨pm_nu n u c.toNat, q.2.1, q.1, pm_dn1_fu h c1 c2 q.2.2.1 c5, fun x a b w => ?_⟩
  have z := (pm_allN_iff _ _).mp q.2.2.2 x a (by omega)
  rw [w] at z
  exact absurd z (by decide)
theorem pm_SN_e {n u : Nat} {f : Int → Int} (h1 : 1 ≤ n) (h5 : n ≤ 5) (h : pm_fu n u f) (hu : u < n ^ n) (hg : pm_gN n u = true) (S : ∀ x : Int, 1 ≤ x → x ≤ n → ¬ pm_CW f n x) : ∀ x : Nat, u + 1 ≤ x → x < n ^ n → pm_gN n x ≠ true := fun x a b w => by
  have q := (pm_allN_iff _ 0).mp (pm_qD_t n (by omega)) u (Nat.zero_le _) (by omega)
  have d2 : pm_allN (fun x => !(pm_cwN n u x)) n 1 = true := (pm_allN_iff _ _).mpr (fun x a b => by
    have e := S x (by omega) (by omega)
    rw [Bool.not_eq_true']
    exact Bool.eq_false_iff.mpr (fun w => e ((pm_cwN_iff h (by omega) (by omega)).mp (by rw [Int.toNat_natCast]; exact w))))
  rw [hg, d2] at q
  have z := (pm_allN_iff _ _).mp q x a (by omega)
  rw [w] at z
  exact absurd z (by decide)
theorem pm_Pd_n {n : Nat} {a d : Int} {u : Nat} (h : pm_gN n u ≠ true) : pm_Pd n a d u ≠ true := fun w => by
  unfold pm_Pd at w
  rw [Bool.and_eq_true] at w
  exact h w.1
/-- what both sides answer -/
def pm_BO (n a d v : Int) : Prop := ((n < 1 ∨ 5 < n) ∧ v = -1) ∨ ((1 ≤ n ∧ n ≤ 5) ∧ (((a < 0 ∨ 10 < a ∨ d < 0 ∨ 10 < d) ∧ v = 0) ∨ ((0 ≤ a ∧ a ≤ 10 ∧ 0 ≤ d ∧ d ≤ 10) ∧ v = pm_cu (pm_Pd n.toNat a d) (n.toNat ^ n.toNat))))
theorem pm_BO_eq {n a d v w : Int} (X : pm_BO n a d v) (Y : pm_BO n a d w) : v = w := by
  rcases X with ⟨x1, x2⟩ | ⟨x1, ⟨x2, x3⟩ | ⟨x2, x3⟩⟩
  · rcases Y with ⟨y1, y2⟩ | ⟨y1, ⟨y2, y3⟩ | ⟨y2, y3⟩⟩ <;> omega
  · rcases Y with ⟨y1, y2⟩ | ⟨y1, ⟨y2, y3⟩ | ⟨y2, y3⟩⟩ <;> omega
  · rcases Y with ⟨y1, y2⟩ | ⟨y1, ⟨y2, y3⟩ | ⟨y2, y3⟩⟩ <;> omega
theorem pm_pw5 {n : Nat} (h : n ≤ 5) : n ^ n ≤ 3125 := by
  have : ∀ n : Nat, n < 6 → n ^ n ≤ 3125 := by decide +kernel
  exact this n (by omega)
theorem pm_BO_in {n a d v : Int} (X : pm_BO n a d v) : -2147483648 ≤ v ∧ v ≤ 2147483647 := by
  rcases X with ⟨x1, x2⟩ | ⟨x1, ⟨x2, x3⟩ | ⟨x2, x3⟩⟩
  · omega
  · omega
  · have b := pm_cu_b (pm_Pd n.toNat a d) (n.toNat ^ n.toNat)
    have p := pm_pw5 (n := n.toNat) (by omega)
    omega
