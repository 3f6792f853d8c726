/-! ===== the model: ranks ===== -/
def pm_C : Nat → Nat → Int
  | _, 0 => 1
  | 0, _ + 1 => 0
  | a + 1, b + 1 => pm_C a b + pm_C a (b + 1)
def pm_sum (f : Nat → Int) : Nat → Int
  | 0 => 0
  | k + 1 => pm_sum f k + f k
def pm_A (t : Int → Int) (n : Int) : Nat → Int
  | 0 => 0
  | d + 1 => pm_A t n d + t (n - d)
def pm_S (t : Int → Int) (n : Int) (L : Nat) : Nat → Nat → Int
  | 0, c => if c = 0 then 1 else 0
  | d + 1, c => if (c : Int) + pm_A t n (d + 1) ≤ ((d + 1 : Nat) : Int) then pm_sum (fun j => pm_S t n L d (c - j) * pm_C (L - (c - j)) j) (c + 1) else 0
def pm_T (t : Int → Int) (n L : Int) (d c : Nat) : Nat → Int := fun j => pm_S t n L.toNat d (c - j) * pm_C (L.toNat - (c - j)) j
def pm_F (t : Int → Int) (n L : Int) : Int := pm_S t n L.toNat n.toNat L.toNat
def pm_CH (s : pm_H) : Prop := ∀ a b : Int, 0 ≤ b → b ≤ a → a ≤ 10 → s 46 0 (12 * a + b) = pm_C a.toNat b.toNat
theorem pm_CH_eq {s s' : pm_H} (h : ∀ i : Int, s' 46 0 i = s 46 0 i) (C : pm_CH s) : pm_CH s' := fun a b h0 h1 h2 => by
  rw [h]
  exact C a b h0 h1 h2
theorem pm_C_z {a b : Nat} (h : a < b) : pm_C a b = 0 := by
  induction a generalizing b with
  | zero => cases b with
    | zero => omega
    | succ b => rfl
  | succ a ih => cases b with
    | zero => omega
    | succ b =>
      simp only [pm_C]
      rw [ih (by omega), ih (by omega)]
      rfl
theorem pm_C_nn (a b : Nat) : 0 ≤ pm_C a b := by
  induction a generalizing b with
  | zero => cases b with
    | zero => exact (by decide : (0 : Int) ≤ 1)
    | succ b => exact Int.le_refl _
  | succ a ih => cases b with
    | zero => exact (by decide : (0 : Int) ≤ 1)
    | succ b =>
      simp only [pm_C]
      have h1 := ih b
      have h2 := ih (b + 1)
      omega
theorem pm_C_c0 (a : Nat) : pm_C a 0 = 1 := by cases a <;> rfl
/-! rows of the table as they are filled -/
def pm_fR (s : pm_H) (t : Int → Int) (n L v cc : Int) : Prop := ∀ c : Int, 0 ≤ c → c < cc → s 48 0 (12 * v + c) = pm_S t n L.toNat (n + 1 - v).toNat c.toNat
theorem pm_fR_s {s s' : pm_H} {t : Int → Int} {n L v cc x : Int} (W : pm_fR s t n L v cc) (e : s' = pm_up s 48 0 (12 * v + cc) x) (hc : 0 ≤ cc) (hx : x = pm_S t n L.toNat (n + 1 - v).toNat cc.toNat) : pm_fR s' t n L v (cc + 1) := fun c a b => by
  by_cases z : c = cc
  · subst z
    rw [pm_at e]
    exact hx
  · rw [pm_nei e (by omega)]
    exact W c a (by omega)
theorem pm_fR_a {s s' : pm_H} {t : Int → Int} {n L v cc x : Int} (W : ∀ w : Int, v < w → w ≤ n + 1 → pm_fR s t n L w (L + 1)) (e : s' = pm_up s 48 0 (12 * v + cc) x) (hc : 0 ≤ cc ∧ cc ≤ L) (hL : L ≤ 10) : ∀ w : Int, v < w → w ≤ n + 1 → pm_fR s' t n L w (L + 1) := fun w a b c a2 b2 => by
  rw [pm_nei e (by omega)]
  exact W w a b c a2 b2
theorem pm_fR_n {s : pm_H} {t : Int → Int} {n L v cc : Int} (U : pm_fR s t n L v cc) (W : ∀ w : Int, v < w → w ≤ n + 1 → pm_fR s t n L w (L + 1)) (hc : cc = L + 1) : ∀ w : Int, v + -1 < w → w ≤ n + 1 → pm_fR s t n L w (L + 1) := fun w a b => by
  by_cases z : w = v
  · subst z
    rw [← hc]
    exact U
  · exact W w (by omega) b
theorem pm_S_0 {t : Int → Int} {n v c x : Int} {L : Nat} (hv : v = n + 1) (hc : 0 ≤ c) (hx : (c = 0 ∧ x = 1) ∨ (c ≠ 0 ∧ x = 0)) : x = pm_S t n L (n + 1 - v).toNat c.toNat := by
  rw [show (n + 1 - v).toNat = 0 by omega]
  simp only [pm_S]
  rcases hx with ⟨h1, h2⟩ | ⟨h1, h2⟩
  · rw [if_pos (by omega), h2]
  · rw [if_neg (by omega), h2]
theorem pm_A_s {t : Int → Int} {n v : Int} (h : v ≤ n) : pm_A t n ((n - v).toNat + 1) = pm_A t n (n - v).toNat + t v := by
  simp only [pm_A]
  rw [show n - (((n - v).toNat : Nat) : Int) = v by omega]
theorem pm_sum_i {f : Nat → Int} {j a z : Int} (h : a = pm_sum f j.toNat) (hj : 0 ≤ j) (hz : z = f j.toNat) : a + z = pm_sum f (j + 1).toNat := by
  rw [show (j + 1).toNat = j.toNat + 1 by omega]
  simp only [pm_sum]
  rw [h, hz]
theorem pm_T_i {t : Int → Int} {n L v c j x y : Int} (Z1 : x = pm_S t n L.toNat (n + 1 - (v + 1)).toNat (c - j).toNat) (Z2 : y = pm_C (L - (c - j)).toNat j.toNat) (hj : 0 ≤ j) (hc : j ≤ c) (hL : c ≤ L) (hv : v ≤ n) : x * y = pm_T t n L (n - v).toNat c.toNat j.toNat := by
  unfold pm_T
  rw [Z1, Z2, show (n + 1 - (v + 1)).toNat = (n - v).toNat by omega, show (c - j).toNat = c.toNat - j.toNat by omega, show (L - (c - j)).toNat = L.toNat - (c.toNat - j.toNat) by omega]
theorem pm_S_v {t : Int → Int} {n L v c a m x j : Int} (S1 : a = pm_sum (pm_T t n L (n - v).toNat c.toNat) j.toNat) (AB : m = pm_A t n ((n - v).toNat + 1)) (hj : j = c + 1) (hc : 0 ≤ c) (hv : v ≤ n) (hx : (c + m ≤ n - v + 1 ∧ x = a) ∨ (¬ (c + m ≤ n - v + 1) ∧ x = 0)) :
    x = pm_S t n L.toNat (n + 1 - v).toNat c.toNat := by
  rw [show (n + 1 - v).toNat = (n - v).toNat + 1 by omega]
  simp only [pm_S]
  rw [← AB]
  rcases hx with ⟨h1, h2⟩ | ⟨h1, h2⟩
  · rw [if_pos (by omega), h2, S1, show j.toNat = c.toNat + 1 by omega]
    rfl
  · rw [if_neg (by omega), h2]
/-! sums -/
theorem pm_sum_cg {f g : Nat → Int} {k : Nat} (h : ∀ j : Nat, j < k → f j = g j) : pm_sum f k = pm_sum g k := by
  induction k with
  | zero => rfl
  | succ k ih =>
    simp only [pm_sum]
    rw [ih (fun j a => h j (by omega)), h k (by omega)]
theorem pm_sum_mul (f : Nat → Int) (x : Int) (k : Nat) : pm_sum (fun j => x * f j) k = x * pm_sum f k := by
  induction k with
  | zero => exact (Int.mul_zero x).symm
  | succ k ih =>
    simp only [pm_sum]
    rw [ih, Int.mul_add]
theorem pm_sum_add (f g : Nat → Int) (k : Nat) : pm_sum (fun j => f j + g j) k = pm_sum f k + pm_sum g k := by
  induction k with
  | zero => rfl
  | succ k ih =>
    simp only [pm_sum]
    rw [ih]
    omega
theorem pm_sum_z {f : Nat → Int} {k : Nat} (h : ∀ j : Nat, j < k → f j = 0) : pm_sum f k = 0 := by
  induction k with
  | zero => rfl
  | succ k ih =>
    simp only [pm_sum]
    rw [ih (fun j a => h j (by omega)), h k (by omega)]
    rfl
theorem pm_sum_nn {f : Nat → Int} {k : Nat} (h : ∀ j : Nat, j < k → 0 ≤ f j) : 0 ≤ pm_sum f k := by
  induction k with
  | zero => exact Int.le_refl _
  | succ k ih =>
    simp only [pm_sum]
    have a := ih (fun j a => h j (by omega))
    have b := h k (by omega)
    omega
theorem pm_sum_le {f : Nat → Int} {k : Nat} {b : Int} (h : ∀ j : Nat, j < k → f j ≤ b) : pm_sum f k ≤ k * b := by
  induction k with
  | zero => simp only [pm_sum]; omega
  | succ k ih =>
    simp only [pm_sum]
    have a := ih (fun j a => h j (by omega))
    have c := h k (by omega)
    rw [show ((k + 1 : Nat) : Int) * b = (k : Int) * b + b by rw [show ((k + 1 : Nat) : Int) = (k : Int) + 1 by omega, Int.add_mul, Int.one_mul]]
    omega
theorem pm_sum_1 (f : Nat → Int) (k : Nat) : pm_sum f (k + 1) = f 0 + pm_sum (fun j => f (j + 1)) k := by
  induction k with
  | zero => simp only [pm_sum]; omega
  | succ k ih =>
    have e : pm_sum f (k + 1 + 1) = pm_sum f (k + 1) + f (k + 1) := rfl
    rw [e, ih]
    simp only [pm_sum]
    omega
theorem pm_sum_sw (f : Nat → Nat → Int) (a b : Nat) : pm_sum (fun i => pm_sum (f i) b) a = pm_sum (fun j => pm_sum (fun i => f i j) a) b := by
  induction a with
  | zero => exact (pm_sum_z (fun j _ => rfl)).symm
  | succ a ih =>
    simp only [pm_sum]
    rw [ih, pm_sum_add]
/-! ways to fill up, without the cars' order -/
def pm_g (t : Int → Int) (n : Int) : Nat → Nat → Int
  | 0, c => if c = 0 then 1 else 0
  | d + 1, c => if (c : Int) + pm_A t n (d + 1) ≤ ((d + 1 : Nat) : Int) then pm_sum (fun j => pm_C c j * pm_g t n d (c - j)) (c + 1) else 0
set_option maxRecDepth 20000 in
theorem pm_C_tri : ∀ L : Nat, L < 11 → ∀ c : Nat, c < 11 → ∀ j : Nat, j < 11 → j ≤ c → c ≤ L → pm_C L (c - j) * pm_C (L - (c - j)) j = pm_C L c * pm_C c j := by decide +kernel
theorem pm_S_g (t : Int → Int) (n : Int) {L : Nat} (hL : L ≤ 10) (d : Nat) : ∀ c : Nat, c ≤ L → pm_S t n L d c = pm_C L c * pm_g t n d c := by
  induction d with
  | zero =>
    intro c hc
    simp only [pm_S, pm_g]
    split
    · subst_vars
      rw [pm_C_c0]
      rfl
    · exact (Int.mul_zero _).symm
  | succ d ih =>
    intro c hc
    simp only [pm_S, pm_g]
    split
    · rw [← pm_sum_mul]
      refine pm_sum_cg (fun j hj => ?_)
      have a := pm_C_tri L (by omega) c (by omega) j (by omega) (by omega) hc
      rw [ih (c - j) (by omega), Int.mul_right_comm, a, Int.mul_assoc]
    · exact (Int.mul_zero _).symm
theorem pm_F_g {t : Int → Int} {n L : Int} (h0 : 0 ≤ L) (hL : L ≤ 10) : pm_F t n L = pm_g t n n.toNat L.toNat := by
  have a : pm_C L.toNat L.toNat = 1 := by
    obtain ⟨k, hk, rfl⟩ : ∃ k : Nat, k < 11 ∧ L = (k : Int) := ⟨L.toNat, by omega, by omega⟩
    have : ∀ k : Nat, k < 11 → pm_C ((k : Nat) : Int).toNat ((k : Nat) : Int).toNat = 1 := by decide +kernel
    exact this k hk
  unfold pm_F
  rw [pm_S_g t n (by omega) n.toNat L.toNat (Nat.le_refl _), a, Int.one_mul]
def pm_bump (t : Int → Int) (u : Int) : Int → Int := fun i => if i = u then t i + 1 else t i
theorem pm_A_cg {t t' : Int → Int} {n : Int} {d : Nat} (h : ∀ u : Int, n - d < u → u ≤ n → t u = t' u) : pm_A t n d = pm_A t' n d := by
  induction d with
  | zero => rfl
  | succ d ih =>
    simp only [pm_A]
    rw [ih (fun u a b => h u (by omega) b), h (n - d) (by omega) (by omega)]
theorem pm_g_cg {t t' : Int → Int} {n : Int} {d : Nat} (h : ∀ u : Int, n - d < u → u ≤ n → t u = t' u) : ∀ c : Nat, pm_g t n d c = pm_g t' n d c := by
  induction d with
  | zero => intro c; rfl
  | succ d ih =>
    intro c
    simp only [pm_g]
    rw [pm_A_cg (t := t) (t' := t') h]
    have q : pm_sum (fun j => pm_C c j * pm_g t n d (c - j)) (c + 1) = pm_sum (fun j => pm_C c j * pm_g t' n d (c - j)) (c + 1) := pm_sum_cg (fun j _ => by rw [ih (fun u a b => h u (by omega) b)])
    rw [q]
theorem pm_A_bump (t : Int → Int) (n u : Int) (d : Nat) : pm_A (pm_bump t u) n d = pm_A t n d + (if n - d < u ∧ u ≤ n then 1 else 0) := by
  induction d with
  | zero => simp only [pm_A]; rw [if_neg (by omega)]; rfl
  | succ d ih =>
    simp only [pm_A]
    rw [ih]
    unfold pm_bump
    by_cases z : n - (d : Int) = u
    · rw [if_pos z, if_neg (by omega), if_pos (by omega)]
      omega
    · rw [if_neg z]
      by_cases y : n - (d : Int) < u ∧ u ≤ n
      · rw [if_pos y, if_pos (by omega)]
        omega
      · rw [if_neg y, if_neg (by omega)]
        omega
theorem pm_pascal (h : Nat → Int) (c : Nat) : pm_sum (fun j => pm_C (c + 1) j * h (c + 1 - j)) (c + 2) = pm_sum (fun j => pm_C c j * h (c - j + 1)) (c + 1) + pm_sum (fun j => pm_C c j * h (c - j)) (c + 1) := by
  rw [pm_sum_1]
  have e1 : pm_sum (fun j => pm_C (c + 1) (j + 1) * h (c + 1 - (j + 1))) (c + 1) = pm_sum (fun j => pm_C c j * h (c - j)) (c + 1) + pm_sum (fun j => pm_C c (j + 1) * h (c - j)) (c + 1) := by
    rw [← pm_sum_add]
    refine pm_sum_cg (fun j _ => ?_)
    rw [show c + 1 - (j + 1) = c - j by omega]
    simp only [pm_C]
    rw [Int.add_mul]
  have e2 : pm_sum (fun j => pm_C c j * h (c - j + 1)) (c + 1) = pm_C (c + 1) 0 * h (c + 1 - 0) + pm_sum (fun j => pm_C c (j + 1) * h (c - j)) (c + 1) := by
    rw [pm_sum_1]
    have z : pm_sum (fun j => pm_C c (j + 1) * h (c - j)) (c + 1) = pm_sum (fun j => pm_C c (j + 1) * h (c - j)) c + pm_C c (c + 1) * h (c - c) := rfl
    rw [z, pm_C_z (a := c) (b := c + 1) (by omega), Int.zero_mul, Int.add_zero, pm_C_c0, pm_C_c0]
    have y : pm_sum (fun j => pm_C c (j + 1) * h (c - (j + 1) + 1)) c = pm_sum (fun j => pm_C c (j + 1) * h (c - j)) c := pm_sum_cg (fun j hj => by rw [show c - (j + 1) + 1 = c - j by omega])
    rw [y]
    rfl
  rw [e1, e2]
  omega
theorem pm_g_rec (n : Int) (d : Nat) : ∀ (t : Int → Int) (c : Nat), pm_g t n d (c + 1) = pm_sum (fun e => pm_g (pm_bump t (n - e)) n d c) d := by
  induction d with
  | zero => intro t c; rfl
  | succ d ih =>
    intro t c
    have ab : ∀ e : Nat, e < d + 1 → pm_A (pm_bump t (n - e)) n (d + 1) = pm_A t n (d + 1) + 1 := fun e he => by rw [pm_A_bump, if_pos (by omega)]
    by_cases q : ((c + 1 : Nat) : Int) + pm_A t n (d + 1) ≤ ((d + 1 : Nat) : Int)
    · have l : pm_g t n (d + 1) (c + 1) = pm_sum (fun j => pm_C (c + 1) j * pm_g t n d (c + 1 - j)) (c + 2) := by
        simp only [pm_g]
        rw [if_pos q]
      have r : pm_sum (fun e => pm_g (pm_bump t (n - e)) n (d + 1) c) (d + 1) = pm_sum (fun e => pm_sum (fun j => pm_C c j * pm_g (pm_bump t (n - e)) n d (c - j)) (c + 1)) (d + 1) := pm_sum_cg (fun e he => by
        simp only [pm_g]
        rw [if_pos (by rw [ab e he]; omega)])
      have sp : pm_sum (fun e => pm_sum (fun j => pm_C c j * pm_g (pm_bump t (n - (e : Nat))) n d (c - j)) (c + 1)) (d + 1) = pm_sum (fun e => pm_sum (fun j => pm_C c j * pm_g (pm_bump t (n - (e : Nat))) n d (c - j)) (c + 1)) d + pm_sum (fun j => pm_C c j * pm_g (pm_bump t (n - (d : Nat))) n d (c - j)) (c + 1) := rfl
      have sw : pm_sum (fun e => pm_sum (fun j => pm_C c j * pm_g (pm_bump t (n - (e : Nat))) n d (c - j)) (c + 1)) d = pm_sum (fun j => pm_sum (fun e => pm_C c j * pm_g (pm_bump t (n - (e : Nat))) n d (c - j)) d) (c + 1) := pm_sum_sw (fun e j => pm_C c j * pm_g (pm_bump t (n - (e : Nat))) n d (c - j)) d (c + 1)
      have r1 : pm_sum (fun j => pm_sum (fun e => pm_C c j * pm_g (pm_bump t (n - (e : Nat))) n d (c - j)) d) (c + 1) = pm_sum (fun j => pm_C c j * pm_g t n d (c - j + 1)) (c + 1) := pm_sum_cg (fun j _ => by rw [pm_sum_mul, ih t (c - j)])
      have r2 : pm_sum (fun j => pm_C c j * pm_g (pm_bump t (n - (d : Nat))) n d (c - j)) (c + 1) = pm_sum (fun j => pm_C c j * pm_g t n d (c - j)) (c + 1) := pm_sum_cg (fun j _ => by
        rw [pm_g_cg (t := pm_bump t (n - (d : Nat))) (t' := t) (fun u a b => by unfold pm_bump; rw [if_neg (by omega)])])
      rw [l, r, pm_pascal, sp, sw, r1, r2]
    · have l : pm_g t n (d + 1) (c + 1) = 0 := by
        simp only [pm_g]
        rw [if_neg q]
      rw [l]
      exact (pm_sum_z (fun e he => by
        simp only [pm_g]
        rw [if_neg (by rw [ab e he]; omega)])).symm
theorem pm_g_nn (t : Int → Int) (n : Int) (d : Nat) : ∀ c : Nat, 0 ≤ pm_g t n d c := by
  induction d with
  | zero => intro c; simp only [pm_g]; split <;> decide
  | succ d ih =>
    intro c
    simp only [pm_g]
    split
    · exact pm_sum_nn (fun j _ => Int.mul_nonneg (pm_C_nn _ _) (ih _))
    · exact Int.le_refl _
theorem pm_g_0 (t : Int → Int) (n : Int) (d : Nat) : pm_g t n d 0 ≤ 1 := by
  induction d with
  | zero => exact Int.le_refl _
  | succ d ih =>
    simp only [pm_g, pm_sum, pm_C, Nat.sub_zero]
    split
    · omega
    · decide
theorem pm_g_1 {t : Int → Int} {n : Int} {d : Nat} (h : ∀ e : Nat, e ≤ d → pm_A t n e ≤ e) : pm_g t n d 0 = 1 := by
  induction d with
  | zero => rfl
  | succ d ih =>
    simp only [pm_g, pm_sum, pm_C, Nat.sub_zero]
    have a := h (d + 1) (Nat.le_refl _)
    rw [if_pos (by omega), ih (fun e he => h e (by omega))]
    rfl
theorem pm_g_le {n : Int} {d : Nat} (hd : d ≤ 10) (c : Nat) : ∀ t : Int → Int, pm_g t n d c ≤ 10 ^ c := by
  induction c with
  | zero => intro t; exact pm_g_0 t n d
  | succ c ih =>
    intro t
    rw [pm_g_rec]
    have a := pm_sum_le (k := d) (f := fun e => pm_g (pm_bump t (n - e)) n d c) (fun e _ => ih _)
    have p : (0 : Int) ≤ 10 ^ c := Int.le_of_lt (Int.pow_pos (by decide))
    have b : (d : Int) * 10 ^ c ≤ 10 * 10 ^ c := Int.mul_le_mul_of_nonneg_right (by omega) p
    rw [Int.pow_succ, Int.mul_comm]
    omega
def pm_Z : Int → Int := fun _ => 0
def pm_qq (t : Int → Int) (n m : Int) : Nat → Int := fun e => pm_F (pm_bump t (n - e)) n m
theorem pm_F_cg {t t' : Int → Int} {n L : Int} (h0 : 0 ≤ L) (hL : L ≤ 10) (h : ∀ u : Int, 1 ≤ u → u ≤ n → t u = t' u) (hn : 0 ≤ n) : pm_F t n L = pm_F t' n L := by
  rw [pm_F_g h0 hL, pm_F_g h0 hL]
  exact pm_g_cg (fun u a b => h u (by omega) b) _
theorem pm_F_rec {t : Int → Int} {n m : Int} (h0 : 0 ≤ m) (hL : m ≤ 9) : pm_F t n (m + 1) = pm_sum (pm_qq t n m) n.toNat := by
  rw [pm_F_g (by omega) (by omega), show (m + 1).toNat = m.toNat + 1 by omega, pm_g_rec]
  exact pm_sum_cg (fun e _ => by unfold pm_qq; rw [pm_F_g h0 (by omega)])
theorem pm_F_nn {t : Int → Int} {n L : Int} (h0 : 0 ≤ L) (hL : L ≤ 10) : 0 ≤ pm_F t n L := by
  rw [pm_F_g h0 hL]
  exact pm_g_nn _ _ _ _
theorem pm_F_le {t : Int → Int} {n L : Int} (h0 : 0 ≤ L) (hL : L ≤ 10) (hn : n ≤ 10) : pm_F t n L ≤ 10000000000 := by
  rw [pm_F_g h0 hL]
  have a := pm_g_le (n := n) (d := n.toNat) (by omega) L.toNat t
  obtain ⟨k, hk, hk2⟩ : ∃ k : Nat, k < 11 ∧ L.toNat = k := ⟨L.toNat, by omega, rfl⟩
  rw [hk2] at a
  have b : ∀ k : Nat, k < 11 → (10 : Int) ^ k ≤ 10000000000 := by decide +kernel
  have c := b k hk
  rw [hk2]
  omega
theorem pm_qq_nn {t : Int → Int} {n m : Int} (h0 : 0 ≤ m) (hL : m ≤ 10) (k : Nat) : 0 ≤ pm_sum (pm_qq t n m) k := pm_sum_nn (fun _ _ => pm_F_nn h0 hL)
theorem pm_qq_le {t : Int → Int} {n m : Int} (h0 : 0 ≤ m) (hL : m ≤ 10) (hn : n ≤ 10) {k : Nat} (hk : k ≤ 10) : pm_sum (pm_qq t n m) k ≤ 100000000000 := by
  have a := pm_sum_le (f := pm_qq t n m) (k := k) (fun _ _ => pm_F_le h0 hL hn)
  have b : (k : Int) * 10000000000 ≤ 10 * 10000000000 := Int.mul_le_mul_of_nonneg_right (by omega) (by decide)
  omega
theorem pm_qq_s {t : Int → Int} {n m v : Int} (h1 : 1 ≤ v) (h2 : v ≤ n) : pm_sum (pm_qq t n m) (n - v + 1).toNat = pm_sum (pm_qq t n m) (n - (v + 1) + 1).toNat + pm_F (pm_bump t v) n m := by
  rw [show (n - v + 1).toNat = (n - (v + 1) + 1).toNat + 1 by omega]
  show pm_sum (pm_qq t n m) (n - (v + 1) + 1).toNat + pm_qq t n m (n - (v + 1) + 1).toNat = _
  have e : pm_qq t n m (n - (v + 1) + 1).toNat = pm_F (pm_bump t v) n m := by
    unfold pm_qq
    rw [show n - (((n - (v + 1) + 1).toNat : Nat) : Int) = v by omega]
  rw [e]
theorem pm_qq_d {t : Int → Int} {n m v a w : Int} (h1 : 1 ≤ v) (h2 : v ≤ n) (h3 : 0 ≤ a - w) (hw : w = pm_F (pm_bump t v) n m) (h : a < pm_sum (pm_qq t n m) (n - v + 1).toNat) : a - w < pm_sum (pm_qq t n m) (n - (v + 1) + 1).toNat ∧ v + 1 ≤ n := by
  rw [pm_qq_s h1 h2] at h
  refine ⟨by omega, ?_⟩
  by_cases z : v + 1 ≤ n
  · exact z
  · rw [show (n - (v + 1) + 1).toNat = 0 by omega] at h
    simp only [pm_sum] at h
    omega
theorem pm_bump_up {s s' : pm_H} {t : Int → Int} {v x : Int} (e : s' = pm_up s 47 0 v (x + 1)) (hx : s 47 0 v = x) (ht : s 47 0 = t) : s' 47 0 = pm_bump t v := funext fun i => by
  unfold pm_bump
  by_cases z : i = v
  · subst z
    rw [pm_at e, if_pos rfl, ← ht, hx]
  · rw [pm_nei e z, if_neg z, ht]
theorem pm_unbump {s s' : pm_H} {t : Int → Int} {v x : Int} (e : s' = pm_up s 47 0 v (x - 1)) (hx : s 47 0 v = x) (ht : s 47 0 = pm_bump t v) : s' 47 0 = t := funext fun i => by
  by_cases z : i = v
  · subst z
    rw [ht] at hx
    unfold pm_bump at hx
    rw [if_pos rfl] at hx
    rw [pm_at e]
    omega
  · rw [pm_nei e z, ht]
    exact if_neg z
theorem pm_bump_at {s : pm_H} {t : Int → Int} {v x : Int} (ht : s 47 0 = pm_bump t v) (hx : s 47 0 v = x) : x = t v + 1 := by
  rw [← hx, ht]
  exact if_pos rfl
def pm_wt (t : Int → Int) (b : Int) : Prop := ∀ i : Int, 0 ≤ i → i ≤ 10 → 0 ≤ t i ∧ t i ≤ b
theorem pm_wt_b {t : Int → Int} {b v : Int} (h : pm_wt t b) : pm_wt (pm_bump t v) (b + 1) := fun i a c => by
  have q := h i a c
  unfold pm_bump
  split <;> omega
def pm_kA (t w : Int → Int) (n : Int) (k : Nat) : Prop := ∀ e : Nat, (e : Int) ≤ n → pm_A t n e = pm_gt w (n - e) k
theorem pm_kA_0 {t w : Int → Int} {n : Int} (h : ∀ u : Int, 1 ≤ u → u ≤ n → t u = 0) : pm_kA t w n 0 := fun e he => by
  induction e with
  | zero => rfl
  | succ e ih =>
    simp only [pm_A]
    rw [ih (by omega), h (n - e) (by omega) (by omega)]
    rfl
theorem pm_kA_s {t w : Int → Int} {n c : Int} (h : pm_kA t w n (c - 1).toNat) (hc : 1 ≤ c) (hw : w c ≤ n) : pm_kA (pm_bump t (w c)) w n (c + 1 - 1).toNat := fun e he => by
  rw [pm_A_bump, h e he, pm_gt_s w _ hc]
  by_cases z : n - (e : Int) < w c
  · rw [if_pos ⟨z, hw⟩, if_pos z]
  · rw [if_neg (fun y => z y.1), if_neg z]
theorem pm_F_end {t w : Int → Int} {n : Int} {k : Nat} (hn : 0 ≤ n) (h : pm_kA t w n k) (hg : ∀ p : Int, 0 ≤ p → p ≤ n → pm_gt w p k ≤ n - p) : pm_F t n 0 = 1 := by
  rw [pm_F_g (by decide) (by decide)]
  exact pm_g_1 (fun e he => by
    have a := h e (by omega)
    have b := hg (n - e) (by omega) (by omega)
    omega)
theorem pm_F_le2 {t : Int → Int} {n L : Int} (h0 : 0 ≤ L) (hL : L ≤ 10) (hn : n ≤ 10) : 0 ≤ pm_F t n L ∧ pm_F t n L ≤ 10000000000 := ⟨pm_F_nn h0 hL, pm_F_le h0 hL hn⟩
theorem pm_wt_b2 {t : Int → Int} {b b' v : Int} (h : pm_wt t b) (hb : b' = b + 1) : pm_wt (pm_bump t v) b' := by
  subst hb
  exact pm_wt_b h
theorem pm_PGc {M : List (Nat × Option Int)} {σ τ : pm_H} (h : pm_Fr M σ τ) (hm : pm_j2M M = true) (q : (∀ p : Int, 0 ≤ p → p ≤ σ 40 0 1 → pm_gt (σ 41 0) p (σ 40 0 3).toNat ≤ σ 40 0 1 - p)) : (∀ p : Int, 0 ≤ p → p ≤ τ 40 0 1 → pm_gt (τ 41 0) p (τ 40 0 3).toNat ≤ τ 40 0 1 - p) := by
  have h1 := h 40 0 1 (pm_j2M_in hm 40 1 (Or.inr ⟨rfl, Or.inl rfl⟩))
  have h3 := h 40 0 3 (pm_j2M_in hm 40 3 (Or.inr ⟨rfl, Or.inr rfl⟩))
  have h4 : τ 41 0 = σ 41 0 := funext fun i => h 41 0 i (pm_j2M_in hm 41 i (Or.inl rfl))
  rw [h1, h3, h4]
  exact q

def pre_X11_choosee (as : List pm_V) (n : Nat) (σ : pm_H) : Prop := ∃ aa ab : Int, as = [.inr (.inr (40, 0)), .inl aa, .inl ab] ∧ n = 122 ∧ pm_Rng σ ∧ ((0 ≤ aa ∧ aa ≤ 10 ∧ 0 ≤ ab ∧ ab ≤ 20 ∧ pm_CH σ) ∧ pm_J2 σ)
def po_X11_choosee (as : List pm_V) (_ : Nat) (σ : pm_H) (r : Option pm_V) (τ : pm_H) : Prop := ∀ aa ab : Int, as = [.inr (.inr (40, 0)), .inl aa, .inl ab] → ∃ v : Int, r = some (.inr (.inl v)) ∧ σ = τ ∧ (v = pm_C aa.toNat ab.toNat)
set_option maxRecDepth 20000 in
set_option maxHeartbeats 4000000 in
theorem ct_X11_choosee : pm_Ct yX11_choose cX11_choose 3 (some .long) 1 0 pre_X11_choosee po_X11_choosee := pm_sound (ini := false) (by decide +kernel) pk_X11_choose (fun h => absurd h (by decide)) (by
  rintro as n s0 ⟨aa, ab, rfl, rfl, R0, hpre⟩
  refine ⟨by decide, Nat.le_of_ble_eq_true rfl, fun G hG => ?_⟩
  have hG : pm_Rules (RX11, 1, 122, cX11_choose, -1, (fun _ => 0), false, (some .long), po_X11_choosee [.inr (.inr (40, 0)), .inl aa, .inl ab] 122 s0) G := hG
  show G 0 [some (.inr (.inr (40, 0))), some (.inl aa), some (.inl ab)] [] 122 s0
  have B0 := pb_40_0 R0
  have B1 := pb_40_1 R0
  have B2 := pb_40_2 R0
  have B3 := pb_40_3 R0
  have J2 := hpre.2
  have HP := hpre.1
  have JK := J2.1
  have JW := J2.2
  refine px_iload_n hG dX11_choose_0 rfl ?_
  refine px_i2l hG dX11_choose_1 ⟨by omega, by omega⟩ ?_
  refine px_lconst hG dX11_choose_2 ?_
  show G 3 [some (.inr (.inr (40, 0))), some (.inl aa), some (.inl ab)] [.inr (.inl 0), .inr (.inl ab)] 122 s0
  refine px_iload_n hG dX11_choose_3 rfl ?_
  refine px_i2l hG dX11_choose_4 ⟨by omega, by omega⟩ ?_
  refine js3 hG dX11_choose_5 ct_X11_in lk_X11_96 ⟨Nat.le_of_ble_eq_true rfl, Nat.le_of_ble_eq_true rfl, Nat.le_of_ble_eq_true rfl⟩ (Nat.le_of_ble_eq_true rfl) ⟨ab, 0, aa, rfl, rfl, R0, by omega⟩ (fun r1 t2 pr1 => ?_)
  obtain ⟨x3, rfl, rfl, br1⟩ := pr1 _ _ _ rfl
  show G 8 [some (.inr (.inr (40, 0))), some (.inl aa), some (.inl ab)] [.inl x3] 122 s0
  refine px_if_eq hG dX11_choose_8 (tgt := 25) (by decide) ⟨by omega, by omega⟩ (fun c4 => ?_) (fun c4 => ?_)
  · refine px_lconst hG dX11_choose_25 ?_
    show G 26 [some (.inr (.inr (40, 0))), some (.inl aa), some (.inl ab)] [.inr (.inl 0)] 122 s0
    exact px_lret (st := []) hG dX11_choose_26 rfl rfl (fun aa_1 ab_1 ee => by cases ee; exact ⟨_, rfl, rfl, by first | exact CZ | exact (pm_C_z (by omega)).symm⟩)
  · refine px_aload_n hG dX11_choose_11 rfl ?_
    refine gr_40_9 hG dX11_choose_12 fl_X11_29 R0 ?_
    refine px_bipush hG dX11_choose_15 (by decide) ?_
    refine px_iload_n hG dX11_choose_17 rfl ?_
    refine px_imul hG dX11_choose_18 ?_
    refine px_iload_n hG dX11_choose_19 rfl ?_
    refine px_iadd hG dX11_choose_20 ?_
    refine al_46 hG dX11_choose_21 (by omega) (fun z5 ez5 => ?_)
    have CZ := ez5.symm.trans (HP.2.2.2.2 aa ab (by omega) (by omega) (by omega))
    refine px_goto hG dX11_choose_22 (tgt := 26) (by decide) ?_
    exact px_lret (st := []) hG dX11_choose_26 rfl rfl (fun aa_1 ab_1 ee => by cases ee; exact ⟨_, rfl, rfl, by first | exact CZ | exact (pm_C_z (by omega)).symm⟩))
def pre_X11_finishese (as : List pm_V) (n : Nat) (σ : pm_H) : Prop := ∃ pl le : Int, as = [.inr (.inr (40, 0)), .inl pl, .inl le] ∧ n = 122 ∧ pm_Rng σ ∧ ((1 ≤ pl ∧ pl ≤ 10 ∧ 0 ≤ le ∧ le ≤ 10 ∧ pm_CH σ) ∧ pm_J2 σ)
def po_X11_finishese (as : List pm_V) (_ : Nat) (σ : pm_H) (r : Option pm_V) (τ : pm_H) : Prop := ∀ pl le : Int, as = [.inr (.inr (40, 0)), .inl pl, .inl le] → ∃ v : Int, r = some (.inr (.inl v)) ∧ pm_Rng τ ∧ pm_Fr [(48, none)] σ τ ∧ (v = pm_F (σ 47 0) pl le)
set_option maxRecDepth 20000 in
set_option maxHeartbeats 4000000 in
theorem ct_X11_finishese : pm_Ct yX11_finishes cX11_finishes 9 (some .long) 2 0 pre_X11_finishese po_X11_finishese := pm_sound (ini := false) (by decide +kernel) pk_X11_finishes (fun h => absurd h (by decide)) (by
  rintro as n s0 ⟨pl, le, rfl, rfl, R0, hpre⟩
  refine ⟨by decide, Nat.le_of_ble_eq_true rfl, fun G hG => ?_⟩
  have hG : pm_Rules (RX11, 2, 122, cX11_finishes, -1, (fun _ => 0), false, (some .long), po_X11_finishese [.inr (.inr (40, 0)), .inl pl, .inl le] 122 s0) G := hG
  show G 0 [some (.inr (.inr (40, 0))), some (.inl pl), some (.inl le), none, none, none, none, none, none] [] 122 s0
  have B0 := pb_40_0 R0
  have B1 := pb_40_1 R0
  have B2 := pb_40_2 R0
  have B3 := pb_40_3 R0
  have J2 := hpre.2
  have HP := hpre.1
  have JK := J2.1
  have JW := J2.2
  have CH := HP.2.2.2.2
  refine px_iconst hG dX11_finishes_0 ?_
  refine px_istore_n hG dX11_finishes_1 (Nat.le_of_ble_eq_true rfl) (L2 := [some (.inr (.inr (40, 0))), some (.inl pl), some (.inl le), some (.inl 0), none, none, none, none, none]) rfl ?_
  refine px_iconst hG dX11_finishes_2 ?_
  refine px_istore hG dX11_finishes_3 (Nat.le_of_ble_eq_true rfl) (L2 := [some (.inr (.inr (40, 0))), some (.inl pl), some (.inl le), some (.inl 0), some (.inl 0), none, none, none, none]) rfl ?_
  have L5 : ∀ (N : Nat) (v4_1 : Int) (s2 : pm_H), pm_Rng s2 → pm_Fr [(48, none)] s0 s2 → ((0 ≤ v4_1 ∧ v4_1 ≤ 10000) ∧ (pm_fR s2 (s0 47 0) pl le (pl + 1) v4_1)) → (10001 - v4_1).toNat < N → G 5 [some (.inr (.inr (40, 0))), some (.inl pl), some (.inl le), some (.inl 0), some (.inl v4_1), none, none, none, none] [] 122 s2 := by
    intro N
    induction N with
    | zero => intro v4_1 s2 R3 F4 inv6 hm7; exact absurd hm7 (Nat.not_lt_zero _)
    | succ N ih5 =>
      intro v4_1 s2 R3 F4 inv6 hm7
      have jj8 := F4 40 0 0 rfl
      have jj9 := F4 40 0 1 rfl
      have jj10 := F4 40 0 2 rfl
      have jj11 := F4 40 0 3 rfl
      have W := inv6.2
      refine px_iload hG dX11_finishes_5 rfl ?_
      refine px_iload_n hG dX11_finishes_7 rfl ?_
      have J41_13 : ((v4_1 > le)) → G 41 [some (.inr (.inr (40, 0))), some (.inl pl), some (.inl le), some (.inl 0), none, none, none, none, none] [] 122 s2 := by
        intro inv14
        refine px_iload_n hG dX11_finishes_41 rfl ?_
        refine px_istore hG dX11_finishes_42 (Nat.le_of_ble_eq_true rfl) (L2 := [some (.inr (.inr (40, 0))), some (.inl pl), some (.inl le), some (.inl 0), some (.inl pl), none, none, none, none]) rfl ?_
        have L44 : ∀ (N : Nat) (v3_15 : Int) (v4_16 : Int) (s17 : pm_H), pm_Rng s17 → pm_Fr [(48, none)] s0 s17 → ((-10000 ≤ v4_16 ∧ v4_16 ≤ pl) ∧ (0 ≤ v4_16 ∧ -12 * (pl - v4_16) ≤ v3_15 ∧ v3_15 ≤ 12 * (pl - v4_16) ∧ v3_15 = pm_A (s0 47 0) pl (pl - v4_16).toNat ∧ ∀ v : Int, v4_16 < v → v ≤ pl + 1 → pm_fR s17 (s0 47 0) pl le v (le + 1))) → (v4_16 + 10001).toNat < N → G 44 [some (.inr (.inr (40, 0))), some (.inl pl), some (.inl le), some (.inl v3_15), some (.inl v4_16), none, none, none, none] [] 122 s17 := by
          intro N
          induction N with
          | zero => intro v3_15 v4_16 s17 R18 F19 inv21 hm22; exact absurd hm22 (Nat.not_lt_zero _)
          | succ N ih20 =>
            intro v3_15 v4_16 s17 R18 F19 inv21 hm22
            have jj23 := F19 40 0 0 rfl
            have jj24 := F19 40 0 1 rfl
            have jj25 := F19 40 0 2 rfl
            have jj26 := F19 40 0 3 rfl
            have V3 := (inv21.2).2.2.2.1
            have V := (inv21.2).2.2.2.2
            refine px_iload hG dX11_finishes_44 rfl ?_
            refine px_iconst hG dX11_finishes_46 ?_
            have J169_28 : ((v4_16 < 1)) → G 169 [some (.inr (.inr (40, 0))), none, some (.inl le), none, none, none, none, none, none] [] 122 s17 := by
              intro inv29
              refine px_aload_n hG dX11_finishes_169 rfl ?_
              refine gr_40_11 hG dX11_finishes_170 fl_X11_36 R18 ?_
              refine px_bipush hG dX11_finishes_173 (by decide) ?_
              refine px_iload_n hG dX11_finishes_175 rfl ?_
              refine px_iadd hG dX11_finishes_176 ?_
              refine al_48 hG dX11_finishes_177 (by omega) (fun z30 ez30 => ?_)
              have ZE := V 1 (by omega) (by omega) le (by omega) (by omega)
              rw [show 12 * 1 + le = 12 + le by omega, ez30, show pl + 1 - 1 = pl by omega] at ZE
              have jj31 := F19 40 0 0 rfl
              have jj32 := F19 40 0 1 rfl
              have jj33 := F19 40 0 2 rfl
              have jj34 := F19 40 0 3 rfl
              exact px_lret (st := []) hG dX11_finishes_178 rfl rfl (fun pl_1 le_1 ee => by cases ee; exact ⟨_, rfl, R18, F19, ZE⟩)
            refine px_ic_lt hG dX11_finishes_47 (tgt := 169) (by decide) ⟨by omega, by omega⟩ ⟨by omega, by omega⟩ (fun c27 => ?_) (fun c27 => ?_)
            · refine px_weak hG (L2 := [some (.inr (.inr (40, 0))), none, some (.inl le), none, none, none, none, none, none]) ⟨Or.inr rfl, Or.inl rfl, Or.inr rfl, Or.inl rfl, Or.inl rfl, Or.inr rfl, Or.inr rfl, Or.inr rfl, Or.inr rfl, trivial⟩ ?_
              exact J169_28  (by omega)
            · refine px_iload_n hG dX11_finishes_50 rfl ?_
              refine px_aload_n hG dX11_finishes_51 rfl ?_
              refine gr_40_10 hG dX11_finishes_52 fl_X11_33 R18 ?_
              refine px_iload hG dX11_finishes_55 rfl ?_
              refine al_47 hG dX11_finishes_57 R18 (by omega) (fun x35 ex35 lx35 ux35 => ?_)
              have X1 := (F19 47 0 v4_16 rfl).symm.trans ex35
              refine px_iadd hG dX11_finishes_58 ?_
              refine px_istore_n hG dX11_finishes_59 (Nat.le_of_ble_eq_true rfl) (L2 := [some (.inr (.inr (40, 0))), some (.inl pl), some (.inl le), some (.inl (v3_15 + x35)), some (.inl v4_16), none, none, none, none]) rfl ?_
              have AB : (v3_15 + x35) = pm_A (s0 47 0) pl ((pl - v4_16).toNat + 1) := by rw [pm_A_s (by omega)]; omega
              have CS : pm_CH s17 := pm_CH_eq (fun i => F19 46 0 i rfl) CH
              refine px_iconst hG dX11_finishes_60 ?_
              refine px_istore hG dX11_finishes_61 (Nat.le_of_ble_eq_true rfl) (L2 := [some (.inr (.inr (40, 0))), some (.inl pl), some (.inl le), some (.inl (v3_15 + x35)), some (.inl v4_16), some (.inl 0), none, none, none]) rfl ?_
              have L63 : ∀ (N : Nat) (v5_36 : Int) (s37 : pm_H), pm_Rng s37 → pm_Fr [(48, none)] s0 s37 → ((0 ≤ v5_36 ∧ v5_36 ≤ 10000) ∧ (pm_fR s37 (s0 47 0) pl le v4_16 v5_36 ∧ (∀ v : Int, v4_16 < v → v ≤ pl + 1 → pm_fR s37 (s0 47 0) pl le v (le + 1)) ∧ v5_36 ≤ le + 1)) → (10001 - v5_36).toNat < N → G 63 [some (.inr (.inr (40, 0))), some (.inl pl), some (.inl le), some (.inl (v3_15 + x35)), some (.inl v4_16), some (.inl v5_36), none, none, none] [] 122 s37 := by
                intro N
                induction N with
                | zero => intro v5_36 s37 R38 F39 inv41 hm42; exact absurd hm42 (Nat.not_lt_zero _)
                | succ N ih40 =>
                  intro v5_36 s37 R38 F39 inv41 hm42
                  have jj43 := F39 40 0 0 rfl
                  have jj44 := F39 40 0 1 rfl
                  have jj45 := F39 40 0 2 rfl
                  have jj46 := F39 40 0 3 rfl
                  have U1 := (inv41.2).1
                  have U2 := (inv41.2).2.1
                  have U3 := (inv41.2).2.2
                  have CS : pm_CH s37 := pm_CH_eq (fun i => F39 46 0 i rfl) CH
                  refine px_iload hG dX11_finishes_63 rfl ?_
                  refine px_iload_n hG dX11_finishes_65 rfl ?_
                  refine px_ic_gt hG dX11_finishes_66 (tgt := 163) (by decide) ⟨by omega, by omega⟩ ⟨by omega, by omega⟩ (fun c47 => ?_) (fun c47 => ?_)
                  · refine px_iinc hG dX11_finishes_163 (Nat.le_of_ble_eq_true rfl) rfl (L2 := [some (.inr (.inr (40, 0))), some (.inl pl), some (.inl le), some (.inl (v3_15 + x35)), some (.inl (v4_16 + -1)), some (.inl v5_36), none, none, none]) rfl ?_
                    refine px_goto hG dX11_finishes_166 (tgt := 44) (by decide) ?_
                    refine px_weak hG (L2 := [some (.inr (.inr (40, 0))), some (.inl pl), some (.inl le), some (.inl (v3_15 + x35)), some (.inl (v4_16 + -1)), none, none, none, none]) ⟨Or.inr rfl, Or.inr rfl, Or.inr rfl, Or.inr rfl, Or.inr rfl, Or.inl rfl, Or.inr rfl, Or.inr rfl, Or.inr rfl, trivial⟩ ?_
                    exact ih20 (v3_15 + x35) (v4_16 + -1) s37 R38 F39 (⟨by omega, ⟨by omega, by omega, by omega, by rw [AB]; exact congrArg (pm_A (s0 47 0) pl) (by omega), pm_fR_n U1 U2 (by omega)⟩⟩) (by omega)
                  · refine px_lconst hG dX11_finishes_69 ?_
                    show G 70 [some (.inr (.inr (40, 0))), some (.inl pl), some (.inl le), some (.inl (v3_15 + x35)), some (.inl v4_16), some (.inl v5_36), none, none, none] [.inr (.inl 0)] 122 s37
                    refine px_lstore hG dX11_finishes_70 (Nat.le_of_ble_eq_true rfl) (L2 := [some (.inr (.inr (40, 0))), some (.inl pl), some (.inl le), some (.inl (v3_15 + x35)), some (.inl v4_16), some (.inl v5_36), some (.inr (.inl 0)), none, none]) rfl ?_
                    refine px_iconst hG dX11_finishes_72 ?_
                    refine px_istore hG dX11_finishes_73 (Nat.le_of_ble_eq_true rfl) (L2 := [some (.inr (.inr (40, 0))), some (.inl pl), some (.inl le), some (.inl (v3_15 + x35)), some (.inl v4_16), some (.inl v5_36), some (.inr (.inl 0)), none, some (.inl 0)]) rfl ?_
                    have L75 : ∀ (N : Nat) (v6_48 : Int) (v8_49 : Int), ((0 ≤ v8_49 ∧ v8_49 ≤ 10000) ∧ (v6_48 = pm_sum (pm_T (s0 47 0) pl le (pl - v4_16).toNat v5_36.toNat) v8_49.toNat ∧ v8_49 ≤ v5_36 + 1)) → (10001 - v8_49).toNat < N → G 75 [some (.inr (.inr (40, 0))), some (.inl pl), some (.inl le), some (.inl (v3_15 + x35)), some (.inl v4_16), some (.inl v5_36), some (.inr (.inl v6_48)), none, some (.inl v8_49)] [] 122 s37 := by
                      intro N
                      induction N with
                      | zero => intro v6_48 v8_49 inv51 hm52; exact absurd hm52 (Nat.not_lt_zero _)
                      | succ N ih50 =>
                        intro v6_48 v8_49 inv51 hm52
                        have S1 := (inv51.2).1
                        have S2 := (inv51.2).2
                        refine px_iload hG dX11_finishes_75 rfl ?_
                        refine px_iload hG dX11_finishes_77 rfl ?_
                        have J125_54 : ((v8_49 > v5_36)) → G 125 [some (.inr (.inr (40, 0))), some (.inl pl), some (.inl le), some (.inl (v3_15 + x35)), some (.inl v4_16), some (.inl v5_36), some (.inr (.inl v6_48)), none, none] [] 122 s37 := by
                          intro inv55
                          refine px_aload_n hG dX11_finishes_125 rfl ?_
                          refine gr_40_11 hG dX11_finishes_126 fl_X11_36 R38 ?_
                          refine px_bipush hG dX11_finishes_129 (by decide) ?_
                          refine px_iload hG dX11_finishes_131 rfl ?_
                          refine px_imul hG dX11_finishes_133 ?_
                          refine px_iload hG dX11_finishes_134 rfl ?_
                          refine px_iadd hG dX11_finishes_136 ?_
                          refine px_iload hG dX11_finishes_137 rfl ?_
                          refine px_iload_n hG dX11_finishes_139 rfl ?_
                          refine px_iadd hG dX11_finishes_140 ?_
                          refine px_iload_n hG dX11_finishes_141 rfl ?_
                          refine px_iload hG dX11_finishes_142 rfl ?_
                          refine px_isub hG dX11_finishes_144 ?_
                          refine px_iconst hG dX11_finishes_145 ?_
                          refine px_iadd hG dX11_finishes_146 ?_
                          refine px_ic_gt hG dX11_finishes_147 (tgt := 155) (by decide) ⟨by omega, by omega⟩ ⟨by omega, by omega⟩ (fun c56 => ?_) (fun c56 => ?_)
                          · refine px_lconst hG dX11_finishes_155 ?_
                            show G 156 [some (.inr (.inr (40, 0))), some (.inl pl), some (.inl le), some (.inl (v3_15 + x35)), some (.inl v4_16), some (.inl v5_36), some (.inr (.inl v6_48)), none, none] [.inr (.inl 0), .inl ((12 * v4_16) + v5_36), .inr (.inr (48, 0))] 122 s37
                            refine as_48 hG dX11_finishes_156 R38 (by omega) (fun s57 qs57 Rs57 => ?_)
                            have Fs57 := pm_Fr_up (F39) qs57 (M := [(48, none)]) rfl
                            have jj58 := pm_nec qs57 (c' := 40) (r' := 0) (i' := 0) (by decide)
                            have jj59 := pm_nec qs57 (c' := 40) (r' := 0) (i' := 1) (by decide)
                            have jj60 := pm_nec qs57 (c' := 40) (r' := 0) (i' := 2) (by decide)
                            have jj61 := pm_nec qs57 (c' := 40) (r' := 0) (i' := 3) (by decide)
                            have E := qs57
                            have SV := pm_S_v (v := v4_16) (c := v5_36) (x := 0) S1 AB (by omega) (by omega) (by omega) (by omega)
                            refine px_iinc hG dX11_finishes_157 (Nat.le_of_ble_eq_true rfl) rfl (L2 := [some (.inr (.inr (40, 0))), some (.inl pl), some (.inl le), some (.inl (v3_15 + x35)), some (.inl v4_16), some (.inl (v5_36 + 1)), some (.inr (.inl v6_48)), none, none]) rfl ?_
                            refine px_goto hG dX11_finishes_160 (tgt := 63) (by decide) ?_
                            refine px_weak hG (L2 := [some (.inr (.inr (40, 0))), some (.inl pl), some (.inl le), some (.inl (v3_15 + x35)), some (.inl v4_16), some (.inl (v5_36 + 1)), none, none, none]) ⟨Or.inr rfl, Or.inr rfl, Or.inr rfl, Or.inr rfl, Or.inr rfl, Or.inr rfl, Or.inl rfl, Or.inr rfl, Or.inr rfl, trivial⟩ ?_
                            exact ih40 (v5_36 + 1) s57 Rs57 Fs57 (⟨by omega, ⟨pm_fR_s U1 E (by omega) SV, pm_fR_a U2 E (by omega) (by omega), by omega⟩⟩) (by omega)
                          · refine px_lload hG dX11_finishes_150 rfl ?_
                            refine px_goto hG dX11_finishes_152 (tgt := 156) (by decide) ?_
                            refine as_48 hG dX11_finishes_156 R38 (by omega) (fun s62 qs62 Rs62 => ?_)
                            have Fs62 := pm_Fr_up (F39) qs62 (M := [(48, none)]) rfl
                            have jj63 := pm_nec qs62 (c' := 40) (r' := 0) (i' := 0) (by decide)
                            have jj64 := pm_nec qs62 (c' := 40) (r' := 0) (i' := 1) (by decide)
                            have jj65 := pm_nec qs62 (c' := 40) (r' := 0) (i' := 2) (by decide)
                            have jj66 := pm_nec qs62 (c' := 40) (r' := 0) (i' := 3) (by decide)
                            have E := qs62
                            have SV := pm_S_v (v := v4_16) (c := v5_36) (x := v6_48) S1 AB (by omega) (by omega) (by omega) (by omega)
                            refine px_iinc hG dX11_finishes_157 (Nat.le_of_ble_eq_true rfl) rfl (L2 := [some (.inr (.inr (40, 0))), some (.inl pl), some (.inl le), some (.inl (v3_15 + x35)), some (.inl v4_16), some (.inl (v5_36 + 1)), some (.inr (.inl v6_48)), none, none]) rfl ?_
                            refine px_goto hG dX11_finishes_160 (tgt := 63) (by decide) ?_
                            refine px_weak hG (L2 := [some (.inr (.inr (40, 0))), some (.inl pl), some (.inl le), some (.inl (v3_15 + x35)), some (.inl v4_16), some (.inl (v5_36 + 1)), none, none, none]) ⟨Or.inr rfl, Or.inr rfl, Or.inr rfl, Or.inr rfl, Or.inr rfl, Or.inr rfl, Or.inl rfl, Or.inr rfl, Or.inr rfl, trivial⟩ ?_
                            exact ih40 (v5_36 + 1) s62 Rs62 Fs62 (⟨by omega, ⟨pm_fR_s U1 E (by omega) SV, pm_fR_a U2 E (by omega) (by omega), by omega⟩⟩) (by omega)
                        refine px_ic_gt hG dX11_finishes_79 (tgt := 125) (by decide) ⟨by omega, by omega⟩ ⟨by omega, by omega⟩ (fun c53 => ?_) (fun c53 => ?_)
                        · refine px_weak hG (L2 := [some (.inr (.inr (40, 0))), some (.inl pl), some (.inl le), some (.inl (v3_15 + x35)), some (.inl v4_16), some (.inl v5_36), some (.inr (.inl v6_48)), none, none]) ⟨Or.inr rfl, Or.inr rfl, Or.inr rfl, Or.inr rfl, Or.inr rfl, Or.inr rfl, Or.inr rfl, Or.inr rfl, Or.inl rfl, trivial⟩ ?_
                          exact J125_54  (by omega)
                        · refine px_lload hG dX11_finishes_82 rfl ?_
                          refine px_aload_n hG dX11_finishes_84 rfl ?_
                          refine gr_40_11 hG dX11_finishes_85 fl_X11_36 R38 ?_
                          refine px_bipush hG dX11_finishes_88 (by decide) ?_
                          refine px_iload hG dX11_finishes_90 rfl ?_
                          refine px_iconst hG dX11_finishes_92 ?_
                          refine px_iadd hG dX11_finishes_93 ?_
                          refine px_imul hG dX11_finishes_94 ?_
                          refine px_iload hG dX11_finishes_95 rfl ?_
                          refine px_iadd hG dX11_finishes_97 ?_
                          refine px_iload hG dX11_finishes_98 rfl ?_
                          refine px_isub hG dX11_finishes_100 ?_
                          refine al_48 hG dX11_finishes_101 (by omega) (fun z67 ez67 => ?_)
                          have Z1 := U2 (v4_16 + 1) (by omega) (by omega) (v5_36 - v8_49) (by omega) (by omega)
                          rw [show 12 * (v4_16 + 1) + (v5_36 - v8_49) = 12 * (v4_16 + 1) + v5_36 - v8_49 by omega, ez67] at Z1
                          refine px_aload_n hG dX11_finishes_102 rfl ?_
                          refine px_iload_n hG dX11_finishes_103 rfl ?_
                          refine px_iload hG dX11_finishes_104 rfl ?_
                          refine px_iload hG dX11_finishes_106 rfl ?_
                          refine px_isub hG dX11_finishes_108 ?_
                          refine px_isub hG dX11_finishes_109 ?_
                          refine px_iload hG dX11_finishes_110 rfl ?_
                          refine jv2 hG dX11_finishes_112 ct_X11_choosee lk_X11_148 ⟨rfl, rfl⟩ (by decide) ⟨Nat.le_of_ble_eq_true rfl, Nat.le_of_ble_eq_true rfl, Nat.le_of_ble_eq_true rfl⟩ (Nat.le_of_ble_eq_true rfl) ⟨(le - (v5_36 - v8_49)), v8_49, rfl, rfl, R38, ⟨⟨by omega, by omega, by omega, by omega, CS⟩, (pm_J2_fr F39 rfl J2)⟩⟩ (fun r68 t69 pr68 => ?_)
                          obtain ⟨z70, rfl, rfl, br68⟩ := pr68 _ _ rfl
                          show G 115 [some (.inr (.inr (40, 0))), some (.inl pl), some (.inl le), some (.inl (v3_15 + x35)), some (.inl v4_16), some (.inl v5_36), some (.inr (.inl v6_48)), none, some (.inl v8_49)] [.inr (.inl z70), .inr (.inl z67), .inr (.inl v6_48)] 122 s37
                          have Z2 := br68
                          refine px_lmul hG dX11_finishes_115 ?_
                          refine px_ladd hG dX11_finishes_116 ?_
                          refine px_lstore hG dX11_finishes_117 (Nat.le_of_ble_eq_true rfl) (L2 := [some (.inr (.inr (40, 0))), some (.inl pl), some (.inl le), some (.inl (v3_15 + x35)), some (.inl v4_16), some (.inl v5_36), some (.inr (.inl (v6_48 + (z67 * z70)))), none, some (.inl v8_49)]) rfl ?_
                          refine px_iinc hG dX11_finishes_119 (Nat.le_of_ble_eq_true rfl) rfl (L2 := [some (.inr (.inr (40, 0))), some (.inl pl), some (.inl le), some (.inl (v3_15 + x35)), some (.inl v4_16), some (.inl v5_36), some (.inr (.inl (v6_48 + (z67 * z70)))), none, some (.inl (v8_49 + 1))]) rfl ?_
                          refine px_goto hG dX11_finishes_122 (tgt := 75) (by decide) ?_
                          exact ih50 (v6_48 + (z67 * z70)) (v8_49 + 1) (⟨by omega, ⟨pm_sum_i S1 (by omega) (pm_T_i Z1 Z2 (by omega) (by omega) (by omega) (by omega)), by omega⟩⟩) (by omega)
                    exact L75 _ 0 0 (⟨by omega, ⟨rfl, by omega⟩⟩) (Nat.lt_succ_self _)
              exact L63 _ 0 s17 R18 F19 (⟨by omega, ⟨fun q a b => by omega, V, by omega⟩⟩) (Nat.lt_succ_self _)
        exact L44 _ 0 pl s2 R3 F4 (⟨by omega, ⟨by omega, by omega, by omega, by rw [show (pl - pl).toNat = 0 by omega]; rfl, fun v a b => by rw [show v = pl + 1 by omega]; exact fun q c d => W q c (by omega)⟩⟩) (Nat.lt_succ_self _)
      refine px_ic_gt hG dX11_finishes_8 (tgt := 41) (by decide) ⟨by omega, by omega⟩ ⟨by omega, by omega⟩ (fun c12 => ?_) (fun c12 => ?_)
      · refine px_weak hG (L2 := [some (.inr (.inr (40, 0))), some (.inl pl), some (.inl le), some (.inl 0), none, none, none, none, none]) ⟨Or.inr rfl, Or.inr rfl, Or.inr rfl, Or.inr rfl, Or.inl rfl, Or.inr rfl, Or.inr rfl, Or.inr rfl, Or.inr rfl, trivial⟩ ?_
        exact J41_13  (by omega)
      · refine px_aload_n hG dX11_finishes_11 rfl ?_
        refine gr_40_11 hG dX11_finishes_12 fl_X11_36 R3 ?_
        refine px_bipush hG dX11_finishes_15 (by decide) ?_
        refine px_iload_n hG dX11_finishes_17 rfl ?_
        refine px_iconst hG dX11_finishes_18 ?_
        refine px_iadd hG dX11_finishes_19 ?_
        refine px_imul hG dX11_finishes_20 ?_
        refine px_iload hG dX11_finishes_21 rfl ?_
        refine px_iadd hG dX11_finishes_23 ?_
        refine px_iload hG dX11_finishes_24 rfl ?_
        refine px_if_ne hG dX11_finishes_26 (tgt := 33) (by decide) ⟨by omega, by omega⟩ (fun c71 => ?_) (fun c71 => ?_)
        · refine px_lconst hG dX11_finishes_33 ?_
          show G 34 [some (.inr (.inr (40, 0))), some (.inl pl), some (.inl le), some (.inl 0), some (.inl v4_1), none, none, none, none] [.inr (.inl 0), .inl ((12 * (pl + 1)) + v4_1), .inr (.inr (48, 0))] 122 s2
          refine as_48 hG dX11_finishes_34 R3 (by omega) (fun s72 qs72 Rs72 => ?_)
          have Fs72 := pm_Fr_up (F4) qs72 (M := [(48, none)]) rfl
          have jj73 := pm_nec qs72 (c' := 40) (r' := 0) (i' := 0) (by decide)
          have jj74 := pm_nec qs72 (c' := 40) (r' := 0) (i' := 1) (by decide)
          have jj75 := pm_nec qs72 (c' := 40) (r' := 0) (i' := 2) (by decide)
          have jj76 := pm_nec qs72 (c' := 40) (r' := 0) (i' := 3) (by decide)
          have E := qs72
          refine px_iinc hG dX11_finishes_35 (Nat.le_of_ble_eq_true rfl) rfl (L2 := [some (.inr (.inr (40, 0))), some (.inl pl), some (.inl le), some (.inl 0), some (.inl (v4_1 + 1)), none, none, none, none]) rfl ?_
          refine px_goto hG dX11_finishes_38 (tgt := 5) (by decide) ?_
          exact ih5 (v4_1 + 1) s72 Rs72 Fs72 (⟨by omega, pm_fR_s W E (by omega) (pm_S_0 (by omega) (by omega) (by omega))⟩) (by omega)
        · refine px_lconst hG dX11_finishes_29 ?_
          show G 30 [some (.inr (.inr (40, 0))), some (.inl pl), some (.inl le), some (.inl 0), some (.inl v4_1), none, none, none, none] [.inr (.inl 1), .inl ((12 * (pl + 1)) + v4_1), .inr (.inr (48, 0))] 122 s2
          refine px_goto hG dX11_finishes_30 (tgt := 34) (by decide) ?_
          refine as_48 hG dX11_finishes_34 R3 (by omega) (fun s77 qs77 Rs77 => ?_)
          have Fs77 := pm_Fr_up (F4) qs77 (M := [(48, none)]) rfl
          have jj78 := pm_nec qs77 (c' := 40) (r' := 0) (i' := 0) (by decide)
          have jj79 := pm_nec qs77 (c' := 40) (r' := 0) (i' := 1) (by decide)
          have jj80 := pm_nec qs77 (c' := 40) (r' := 0) (i' := 2) (by decide)
          have jj81 := pm_nec qs77 (c' := 40) (r' := 0) (i' := 3) (by decide)
          have E := qs77
          refine px_iinc hG dX11_finishes_35 (Nat.le_of_ble_eq_true rfl) rfl (L2 := [some (.inr (.inr (40, 0))), some (.inl pl), some (.inl le), some (.inl 0), some (.inl (v4_1 + 1)), none, none, none, none]) rfl ?_
          refine px_goto hG dX11_finishes_38 (tgt := 5) (by decide) ?_
          exact ih5 (v4_1 + 1) s77 Rs77 Fs77 (⟨by omega, pm_fR_s W E (by omega) (pm_S_0 (by omega) (by omega) (by omega))⟩) (by omega)
  exact L5 _ 0 s0 R0 pm_Fr_rf (⟨by omega, fun q a b => by omega⟩) (Nat.lt_succ_self _))
def pre_X11_rowsOfe (as : List pm_V) (n : Nat) (σ : pm_H) : Prop := ∃ aa : Int, as = [.inr (.inr (40, 0)), .inl aa] ∧ n = 122 ∧ pm_Rng σ ∧ ((0 ≤ aa ∧ aa ≤ 10 ∧ pm_CH σ) ∧ pm_J2 σ)
def po_X11_rowsOfe (as : List pm_V) (_ : Nat) (σ : pm_H) (r : Option pm_V) (τ : pm_H) : Prop := ∀ aa : Int, as = [.inr (.inr (40, 0)), .inl aa] → ∃ v : Int, r = some (.inr (.inl v)) ∧ pm_Rng τ ∧ pm_Fr [(47, none), (48, none)] σ τ ∧ (v = pm_F pm_Z (σ 40 0 1) aa)
set_option maxRecDepth 20000 in
set_option maxHeartbeats 4000000 in
theorem ct_X11_rowsOfe : pm_Ct yX11_rowsOf cX11_rowsOf 2 (some .long) 3 0 pre_X11_rowsOfe po_X11_rowsOfe := pm_sound (ini := false) (by decide +kernel) pk_X11_rowsOf (fun h => absurd h (by decide)) (by
  rintro as n s0 ⟨aa, rfl, rfl, R0, hpre⟩
  refine ⟨by decide, Nat.le_of_ble_eq_true rfl, fun G hG => ?_⟩
  have hG : pm_Rules (RX11, 3, 122, cX11_rowsOf, -1, (fun _ => 0), false, (some .long), po_X11_rowsOfe [.inr (.inr (40, 0)), .inl aa] 122 s0) G := hG
  show G 0 [some (.inr (.inr (40, 0))), some (.inl aa)] [] 122 s0
  have B0 := pb_40_0 R0
  have B1 := pb_40_1 R0
  have B2 := pb_40_2 R0
  have B3 := pb_40_3 R0
  have J2 := hpre.2
  have HP := hpre.1
  have JK := J2.1
  have JW := J2.2
  have CH := HP.2.2
  refine px_aload_n hG dX11_rowsOf_0 rfl ?_
  refine jv0 hG dX11_rowsOf_1 ct_X11_clearTold lk_X11_152 ⟨rfl, rfl⟩ (by decide) ⟨Nat.le_of_ble_eq_true rfl, Nat.le_of_ble_eq_true rfl, Nat.le_of_ble_eq_true rfl⟩ (Nat.le_of_ble_eq_true rfl) ⟨rfl, rfl, R0, J2⟩ (fun r1 t3 pr1 => ?_)
  obtain ⟨rfl, Rt3, Ft3, br1⟩ := pr1 rfl
  have Ff5 := pm_Fr_mono Ft3 (M := [(47, none), (48, none)]) rfl
  have jj6 := Ft3 40 0 0 rfl
  have jj7 := Ft3 40 0 1 rfl
  have jj8 := Ft3 40 0 2 rfl
  have jj9 := Ft3 40 0 3 rfl
  show G 4 [some (.inr (.inr (40, 0))), some (.inl aa)] [] 122 t3
  have W0 : ∀ i : Int, 0 ≤ i → i ≤ 11 → t3 47 0 i = 0 := br1
  refine px_aload_n hG dX11_rowsOf_4 rfl ?_
  refine px_aload_n hG dX11_rowsOf_5 rfl ?_
  refine gi_40_1 hG dX11_rowsOf_6 fl_X11_7 Rt3 (fun x10 ex10 lx10 ux10 => ?_)
  have ex10 : s0 40 0 1 = x10 := (Ff5 40 0 1 rfl).symm.trans ex10
  have N1 := ex10
  refine px_iload_n hG dX11_rowsOf_9 rfl ?_
  refine jv2 hG dX11_rowsOf_10 ct_X11_finishese lk_X11_155 ⟨rfl, rfl⟩ (by decide) ⟨Nat.le_of_ble_eq_true rfl, Nat.le_of_ble_eq_true rfl, Nat.le_of_ble_eq_true rfl⟩ (Nat.le_of_ble_eq_true rfl) ⟨x10, aa, rfl, rfl, Rt3, ⟨⟨by omega, by omega, by omega, by omega, pm_CH_eq (fun i => Ff5 46 0 i rfl) CH⟩, (pm_J2_fr Ff5 rfl J2)⟩⟩ (fun r11 t13 pr11 => ?_)
  obtain ⟨z14, rfl, Rt13, Ft13, br11⟩ := pr11 _ _ rfl
  have Ff15 := pm_Fr_tr Ff5 Ft13 (M := [(47, none), (48, none)]) rfl
  have jj16 := Ft13 40 0 0 rfl
  have jj17 := Ft13 40 0 1 rfl
  have jj18 := Ft13 40 0 2 rfl
  have jj19 := Ft13 40 0 3 rfl
  show G 13 [some (.inr (.inr (40, 0))), some (.inl aa)] [.inr (.inl z14)] 122 t13
  have W1 := br11
  rw [← N1] at W1
  have FZ : pm_F (t3 47 0) (s0 40 0 1) aa = pm_F pm_Z (s0 40 0 1) aa := pm_F_cg (by omega) (by omega) (fun u a b => W0 u (by omega) (by omega)) (by omega)
  have jj20 := Ff15 40 0 0 rfl
  have jj21 := Ff15 40 0 1 rfl
  have jj22 := Ff15 40 0 2 rfl
  have jj23 := Ff15 40 0 3 rfl
  exact px_lret (st := []) hG dX11_rowsOf_13 rfl rfl (fun aa_1 ee => by cases ee; exact ⟨_, rfl, Rt13, Ff15, W1.trans FZ⟩))
def pre_X11_rankOfe (as : List pm_V) (n : Nat) (σ : pm_H) : Prop := as = [.inr (.inr (40, 0))] ∧ n = 122 ∧ pm_Rng σ ∧ (((∀ p : Int, 0 ≤ p → p ≤ σ 40 0 1 → pm_gt (σ 41 0) p (σ 40 0 3).toNat ≤ σ 40 0 1 - p) ∧ pm_CH σ) ∧ pm_J2 σ)
def po_X11_rankOfe (as : List pm_V) (_ : Nat) (σ : pm_H) (r : Option pm_V) (τ : pm_H) : Prop := as = [.inr (.inr (40, 0))] → ∃ v : Int, r = some (.inr (.inl v)) ∧ pm_Rng τ ∧ pm_Fr [(47, none), (48, none)] σ τ ∧ (0 ≤ v ∧ v + 1 ≤ pm_F pm_Z (σ 40 0 1) (σ 40 0 3))
set_option maxRecDepth 20000 in
set_option maxHeartbeats 4000000 in
theorem ct_X11_rankOfe : pm_Ct yX11_rankOf cX11_rankOf 5 (some .long) 3 0 pre_X11_rankOfe po_X11_rankOfe := pm_sound (ini := false) (by decide +kernel) pk_X11_rankOf (fun h => absurd h (by decide)) (by
  rintro as n s0 ⟨rfl, rfl, R0, hpre⟩
  refine ⟨by decide, Nat.le_of_ble_eq_true rfl, fun G hG => ?_⟩
  have hG : pm_Rules (RX11, 3, 122, cX11_rankOf, -1, (fun _ => 0), false, (some .long), po_X11_rankOfe [.inr (.inr (40, 0))] 122 s0) G := hG
  show G 0 [some (.inr (.inr (40, 0))), none, none, none, none] [] 122 s0
  have B0 := pb_40_0 R0
  have B1 := pb_40_1 R0
  have B2 := pb_40_2 R0
  have B3 := pb_40_3 R0
  have J2 := hpre.2
  have HP := hpre.1
  have JK := J2.1
  have JW := J2.2
  have CH := HP.2
  refine px_aload_n hG dX11_rankOf_0 rfl ?_
  refine jv0 hG dX11_rankOf_1 ct_X11_clearTold lk_X11_152 ⟨rfl, rfl⟩ (by decide) ⟨Nat.le_of_ble_eq_true rfl, Nat.le_of_ble_eq_true rfl, Nat.le_of_ble_eq_true rfl⟩ (Nat.le_of_ble_eq_true rfl) ⟨rfl, rfl, R0, J2⟩ (fun r1 t3 pr1 => ?_)
  obtain ⟨rfl, Rt3, Ft3, br1⟩ := pr1 rfl
  have Ff5 := pm_Fr_mono Ft3 (M := [(47, none), (48, none)]) rfl
  have jj6 := Ft3 40 0 0 rfl
  have jj7 := Ft3 40 0 1 rfl
  have jj8 := Ft3 40 0 2 rfl
  have jj9 := Ft3 40 0 3 rfl
  show G 4 [some (.inr (.inr (40, 0))), none, none, none, none] [] 122 t3
  have W0 : ∀ i : Int, 0 ≤ i → i ≤ 11 → t3 47 0 i = 0 := br1
  have FZ : pm_F (t3 47 0) (s0 40 0 1) (s0 40 0 3) = pm_F pm_Z (s0 40 0 1) (s0 40 0 3) := pm_F_cg (by omega) (by omega) (fun u a b => W0 u (by omega) (by omega)) (by omega)
  refine px_lconst hG dX11_rankOf_4 ?_
  show G 5 [some (.inr (.inr (40, 0))), none, none, none, none] [.inr (.inl 0)] 122 t3
  refine px_lstore_n hG dX11_rankOf_5 (Nat.le_of_ble_eq_true rfl) (L2 := [some (.inr (.inr (40, 0))), some (.inr (.inl 0)), none, none, none]) rfl ?_
  refine px_iconst hG dX11_rankOf_6 ?_
  refine px_istore_n hG dX11_rankOf_7 (Nat.le_of_ble_eq_true rfl) (L2 := [some (.inr (.inr (40, 0))), some (.inr (.inl 0)), none, some (.inl 1), none]) rfl ?_
  have L8 : ∀ (N : Nat) (v1_10 : Int) (v3_11 : Int) (s12 : pm_H), pm_Rng s12 → pm_Fr [(47, none), (48, none)] s0 s12 → ((1 ≤ v3_11 ∧ v3_11 ≤ 10000) ∧ (pm_wt (s12 47 0) (v3_11 - 1) ∧ pm_kA (s12 47 0) (s0 41 0) (s0 40 0 1) (v3_11 - 1).toNat ∧ v3_11 ≤ s0 40 0 3 + 1 ∧ 0 ≤ v1_10 ∧ v1_10 + pm_F (s12 47 0) (s0 40 0 1) (s0 40 0 3 - v3_11 + 1) ≤ pm_F pm_Z (s0 40 0 1) (s0 40 0 3))) → (10001 - v3_11).toNat < N → G 8 [some (.inr (.inr (40, 0))), some (.inr (.inl v1_10)), none, some (.inl v3_11), none] [] 122 s12 := by
    intro N
    induction N with
    | zero => intro v1_10 v3_11 s12 R13 F14 inv16 hm17; exact absurd hm17 (Nat.not_lt_zero _)
    | succ N ih15 =>
      intro v1_10 v3_11 s12 R13 F14 inv16 hm17
      have jj18 := F14 40 0 0 rfl
      have jj19 := F14 40 0 1 rfl
      have jj20 := F14 40 0 2 rfl
      have jj21 := F14 40 0 3 rfl
      have U1 := (inv16.2).1
      have U2 := (inv16.2).2.1
      have U3 := (inv16.2).2.2.1
      have U4 := (inv16.2).2.2.2
      obtain ⟨tt, htt⟩ : ∃ t : Int → Int, t = s12 47 0 := ⟨_, rfl⟩
      obtain ⟨kc, hkc⟩ : ∃ z : Int, z = s0 40 0 3 - v3_11 := ⟨_, rfl⟩
      rw [← htt] at U1 U2 U4
      refine px_iload_n hG dX11_rankOf_8 rfl ?_
      refine px_aload_n hG dX11_rankOf_9 rfl ?_
      refine gi_40_3 hG dX11_rankOf_10 fl_X11_110 R13 (fun x22 ex22 lx22 ux22 => ?_)
      have ex22 : s0 40 0 3 = x22 := (F14 40 0 3 rfl).symm.trans ex22
      refine px_ic_gt hG dX11_rankOf_13 (tgt := 96) (by decide) ⟨by omega, by omega⟩ ⟨by omega, by omega⟩ (fun c23 => ?_) (fun c23 => ?_)
      · have EF := pm_F_end (t := tt) (w := s0 41 0) (n := s0 40 0 1) (k := (s0 40 0 3).toNat) (by omega) (by rw [show (s0 40 0 3).toNat = (v3_11 - 1).toNat by omega]; exact U2) HP.1
        rw [show s0 40 0 3 - v3_11 + 1 = 0 by omega, EF] at U4
        refine px_lload_n hG dX11_rankOf_96 rfl ?_
        have jj24 := F14 40 0 0 rfl
        have jj25 := F14 40 0 1 rfl
        have jj26 := F14 40 0 2 rfl
        have jj27 := F14 40 0 3 rfl
        exact px_lret (st := []) hG dX11_rankOf_97 rfl rfl (fun _ => by exact ⟨_, rfl, R13, F14, by omega⟩)
      · have YW := JW v3_11 (by omega) (by omega)
        have QR := pm_F_rec (t := tt) (n := s0 40 0 1) (m := kc) (by omega) (by omega)
        rw [show s0 40 0 3 - v3_11 + 1 = kc + 1 by omega, QR] at U4
        refine px_iconst hG dX11_rankOf_16 ?_
        refine px_istore hG dX11_rankOf_17 (Nat.le_of_ble_eq_true rfl) (L2 := [some (.inr (.inr (40, 0))), some (.inr (.inl v1_10)), none, some (.inl v3_11), some (.inl 1)]) rfl ?_
        have L19 : ∀ (N : Nat) (v1_28 : Int) (v4_29 : Int) (s30 : pm_H), pm_Rng s30 → pm_Fr [(47, none), (48, none)] s0 s30 → ((1 ≤ v4_29 ∧ v4_29 ≤ 10000) ∧ (s30 47 0 = tt ∧ v4_29 ≤ s0 41 0 v3_11 ∧ 0 ≤ v1_28 ∧ v1_28 + pm_sum (pm_qq tt (s0 40 0 1) kc) (s0 40 0 1 - v4_29 + 1).toNat ≤ pm_F pm_Z (s0 40 0 1) (s0 40 0 3))) → (10001 - v4_29).toNat < N → G 19 [some (.inr (.inr (40, 0))), some (.inr (.inl v1_28)), none, some (.inl v3_11), some (.inl v4_29)] [] 122 s30 := by
          intro N
          induction N with
          | zero => intro v1_28 v4_29 s30 R31 F32 inv34 hm35; exact absurd hm35 (Nat.not_lt_zero _)
          | succ N ih33 =>
            intro v1_28 v4_29 s30 R31 F32 inv34 hm35
            have jj36 := F32 40 0 0 rfl
            have jj37 := F32 40 0 1 rfl
            have jj38 := F32 40 0 2 rfl
            have jj39 := F32 40 0 3 rfl
            have T := (inv34.2).1
            have V := (inv34.2).2
            obtain ⟨vv, hvv⟩ : ∃ z : Int, z = v4_29 := ⟨_, rfl⟩
            have V2 := V
            rw [← hvv] at V2
            refine px_iload hG dX11_rankOf_19 rfl ?_
            refine px_aload_n hG dX11_rankOf_21 rfl ?_
            refine gr_40_4 hG dX11_rankOf_22 fl_X11_13 R31 ?_
            refine px_iload_n hG dX11_rankOf_25 rfl ?_
            refine al_41 hG dX11_rankOf_26 R31 (by omega) (fun x40 ex40 lx40 ux40 => ?_)
            have Y0 := (F32 41 0 v3_11 rfl).symm.trans ex40
            have J75_42 : ((v4_29 ≥ x40)) → G 75 [some (.inr (.inr (40, 0))), some (.inr (.inl v1_28)), none, some (.inl v3_11), none] [] 122 s30 := by
              intro inv43
              have VE : vv = s0 41 0 v3_11 := by omega
              have QS := pm_qq_s (t := tt) (n := s0 40 0 1) (m := kc) (v := vv) (by omega) (by omega)
              have QN := pm_qq_nn (t := tt) (n := s0 40 0 1) (m := kc) (by omega) (by omega) (s0 40 0 1 - (vv + 1) + 1).toNat
              have GG : v1_28 + pm_F (pm_bump tt vv) (s0 40 0 1) kc ≤ pm_F pm_Z (s0 40 0 1) (s0 40 0 3) := by omega
              rw [VE] at GG
              refine px_aload_n hG dX11_rankOf_75 rfl ?_
              refine gr_40_10 hG dX11_rankOf_76 fl_X11_33 R31 ?_
              refine px_aload_n hG dX11_rankOf_79 rfl ?_
              refine gr_40_4 hG dX11_rankOf_80 fl_X11_13 R31 ?_
              refine px_iload_n hG dX11_rankOf_83 rfl ?_
              refine al_41 hG dX11_rankOf_84 R31 (by omega) (fun x44 ex44 lx44 ux44 => ?_)
              have Z0 := (F32 41 0 v3_11 rfl).symm.trans ex44
              refine px_dup2 hG dX11_rankOf_85 ?_
              refine al_47 hG dX11_rankOf_86 R31 (by omega) (fun x45 ex45 lx45 ux45 => ?_)
              have X5 := ex45
              have Y5 := U1 (s0 41 0 v3_11) (by omega) (by omega)
              rw [← T, Z0, X5] at Y5
              refine px_iconst hG dX11_rankOf_87 ?_
              refine px_iadd hG dX11_rankOf_88 ?_
              refine as_47 hG dX11_rankOf_89 R31 (by omega) (by omega) (fun s46 qs46 Rs46 => ?_)
              have Fs46 := pm_Fr_up (F32) qs46 (M := [(47, none), (48, none)]) rfl
              have jj47 := pm_nec qs46 (c' := 40) (r' := 0) (i' := 0) (by decide)
              have jj48 := pm_nec qs46 (c' := 40) (r' := 0) (i' := 1) (by decide)
              have jj49 := pm_nec qs46 (c' := 40) (r' := 0) (i' := 2) (by decide)
              have jj50 := pm_nec qs46 (c' := 40) (r' := 0) (i' := 3) (by decide)
              have T3 := pm_bump_up qs46 X5 T
              rw [← Z0] at T3
              refine px_iinc hG dX11_rankOf_90 (Nat.le_of_ble_eq_true rfl) rfl (L2 := [some (.inr (.inr (40, 0))), some (.inr (.inl v1_28)), none, some (.inl (v3_11 + 1)), none]) rfl ?_
              refine px_goto hG dX11_rankOf_93 (tgt := 8) (by decide) ?_
              exact ih15 v1_28 (v3_11 + 1) s46 Rs46 Fs46 (⟨by omega, ⟨by rw [T3]; exact pm_wt_b2 U1 (by omega), by rw [T3]; exact pm_kA_s U2 (by omega) (by omega), by omega, by omega, by rw [T3, show s0 40 0 3 - (v3_11 + 1) + 1 = kc by omega]; exact GG⟩⟩) (by omega)
            refine px_ic_ge hG dX11_rankOf_27 (tgt := 75) (by decide) ⟨by omega, by omega⟩ ⟨by omega, by omega⟩ (fun c41 => ?_) (fun c41 => ?_)
            · refine px_weak hG (L2 := [some (.inr (.inr (40, 0))), some (.inr (.inl v1_28)), none, some (.inl v3_11), none]) ⟨Or.inr rfl, Or.inr rfl, Or.inr rfl, Or.inr rfl, Or.inl rfl, trivial⟩ ?_
              exact J75_42  (by omega)
            · refine px_aload_n hG dX11_rankOf_30 rfl ?_
              refine gr_40_10 hG dX11_rankOf_31 fl_X11_33 R31 ?_
              refine px_iload hG dX11_rankOf_34 rfl ?_
              refine px_dup2 hG dX11_rankOf_36 ?_
              refine al_47 hG dX11_rankOf_37 R31 (by omega) (fun x51 ex51 lx51 ux51 => ?_)
              have X1 := ex51
              have Y1 := U1 v4_29 (by omega) (by omega)
              rw [← T, X1] at Y1
              refine px_iconst hG dX11_rankOf_38 ?_
              refine px_iadd hG dX11_rankOf_39 ?_
              refine as_47 hG dX11_rankOf_40 R31 (by omega) (by omega) (fun s52 qs52 Rs52 => ?_)
              have Fs52 := pm_Fr_up (F32) qs52 (M := [(47, none), (48, none)]) rfl
              have jj53 := pm_nec qs52 (c' := 40) (r' := 0) (i' := 0) (by decide)
              have jj54 := pm_nec qs52 (c' := 40) (r' := 0) (i' := 1) (by decide)
              have jj55 := pm_nec qs52 (c' := 40) (r' := 0) (i' := 2) (by decide)
              have jj56 := pm_nec qs52 (c' := 40) (r' := 0) (i' := 3) (by decide)
              have T1 := pm_bump_up qs52 X1 T
              refine px_lload_n hG dX11_rankOf_41 rfl ?_
              refine px_aload_n hG dX11_rankOf_42 rfl ?_
              refine px_aload_n hG dX11_rankOf_43 rfl ?_
              refine gi_40_1 hG dX11_rankOf_44 fl_X11_7 Rs52 (fun x57 ex57 lx57 ux57 => ?_)
              have ex57 : s0 40 0 1 = x57 := (Fs52 40 0 1 rfl).symm.trans ex57
              have N1 := ex57
              refine px_aload_n hG dX11_rankOf_47 rfl ?_
              refine gi_40_3 hG dX11_rankOf_48 fl_X11_110 Rs52 (fun x58 ex58 lx58 ux58 => ?_)
              have ex58 : s0 40 0 3 = x58 := (Fs52 40 0 3 rfl).symm.trans ex58
              have K1 := ex58
              refine px_iload_n hG dX11_rankOf_51 rfl ?_
              refine px_isub hG dX11_rankOf_52 ?_
              refine jv2 hG dX11_rankOf_53 ct_X11_finishese lk_X11_155 ⟨rfl, rfl⟩ (by decide) ⟨Nat.le_of_ble_eq_true rfl, Nat.le_of_ble_eq_true rfl, Nat.le_of_ble_eq_true rfl⟩ (Nat.le_of_ble_eq_true rfl) ⟨x57, (x58 - v3_11), rfl, rfl, Rs52, ⟨⟨by omega, by omega, by omega, by omega, pm_CH_eq (fun i => Fs52 46 0 i rfl) CH⟩, (pm_J2_fr Fs52 rfl J2)⟩⟩ (fun r59 t61 pr59 => ?_)
              obtain ⟨z62, rfl, Rt61, Ft61, br59⟩ := pr59 _ _ rfl
              have Ff63 := pm_Fr_tr Fs52 Ft61 (M := [(47, none), (48, none)]) rfl
              have jj64 := Ft61 40 0 0 rfl
              have jj65 := Ft61 40 0 1 rfl
              have jj66 := Ft61 40 0 2 rfl
              have jj67 := Ft61 40 0 3 rfl
              show G 56 [some (.inr (.inr (40, 0))), some (.inr (.inl v1_28)), none, some (.inl v3_11), some (.inl v4_29)] [.inr (.inl z62), .inr (.inl v1_28)] 122 t61
              have W1 := br59
              rw [← N1, ← K1, T1, ← hkc] at W1
              have T2 : t61 47 0 = pm_bump tt v4_29 := (funext fun i => Ft61 47 0 i rfl).trans T1
              have QS := pm_qq_s (t := tt) (n := s0 40 0 1) (m := kc) (v := v4_29) (by omega) (by omega)
              have FN := pm_F_nn (t := pm_bump tt v4_29) (n := s0 40 0 1) (L := kc) (by omega) (by omega)
              refine px_ladd hG dX11_rankOf_56 ?_
              refine px_lstore_n hG dX11_rankOf_57 (Nat.le_of_ble_eq_true rfl) (L2 := [some (.inr (.inr (40, 0))), some (.inr (.inl (v1_28 + z62))), none, some (.inl v3_11), some (.inl v4_29)]) rfl ?_
              refine px_aload_n hG dX11_rankOf_58 rfl ?_
              refine gr_40_10 hG dX11_rankOf_59 fl_X11_33 Rt61 ?_
              refine px_iload hG dX11_rankOf_62 rfl ?_
              refine px_dup2 hG dX11_rankOf_64 ?_
              refine al_47 hG dX11_rankOf_65 Rt61 (by omega) (fun x68 ex68 lx68 ux68 => ?_)
              have X2 := ex68
              have Y2 := pm_bump_at T2 X2
              have Y3 := U1 v4_29 (by omega) (by omega)
              refine px_iconst hG dX11_rankOf_66 ?_
              refine px_isub hG dX11_rankOf_67 ?_
              refine as_47 hG dX11_rankOf_68 Rt61 (by omega) (by omega) (fun s69 qs69 Rs69 => ?_)
              have Fs69 := pm_Fr_up (Ff63) qs69 (M := [(47, none), (48, none)]) rfl
              have jj70 := pm_nec qs69 (c' := 40) (r' := 0) (i' := 0) (by decide)
              have jj71 := pm_nec qs69 (c' := 40) (r' := 0) (i' := 1) (by decide)
              have jj72 := pm_nec qs69 (c' := 40) (r' := 0) (i' := 2) (by decide)
              have jj73 := pm_nec qs69 (c' := 40) (r' := 0) (i' := 3) (by decide)
              have T3 := pm_unbump qs69 X2 T2
              refine px_iinc hG dX11_rankOf_69 (Nat.le_of_ble_eq_true rfl) rfl (L2 := [some (.inr (.inr (40, 0))), some (.inr (.inl (v1_28 + z62))), none, some (.inl v3_11), some (.inl (v4_29 + 1))]) rfl ?_
              refine px_goto hG dX11_rankOf_72 (tgt := 19) (by decide) ?_
              exact ih33 (v1_28 + z62) (v4_29 + 1) s69 Rs69 Fs69 (⟨by omega, ⟨T3, by omega, by omega, by omega⟩⟩) (by omega)
        exact L19 _ v1_10 1 s12 R13 F14 (⟨by omega, ⟨htt.symm, by omega, by omega, by rw [show s0 40 0 1 - 1 + 1 = s0 40 0 1 by omega]; omega⟩⟩) (Nat.lt_succ_self _)
  exact L8 _ 0 1 t3 Rt3 Ff5 (⟨by omega, ⟨fun i a b => by rw [W0 i a (by omega)]; omega, by rw [show ((1 : Int) - 1).toNat = 0 from rfl]; exact pm_kA_0 (fun u a b => W0 u (by omega) (by omega)), by omega, by omega, by rw [show s0 40 0 3 - 1 + 1 = s0 40 0 3 by omega]; omega⟩⟩) (Nat.lt_succ_self _))
def pre_X11_fromRank (as : List pm_V) (n : Nat) (σ : pm_H) : Prop := ∃ ma rr : Int, as = [.inr (.inr (40, 0)), .inl ma, .inr (.inl rr)] ∧ n = 122 ∧ pm_Rng σ ∧ ((0 ≤ ma ∧ ma ≤ σ 40 0 1 ∧ 0 ≤ rr ∧ rr < pm_F pm_Z (σ 40 0 1) ma ∧ pm_CH σ) ∧ pm_J2 σ)
def po_X11_fromRank (as : List pm_V) (_ : Nat) (σ : pm_H) (r : Option pm_V) (τ : pm_H) : Prop := ∀ ma rr : Int, as = [.inr (.inr (40, 0)), .inl ma, .inr (.inl rr)] → r = none ∧ pm_Rng τ ∧ pm_Fr [(40, some 3), (41, none), (42, none), (47, none), (48, none)] σ τ ∧ (pm_J2 τ)
set_option maxRecDepth 20000 in
set_option maxHeartbeats 4000000 in
theorem ct_X11_fromRank : pm_Ct yX11_fromRank cX11_fromRank 10 none 3 0 pre_X11_fromRank po_X11_fromRank := pm_sound (ini := false) (by decide +kernel) pk_X11_fromRank (fun h => absurd h (by decide)) (by
  rintro as n s0 ⟨ma, rr, rfl, rfl, R0, hpre⟩
  refine ⟨by decide, Nat.le_of_ble_eq_true rfl, fun G hG => ?_⟩
  have hG : pm_Rules (RX11, 3, 122, cX11_fromRank, -1, (fun _ => 0), false, none, po_X11_fromRank [.inr (.inr (40, 0)), .inl ma, .inr (.inl rr)] 122 s0) G := hG
  show G 0 [some (.inr (.inr (40, 0))), some (.inl ma), some (.inr (.inl rr)), none, none, none, none, none, none, none] [] 122 s0
  have B0 := pb_40_0 R0
  have B1 := pb_40_1 R0
  have B2 := pb_40_2 R0
  have B3 := pb_40_3 R0
  have J2 := hpre.2
  have HP := hpre.1
  have JK := J2.1
  have JW := J2.2
  have CH := HP.2.2.2.2
  refine px_aload_n hG dX11_fromRank_0 rfl ?_
  refine jv0 hG dX11_fromRank_1 ct_X11_clearTold lk_X11_152 ⟨rfl, rfl⟩ (by decide) ⟨Nat.le_of_ble_eq_true rfl, Nat.le_of_ble_eq_true rfl, Nat.le_of_ble_eq_true rfl⟩ (Nat.le_of_ble_eq_true rfl) ⟨rfl, rfl, R0, J2⟩ (fun r1 t3 pr1 => ?_)
  obtain ⟨rfl, Rt3, Ft3, br1⟩ := pr1 rfl
  have Ff5 := pm_Fr_mono Ft3 (M := [(40, some 3), (41, none), (42, none), (47, none), (48, none)]) rfl
  have jj6 := Ft3 40 0 0 rfl
  have jj7 := Ft3 40 0 1 rfl
  have jj8 := Ft3 40 0 2 rfl
  have jj9 := Ft3 40 0 3 rfl
  have Jt3 := pm_J2_fr Ft3 rfl J2
  show G 4 [some (.inr (.inr (40, 0))), some (.inl ma), some (.inr (.inl rr)), none, none, none, none, none, none, none] [] 122 t3
  have W0 : ∀ i : Int, 0 ≤ i → i ≤ 11 → t3 47 0 i = 0 := br1
  refine px_aload_n hG dX11_fromRank_4 rfl ?_
  refine px_iconst hG dX11_fromRank_5 ?_
  refine pi_40_3 hG dX11_fromRank_6 fl_X11_110 Rt3 (by omega) (fun s10 qs10 Rs10 => ?_)
  have Fs10 := pm_Fr_up (Ff5) qs10 (M := [(40, some 3), (41, none), (42, none), (47, none), (48, none)]) rfl
  have k11 : s10 40 0 3 = 0 := pm_at qs10
  have Js10 := pm_J2_k qs10 (by omega) Jt3
  have KP := pm_at qs10
  have NP := Fs10 40 0 1 rfl
  have W0 : ∀ i : Int, 0 ≤ i → i ≤ 11 → s10 47 0 i = 0 := fun i a b => (pm_nec qs10 (by decide)).trans (W0 i a b)
  have FZ : pm_F (s10 47 0) (s0 40 0 1) ma = pm_F pm_Z (s0 40 0 1) ma := pm_F_cg (by omega) (by omega) (fun u a b => W0 u (by omega) (by omega)) (by omega)
  refine px_lload_n hG dX11_fromRank_9 rfl ?_
  refine px_lstore hG dX11_fromRank_10 (Nat.le_of_ble_eq_true rfl) (L2 := [some (.inr (.inr (40, 0))), some (.inl ma), some (.inr (.inl rr)), none, some (.inr (.inl rr)), none, none, none, none, none]) rfl ?_
  refine px_iconst hG dX11_fromRank_12 ?_
  refine px_istore hG dX11_fromRank_13 (Nat.le_of_ble_eq_true rfl) (L2 := [some (.inr (.inr (40, 0))), some (.inl ma), some (.inr (.inl rr)), none, some (.inr (.inl rr)), none, some (.inl 1), none, none, none]) rfl ?_
  have L15 : ∀ (N : Nat) (v4_12 : Int) (v6_13 : Int) (s14 : pm_H), pm_Rng s14 → pm_Fr [(40, some 3), (41, none), (42, none), (47, none), (48, none)] s0 s14 → ((1 ≤ v6_13 ∧ v6_13 ≤ 10000) ∧ (pm_J2 s14 ∧ s14 40 0 3 = v6_13 - 1 ∧ v6_13 ≤ ma + 1 ∧ 0 ≤ v4_12 ∧ v4_12 < pm_F (s14 47 0) (s0 40 0 1) (ma - v6_13 + 1) ∧ pm_wt (s14 47 0) (v6_13 - 1))) → (10001 - v6_13).toNat < N → G 15 [some (.inr (.inr (40, 0))), some (.inl ma), none, none, some (.inr (.inl v4_12)), none, some (.inl v6_13), none, none, none] [] 122 s14 := by
    intro N
    induction N with
    | zero => intro v4_12 v6_13 s14 R15 F16 inv18 hm19; exact absurd hm19 (Nat.not_lt_zero _)
    | succ N ih17 =>
      intro v4_12 v6_13 s14 R15 F16 inv18 hm19
      have jj20 := F16 40 0 0 rfl
      have jj21 := F16 40 0 1 rfl
      have jj22 := F16 40 0 2 rfl
      have Js14 := (inv18.2).1
      have U2 := (inv18.2).2.1
      have U3 := (inv18.2).2.2.1
      have U4 := (inv18.2).2.2.2.1
      have U5 := (inv18.2).2.2.2.2.1
      have U6 := (inv18.2).2.2.2.2.2
      obtain ⟨tt, htt⟩ : ∃ t : Int → Int, t = s14 47 0 := ⟨_, rfl⟩
      obtain ⟨kc, hkc⟩ : ∃ z : Int, z = ma - v6_13 := ⟨_, rfl⟩
      rw [← htt] at U5 U6
      refine px_iload hG dX11_fromRank_15 rfl ?_
      refine px_iload_n hG dX11_fromRank_17 rfl ?_
      refine px_ic_gt hG dX11_fromRank_18 (tgt := 117) (by decide) ⟨by omega, by omega⟩ ⟨by omega, by omega⟩ (fun c23 => ?_) (fun c23 => ?_)
      · have jj24 := F16 40 0 0 rfl
        have jj25 := F16 40 0 1 rfl
        have jj26 := F16 40 0 2 rfl
        exact px_vret (st := []) hG dX11_fromRank_117 rfl rfl (fun ma_1 rr_1 ee => by cases ee; exact ⟨rfl, R15, F16, Js14⟩)
      · have QR := pm_F_rec (t := tt) (n := s0 40 0 1) (m := kc) (by omega) (by omega)
        rw [show ma - v6_13 + 1 = kc + 1 by omega, QR] at U5
        refine px_iconst hG dX11_fromRank_21 ?_
        refine px_istore hG dX11_fromRank_22 (Nat.le_of_ble_eq_true rfl) (L2 := [some (.inr (.inr (40, 0))), some (.inl ma), none, none, some (.inr (.inl v4_12)), none, some (.inl v6_13), some (.inl 1), none, none]) rfl ?_
        refine px_aload_n hG dX11_fromRank_24 rfl ?_
        refine gr_40_10 hG dX11_fromRank_25 fl_X11_33 R15 ?_
        refine px_iconst hG dX11_fromRank_28 ?_
        refine px_dup2 hG dX11_fromRank_29 ?_
        refine al_47 hG dX11_fromRank_30 R15 (by omega) (fun x27 ex27 lx27 ux27 => ?_)
        have X1 := ex27
        have Y1 := U6 1 (by omega) (by omega)
        rw [htt, X1] at Y1
        refine px_iconst hG dX11_fromRank_31 ?_
        refine px_iadd hG dX11_fromRank_32 ?_
        refine as_47 hG dX11_fromRank_33 R15 (by omega) (by omega) (fun s28 qs28 Rs28 => ?_)
        have Fs28 := pm_Fr_up (F16) qs28 (M := [(40, some 3), (41, none), (42, none), (47, none), (48, none)]) rfl
        have jj29 := pm_nec qs28 (c' := 40) (r' := 0) (i' := 0) (by decide)
        have jj30 := pm_nec qs28 (c' := 40) (r' := 0) (i' := 1) (by decide)
        have jj31 := pm_nec qs28 (c' := 40) (r' := 0) (i' := 2) (by decide)
        have jj32 := pm_nec qs28 (c' := 40) (r' := 0) (i' := 3) (by decide)
        have Js28 := pm_J2_up qs28 (by decide) (by decide) Js14
        have T1 := pm_bump_up qs28 X1 htt.symm
        refine px_aload_n hG dX11_fromRank_34 rfl ?_
        refine px_aload_n hG dX11_fromRank_35 rfl ?_
        refine gi_40_1 hG dX11_fromRank_36 fl_X11_7 Rs28 (fun x33 ex33 lx33 ux33 => ?_)
        have ex33 : s0 40 0 1 = x33 := (Fs28 40 0 1 rfl).symm.trans ex33
        have N1 := ex33
        refine px_iload_n hG dX11_fromRank_39 rfl ?_
        refine px_iload hG dX11_fromRank_40 rfl ?_
        refine px_isub hG dX11_fromRank_42 ?_
        refine jv2 hG dX11_fromRank_43 ct_X11_finishese lk_X11_155 ⟨rfl, rfl⟩ (by decide) ⟨Nat.le_of_ble_eq_true rfl, Nat.le_of_ble_eq_true rfl, Nat.le_of_ble_eq_true rfl⟩ (Nat.le_of_ble_eq_true rfl) ⟨x33, (ma - v6_13), rfl, rfl, Rs28, ⟨⟨by omega, by omega, by omega, by omega, pm_CH_eq (fun i => Fs28 46 0 i rfl) CH⟩, Js28⟩⟩ (fun r34 t36 pr34 => ?_)
        obtain ⟨z37, rfl, Rt36, Ft36, br34⟩ := pr34 _ _ rfl
        have Ff38 := pm_Fr_tr Fs28 Ft36 (M := [(40, some 3), (41, none), (42, none), (47, none), (48, none)]) rfl
        have jj39 := Ft36 40 0 0 rfl
        have jj40 := Ft36 40 0 1 rfl
        have jj41 := Ft36 40 0 2 rfl
        have jj42 := Ft36 40 0 3 rfl
        have Jt36 := pm_J2_fr Ft36 rfl Js28
        show G 46 [some (.inr (.inr (40, 0))), some (.inl ma), none, none, some (.inr (.inl v4_12)), none, some (.inl v6_13), some (.inl 1), none, none] [.inr (.inl z37)] 122 t36
        have W1 := br34
        rw [← N1, T1, ← hkc] at W1
        have T2 : t36 47 0 = pm_bump tt 1 := (funext fun i => Ft36 47 0 i rfl).trans T1
        refine px_lstore hG dX11_fromRank_46 (Nat.le_of_ble_eq_true rfl) (L2 := [some (.inr (.inr (40, 0))), some (.inl ma), none, none, some (.inr (.inl v4_12)), none, some (.inl v6_13), some (.inl 1), some (.inr (.inl z37)), none]) rfl ?_
        have L48 : ∀ (N : Nat) (v4_43 : Int) (v7_44 : Int) (v8_45 : Int) (s46 : pm_H), pm_Rng s46 → pm_Fr [(40, some 3), (41, none), (42, none), (47, none), (48, none)] s0 s46 → ((1 ≤ v7_44 ∧ v7_44 ≤ 10000) ∧ (pm_J2 s46 ∧ s46 40 0 3 = v6_13 - 1 ∧ s46 47 0 = pm_bump tt v7_44 ∧ v8_45 = pm_F (pm_bump tt v7_44) (s0 40 0 1) kc ∧ 1 ≤ v7_44 ∧ v7_44 ≤ s0 40 0 1 ∧ 0 ≤ v4_43 ∧ v4_43 < pm_sum (pm_qq tt (s0 40 0 1) kc) (s0 40 0 1 - v7_44 + 1).toNat)) → (10001 - v7_44).toNat < N → G 48 [some (.inr (.inr (40, 0))), some (.inl ma), none, none, some (.inr (.inl v4_43)), none, some (.inl v6_13), some (.inl v7_44), some (.inr (.inl v8_45)), none] [] 122 s46 := by
          intro N
          induction N with
          | zero => intro v4_43 v7_44 v8_45 s46 R47 F48 inv50 hm51; exact absurd hm51 (Nat.not_lt_zero _)
          | succ N ih49 =>
            intro v4_43 v7_44 v8_45 s46 R47 F48 inv50 hm51
            have jj52 := F48 40 0 0 rfl
            have jj53 := F48 40 0 1 rfl
            have jj54 := F48 40 0 2 rfl
            have Js46 := (inv50.2).1
            have V2 := (inv50.2).2.1
            have T := (inv50.2).2.2.1
            have V4 := (inv50.2).2.2.2.1
            have V5 := (inv50.2).2.2.2.2.1
            have V6 := (inv50.2).2.2.2.2.2.1
            have V7 := (inv50.2).2.2.2.2.2.2
            have UQ := pm_qq_le (t := tt) (n := s0 40 0 1) (m := kc) (by omega) (by omega) (by omega) (k := (s0 40 0 1 - v7_44 + 1).toNat) (by omega)
            have UF := pm_F_le2 (t := pm_bump tt v7_44) (n := s0 40 0 1) (L := kc) (by omega) (by omega) (by omega)
            refine px_lload hG dX11_fromRank_48 rfl ?_
            refine px_lload hG dX11_fromRank_50 rfl ?_
            refine px_lcmp hG dX11_fromRank_52 ⟨by omega, by omega⟩ ⟨by omega, by omega⟩ (fun x55 bx55 => ?_)
            refine px_if_lt hG dX11_fromRank_53 (tgt := 105) (by decide) ⟨by omega, by omega⟩ (fun c56 => ?_) (fun c56 => ?_)
            · refine px_aload_n hG dX11_fromRank_105 rfl ?_
              refine px_iload hG dX11_fromRank_106 rfl ?_
              refine jv1 hG dX11_fromRank_108 ct_X11_add lk_X11_113 ⟨rfl, rfl⟩ (by decide) ⟨Nat.le_of_ble_eq_true rfl, Nat.le_of_ble_eq_true rfl, Nat.le_of_ble_eq_true rfl⟩ (Nat.le_of_ble_eq_true rfl) ⟨v7_44, rfl, rfl, R47, ⟨by omega, Js46⟩⟩ (fun r57 t59 pr57 => ?_)
              obtain ⟨rfl, Rt59, Ft59, br57⟩ := pr57 _ rfl
              have Ff61 := pm_Fr_tr F48 Ft59 (M := [(40, some 3), (41, none), (42, none), (47, none), (48, none)]) rfl
              have jj62 := Ft59 40 0 0 rfl
              have jj63 := Ft59 40 0 1 rfl
              have jj64 := Ft59 40 0 2 rfl
              have Jt59 : pm_J2 t59 := br57.1
              show G 111 [some (.inr (.inr (40, 0))), some (.inl ma), none, none, some (.inr (.inl v4_43)), none, some (.inl v6_13), some (.inl v7_44), some (.inr (.inl v8_45)), none] [] 122 t59
              have TA : t59 47 0 = pm_bump tt v7_44 := (funext fun i => Ft59 47 0 i rfl).trans T
              have BA := br57.2
              refine px_iinc hG dX11_fromRank_111 (Nat.le_of_ble_eq_true rfl) rfl (L2 := [some (.inr (.inr (40, 0))), some (.inl ma), none, none, some (.inr (.inl v4_43)), none, some (.inl (v6_13 + 1)), some (.inl v7_44), some (.inr (.inl v8_45)), none]) rfl ?_
              refine px_goto hG dX11_fromRank_114 (tgt := 15) (by decide) ?_
              refine px_weak hG (L2 := [some (.inr (.inr (40, 0))), some (.inl ma), none, none, some (.inr (.inl v4_43)), none, some (.inl (v6_13 + 1)), none, none, none]) ⟨Or.inr rfl, Or.inr rfl, Or.inr rfl, Or.inr rfl, Or.inr rfl, Or.inr rfl, Or.inr rfl, Or.inl rfl, Or.inl rfl, Or.inr rfl, trivial⟩ ?_
              exact ih17 v4_43 (v6_13 + 1) t59 Rt59 Ff61 (⟨by omega, ⟨Jt59, by omega, by omega, by omega, by rw [TA, show ma - (v6_13 + 1) + 1 = kc by omega]; omega, by rw [TA]; exact pm_wt_b2 U6 (by omega)⟩⟩) (by omega)
            · have QD := pm_qq_d (t := tt) (n := s0 40 0 1) (m := kc) (v := v7_44) (a := v4_43) (w := v8_45) (by omega) (by omega) (by omega) V4 V7.2
              refine px_lload hG dX11_fromRank_56 rfl ?_
              refine px_lload hG dX11_fromRank_58 rfl ?_
              refine px_lsub hG dX11_fromRank_60 ?_
              refine px_lstore hG dX11_fromRank_61 (Nat.le_of_ble_eq_true rfl) (L2 := [some (.inr (.inr (40, 0))), some (.inl ma), none, none, some (.inr (.inl (v4_43 - v8_45))), none, some (.inl v6_13), some (.inl v7_44), some (.inr (.inl v8_45)), none]) rfl ?_
              refine px_aload_n hG dX11_fromRank_63 rfl ?_
              refine gr_40_10 hG dX11_fromRank_64 fl_X11_33 R47 ?_
              refine px_iload hG dX11_fromRank_67 rfl ?_
              refine px_dup2 hG dX11_fromRank_69 ?_
              refine al_47 hG dX11_fromRank_70 R47 (by omega) (fun x65 ex65 lx65 ux65 => ?_)
              have X2 := ex65
              have Y2 := pm_bump_at T X2
              have Y3 := U6 v7_44 (by omega) (by omega)
              refine px_iconst hG dX11_fromRank_71 ?_
              refine px_isub hG dX11_fromRank_72 ?_
              refine as_47 hG dX11_fromRank_73 R47 (by omega) (by omega) (fun s66 qs66 Rs66 => ?_)
              have Fs66 := pm_Fr_up (F48) qs66 (M := [(40, some 3), (41, none), (42, none), (47, none), (48, none)]) rfl
              have jj67 := pm_nec qs66 (c' := 40) (r' := 0) (i' := 0) (by decide)
              have jj68 := pm_nec qs66 (c' := 40) (r' := 0) (i' := 1) (by decide)
              have jj69 := pm_nec qs66 (c' := 40) (r' := 0) (i' := 2) (by decide)
              have jj70 := pm_nec qs66 (c' := 40) (r' := 0) (i' := 3) (by decide)
              have Js66 := pm_J2_up qs66 (by decide) (by decide) Js46
              have T2 := pm_unbump qs66 X2 T
              refine px_iinc hG dX11_fromRank_74 (Nat.le_of_ble_eq_true rfl) rfl (L2 := [some (.inr (.inr (40, 0))), some (.inl ma), none, none, some (.inr (.inl (v4_43 - v8_45))), none, some (.inl v6_13), some (.inl (v7_44 + 1)), some (.inr (.inl v8_45)), none]) rfl ?_
              refine px_aload_n hG dX11_fromRank_77 rfl ?_
              refine gr_40_10 hG dX11_fromRank_78 fl_X11_33 Rs66 ?_
              refine px_iload hG dX11_fromRank_81 rfl ?_
              refine px_dup2 hG dX11_fromRank_83 ?_
              refine al_47 hG dX11_fromRank_84 Rs66 (by omega) (fun x71 ex71 lx71 ux71 => ?_)
              have X3 := ex71
              have Y4 := U6 (v7_44 + 1) (by omega) (by omega)
              rw [← T2, X3] at Y4
              refine px_iconst hG dX11_fromRank_85 ?_
              refine px_iadd hG dX11_fromRank_86 ?_
              refine as_47 hG dX11_fromRank_87 Rs66 (by omega) (by omega) (fun s72 qs72 Rs72 => ?_)
              have Fs72 := pm_Fr_up (Fs66) qs72 (M := [(40, some 3), (41, none), (42, none), (47, none), (48, none)]) rfl
              have jj73 := pm_nec qs72 (c' := 40) (r' := 0) (i' := 0) (by decide)
              have jj74 := pm_nec qs72 (c' := 40) (r' := 0) (i' := 1) (by decide)
              have jj75 := pm_nec qs72 (c' := 40) (r' := 0) (i' := 2) (by decide)
              have jj76 := pm_nec qs72 (c' := 40) (r' := 0) (i' := 3) (by decide)
              have Js72 := pm_J2_up qs72 (by decide) (by decide) Js66
              have T3 := pm_bump_up qs72 X3 T2
              refine px_aload_n hG dX11_fromRank_88 rfl ?_
              refine px_aload_n hG dX11_fromRank_89 rfl ?_
              refine gi_40_1 hG dX11_fromRank_90 fl_X11_7 Rs72 (fun x77 ex77 lx77 ux77 => ?_)
              have ex77 : s0 40 0 1 = x77 := (Fs72 40 0 1 rfl).symm.trans ex77
              have N2 := ex77
              refine px_iload_n hG dX11_fromRank_93 rfl ?_
              refine px_iload hG dX11_fromRank_94 rfl ?_
              refine px_isub hG dX11_fromRank_96 ?_
              refine jv2 hG dX11_fromRank_97 ct_X11_finishese lk_X11_155 ⟨rfl, rfl⟩ (by decide) ⟨Nat.le_of_ble_eq_true rfl, Nat.le_of_ble_eq_true rfl, Nat.le_of_ble_eq_true rfl⟩ (Nat.le_of_ble_eq_true rfl) ⟨x77, (ma - v6_13), rfl, rfl, Rs72, ⟨⟨by omega, by omega, by omega, by omega, pm_CH_eq (fun i => Fs72 46 0 i rfl) CH⟩, Js72⟩⟩ (fun r78 t80 pr78 => ?_)
              obtain ⟨z81, rfl, Rt80, Ft80, br78⟩ := pr78 _ _ rfl
              have Ff82 := pm_Fr_tr Fs72 Ft80 (M := [(40, some 3), (41, none), (42, none), (47, none), (48, none)]) rfl
              have jj83 := Ft80 40 0 0 rfl
              have jj84 := Ft80 40 0 1 rfl
              have jj85 := Ft80 40 0 2 rfl
              have jj86 := Ft80 40 0 3 rfl
              have Jt80 := pm_J2_fr Ft80 rfl Js72
              show G 100 [some (.inr (.inr (40, 0))), some (.inl ma), none, none, some (.inr (.inl (v4_43 - v8_45))), none, some (.inl v6_13), some (.inl (v7_44 + 1)), some (.inr (.inl v8_45)), none] [.inr (.inl z81)] 122 t80
              have W2 := br78
              rw [← N2, T3, ← hkc] at W2
              have T4 : t80 47 0 = pm_bump tt (v7_44 + 1) := (funext fun i => Ft80 47 0 i rfl).trans T3
              refine px_lstore hG dX11_fromRank_100 (Nat.le_of_ble_eq_true rfl) (L2 := [some (.inr (.inr (40, 0))), some (.inl ma), none, none, some (.inr (.inl (v4_43 - v8_45))), none, some (.inl v6_13), some (.inl (v7_44 + 1)), some (.inr (.inl z81)), none]) rfl ?_
              refine px_goto hG dX11_fromRank_102 (tgt := 48) (by decide) ?_
              exact ih49 (v4_43 - v8_45) (v7_44 + 1) z81 t80 Rt80 Ff82 (⟨by omega, ⟨Jt80, by omega, T4, W2, by omega, by omega, by omega, QD.1⟩⟩) (by omega)
        exact L48 _ v4_12 1 z37 t36 Rt36 Ff38 (⟨by omega, ⟨Jt36, by omega, T2, W1, by omega, by omega, by omega, by rw [show s0 40 0 1 - 1 + 1 = s0 40 0 1 by omega]; omega⟩⟩) (Nat.lt_succ_self _)
  refine px_weak hG (L2 := [some (.inr (.inr (40, 0))), some (.inl ma), none, none, some (.inr (.inl rr)), none, some (.inl 1), none, none, none]) ⟨Or.inr rfl, Or.inr rfl, Or.inl rfl, Or.inr rfl, Or.inr rfl, Or.inr rfl, Or.inr rfl, Or.inr rfl, Or.inr rfl, Or.inr rfl, trivial⟩ ?_
  exact L15 _ rr 1 s10 Rs10 Fs10 (⟨by omega, ⟨Js10, by omega, by omega, by omega, by rw [show ma - 1 + 1 = ma by omega]; omega, fun i a b => by rw [W0 i a (by omega)]; omega⟩⟩) (Nat.lt_succ_self _))
def pre_X11_unranke (as : List pm_V) (n : Nat) (σ : pm_H) : Prop := ∃ aa rr : Int, as = [.inr (.inr (40, 0)), .inl aa, .inr (.inl rr)] ∧ n = 122 ∧ pm_Rng σ ∧ ((pm_in aa ∧ pm_inl rr ∧ pm_CH σ) ∧ pm_J2 σ)
def po_X11_unranke (as : List pm_V) (_ : Nat) (σ : pm_H) (r : Option pm_V) (τ : pm_H) : Prop := ∀ aa rr : Int, as = [.inr (.inr (40, 0)), .inl aa, .inr (.inl rr)] → ∃ v : Int, r = some (.inl v) ∧ pm_Rng τ ∧ pm_Fr [(40, some 3), (41, none), (42, none), (47, none), (48, none)] σ τ ∧ (pm_J2 τ)
set_option maxRecDepth 20000 in
set_option maxHeartbeats 4000000 in
theorem ct_X11_unranke : pm_Ct yX11_unrank cX11_unrank 4 (some .int) 4 0 pre_X11_unranke po_X11_unranke := pm_sound (ini := false) (by decide +kernel) pk_X11_unrank (fun h => absurd h (by decide)) (by
  rintro as n s0 ⟨aa, rr, rfl, rfl, R0, hpre⟩
  refine ⟨by decide, Nat.le_of_ble_eq_true rfl, fun G hG => ?_⟩
  have hG : pm_Rules (RX11, 4, 122, cX11_unrank, -1, (fun _ => 0), false, (some .int), po_X11_unranke [.inr (.inr (40, 0)), .inl aa, .inr (.inl rr)] 122 s0) G := hG
  show G 0 [some (.inr (.inr (40, 0))), some (.inl aa), some (.inr (.inl rr)), none] [] 122 s0
  have B0 := pb_40_0 R0
  have B1 := pb_40_1 R0
  have B2 := pb_40_2 R0
  have B3 := pb_40_3 R0
  have J2 := hpre.2
  have HP := hpre.1
  have JK := J2.1
  have JW := J2.2
  have CH := HP.2.2
  refine px_iload_n hG dX11_unrank_0 rfl ?_
  refine px_i2l hG dX11_unrank_1 ⟨by omega, by omega⟩ ?_
  refine px_lconst hG dX11_unrank_2 ?_
  show G 3 [some (.inr (.inr (40, 0))), some (.inl aa), some (.inr (.inl rr)), none] [.inr (.inl 0), .inr (.inl aa)] 122 s0
  refine px_aload_n hG dX11_unrank_3 rfl ?_
  refine gi_40_1 hG dX11_unrank_4 fl_X11_7 R0 (fun x1 ex1 lx1 ux1 => ?_)
  refine px_i2l hG dX11_unrank_7 ⟨by omega, by omega⟩ ?_
  refine js3 hG dX11_unrank_8 ct_X11_in lk_X11_96 ⟨Nat.le_of_ble_eq_true rfl, Nat.le_of_ble_eq_true rfl, Nat.le_of_ble_eq_true rfl⟩ (Nat.le_of_ble_eq_true rfl) ⟨aa, 0, x1, rfl, rfl, R0, by omega⟩ (fun r2 t3 pr2 => ?_)
  obtain ⟨x4, rfl, rfl, br2⟩ := pr2 _ _ _ rfl
  show G 11 [some (.inr (.inr (40, 0))), some (.inl aa), some (.inr (.inl rr)), none] [.inl x4] 122 s0
  refine px_if_eq hG dX11_unrank_11 (tgt := 30) (by decide) ⟨by omega, by omega⟩ (fun c5 => ?_) (fun c5 => ?_)
  · refine px_iconst hG dX11_unrank_30 ?_
    exact px_iret (st := []) hG dX11_unrank_31 rfl rfl (fun aa_1 rr_1 ee => by cases ee; exact ⟨_, rfl, R0, pm_Fr_rf, J2⟩)
  · refine px_lload_n hG dX11_unrank_14 rfl ?_
    refine px_lconst hG dX11_unrank_15 ?_
    show G 16 [some (.inr (.inr (40, 0))), some (.inl aa), some (.inr (.inl rr)), none] [.inr (.inl 0), .inr (.inl rr)] 122 s0
    refine px_lcmp hG dX11_unrank_16 ⟨by omega, by omega⟩ ⟨by omega, by omega⟩ (fun x6 bx6 => ?_)
    refine px_if_lt hG dX11_unrank_17 (tgt := 30) (by decide) ⟨by omega, by omega⟩ (fun c7 => ?_) (fun c7 => ?_)
    · refine px_iconst hG dX11_unrank_30 ?_
      exact px_iret (st := []) hG dX11_unrank_31 rfl rfl (fun aa_1 rr_1 ee => by cases ee; exact ⟨_, rfl, R0, pm_Fr_rf, J2⟩)
    · refine px_lload_n hG dX11_unrank_20 rfl ?_
      refine px_aload_n hG dX11_unrank_21 rfl ?_
      refine px_iload_n hG dX11_unrank_22 rfl ?_
      refine jv1 hG dX11_unrank_23 ct_X11_rowsOfe lk_X11_158 ⟨rfl, rfl⟩ (by decide) ⟨Nat.le_of_ble_eq_true rfl, Nat.le_of_ble_eq_true rfl, Nat.le_of_ble_eq_true rfl⟩ (Nat.le_of_ble_eq_true rfl) ⟨aa, rfl, rfl, R0, ⟨⟨by omega, by omega, CH⟩, J2⟩⟩ (fun r8 t10 pr8 => ?_)
      obtain ⟨z11, rfl, Rt10, Ft10, br8⟩ := pr8 _ rfl
      have Ff12 := pm_Fr_mono Ft10 (M := [(40, some 3), (41, none), (42, none), (47, none), (48, none)]) rfl
      have jj13 := Ft10 40 0 0 rfl
      have jj14 := Ft10 40 0 1 rfl
      have jj15 := Ft10 40 0 2 rfl
      have jj16 := Ft10 40 0 3 rfl
      have Jt10 := pm_J2_fr Ft10 rfl J2
      have k17 : t10 40 0 1 = x1 := (Ft10 40 0 1 rfl).trans ex1
      show G 26 [some (.inr (.inr (40, 0))), some (.inl aa), some (.inr (.inl rr)), none] [.inr (.inl z11), .inr (.inl rr)] 122 t10
      have W1 := br8
      have UF := pm_F_le2 (t := pm_Z) (n := s0 40 0 1) (L := aa) (by omega) (by omega) (by omega)
      refine px_lcmp hG dX11_unrank_26 ⟨by omega, by omega⟩ ⟨by omega, by omega⟩ (fun x18 bx18 => ?_)
      refine px_if_lt hG dX11_unrank_27 (tgt := 32) (by decide) ⟨by omega, by omega⟩ (fun c19 => ?_) (fun c19 => ?_)
      · refine px_aload_n hG dX11_unrank_32 rfl ?_
        refine gi_40_0 hG dX11_unrank_33 fl_X11_104 Rt10 (fun x20 ex20 lx20 ux20 => ?_)
        have ex20 : s0 40 0 0 = x20 := (Ff12 40 0 0 rfl).symm.trans ex20
        refine px_if_eq hG dX11_unrank_36 (tgt := 42) (by decide) ⟨by omega, by omega⟩ (fun c21 => ?_) (fun c21 => ?_)
        · refine px_aload_n hG dX11_unrank_42 rfl ?_
          refine px_iload_n hG dX11_unrank_43 rfl ?_
          refine px_lload_n hG dX11_unrank_44 rfl ?_
          refine jv2 hG dX11_unrank_45 ct_X11_fromRank lk_X11_176 ⟨rfl, rfl⟩ (by decide) ⟨Nat.le_of_ble_eq_true rfl, Nat.le_of_ble_eq_true rfl, Nat.le_of_ble_eq_true rfl⟩ (Nat.le_of_ble_eq_true rfl) ⟨aa, rr, rfl, rfl, Rt10, ⟨⟨by omega, by omega, by omega, by rw [Ff12 40 0 1 rfl]; omega, pm_CH_eq (fun i => Ff12 46 0 i rfl) CH⟩, Jt10⟩⟩ (fun r22 t24 pr22 => ?_)
          obtain ⟨rfl, Rt24, Ft24, br22⟩ := pr22 _ _ rfl
          have Ff26 := pm_Fr_tr Ff12 Ft24 (M := [(40, some 3), (41, none), (42, none), (47, none), (48, none)]) rfl
          have jj27 := Ft24 40 0 0 rfl
          have jj28 := Ft24 40 0 1 rfl
          have jj29 := Ft24 40 0 2 rfl
          have Jt24 : pm_J2 t24 := br22
          have k30 : t24 40 0 1 = x1 := (Ft24 40 0 1 rfl).trans k17
          show G 48 [some (.inr (.inr (40, 0))), some (.inl aa), some (.inr (.inl rr)), none] [] 122 t24
          refine px_iload_n hG dX11_unrank_48 rfl ?_
          have jj31 := Ff26 40 0 0 rfl
          have jj32 := Ff26 40 0 1 rfl
          have jj33 := Ff26 40 0 2 rfl
          exact px_iret (st := []) hG dX11_unrank_49 rfl rfl (fun aa_1 rr_1 ee => by cases ee; exact ⟨_, rfl, Rt24, Ff26, Jt24⟩)
        · refine px_bipush hG dX11_unrank_39 (by decide) ?_
          have jj34 := Ff12 40 0 0 rfl
          have jj35 := Ff12 40 0 1 rfl
          have jj36 := Ff12 40 0 2 rfl
          exact px_iret (st := []) hG dX11_unrank_41 rfl rfl (fun aa_1 rr_1 ee => by cases ee; exact ⟨_, rfl, Rt10, Ff12, Jt10⟩)
      · refine px_iconst hG dX11_unrank_30 ?_
        have jj37 := Ff12 40 0 0 rfl
        have jj38 := Ff12 40 0 1 rfl
        have jj39 := Ff12 40 0 2 rfl
        exact px_iret (st := []) hG dX11_unrank_31 rfl rfl (fun aa_1 rr_1 ee => by cases ee; exact ⟨_, rfl, Rt10, Ff12, Jt10⟩))
def pre_X11_nexte (as : List pm_V) (n : Nat) (σ : pm_H) : Prop := as = [.inr (.inr (40, 0))] ∧ n = 122 ∧ pm_Rng σ ∧ ((pm_CH σ) ∧ pm_J2 σ)
def po_X11_nexte (as : List pm_V) (_ : Nat) (σ : pm_H) (r : Option pm_V) (τ : pm_H) : Prop := as = [.inr (.inr (40, 0))] → ∃ v : Int, r = some (.inl v) ∧ pm_Rng τ ∧ pm_Fr [(43, none), (44, none), (40, some 3), (41, none), (42, none), (47, none), (48, none)] σ τ ∧ (pm_J2 τ)
set_option maxRecDepth 20000 in
set_option maxHeartbeats 4000000 in
theorem ct_X11_nexte : pm_Ct yX11_next cX11_next 3 (some .int) 4 0 pre_X11_nexte po_X11_nexte := pm_sound (ini := false) (by decide +kernel) pk_X11_next (fun h => absurd h (by decide)) (by
  rintro as n s0 ⟨rfl, rfl, R0, hpre⟩
  refine ⟨by decide, Nat.le_of_ble_eq_true rfl, fun G hG => ?_⟩
  have hG : pm_Rules (RX11, 4, 122, cX11_next, -1, (fun _ => 0), false, (some .int), po_X11_nexte [.inr (.inr (40, 0))] 122 s0) G := hG
  show G 0 [some (.inr (.inr (40, 0))), none, none] [] 122 s0
  have B0 := pb_40_0 R0
  have B1 := pb_40_1 R0
  have B2 := pb_40_2 R0
  have B3 := pb_40_3 R0
  have J2 := hpre.2
  have HP := hpre.1
  have JK := J2.1
  have JW := J2.2
  have CH := HP
  refine px_aload_n hG dX11_next_0 rfl ?_
  refine jv0 hG dX11_next_1 ct_X11_isWell lk_X11_167 ⟨rfl, rfl⟩ (by decide) ⟨Nat.le_of_ble_eq_true rfl, Nat.le_of_ble_eq_true rfl, Nat.le_of_ble_eq_true rfl⟩ (Nat.le_of_ble_eq_true rfl) ⟨rfl, rfl, R0, J2⟩ (fun r1 t3 pr1 => ?_)
  obtain ⟨x4, rfl, Rt3, Ft3, br1⟩ := pr1 rfl
  have Ff5 := pm_Fr_mono Ft3 (M := [(43, none), (44, none), (40, some 3), (41, none), (42, none), (47, none), (48, none)]) rfl
  have jj6 := Ft3 40 0 0 rfl
  have jj7 := Ft3 40 0 1 rfl
  have jj8 := Ft3 40 0 2 rfl
  have jj9 := Ft3 40 0 3 rfl
  have Jt3 := pm_J2_fr Ft3 rfl J2
  show G 4 [some (.inr (.inr (40, 0))), none, none] [.inl x4] 122 t3
  have WE := br1
  have F1 := Ft3
  refine px_if_ne hG dX11_next_4 (tgt := 10) (by decide) ⟨by omega, by omega⟩ (fun c10 => ?_) (fun c10 => ?_)
  · refine px_aload_n hG dX11_next_10 rfl ?_
    refine jv0 hG dX11_next_11 ct_X11_rankOfe lk_X11_170 ⟨rfl, rfl⟩ (by decide) ⟨Nat.le_of_ble_eq_true rfl, Nat.le_of_ble_eq_true rfl, Nat.le_of_ble_eq_true rfl⟩ (Nat.le_of_ble_eq_true rfl) ⟨rfl, rfl, Rt3, ⟨⟨pm_PGc F1 rfl (WE.2 (by omega)).2, pm_CH_eq (fun i => Ff5 46 0 i rfl) CH⟩, Jt3⟩⟩ (fun r11 t13 pr11 => ?_)
    obtain ⟨z14, rfl, Rt13, Ft13, br11⟩ := pr11 rfl
    have Ff15 := pm_Fr_tr Ff5 Ft13 (M := [(43, none), (44, none), (40, some 3), (41, none), (42, none), (47, none), (48, none)]) rfl
    have jj16 := Ft13 40 0 0 rfl
    have jj17 := Ft13 40 0 1 rfl
    have jj18 := Ft13 40 0 2 rfl
    have jj19 := Ft13 40 0 3 rfl
    have Jt13 := pm_J2_fr Ft13 rfl Jt3
    show G 14 [some (.inr (.inr (40, 0))), none, none] [.inr (.inl z14)] 122 t13
    have W1 := br11
    rw [F1 40 0 1 rfl, F1 40 0 3 rfl] at W1
    have UF := pm_F_le2 (t := pm_Z) (n := s0 40 0 1) (L := s0 40 0 3) (by omega) (by omega) (by omega)
    refine px_lconst hG dX11_next_14 ?_
    show G 15 [some (.inr (.inr (40, 0))), none, none] [.inr (.inl 1), .inr (.inl z14)] 122 t13
    refine px_ladd hG dX11_next_15 ?_
    refine px_lstore_n hG dX11_next_16 (Nat.le_of_ble_eq_true rfl) (L2 := [some (.inr (.inr (40, 0))), some (.inr (.inl (z14 + 1))), none]) rfl ?_
    refine px_lload_n hG dX11_next_17 rfl ?_
    refine px_aload_n hG dX11_next_18 rfl ?_
    refine px_aload_n hG dX11_next_19 rfl ?_
    refine gi_40_3 hG dX11_next_20 fl_X11_110 Rt13 (fun x20 ex20 lx20 ux20 => ?_)
    have K1 : s0 40 0 3 = x20 := by omega
    refine jv1 hG dX11_next_23 ct_X11_rowsOfe lk_X11_158 ⟨rfl, rfl⟩ (by decide) ⟨Nat.le_of_ble_eq_true rfl, Nat.le_of_ble_eq_true rfl, Nat.le_of_ble_eq_true rfl⟩ (Nat.le_of_ble_eq_true rfl) ⟨x20, rfl, rfl, Rt13, ⟨⟨by omega, by omega, pm_CH_eq (fun i => Ff15 46 0 i rfl) CH⟩, Jt13⟩⟩ (fun r21 t23 pr21 => ?_)
    obtain ⟨z24, rfl, Rt23, Ft23, br21⟩ := pr21 _ rfl
    have Ff25 := pm_Fr_tr Ff15 Ft23 (M := [(43, none), (44, none), (40, some 3), (41, none), (42, none), (47, none), (48, none)]) rfl
    have jj26 := Ft23 40 0 0 rfl
    have jj27 := Ft23 40 0 1 rfl
    have jj28 := Ft23 40 0 2 rfl
    have jj29 := Ft23 40 0 3 rfl
    have Jt23 := pm_J2_fr Ft23 rfl Jt13
    have k30 : t23 40 0 3 = x20 := (Ft23 40 0 3 rfl).trans ex20
    show G 26 [some (.inr (.inr (40, 0))), some (.inr (.inl (z14 + 1))), none] [.inr (.inl z24), .inr (.inl (z14 + 1))] 122 t23
    have W2 := br21
    rw [Ff15 40 0 1 rfl, ← K1] at W2
    refine px_lcmp hG dX11_next_26 ⟨by omega, by omega⟩ ⟨by omega, by omega⟩ (fun x31 bx31 => ?_)
    refine px_if_ne hG dX11_next_27 (tgt := 33) (by decide) ⟨by omega, by omega⟩ (fun c32 => ?_) (fun c32 => ?_)
    · refine px_aload_n hG dX11_next_33 rfl ?_
      refine px_aload_n hG dX11_next_34 rfl ?_
      refine gi_40_3 hG dX11_next_35 fl_X11_110 Rt23 (fun x33 ex33 lx33 ux33 => ?_)
      have K2 : s0 40 0 3 = x33 := by omega
      refine px_lload_n hG dX11_next_38 rfl ?_
      refine jv2 hG dX11_next_39 ct_X11_fromRank lk_X11_176 ⟨rfl, rfl⟩ (by decide) ⟨Nat.le_of_ble_eq_true rfl, Nat.le_of_ble_eq_true rfl, Nat.le_of_ble_eq_true rfl⟩ (Nat.le_of_ble_eq_true rfl) ⟨x33, (z14 + 1), rfl, rfl, Rt23, ⟨⟨by omega, by omega, by omega, by rw [Ff25 40 0 1 rfl, ← K2]; omega, pm_CH_eq (fun i => Ff25 46 0 i rfl) CH⟩, Jt23⟩⟩ (fun r34 t36 pr34 => ?_)
      obtain ⟨rfl, Rt36, Ft36, br34⟩ := pr34 _ _ rfl
      have Ff38 := pm_Fr_tr Ff25 Ft36 (M := [(43, none), (44, none), (40, some 3), (41, none), (42, none), (47, none), (48, none)]) rfl
      have jj39 := Ft36 40 0 0 rfl
      have jj40 := Ft36 40 0 1 rfl
      have jj41 := Ft36 40 0 2 rfl
      have Jt36 : pm_J2 t36 := br34
      show G 42 [some (.inr (.inr (40, 0))), some (.inr (.inl (z14 + 1))), none] [] 122 t36
      refine px_iconst hG dX11_next_42 ?_
      have jj42 := Ff38 40 0 0 rfl
      have jj43 := Ff38 40 0 1 rfl
      have jj44 := Ff38 40 0 2 rfl
      exact px_iret (st := []) hG dX11_next_43 rfl rfl (fun _ => by exact ⟨_, rfl, Rt36, Ff38, Jt36⟩)
    · refine px_bipush hG dX11_next_30 (by decide) ?_
      have jj45 := Ff25 40 0 0 rfl
      have jj46 := Ff25 40 0 1 rfl
      have jj47 := Ff25 40 0 2 rfl
      exact px_iret (st := []) hG dX11_next_32 rfl rfl (fun _ => by exact ⟨_, rfl, Rt23, Ff25, Jt23⟩)
  · refine px_bipush hG dX11_next_7 (by decide) ?_
    have jj48 := Ff5 40 0 0 rfl
    have jj49 := Ff5 40 0 1 rfl
    have jj50 := Ff5 40 0 2 rfl
    exact px_iret (st := []) hG dX11_next_9 rfl rfl (fun _ => by exact ⟨_, rfl, Rt3, Ff5, Jt3⟩))
