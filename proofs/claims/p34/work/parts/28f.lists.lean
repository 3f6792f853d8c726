/-! ===== spreads: rows of numbers as lists ===== -/
def pm_sq {α : Type} (n : Nat) (k : Nat → α) : α := match n with
  | 0 => k 0
  | m + 1 => k (m + 1)
def pm_si {α : Type} (x : Int) (k : Int → α) : α := match x with
  | .ofNat n => pm_sq n (fun m => k (.ofNat m))
  | .negSucc n => pm_sq n (fun m => k (.negSucc m))
theorem pm_sq_eq {α : Type} (n : Nat) (k : Nat → α) : pm_sq n k = k n := by cases n <;> rfl
theorem pm_si_eq {α : Type} (x : Int) (k : Int → α) : pm_si x k = k x := by
  cases x with
  | ofNat n => exact pm_sq_eq n (fun m => k (.ofNat m))
  | negSucc n => exact pm_sq_eq n (fun m => k (.negSucc m))
def pm_sl {α : Type} : List Int → (List Int → α) → α
  | [], k => k []
  | e :: t, k => pm_sl t fun t' => pm_si e fun e' => k (e' :: t')
theorem pm_sl_eq {α : Type} (l : List Int) : ∀ k : List Int → α, pm_sl l k = k l := by
  induction l with
  | nil => intro k; rfl
  | cons e t ih =>
    intro k
    simp only [pm_sl]
    rw [ih, pm_si_eq]
def pm_lv : List Int → Nat → Int
  | [], _ => 0
  | e :: _, 0 => e
  | _ :: t, i + 1 => pm_lv t i
def pm_zl : Nat → List Int
  | 0 => []
  | w + 1 => 0 :: pm_zl w
theorem pm_zl_v (w : Nat) : ∀ j : Nat, pm_lv (pm_zl w) j = 0 := by
  induction w with
  | zero => intro j; rfl
  | succ w ih =>
    intro j
    cases j with
    | zero => rfl
    | succ j => exact ih j
theorem pm_zl_l (w : Nat) : (pm_zl w).length = w := by
  induction w with
  | zero => rfl
  | succ w ih => show (pm_zl w).length + 1 = w + 1; rw [ih]
theorem pm_lv_o {l : List Int} : ∀ {j : Nat}, l.length ≤ j → pm_lv l j = 0 := by
  induction l with
  | nil => intro j _; rfl
  | cons e t ih =>
    intro j h
    have h : t.length + 1 ≤ j := h
    cases j with
    | zero => omega
    | succ j => exact ih (by omega)
def pm_dd : List Int → Nat → Int → List Int
  | [], _, _ => []
  | e :: t, 0, x => pm_si (e + x) fun y => y :: t
  | e :: t, i + 1, x => e :: pm_dd t i x
theorem pm_dd_l (l : List Int) : ∀ (i : Nat) (x : Int), (pm_dd l i x).length = l.length := by
  induction l with
  | nil => intro i x; rfl
  | cons e t ih =>
    intro i x
    cases i with
    | zero => simp only [pm_dd]; rw [pm_si_eq]; rfl
    | succ i => simp only [pm_dd]; show (pm_dd t i x).length + 1 = t.length + 1; rw [ih]
theorem pm_dd_v (l : List Int) : ∀ (i : Nat) (x : Int) (j : Nat), i < l.length → pm_lv (pm_dd l i x) j = if j = i then pm_lv l i + x else pm_lv l j := by
  induction l with
  | nil => intro i x j h; exact absurd h (Nat.not_lt_zero _)
  | cons e t ih =>
    intro i x j h
    have h : i < t.length + 1 := h
    cases i with
    | zero =>
      simp only [pm_dd]
      rw [pm_si_eq]
      cases j with
      | zero => rfl
      | succ j => rw [if_neg (by omega)]; rfl
    | succ i =>
      simp only [pm_dd]
      cases j with
      | zero => rw [if_neg (by omega)]; rfl
      | succ j =>
        show pm_lv (pm_dd t i x) j = if j + 1 = i + 1 then pm_lv t i + x else pm_lv t j
        rw [ih i x j (by omega)]
        by_cases z : j = i
        · rw [if_pos z, if_pos (by omega)]
        · rw [if_neg z, if_neg (by omega)]
def pm_bl (f : Nat → Int) : Nat → List Int → List Int
  | 0, acc => acc
  | k + 1, acc => pm_si (f k) fun y => pm_bl f k (y :: acc)
theorem pm_bl_v (f : Nat → Int) (k : Nat) : ∀ (acc : List Int) (i : Nat), pm_lv (pm_bl f k acc) i = if i < k then f i else pm_lv acc (i - k) := by
  induction k with
  | zero => intro acc i; rw [if_neg (by omega)]; rfl
  | succ k ih =>
    intro acc i
    simp only [pm_bl]
    rw [pm_si_eq, ih]
    by_cases z : i < k
    · rw [if_pos z, if_pos (by omega)]
    · rw [if_neg z]
      by_cases y : i = k
      · subst y
        rw [if_pos (by omega), Nat.sub_self]
        rfl
      · rw [if_neg (by omega), show i - k = (i - (k + 1)) + 1 by omega]
        rfl
theorem pm_bl_l (f : Nat → Int) (k : Nat) : ∀ acc : List Int, (pm_bl f k acc).length = k + acc.length := by
  induction k with
  | zero => intro acc; show acc.length = _; omega
  | succ k ih =>
    intro acc
    simp only [pm_bl]
    rw [pm_si_eq, ih]
    show k + (acc.length + 1) = _
    omega
def pm_zp (c : Int) : List Int → List Int → List Int
  | [], M => M
  | _ :: _, [] => []
  | x :: s, e :: t => pm_si (e + x * c) fun y => y :: pm_zp c s t
theorem pm_zp_l (c : Int) (s : List Int) : ∀ M : List Int, (pm_zp c s M).length = M.length := by
  induction s with
  | nil => intro M; rfl
  | cons x s ih =>
    intro M
    cases M with
    | nil => rfl
    | cons e t => simp only [pm_zp]; rw [pm_si_eq]; show (pm_zp c s t).length + 1 = t.length + 1; rw [ih]
theorem pm_zp_v (c : Int) (s : List Int) : ∀ (M : List Int) (j : Nat), j < M.length → pm_lv (pm_zp c s M) j = pm_lv M j + pm_lv s j * c := by
  induction s with
  | nil => intro M j h; show pm_lv M j = pm_lv M j + 0 * c; rw [Int.zero_mul, Int.add_zero]
  | cons x s ih =>
    intro M j h
    cases M with
    | nil => exact absurd h (Nat.not_lt_zero _)
    | cons e t =>
      have h : j < t.length + 1 := h
      simp only [pm_zp]
      rw [pm_si_eq]
      cases j with
      | zero => rfl
      | succ j => exact ih t j (by omega)
def pm_sh : Nat → List Int → Int → List Int → List Int
  | 0, s, c, M => pm_zp c s M
  | _ + 1, _, _, [] => []
  | o + 1, s, c, e :: t => e :: pm_sh o s c t
theorem pm_sh_l (s : List Int) (c : Int) (o : Nat) : ∀ M : List Int, (pm_sh o s c M).length = M.length := by
  induction o with
  | zero => intro M; exact pm_zp_l c s M
  | succ o ih =>
    intro M
    cases M with
    | nil => rfl
    | cons e t => show (pm_sh o s c t).length + 1 = t.length + 1; rw [ih]
theorem pm_sh_v (s : List Int) (c : Int) (o : Nat) : ∀ (M : List Int) (j : Nat), j < M.length → pm_lv (pm_sh o s c M) j = pm_lv M j + (if o ≤ j then pm_lv s (j - o) * c else 0) := by
  induction o with
  | zero => intro M j h; rw [if_pos (Nat.zero_le _)]; exact pm_zp_v c s M j h
  | succ o ih =>
    intro M j h
    cases M with
    | nil => exact absurd h (Nat.not_lt_zero _)
    | cons e t =>
      have h : j < t.length + 1 := h
      cases j with
      | zero => rw [if_neg (by omega), Int.add_zero]; rfl
      | succ j =>
        show pm_lv (pm_sh o s c t) j = pm_lv t j + _
        rw [ih t j (by omega), show j + 1 - (o + 1) = j - o by omega]
        by_cases z : o ≤ j
        · rw [if_pos z, if_pos (by omega)]
        · rw [if_neg z, if_neg (by omega)]
/-! rows held -/
def pm_LR (w : Nat) (l : List Int) (f : Int → Int) : Prop := l.length = w ∧ ∀ j : Int, 0 ≤ j → j < w → f j = pm_lv l j.toNat
theorem pm_LR_c {w : Nat} {l : List Int} {f g : Int → Int} (W : pm_LR w l f) (e : ∀ i : Int, g i = f i) : pm_LR w l g := ⟨W.1, fun j a b => (e j).trans (W.2 j a b)⟩
theorem pm_LR_s {w : Nat} {l : List Int} {s s' : pm_H} {c : Nat} {r i x y : Int} (W : pm_LR w l (s c r)) (e : s' = pm_up s c r i y) (hy : y = s c r i + x) (h1 : 0 ≤ i) (h2 : i < w) : pm_LR w (pm_dd l i.toNat x) (s' c r) := by
  refine ⟨(pm_dd_l l _ _).trans W.1, fun j a b => ?_⟩
  rw [pm_dd_v l i.toNat x j.toNat (by rw [W.1]; omega)]
  by_cases z : j = i
  · rw [if_pos (by omega), z, pm_at e, hy, W.2 i h1 h2]
  · rw [if_neg (by omega), pm_nei e z]
    exact W.2 j a b
/-! the class: goes -/
def pm_a1 (x : Int) (o : Nat) (M : List Int) : Nat → List Int
  | 0 => M
  | f + 1 => pm_dd (pm_a1 x o M f) (o + f) x
def pm_a2 (c : Int) (R : List Int) (pl a : Nat) (M : List Int) : Nat → List Int
  | 0 => M
  | b + 1 => pm_si (c * pm_lv R b) fun x => pm_sl (pm_a2 c R pl a M b) fun N => pm_a1 x (a + b) N pl
def pm_a3 (c : Int) (L R : List Int) (pl nb : Nat) (M : List Int) : Nat → List Int
  | 0 => M
  | a + 1 => pm_si (c * pm_lv L a) fun x => pm_sl (pm_a3 c L R pl nb M a) fun N => pm_a2 x R pl a N nb
def pm_mg (n : Nat) : Nat := n * (n - 1) / 2
def pm_ap (T : Nat → List Int) (m : Nat) : Nat → List Int
  | 0 => pm_zl 46
  | p + 1 => pm_a3 (pm_C (m - 1) p) (T p) (T (m - 1 - p)) (p + 1) (pm_mg (m - 1 - p) + 1) (pm_ap T m p) (pm_mg p + 1)
/-! the class: lucky -/
def pm_b2 (c : Int) (R : List Int) (lf a : Nat) (M : List Int) : Nat → List Int
  | 0 => M
  | b + 1 => pm_si (c * pm_lv R b) fun x => pm_dd (pm_dd (pm_b2 c R lf a M b) (a + b) (x * lf)) (a + b + 1) x
def pm_b3 (c : Int) (L R : List Int) (lf nb : Nat) (M : List Int) : Nat → List Int
  | 0 => M
  | a + 1 => pm_si (c * pm_lv L a) fun x => pm_b2 x R lf a (pm_b3 c L R lf nb M a) nb
def pm_bp (T : Nat → List Int) (m : Nat) : Nat → List Int
  | 0 => pm_zl 11
  | p + 1 => pm_b3 (pm_C (m - 1) p) (T p) (T (m - 1 - p)) p (m - 1 - p + 1) (pm_bp T m p) (p + 1)
/-! the model: goes, lucky -/
def pm_m2 (T : Nat → List Int) (n v c : Nat) : Nat → List Int
  | 0 => pm_zl 56
  | j + 1 => pm_sh (j * v) (T (c - j)) (pm_C (n - (c - j)) j) (pm_m2 T n v c j)
def pm_m3 (T : Nat → List Int) (n v : Nat) : Nat → Nat → List Int
  | 0, _ => pm_zl 56
  | c + 1, q => if q = c then pm_m2 T n v c (c + 1) else pm_m3 T n v c q
def pm_m4 (n : Nat) : Nat → Nat → List Int
  | 0, q => if q = 0 then 1 :: pm_zl 55 else pm_zl 56
  | d + 1, q => pm_m3 (pm_m4 n d) n (n - d) (d + 2) q
def pm_lk (i m : Int) : Int → List Int → List Int
  | _, [] => []
  | p, e :: t => pm_si (i * e + m * p) fun y => y :: pm_lk i m e t
def pm_lu (n : Nat) : Nat → List Int
  | 0 => 0 :: 1 :: pm_zl 10
  | i + 1 => pm_lk ((i : Int) + 1) ((n : Int) - i) 0 (pm_lu n i)
/-! ones, first wishes -/
def pm_Sl (t : Int → Int) (n : Int) (L : Nat) : Nat → List Int
  | 0 => 1 :: pm_zl L
  | d + 1 => pm_bl (fun c => if (c : Int) + pm_A t n (d + 1) ≤ ((d + 1 : Nat) : Int) then pm_sum (fun j => pm_lv (pm_Sl t n L d) (c - j) * pm_C (L - (c - j)) j) (c + 1) else 0) (L + 1) []
/-! cuts -/
def pm_pr (R : Nat → Int) (m : Nat) : Nat → Int
  | 0 => 0
  | p + 1 => pm_pr R m p + R (m - (p + 1)) * pm_C m (p + 1) * (p : Int) ^ p
def pm_pk (n : Nat) : Nat → Nat → Int
  | 0, m => if m = 0 then 1 else 0
  | k + 1, m => pm_pr (pm_pk n k) m m
/-! the tables, looked through by computing -/
def pm_gl : Nat → List Int
  | 0 => [1, 0, 0, 0, 0, 0, 0, 0, 0, 0, 0, 0, 0, 0, 0, 0, 0, 0, 0, 0, 0, 0, 0, 0, 0, 0, 0, 0, 0, 0, 0, 0, 0, 0, 0, 0, 0, 0, 0, 0, 0, 0, 0, 0, 0, 0]
  | 1 => [1, 0, 0, 0, 0, 0, 0, 0, 0, 0, 0, 0, 0, 0, 0, 0, 0, 0, 0, 0, 0, 0, 0, 0, 0, 0, 0, 0, 0, 0, 0, 0, 0, 0, 0, 0, 0, 0, 0, 0, 0, 0, 0, 0, 0, 0]
  | 2 => [2, 1, 0, 0, 0, 0, 0, 0, 0, 0, 0, 0, 0, 0, 0, 0, 0, 0, 0, 0, 0, 0, 0, 0, 0, 0, 0, 0, 0, 0, 0, 0, 0, 0, 0, 0, 0, 0, 0, 0, 0, 0, 0, 0, 0, 0]
  | 3 => [6, 6, 3, 1, 0, 0, 0, 0, 0, 0, 0, 0, 0, 0, 0, 0, 0, 0, 0, 0, 0, 0, 0, 0, 0, 0, 0, 0, 0, 0, 0, 0, 0, 0, 0, 0, 0, 0, 0, 0, 0, 0, 0, 0, 0, 0]
  | 4 => [24, 36, 30, 20, 10, 4, 1, 0, 0, 0, 0, 0, 0, 0, 0, 0, 0, 0, 0, 0, 0, 0, 0, 0, 0, 0, 0, 0, 0, 0, 0, 0, 0, 0, 0, 0, 0, 0, 0, 0, 0, 0, 0, 0, 0, 0]
  | 5 => [120, 240, 270, 240, 180, 120, 70, 35, 15, 5, 1, 0, 0, 0, 0, 0, 0, 0, 0, 0, 0, 0, 0, 0, 0, 0, 0, 0, 0, 0, 0, 0, 0, 0, 0, 0, 0, 0, 0, 0, 0, 0, 0, 0, 0, 0]
  | 6 => [720, 1800, 2520, 2730, 2520, 2100, 1610, 1140, 750, 455, 252, 126, 56, 21, 6, 1, 0, 0, 0, 0, 0, 0, 0, 0, 0, 0, 0, 0, 0, 0, 0, 0, 0, 0, 0, 0, 0, 0, 0, 0, 0, 0, 0, 0, 0, 0]
  | 7 => [5040, 15120, 25200, 31920, 34230, 32970, 29400, 24640, 19600, 14840, 10696, 7336, 4781, 2947, 1708, 924, 462, 210, 84, 28, 7, 1, 0, 0, 0, 0, 0, 0, 0, 0, 0, 0, 0, 0, 0, 0, 0, 0, 0, 0, 0, 0, 0, 0, 0, 0]
  | 8 => [40320, 141120, 272160, 393120, 476280, 514080, 511560, 478800, 427140, 365960, 302344, 241416, 186522, 139440, 100800, 70392, 47418, 30744, 19124, 11368, 6426, 3432, 1716, 792, 330, 120, 36, 8, 1, 0, 0, 0, 0, 0, 0, 0, 0, 0, 0, 0, 0, 0, 0, 0, 0, 0]
  | 9 => [362880, 1451520, 3175200, 5140800, 6917400, 8225280, 8961120, 9147600, 8883000, 8288700, 7480620, 6558300, 5600910, 4667040, 3797640, 3018960, 2344860, 1779120, 1317960, 952560, 671076, 460284, 306900, 198540, 124320, 75132, 43668, 24300, 12870, 6435, 3003, 1287, 495, 165, 45, 9, 1, 0, 0, 0, 0, 0, 0, 0, 0, 0]
  | 10 => [3628800, 16329600, 39916800, 71517600, 105613200, 136798200, 161330400, 177408000, 184892400, 184707600, 178295040, 167246100, 153072360, 137082330, 120346380, 103705140, 87789240, 73042200, 59745840, 48048000, 37988412, 29522790, 22545720, 16911720, 12453540, 8996922, 6371640, 4419360, 2998710, 1987920, 1285482, 809325, 495000, 293325, 167850, 92367, 48620, 24310, 11440, 5005, 2002, 715, 220, 55, 10, 1]
  | _ => pm_zl 46
def pm_kl : Nat → List Int
  | 0 => [1, 0, 0, 0, 0, 0, 0, 0, 0, 0, 0]
  | 1 => [0, 1, 0, 0, 0, 0, 0, 0, 0, 0, 0]
  | 2 => [0, 1, 2, 0, 0, 0, 0, 0, 0, 0, 0]
  | 3 => [0, 2, 8, 6, 0, 0, 0, 0, 0, 0, 0]
  | 4 => [0, 6, 37, 58, 24, 0, 0, 0, 0, 0, 0]
  | 5 => [0, 24, 204, 504, 444, 120, 0, 0, 0, 0, 0]
  | 6 => [0, 120, 1318, 4553, 6388, 3708, 720, 0, 0, 0, 0]
  | 7 => [0, 720, 9792, 44176, 87296, 81136, 33984, 5040, 0, 0, 0]
  | 8 => [0, 5040, 82332, 463860, 1203921, 1582236, 1064124, 341136, 40320, 0, 0]
  | 9 => [0, 40320, 773280, 5270480, 17164320, 29724000, 28328480, 14602320, 3733920, 362880, 0]
  | 10 => [0, 362880, 8026416, 64621692, 255644668, 557061609, 700870638, 512539012, 210852936, 44339040, 3628800]
  | _ => pm_zl 11
theorem pm_ap_t : ∀ m : Nat, m < 11 → 1 ≤ m → pm_ap pm_gl m m = pm_gl m := by decide +kernel
theorem pm_bp_t : ∀ m : Nat, m < 11 → 1 ≤ m → pm_bp pm_kl m m = pm_kl m := by decide +kernel
def pm_gc (n : Nat) : Bool := pm_allN (fun v => (if v ≤ n * (n + 1) / 2 then pm_lv (pm_m4 n n n) (n * (n + 1) / 2 - v) else 0) == pm_lv (pm_gl n) v) 101 0
/-! the same, each level's rows once -/
def pm_sll {α : Type} : List (List Int) → (List (List Int) → α) → α
  | [], k => k []
  | e :: t, k => pm_sl e fun e' => pm_sll t fun t' => k (e' :: t')
theorem pm_sll_eq {α : Type} (l : List (List Int)) : ∀ k : List (List Int) → α, pm_sll l k = k l := by
  induction l with
  | nil => intro k; rfl
  | cons e t ih =>
    intro k
    simp only [pm_sll]
    rw [pm_sl_eq, ih]
def pm_ix : List (List Int) → Nat → List Int
  | [], _ => pm_zl 56
  | e :: _, 0 => e
  | _ :: t, i + 1 => pm_ix t i
def pm_tLs (f : Nat → List Int) : Nat → List (List Int) → List (List Int)
  | 0, acc => acc
  | k + 1, acc => pm_tLs f k (f k :: acc)
theorem pm_tLs_v (f : Nat → List Int) (k : Nat) : ∀ (acc : List (List Int)) (i : Nat), pm_ix (pm_tLs f k acc) i = if i < k then f i else pm_ix acc (i - k) := by
  induction k with
  | zero => intro acc i; rw [if_neg (by omega)]; rfl
  | succ k ih =>
    intro acc i
    simp only [pm_tLs]
    rw [ih]
    by_cases z : i < k
    · rw [if_pos z, if_pos (by omega)]
    · rw [if_neg z]
      by_cases y : i = k
      · subst y
        rw [if_pos (by omega), Nat.sub_self]
        rfl
      · rw [if_neg (by omega), show i - k = (i - (k + 1)) + 1 by omega]
        rfl
def pm_M (n : Nat) : Nat → List (List Int)
  | 0 => [1 :: pm_zl 55]
  | d + 1 => pm_sll (pm_M n d) fun L => pm_tLs (fun q => pm_m2 (pm_ix L) n (n - d) q (q + 1)) (d + 2) []
theorem pm_m3_v (T : Nat → List Int) (n v : Nat) : ∀ (c q : Nat), pm_m3 T n v c q = if q < c then pm_m2 T n v q (q + 1) else pm_zl 56 := by
  intro c
  induction c with
  | zero => intro q; rw [if_neg (by omega)]; rfl
  | succ c ih =>
    intro q
    simp only [pm_m3]
    by_cases z : q = c
    · subst z
      rw [if_pos rfl, if_pos (by omega)]
    · rw [if_neg z, ih q]
      by_cases y : q < c
      · rw [if_pos y, if_pos (by omega)]
      · rw [if_neg y, if_neg (by omega)]
theorem pm_M_v (n : Nat) : ∀ (d q : Nat), pm_ix (pm_M n d) q = pm_m4 n d q := by
  intro d
  induction d with
  | zero =>
    intro q
    cases q with
    | zero => rfl
    | succ q => rfl
  | succ d ih =>
    intro q
    have e : pm_ix (pm_M n d) = pm_m4 n d := funext ih
    simp only [pm_M, pm_m4]
    rw [pm_sll_eq, pm_tLs_v, pm_m3_v, e]
    rfl
def pm_gcM (n : Nat) : Bool := pm_sl (pm_ix (pm_M n n) n) fun l => pm_allN (fun v => (if v ≤ n * (n + 1) / 2 then pm_lv l (n * (n + 1) / 2 - v) else 0) == pm_lv (pm_gl n) v) 101 0
theorem pm_gcM_t : ∀ n : Nat, n < 11 → 1 ≤ n → pm_gcM n = true := by decide +kernel
theorem pm_gc_t : ∀ n : Nat, n < 11 → 1 ≤ n → pm_gc n = true := fun n h0 h1 => by
  have q := pm_gcM_t n h0 h1
  unfold pm_gcM at q
  rw [pm_sl_eq, pm_M_v] at q
  exact q
def pm_lc (n : Nat) : Bool := pm_allN (fun v => pm_lv (pm_lu n (n - 1)) v == (if n < v then 0 else pm_lv (pm_kl n) v)) 12 0
theorem pm_lc_t : ∀ n : Nat, n < 11 → 1 ≤ n → pm_lc n = true := by decide +kernel
def pm_gr (n : Nat) : Int := if n = 0 then 1 else ((n : Int) + 1) ^ (n - 1)
def pm_sd (n p : Nat) : Int := pm_C (n - 1) (p - 1) * pm_gr (p - 1) * pm_gr (n - p)
def pm_fsd (n v : Nat) : Nat → Int
  | 0 => 0
  | k + 1 => pm_fsd n v k + pm_sd n (v + k)
def pm_wc1 (n : Nat) : Bool := pm_allN (fun v => pm_lv (pm_Sl (fun i => if i = (v : Int) then 1 else 0) n (n - 1) n) (n - 1) == pm_fsd n v (n + 1 - v)) n 1
theorem pm_wc1_t : ∀ n : Nat, n < 11 → 1 ≤ n → pm_wc1 n = true := by decide +kernel
def pm_onc (n : Nat) : Bool := !(pm_lv (pm_Sl (fun _ => 0) n n n) n == 0) && pm_allN (fun v => pm_lv (pm_Sl (fun _ => 0) n n (n - 1)) (n - v) == (if v = 0 then 0 else pm_C (n - 1) (v - 1) * (n : Int) ^ (n - v))) (n + 1) 0
theorem pm_onc_t : ∀ n : Nat, n < 11 → 1 ≤ n → pm_onc n = true := by decide +kernel
