/-! ===== the machine's side of the pure heap ===== -/
theorem pm_ti {x : Int} (h : pm_in x) : (Int32.ofInt x).toInt = x := Int32.toInt_ofInt_of_le (by omega) (by omega)
theorem pm_tl {x : Int} (h : pm_inl x) : (Int64.ofInt x).toInt = x := Int64.toInt_ofInt_of_le (by omega) (by omega)
theorem pm_eqI {x y : Int} (hx : pm_in x) (hy : pm_in y) : Int32.ofInt x = Int32.ofInt y ↔ x = y :=
  ⟨fun h => by have := congrArg Int32.toInt h; rwa [pm_ti hx, pm_ti hy] at this, fun h => by rw [h]⟩
theorem pm_ltI {x y : Int} (hx : pm_in x) (hy : pm_in y) : Int32.ofInt x < Int32.ofInt y ↔ x < y := by
  rw [Int32.lt_iff_toInt_lt, pm_ti hx, pm_ti hy]
theorem pm_leI {x y : Int} (hx : pm_in x) (hy : pm_in y) : Int32.ofInt x ≤ Int32.ofInt y ↔ x ≤ y := by
  rw [Int32.le_iff_toInt_le, pm_ti hx, pm_ti hy]
theorem pm_eqL {x y : Int} (hx : pm_inl x) (hy : pm_inl y) : Int64.ofInt x = Int64.ofInt y ↔ x = y :=
  ⟨fun h => by have := congrArg Int64.toInt h; rwa [pm_tl hx, pm_tl hy] at this, fun h => by rw [h]⟩
theorem pm_ltL {x y : Int} (hx : pm_inl x) (hy : pm_inl y) : Int64.ofInt x < Int64.ofInt y ↔ x < y := by
  rw [Int64.lt_iff_toInt_lt, pm_tl hx, pm_tl hy]
theorem pm_in0 : pm_in 0 := ⟨by omega, by omega⟩
theorem pm_vin {i : Int} {N : Nat} (h : 0 ≤ i ∧ i < (N : Int)) (hN : N < 2147483648) : vp_in (Int32.ofInt i) N := by
  rw [vp_in_iff, pm_ti ⟨by omega, by omega⟩]
  exact h
theorem pm_clamp {i : Int} {N : Nat} (h : 0 ≤ i ∧ i < (N : Int)) (hN : N < 2147483648) : (((Int32.ofInt i).toNatClampNeg : Nat) : Int) = i := by
  rw [Int32.toNatClampNeg_ofInt_of_le (by omega) (by omega)]
  omega
theorem pm_up_ne {σ : pm_H} {c c' : Nat} {r r' i i' x : Int} (h : ¬ (c' = c ∧ r' = r ∧ i' = i)) : pm_up σ c r i x c' r' i' = σ c' r' i' := if_neg h
theorem pm_up_eq {σ : pm_H} {c : Nat} {r i x : Int} : pm_up σ c r i x c r i = x := if_pos ⟨rfl, rfl, rfl⟩
-- the static tables
theorem pm_kd_lt {c : Nat} {t M N : Nat} (h : pm_kd c = (t, M, N)) (ht : t < 9) : c < 67 := by
  rcases Nat.lt_or_ge c 67 with q | q
  · exact q
  · have e : pm_K.length = 67 := by decide +kernel
    unfold pm_kd at h
    rw [List.getD_eq_getElem?_getD, List.getElem?_eq_none (by omega)] at h
    cases h
    exact absurd ht (by decide)
theorem pm_ph_ge {j : Nat} (h : 122 ≤ j) : pm_ph j = (100000, 0) := by
  have e : pm_phL.length = 122 := by decide +kernel
  unfold pm_ph
  rw [List.getD_eq_getElem?_getD, List.getElem?_eq_none (by omega)]
  rfl
theorem pm_ph1 : ∀ c, c < 67 → (pm_kd c).1 < 4 → pm_ph (pm_pos c) = (c, 0) := by decide +kernel
theorem pm_ph1u0 : ∀ c, c < 67 → (pm_kd c).1 < 4 → ∀ j, j < 122 → (pm_ph j).1 = c → j = pm_pos c := by decide +kernel
theorem pm_ph1u {c j : Nat} (hc : c < 67) (hk : (pm_kd c).1 < 4) (h : (pm_ph j).1 = c) : j = pm_pos c := by
  rcases Nat.lt_or_ge j 122 with q | q
  · exact pm_ph1u0 c hc hk j q h
  · rw [pm_ph_ge q] at h
    have : (100000 : Nat) = c := h
    omega
theorem pm_ph2 : ∀ c, c < 67 → 4 ≤ (pm_kd c).1 → pm_ph (pm_pos c) = (c, -1) ∧ ∀ r, r < (pm_kd c).2.1 → pm_ph (pm_pos c + 1 + r) = (c, (r : Int)) := by decide +kernel
theorem pm_ph2u0 : ∀ c, c < 67 → 4 ≤ (pm_kd c).1 → ∀ j, j < 122 → (pm_ph j).1 = c → (pm_ph j).2 = (j : Int) - (pm_pos c : Int) - 1 := by decide +kernel
theorem pm_ph2u {c j : Nat} (hc : c < 67) (hk : 4 ≤ (pm_kd c).1) (h : (pm_ph j).1 = c) : (pm_ph j).2 = (j : Int) - (pm_pos c : Int) - 1 := by
  rcases Nat.lt_or_ge j 122 with q | q
  · exact pm_ph2u0 c hc hk j q h
  · rw [pm_ph_ge q] at h
    have : (100000 : Nat) = c := h
    omega
theorem pm_kN : ∀ c, c < 67 → (pm_kd c).2.1 < 100000 ∧ (pm_kd c).2.2 < 100000 := by decide +kernel
-- the world's list
theorem pm_ws_get {Y : pm_Y} {b base n k : Nat} {σ : pm_H} (h : k < n) : (pm_ws Y b base n σ)[k]? = some (base + k, pm_ce Y b base σ (pm_ph k).1 (pm_ph k).2) := by
  unfold pm_ws
  rw [List.getElem?_map, List.getElem?_range h]
  rfl
theorem pm_ws_len {Y : pm_Y} {b base n : Nat} {σ : pm_H} : (pm_ws Y b base n σ).length = n := by
  unfold pm_ws
  rw [List.length_map, List.length_range]
theorem pm_ws_D {Y : pm_Y} {b base n : Nat} {σ : pm_H} : va_D (fun q => base ≤ q) (pm_ws Y b base n σ) := by
  have key : ∀ (k : Nat) (q : Nat × va_E), (pm_ws Y b base n σ)[k]? = some q → q.1 = base + k := by
    intro k q h
    have hk : k < n := by
      have := (List.getElem?_eq_some_iff.mp h).1
      rwa [pm_ws_len] at this
    rw [pm_ws_get hk] at h
    cases h
    rfl
  refine ⟨fun i j p q hi hj e => ?_, fun k q h => ?_⟩
  · have h1 := key i p hi
    have h2 := key j q hj
    omega
  · have h1 := key k q h
    show base ≤ q.1
    omega
theorem pm_ce_c {Y : pm_Y} {b base c : Nat} {σ τ : pm_H} {r : Int} (h : ∀ r i, τ c r i = σ c r i) : pm_ce Y b base τ c r = pm_ce Y b base σ c r := by
  have e1 : pm_fi τ c r = pm_fi σ c r := funext fun j => by unfold pm_fi; rw [h]
  have e2 : pm_fj τ c r = pm_fj σ c r := funext fun j => by unfold pm_fj; rw [h]
  have e3 : pm_fd b base c τ = pm_fd b base c σ := funext fun k => funext fun f => by
    cases f with
    | none => simp only [pm_fd, h]
    | some q => simp only [pm_fd, h]
  unfold pm_ce
  simp only [e1, e2, e3]
theorem pm_ce_r {Y : pm_Y} {b base c : Nat} {σ τ : pm_H} {r : Int} (hk : 1 ≤ (pm_kd c).1) (h : ∀ i, τ c r i = σ c r i) : pm_ce Y b base τ c r = pm_ce Y b base σ c r := by
  have e1 : pm_fi τ c r = pm_fi σ c r := funext fun j => by unfold pm_fi; rw [h]
  have e2 : pm_fj τ c r = pm_fj σ c r := funext fun j => by unfold pm_fj; rw [h]
  unfold pm_ce
  rcases hkd : pm_kd c with ⟨t, M, N⟩
  rw [hkd] at hk
  rcases t with _ | t
  · exact absurd hk (by show ¬ 1 ≤ 0; decide)
  · rw [e1, e2]
    rcases t with _ | _ | _ | _ | t <;> rfl
theorem pm_ws_set {Y : pm_Y} {b base n k : Nat} {σ τ : pm_H} {e : va_E} (hk : k < n) (he : pm_ce Y b base τ (pm_ph k).1 (pm_ph k).2 = e)
    (ho : ∀ j, j ≠ k → pm_ce Y b base τ (pm_ph j).1 (pm_ph j).2 = pm_ce Y b base σ (pm_ph j).1 (pm_ph j).2) : (pm_ws Y b base n σ).set k (base + k, e) = pm_ws Y b base n τ := by
  apply List.ext_getElem?
  intro j
  rw [List.getElem?_set]
  by_cases hj : k = j
  · subst hj
    rw [if_pos rfl, pm_ws_len, if_pos hk, pm_ws_get hk, he]
  · rw [if_neg hj]
    rcases Nat.lt_or_ge j n with q | q
    · rw [pm_ws_get q, pm_ws_get q, ho j (Ne.symm hj)]
    · rw [List.getElem?_eq_none (by rw [pm_ws_len]; exact q), List.getElem?_eq_none (by rw [pm_ws_len]; exact q)]
/-- a plain cell changes -/
theorem pm_ws_set1 {Y : pm_Y} {b base n c : Nat} {σ τ : pm_H} {e : va_E} (hc : c < 67) (hk : (pm_kd c).1 < 4) (hn : pm_pos c < n) (he : pm_ce Y b base τ c 0 = e)
    (ho : ∀ (c' : Nat) (r i : Int), c' ≠ c → τ c' r i = σ c' r i) : (pm_ws Y b base n σ).set (pm_pos c) (base + pm_pos c, e) = pm_ws Y b base n τ := by
  refine pm_ws_set hn (by rw [pm_ph1 c hc hk]; exact he) (fun j hj => pm_ce_c (fun r i => ho _ r i (fun q => hj (pm_ph1u hc hk q))))
/-- a row changes -/
theorem pm_ws_set2 {Y : pm_Y} {b base n c r : Nat} {σ τ : pm_H} {e : va_E} (hc : c < 67) (hk : 4 ≤ (pm_kd c).1) (hr : r < (pm_kd c).2.1) (hn : pm_pos c + 1 + r < n) (he : pm_ce Y b base τ c (r : Int) = e)
    (ho : ∀ (c' : Nat) (r' i : Int), ¬ (c' = c ∧ r' = (r : Int)) → τ c' r' i = σ c' r' i) : (pm_ws Y b base n σ).set (pm_pos c + 1 + r) (base + (pm_pos c + 1 + r), e) = pm_ws Y b base n τ := by
  refine pm_ws_set hn (by rw [(pm_ph2 c hc hk).2 r hr]; exact he) (fun j hj => ?_)
  by_cases q : (pm_ph j).1 = c
  · rw [q]
    refine pm_ce_r (by omega) (fun i => ho _ _ i (fun z => ?_))
    have h1 := pm_ph2u hc hk q
    have h2 := z.2
    omega
  · exact pm_ce_c (fun r' i => ho _ r' i (fun z => q z.1))
