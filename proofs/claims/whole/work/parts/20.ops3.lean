/-! THE CALLS THAT LOOK AHEAD, both sides -/
theorem sq_b0 {g : Bool} (h : sq_b g = 0) : g = false := by
  cases g with
  | true => exact absurd h (by decide)
  | false => rfl
theorem sq_b1 {g : Bool} (h : ¬ sq_b g = 0) : g = true := by
  cases g with
  | true => rfl
  | false => exact absurd rfl h
theorem i32_m1 (x : Int32) : x + Int32.ofInt (-1) = x - 1 := by rw [Int32.sub_eq_add_neg]; rfl
theorem nI_sb {a b : Nat} (h : b ≤ a) : nI a - nI b = nI (a - b) := by
  have h1 : nI a = nI (a - b) + nI b := by rw [nI_add, Nat.sub_add_cancel h]
  rw [h1, Int32.add_sub_cancel]
theorem rt_R_A {σ : rt_S} {h h1 : az_H} (hR : rt_R σ h) (hM : rt_M 61 σ.1 h1) (hF : ∀ a, a ≠ 61 → a ≠ 63 → a ≠ 69 → a ≠ 70 → h1 a = h a) : rt_R σ h1 := by
  obtain ⟨t, k, kt, l, r, f⟩ := hR
  exact ⟨hM, by rw [hF 59 (by omega) (by omega) (by omega) (by omega)]; exact k, fun q => rt_M_h (kt q) (hF 62 (by omega) (by omega) (by omega) (by omega)), by rw [hF 59 (by omega) (by omega) (by omega) (by omega), hF 64 (by omega) (by omega) (by omega) (by omega)]; exact l, by rw [hF 59 (by omega) (by omega) (by omega) (by omega), hF 74 (by omega) (by omega) (by omega) (by omega)]; exact r, by rw [hF 60 (by omega) (by omega) (by omega) (by omega)]; exact f⟩
set_option maxRecDepth 100000 in
theorem lp_mean {sc : az_S} {f : Nat → Nat} {h : az_H} {x w9 : Int32} {n : Nat} (hx : x = nI n) (hn : 1 ≤ n ∧ n ≤ 80) (hA : ∀ k, k < n → h 55 k = nI (f k)) : ∀ (d i : Nat) (s y : Int32), i ≤ n → n - i = d → s = nI (sq_su f i) → y = nI i → az_E sc az_m_X7_mean 29 [.ref 0, .int x, .int w9, .int s, .int y] [] h (fun v h1 => v = some (.int ((100 : Int32) * nI (sq_su f n) / nI n)) ∧ h1 = h) := by
  intro d
  induction d with
  | zero =>
    intro i s y hi hd hs hy
    have he : i = n := by omega
    refine az_er 2 rfl ?_
    refine az_ic_ge rfl rfl (fun c32 => ?_) (fun c32 => absurd (by rw [hy, hx, he]; exact nI_le (Nat.le_refl _) (by omega)) c32)
    refine az_er 4 rfl ?_
    refine az_ecallF rfl rfl rfl rfl (ct_quotient.eq (by rw [hx, if_neg (nI_nle (by omega) (by omega))]) rfl) ?_
    refine az_eret rfl rfl rfl ?_
    exact ⟨by rw [hs, he]; rfl, rfl⟩
  | succ d ih =>
    intro i s y hi hd hs hy
    refine az_er 2 rfl ?_
    refine az_ic_ge rfl rfl (fun c32 => absurd c32 (by rw [hy, hx]; exact nI_ge (by omega) (by omega))) (fun c32 => ?_)
    refine az_er 4 rfl ?_
    refine az_ecallF rfl rfl rfl rfl (ct_atI rfl hy (show i < 80 by omega) (by decide) (hA i (by omega))) ?_
    refine az_er 4 rfl ?_
    exact ih (i + 1) _ _ (by omega) (by omega) (by rw [hs, nI_add]; rfl) (by rw [hy]; exact nI_1' i)
set_option maxRecDepth 100000 in
theorem lm_mean {sc : az_S} {f : Nat → Nat} {h : az_H} {x : Int32} {n : Nat} (hx : x = nI n) (hn : 1 ≤ n ∧ n ≤ 80) (hA : ∀ k, k < n → h 70 (k + 1) = nI (f k)) : ∀ (d i : Nat) (s y : Int32), i ≤ n → n - i = d → s = nI (sq_su f i) → y = nI (i + 1) → az_E sc az_m_X8_mean 33 [.ref 59, .int x, .int s, .int y] [] h (fun v h1 => v = some (.int ((100 : Int32) * nI (sq_su f n) / nI n)) ∧ h1 = h) := by
  intro d
  induction d with
  | zero =>
    intro i s y hi hd hs hy
    have he : i = n := by omega
    refine az_er 2 rfl ?_
    refine az_ic_gt rfl rfl (fun c35 => ?_) (fun c35 => absurd (by rw [hy, hx, nI_ltI (by omega) (by omega)]; omega) c35)
    refine az_er 4 rfl ?_
    refine az_div rfl (by rw [hx]; exact nI_ne0 (by omega) (by omega)) ?_
    refine az_eret rfl rfl rfl ?_
    exact ⟨by rw [hs, he, hx]; rfl, rfl⟩
  | succ d ih =>
    intro i s y hi hd hs hy
    refine az_er 2 rfl ?_
    refine az_ic_gt rfl rfl (fun c35 => absurd c35 (by rw [hy, hx, nI_ltI (by omega) (by omega)]; omega)) (fun c35 => ?_)
    refine az_er 4 rfl ?_
    refine az_iaI rfl rfl hy (show i + 1 < 81 by omega) (by decide) (hA i (by omega)) ?_
    refine az_er 4 rfl ?_
    exact ih (i + 1) _ _ (by omega) (by omega) (by rw [hs, nI_add]; rfl) (by rw [hy]; exact nI_1' (i + 1))
set_option maxRecDepth 100000 in
theorem lp_good {sc : az_S} {f : Nat → Nat} {h : az_H} {x w9 : Int32} {n : Nat} (hx : x = nI n) (hn : 1 ≤ n ∧ n ≤ 80) (hA : ∀ k, k < n → h 55 k = nI (f k)) {c : Nat} (hc : h 1 3 = nI c) : ∀ (d i : Nat) (s y : Int32), i ≤ n → n - i = d → s = nI (sq_cg f c i) → y = nI i → az_E sc az_m_X7_good 29 [.ref 0, .int x, .int w9, .int s, .int y] [] h (fun v h1 => v = some (.int (nI (sq_cg f c n))) ∧ h1 = h) := by
  intro d
  induction d with
  | zero =>
    intro i s y hi hd hs hy
    have he : i = n := by omega
    refine az_er 2 rfl ?_
    refine az_ic_ge rfl rfl (fun c32 => ?_) (fun c32 => absurd (by rw [hy, hx, he]; exact nI_le (Nat.le_refl _) (by omega)) c32)
    refine az_er 1 rfl ?_
    refine az_eret rfl rfl rfl ?_
    exact ⟨by rw [hs, he], rfl⟩
  | succ d ih =>
    intro i s y hi hd hs hy
    refine az_er 2 rfl ?_
    refine az_ic_ge rfl rfl (fun c32 => absurd c32 (by rw [hy, hx]; exact nI_ge (by omega) (by omega))) (fun c32 => ?_)
    refine az_er 3 rfl ?_
    refine az_ecallF rfl rfl rfl rfl (ct_atI rfl hy (show i < 80 by omega) (by decide) (hA i (by omega))) ?_
    refine az_er 3 rfl ?_
    rw [hc]
    refine az_ic_gt rfl rfl (fun c51 => ?_) (fun c51 => ?_)
    · refine az_er 2 rfl ?_
      exact ih (i + 1) _ _ (by omega) (by omega) (by first | (rw [sq_cg, if_neg (Int32.not_le.mpr c51)]; exact hs) | (rw [sq_cg, if_pos (Int32.not_lt.mp c51), hs]; exact nI_1' _)) (by rw [hy]; exact nI_1' i)
    · refine az_er 3 rfl ?_
      exact ih (i + 1) _ _ (by omega) (by omega) (by first | (rw [sq_cg, if_neg (Int32.not_le.mpr c51)]; exact hs) | (rw [sq_cg, if_pos (Int32.not_lt.mp c51), hs]; exact nI_1' _)) (by rw [hy]; exact nI_1' i)
set_option maxRecDepth 100000 in
theorem lm_good {sc : az_S} {f : Nat → Nat} {h : az_H} {x : Int32} {n : Nat} (hx : x = nI n) (hn : 1 ≤ n ∧ n ≤ 80) (hA : ∀ k, k < n → h 70 (k + 1) = nI (f k)) {c : Nat} (hc : h 61 2 = nI c) : ∀ (d i : Nat) (s y : Int32), i ≤ n → n - i = d → s = nI (sq_cg f c i) → y = nI (i + 1) → az_E sc az_m_X8_good 33 [.ref 59, .int x, .int s, .int y] [] h (fun v h1 => v = some (.int (nI (sq_cg f c n))) ∧ h1 = h) := by
  intro d
  induction d with
  | zero =>
    intro i s y hi hd hs hy
    have he : i = n := by omega
    refine az_er 2 rfl ?_
    refine az_ic_gt rfl rfl (fun c35 => ?_) (fun c35 => absurd (by rw [hy, hx, nI_ltI (by omega) (by omega)]; omega) c35)
    refine az_er 1 rfl ?_
    refine az_eret rfl rfl rfl ?_
    exact ⟨by rw [hs, he], rfl⟩
  | succ d ih =>
    intro i s y hi hd hs hy
    refine az_er 2 rfl ?_
    refine az_ic_gt rfl rfl (fun c35 => absurd c35 (by rw [hy, hx, nI_ltI (by omega) (by omega)]; omega)) (fun c35 => ?_)
    refine az_er 4 rfl ?_
    refine az_iaI rfl rfl hy (show i + 1 < 81 by omega) (by decide) (hA i (by omega)) ?_
    refine az_er 3 rfl ?_
    refine az_iaI rfl rfl (j := 2) rfl (by decide) (by decide) hc ?_
    refine az_ic_gt rfl rfl (fun c51 => ?_) (fun c51 => ?_)
    · refine az_er 5 rfl ?_
      exact ih (i + 1) _ _ (by omega) (by omega) (by first | (rw [sq_cg, if_neg (Int32.not_le.mpr c51), hs]; exact Int32.add_zero _) | (rw [sq_cg, if_pos (Int32.not_lt.mp c51), hs]; exact nI_1' _)) (by rw [hy]; exact nI_1' (i + 1))
    · refine az_er 6 rfl ?_
      exact ih (i + 1) _ _ (by omega) (by omega) (by first | (rw [sq_cg, if_neg (Int32.not_le.mpr c51), hs]; exact Int32.add_zero _) | (rw [sq_cg, if_pos (Int32.not_lt.mp c51), hs]; exact nI_1' _)) (by rw [hy]; exact nI_1' (i + 1))
set_option maxRecDepth 100000 in
theorem lp_ca {sc : az_S} {f : Nat → Nat} {h : az_H} {x : Int32} {n : Nat} (hx : x = nI n) (hn : n ≤ 40) (hA : ∀ k, k < 80 → h 55 k = nI (f k)) : ∀ (d i : Nat) (y : Int32), i ≤ 40 → 40 - i = d → (∀ k, k < i → nI (f k) = nI (f (k + n))) → y = nI i → az_E sc az_m_X7_comesAgainAfter 2 [.ref 0, .int x, .int y] [] h (fun v h1 => v = some (.int (sq_b (sq_ca f n))) ∧ h1 = h) := by
  intro d
  induction d with
  | zero =>
    intro i y hi hd hE hy
    have he : i = 40 := by omega
    refine az_er 2 rfl ?_
    refine az_ic_ge rfl rfl (fun c5 => ?_) (fun c5 => absurd (by rw [hy, he]; decide) c5)
    refine az_er 1 rfl ?_
    refine az_eret rfl rfl rfl ?_
    exact ⟨by rw [sq_ca, sq_cn_t 40 (fun k hk => hE k (by omega))]; rfl, rfl⟩
  | succ d ih =>
    intro i y hi hd hE hy
    refine az_er 2 rfl ?_
    refine az_ic_ge rfl rfl (fun c5 => absurd c5 (by rw [hy]; exact nI_ge (b := 40) (by omega) (by omega))) (fun c5 => ?_)
    refine az_er 3 rfl ?_
    refine az_ecallF rfl rfl rfl rfl (ct_atI rfl hy (show i < 80 by omega) (by decide) (hA i (by omega))) ?_
    refine az_er 5 rfl ?_
    refine az_ecallF rfl rfl rfl rfl (ct_atI rfl (show _ = nI (i + n) by rw [hy, hx, nI_add]) (show i + n < 80 by omega) (by decide) (hA (i + n) (by omega))) ?_
    refine az_ic_eq rfl rfl (fun c26 => ?_) (fun c26 => ?_)
    · refine az_er 2 rfl ?_
      refine ih (i + 1) _ (by omega) (by omega) (fun k hk => ?_) (by rw [hy]; exact nI_1' i)
      by_cases h9 : k = i
      · rw [h9]; exact c26
      · exact hE k (by omega)
    · refine az_er 1 rfl ?_
      refine az_eret rfl rfl rfl ?_
      exact ⟨by rw [sq_ca, sq_cn_f c26 40 (by omega)]; rfl, rfl⟩
set_option maxRecDepth 100000 in
theorem ct_ca {sc : az_S} {f : Nat → Nat} {h : az_H} {x : Int32} {n : Nat} (hx : x = nI n) (hn : n ≤ 40) (hA : ∀ k, k < 80 → h 55 k = nI (f k)) : az_F sc az_m_X7_comesAgainAfter [.ref 0, .int x] h (some (.int (sq_b (sq_ca f n)))) h := by
  refine az_F.of ?_
  refine az_er 2 rfl ?_
  exact lp_ca hx hn hA 40 0 0 (by decide) rfl (fun k hk => absurd hk (Nat.not_lt_zero k)) rfl
set_option maxRecDepth 100000 in
theorem lp_again {sc : az_S} {f : Nat → Nat} {h : az_H} (hA : ∀ k, k < 80 → h 55 k = nI (f k)) : ∀ (d i : Nat) (y : Int32), i + d = 41 → y = nI i → az_E sc az_m_X7_again 9 [.ref 0, .int y] [] h (fun v h1 => v = some (.int (sq_j1 (sq_ca f) d i)) ∧ h1 = h) := by
  intro d
  induction d with
  | zero =>
    intro i y hi hy
    refine az_er 2 rfl ?_
    refine az_ic_gt rfl rfl (fun c12 => ?_) (fun c12 => absurd (by rw [hy]; exact nI_lt (a := 40) (by omega) (by omega)) c12)
    refine az_er 1 rfl ?_
    refine az_eret rfl rfl rfl ?_
    exact ⟨rfl, rfl⟩
  | succ d ih =>
    intro i y hi hy
    refine az_er 2 rfl ?_
    refine az_ic_gt rfl rfl (fun c12 => absurd c12 (by rw [hy]; exact nI_nlt (a := 40) (by omega) (by omega))) (fun c12 => ?_)
    refine az_er 2 rfl ?_
    refine az_ecallF rfl rfl rfl rfl (ct_ca hy (by omega) hA) ?_
    refine az_if_eq rfl rfl (fun c20 => ?_) (fun c20 => ?_)
    · refine az_er 2 rfl ?_
      cases hq : sq_ca f i with
      | true => rw [hq] at c20; exact absurd c20 (by decide)
      | false =>
        rw [sq_j1, if_neg (by rw [hq]; decide)]
        exact ih (i + 1) _ (by omega) (by rw [hy]; exact nI_1' i)
    · refine az_er 1 rfl ?_
      refine az_eret rfl rfl rfl ?_
      exact ⟨by cases hq : sq_ca f i with | false => rw [hq] at c20; exact absurd rfl c20 | true => rw [sq_j1, if_pos hq, hy], rfl⟩
set_option maxRecDepth 100000 in
theorem lm_ag1 {sc : az_S} {f : Nat → Nat} {h : az_H} {Q : Option Value → az_H → Prop} {y : Int32} {n : Nat} (hy : y = nI n) (hn : n ≤ 40) (hA : ∀ k, k < 80 → h 70 (k + 1) = nI (f k)) (K : ∀ a z : Int32, a = sq_b (sq_ca f n) → az_E sc az_m_X8_again 59 [.ref 59, .int y, .int a, .int z] [] h Q) : ∀ (d i : Nat) (a z : Int32), i ≤ 40 → 40 - i = d → a = sq_b (sq_cn f n i) → z = nI (i + 1) → az_E sc az_m_X8_again 20 [.ref 59, .int y, .int a, .int z] [] h Q := by
  intro d
  induction d with
  | zero =>
    intro i a z hi hd ha hz
    have he : i = 40 := by omega
    refine az_er 2 rfl ?_
    refine az_ic_gt rfl rfl (fun c23 => ?_) (fun c23 => absurd (by rw [hz, he]; decide) c23)
    exact K a z (by rw [ha, he]; rfl)
  | succ d ih =>
    intro i a z hi hd ha hz
    refine az_er 2 rfl ?_
    refine az_ic_gt rfl rfl (fun c23 => absurd c23 (by rw [hz]; exact nI_nlt (a := 40) (by omega) (by omega))) (fun c23 => ?_)
    refine az_er 1 rfl ?_
    refine az_if_eq rfl rfl (fun c27 => ?_) (fun c27 => ?_)
    · refine az_er 4 rfl ?_
      refine ih (i + 1) _ _ (by omega) (by omega) ?_ (by rw [hz]; exact nI_1' (i + 1))
      rw [sq_cn]
      first
      | (rw [ha] at c27; rw [sq_b0 c27, Bool.false_and]; rfl)
      | (rw [ha] at c27; rw [sq_b1 c27, decide_eq_true c44]; rfl)
      | (rw [decide_eq_false c44, Bool.and_false]; rfl)
    · refine az_er 3 rfl ?_
      refine az_iaI rfl rfl hz (show i + 1 < 81 by omega) (by decide) (hA i (by omega)) ?_
      refine az_er 5 rfl ?_
      refine az_iaI rfl rfl (show _ = nI (i + n + 1) by rw [hz, hy, nI_add, show i + 1 + n = i + n + 1 by omega]) (show i + n + 1 < 81 by omega) (by decide) (hA (i + n) (by omega)) ?_
      refine az_ic_ne rfl rfl (fun c44 => ?_) (fun c44 => ?_)
      · refine az_er 4 rfl ?_
        refine ih (i + 1) _ _ (by omega) (by omega) ?_ (by rw [hz]; exact nI_1' (i + 1))
        rw [sq_cn]
        first
        | (rw [ha] at c27; rw [sq_b0 c27, Bool.false_and]; rfl)
        | (rw [ha] at c27; rw [sq_b1 c27, decide_eq_true c44]; rfl)
        | (rw [decide_eq_false c44, Bool.and_false]; rfl)
      · refine az_er 5 rfl ?_
        refine ih (i + 1) _ _ (by omega) (by omega) ?_ (by rw [hz]; exact nI_1' (i + 1))
        rw [sq_cn]
        first
        | (rw [ha] at c27; rw [sq_b0 c27, Bool.false_and]; rfl)
        | (rw [ha] at c27; rw [sq_b1 c27, decide_eq_true c44]; rfl)
        | (rw [decide_eq_false c44, Bool.and_false]; rfl)
set_option maxRecDepth 100000 in
theorem lm_again {sc : az_S} {f : Nat → Nat} {h : az_H} (hA : ∀ k, k < 80 → h 70 (k + 1) = nI (f k)) : ∀ (d i : Nat) (y : Int32) (tl : List Value), i + d = 41 → y = nI i → (tl = [] ∨ ∃ a z, tl = [.int a, .int z]) → az_E sc az_m_X8_again 10 (.ref 59 :: .int y :: tl) [] h (fun v h1 => v = some (.int (sq_j1 (sq_ca f) d i)) ∧ h1 = h) := by
  intro d
  induction d with
  | zero =>
    intro i y tl hi hy htl
    refine az_er 2 rfl ?_
    refine az_ic_gt rfl rfl (fun c13 => ?_) (fun c13 => absurd (by rw [hy]; exact nI_lt (a := 40) (by omega) (by omega)) c13)
    refine az_er 1 rfl ?_
    refine az_eret rfl rfl rfl ?_
    exact ⟨rfl, rfl⟩
  | succ d ih =>
    intro i y tl hi hy htl
    rcases htl with rfl | ⟨a9, z9, rfl⟩
    · skip
      refine az_er 2 rfl ?_
      refine az_ic_gt rfl rfl (fun c13 => absurd c13 (by rw [hy]; exact nI_nlt (a := 40) (by omega) (by omega))) (fun c13 => ?_)
      refine az_er 4 rfl ?_
      refine lm_ag1 hy (by omega) hA (fun a z ha => ?_) 40 0 1 1 (by decide) rfl rfl rfl
      refine az_er 1 rfl ?_
      refine az_if_eq rfl rfl (fun c60 => ?_) (fun c60 => ?_)
      · refine az_er 2 rfl ?_
        cases hq : sq_ca f i with
        | true => rw [ha, hq] at c60; exact absurd c60 (by decide)
        | false =>
          rw [sq_j1, if_neg (by rw [hq]; decide)]
          exact ih (i + 1) _ _ (by omega) (by rw [hy]; exact nI_1' i) (Or.inr ⟨_, _, rfl⟩)
      · refine az_er 1 rfl ?_
        refine az_eret rfl rfl rfl ?_
        exact ⟨by cases hq : sq_ca f i with | false => rw [ha, hq] at c60; exact absurd rfl c60 | true => rw [sq_j1, if_pos hq, hy], rfl⟩
    · skip
      refine az_er 2 rfl ?_
      refine az_ic_gt rfl rfl (fun c13 => absurd c13 (by rw [hy]; exact nI_nlt (a := 40) (by omega) (by omega))) (fun c13 => ?_)
      refine az_er 4 rfl ?_
      refine lm_ag1 hy (by omega) hA (fun a z ha => ?_) 40 0 1 1 (by decide) rfl rfl rfl
      refine az_er 1 rfl ?_
      refine az_if_eq rfl rfl (fun c60 => ?_) (fun c60 => ?_)
      · refine az_er 2 rfl ?_
        cases hq : sq_ca f i with
        | true => rw [ha, hq] at c60; exact absurd c60 (by decide)
        | false =>
          rw [sq_j1, if_neg (by rw [hq]; decide)]
          exact ih (i + 1) _ _ (by omega) (by rw [hy]; exact nI_1' i) (Or.inr ⟨_, _, rfl⟩)
      · refine az_er 1 rfl ?_
        refine az_eret rfl rfl rfl ?_
        exact ⟨by cases hq : sq_ca f i with | false => rw [ha, hq] at c60; exact absurd rfl c60 | true => rw [sq_j1, if_pos hq, hy], rfl⟩
set_option maxRecDepth 100000 in
theorem op_after {x : Int32} : rt_op az_m_X7_after az_m_X8_after [.int x] := by
  intro sc σ h hC hW
  rcases rt_cas (x := x) (lo := 1) (hi := 60) with hx | hx | hx
  · refine ⟨-4, sp_ref σ 4, hW, ?_, ?_⟩
    · refine az_er 3 rfl ?_
      refine az_ecallF rfl rfl rfl rfl (ct_outB hx) ?_
      refine az_er 2 rfl ?_
      refine az_if_eq rfl rfl (fun c9 => absurd c9 (by decide)) (fun c9 => ?_)
      refine az_er 2 rfl ?_
      refine az_ecall rfl rfl rfl rfl (ct_refuse hC (k := 4) (by decide) (by decide)) ?_
      rintro _ hh ⟨rfl, hh2, hh3⟩
      refine az_eret rfl rfl rfl ?_
      exact ⟨rfl, hh2, hh3⟩
    · intro h1 hR
      refine az_er 3 rfl ?_
      refine az_ecallF rfl rfl rfl rfl (cm_isWrong.eq (by rw [az_outB hx]) rfl) ?_
      refine az_if_eq rfl rfl (fun c7 => absurd c7 (by decide)) (fun c7 => ?_)
      refine az_er 4 rfl ?_
      refine az_ecallF rfl rfl rfl rfl (cm_isWrong.eq (by rw [az_outB hx]) rfl) ?_
      refine az_ecall rfl rfl rfl rfl (cm_no hR (k := 4) (by decide) (by decide)) ?_
      rintro _ hh ⟨rfl, hh2, hh3⟩
      refine az_eret rfl rfl rfl ?_
      exact ⟨rfl, hh2, hh3⟩
  · refine ⟨-6, sp_ref σ 6, hW, ?_, ?_⟩
    · refine az_er 3 rfl ?_
      refine az_ecallF rfl rfl rfl rfl (ct_outR hx.1 hx.2) ?_
      refine az_er 2 rfl ?_
      refine az_if_eq rfl rfl (fun c9 => absurd c9 (by decide)) (fun c9 => ?_)
      refine az_er 2 rfl ?_
      refine az_ecall rfl rfl rfl rfl (ct_refuse hC (k := 6) (by decide) (by decide)) ?_
      rintro _ hh ⟨rfl, hh2, hh3⟩
      refine az_eret rfl rfl rfl ?_
      exact ⟨rfl, hh2, hh3⟩
    · intro h1 hR
      refine az_er 3 rfl ?_
      refine az_ecallF rfl rfl rfl rfl ((cm_isWrong (y := 60)).eq (by rw [az_outR hx]) rfl) ?_
      refine az_if_eq rfl rfl (fun c7 => absurd c7 (by decide)) (fun c7 => ?_)
      refine az_er 4 rfl ?_
      refine az_ecallF rfl rfl rfl rfl ((cm_isWrong (y := 60)).eq (by rw [az_outR hx]) rfl) ?_
      refine az_ecall rfl rfl rfl rfl (cm_no hR (k := 6) (by decide) (by decide)) ?_
      rintro _ hh ⟨rfl, hh2, hh3⟩
      refine az_eret rfl rfl rfl ?_
      exact ⟨rfl, hh2, hh3⟩
  · obtain ⟨n, hn, rfl⟩ := rt_nat (x := x) (m := 60) (Int32.le_trans (by decide) hx.1) hx.2 (by decide)
    have hn1 : 1 ≤ n := (nI_leI (a := 1) (by omega) (by omega)).mp hx.1
    refine ⟨nI (sq_ah σ.1 (n - 1)), σ, hW, ?_, ?_⟩
    · refine az_er 3 rfl ?_
      refine az_ecallF rfl rfl rfl rfl (ct_out0 hx.1 hx.2) ?_
      refine az_er 2 rfl ?_
      refine az_if_eq rfl rfl (fun c9 => ?_) (fun c9 => absurd rfl c9)
      refine az_er 3 rfl ?_
      refine az_ecall rfl rfl rfl rfl (ct_lookAhead hC.1 hW.1 rfl (by omega)) ?_
      rintro _ h2 ⟨rfl, l1, l2, l3⟩
      have hC2 := rt_C_F hC (rt_Fs_m l3)
      refine az_er 5 rfl ?_
      refine az_ecallF rfl rfl rfl rfl (ct_atI (j := n - 1) rfl (show nI n - 1 = nI (n - 1) by rw [show n = n - 1 + 1 by omega]; exact nI_pred _) (by omega) (by decide) (l2 (n - 1) (by omega))) ?_
      refine az_eret rfl rfl rfl ?_
      exact ⟨rfl, hC2, fun a ha => l3 a (by omega) (by omega)⟩
    · intro h1 hR
      refine az_er 3 rfl ?_
      refine az_ecallF rfl rfl rfl rfl ((cm_isWrong (y := 60)).eq (by rw [az_out0 hx]) rfl) ?_
      refine az_if_eq rfl rfl (fun c7 => ?_) (fun c7 => absurd rfl c7)
      refine az_er 3 rfl ?_
      refine az_ecall rfl rfl rfl rfl (cm_gaN hR.1 hW.1 rfl (by omega) rfl) ?_
      rintro _ h2 ⟨rfl, l1, l2, l3⟩
      have hR2 := rt_R_A hR l1 l3
      refine az_er 4 rfl ?_
      refine az_iaI rfl rfl (j := n) rfl (by omega) (by decide) (show h2 70 n = nI (sq_ah σ.1 (n - 1)) by rw [show n = n - 1 + 1 by omega]; exact l2 (n - 1) (by omega)) ?_
      refine az_eret rfl rfl rfl ?_
      exact ⟨rfl, hR2, fun a ha => l3 a (by omega) (by omega) (by omega) (by omega)⟩
set_option maxRecDepth 100000 in
theorem op_mean {x : Int32} : rt_op az_m_X7_mean az_m_X8_mean [.int x] := by
  intro sc σ h hC hW
  rcases rt_cas (x := x) (lo := 1) (hi := 60) with hx | hx | hx
  · refine ⟨-4, sp_ref σ 4, hW, ?_, ?_⟩
    · refine az_er 3 rfl ?_
      refine az_ecallF rfl rfl rfl rfl (ct_outB hx) ?_
      refine az_er 2 rfl ?_
      refine az_if_eq rfl rfl (fun c9 => absurd c9 (by decide)) (fun c9 => ?_)
      refine az_er 2 rfl ?_
      refine az_ecall rfl rfl rfl rfl (ct_refuse hC (k := 4) (by decide) (by decide)) ?_
      rintro _ hh ⟨rfl, hh2, hh3⟩
      refine az_eret rfl rfl rfl ?_
      exact ⟨rfl, hh2, hh3⟩
    · intro h1 hR
      refine az_er 3 rfl ?_
      refine az_ecallF rfl rfl rfl rfl (cm_isWrong.eq (by rw [az_outB hx]) rfl) ?_
      refine az_if_eq rfl rfl (fun c7 => absurd c7 (by decide)) (fun c7 => ?_)
      refine az_er 4 rfl ?_
      refine az_ecallF rfl rfl rfl rfl (cm_isWrong.eq (by rw [az_outB hx]) rfl) ?_
      refine az_ecall rfl rfl rfl rfl (cm_no hR (k := 4) (by decide) (by decide)) ?_
      rintro _ hh ⟨rfl, hh2, hh3⟩
      refine az_eret rfl rfl rfl ?_
      exact ⟨rfl, hh2, hh3⟩
  · refine ⟨-6, sp_ref σ 6, hW, ?_, ?_⟩
    · refine az_er 3 rfl ?_
      refine az_ecallF rfl rfl rfl rfl (ct_outR hx.1 hx.2) ?_
      refine az_er 2 rfl ?_
      refine az_if_eq rfl rfl (fun c9 => absurd c9 (by decide)) (fun c9 => ?_)
      refine az_er 2 rfl ?_
      refine az_ecall rfl rfl rfl rfl (ct_refuse hC (k := 6) (by decide) (by decide)) ?_
      rintro _ hh ⟨rfl, hh2, hh3⟩
      refine az_eret rfl rfl rfl ?_
      exact ⟨rfl, hh2, hh3⟩
    · intro h1 hR
      refine az_er 3 rfl ?_
      refine az_ecallF rfl rfl rfl rfl ((cm_isWrong (y := 60)).eq (by rw [az_outR hx]) rfl) ?_
      refine az_if_eq rfl rfl (fun c7 => absurd c7 (by decide)) (fun c7 => ?_)
      refine az_er 4 rfl ?_
      refine az_ecallF rfl rfl rfl rfl ((cm_isWrong (y := 60)).eq (by rw [az_outR hx]) rfl) ?_
      refine az_ecall rfl rfl rfl rfl (cm_no hR (k := 6) (by decide) (by decide)) ?_
      rintro _ hh ⟨rfl, hh2, hh3⟩
      refine az_eret rfl rfl rfl ?_
      exact ⟨rfl, hh2, hh3⟩
  · obtain ⟨n, hn, rfl⟩ := rt_nat (x := x) (m := 60) (Int32.le_trans (by decide) hx.1) hx.2 (by decide)
    have hn1 : 1 ≤ n := (nI_leI (a := 1) (by omega) (by omega)).mp hx.1
    refine ⟨(100 : Int32) * nI (sq_su (sq_ah σ.1) n) / nI n, σ, hW, ?_, ?_⟩
    · refine az_er 3 rfl ?_
      refine az_ecallF rfl rfl rfl rfl (ct_out0 hx.1 hx.2) ?_
      refine az_er 2 rfl ?_
      refine az_if_eq rfl rfl (fun c9 => ?_) (fun c9 => absurd rfl c9)
      refine az_er 3 rfl ?_
      refine az_ecall rfl rfl rfl rfl (ct_lookAhead hC.1 hW.1 rfl (by omega)) ?_
      rintro _ h2 ⟨rfl, l1, l2, l3⟩
      have hC2 := rt_C_F hC (rt_Fs_m l3)
      refine az_er 4 rfl ?_
      refine az_E.mono (lp_mean rfl ⟨hn1, by omega⟩ l2 n 0 0 0 (Nat.zero_le _) (by omega) rfl rfl) ?_
      rintro _ h3 ⟨rfl, rfl⟩
      exact ⟨rfl, hC2, fun a ha => l3 a (by omega) (by omega)⟩
    · intro h1 hR
      refine az_er 3 rfl ?_
      refine az_ecallF rfl rfl rfl rfl ((cm_isWrong (y := 60)).eq (by rw [az_out0 hx]) rfl) ?_
      refine az_if_eq rfl rfl (fun c7 => ?_) (fun c7 => absurd rfl c7)
      refine az_er 3 rfl ?_
      refine az_ecall rfl rfl rfl rfl (cm_gaN hR.1 hW.1 rfl (by omega) rfl) ?_
      rintro _ h2 ⟨rfl, l1, l2, l3⟩
      have hR2 := rt_R_A hR l1 l3
      refine az_er 5 rfl ?_
      refine az_E.mono (lm_mean rfl ⟨hn1, by omega⟩ l2 n 0 0 1 (Nat.zero_le _) (by omega) rfl rfl) ?_
      rintro _ h3 ⟨rfl, rfl⟩
      exact ⟨rfl, hR2, fun a ha => l3 a (by omega) (by omega) (by omega) (by omega)⟩
set_option maxRecDepth 100000 in
theorem op_swing {x : Int32} : rt_op az_m_X7_swing az_m_X8_swing [.int x] := by
  intro sc σ h hC hW
  rcases rt_cas (x := x) (lo := 1) (hi := 60) with hx | hx | hx
  · refine ⟨-4, sp_ref σ 4, hW, ?_, ?_⟩
    · refine az_er 3 rfl ?_
      refine az_ecallF rfl rfl rfl rfl (ct_outB hx) ?_
      refine az_er 2 rfl ?_
      refine az_if_eq rfl rfl (fun c9 => absurd c9 (by decide)) (fun c9 => ?_)
      refine az_er 2 rfl ?_
      refine az_ecall rfl rfl rfl rfl (ct_refuse hC (k := 4) (by decide) (by decide)) ?_
      rintro _ hh ⟨rfl, hh2, hh3⟩
      refine az_eret rfl rfl rfl ?_
      exact ⟨rfl, hh2, hh3⟩
    · intro h1 hR
      refine az_er 3 rfl ?_
      refine az_ecallF rfl rfl rfl rfl (cm_isWrong.eq (by rw [az_outB hx]) rfl) ?_
      refine az_if_eq rfl rfl (fun c7 => absurd c7 (by decide)) (fun c7 => ?_)
      refine az_er 4 rfl ?_
      refine az_ecallF rfl rfl rfl rfl (cm_isWrong.eq (by rw [az_outB hx]) rfl) ?_
      refine az_ecall rfl rfl rfl rfl (cm_no hR (k := 4) (by decide) (by decide)) ?_
      rintro _ hh ⟨rfl, hh2, hh3⟩
      refine az_eret rfl rfl rfl ?_
      exact ⟨rfl, hh2, hh3⟩
  · refine ⟨-6, sp_ref σ 6, hW, ?_, ?_⟩
    · refine az_er 3 rfl ?_
      refine az_ecallF rfl rfl rfl rfl (ct_outR hx.1 hx.2) ?_
      refine az_er 2 rfl ?_
      refine az_if_eq rfl rfl (fun c9 => absurd c9 (by decide)) (fun c9 => ?_)
      refine az_er 2 rfl ?_
      refine az_ecall rfl rfl rfl rfl (ct_refuse hC (k := 6) (by decide) (by decide)) ?_
      rintro _ hh ⟨rfl, hh2, hh3⟩
      refine az_eret rfl rfl rfl ?_
      exact ⟨rfl, hh2, hh3⟩
    · intro h1 hR
      refine az_er 3 rfl ?_
      refine az_ecallF rfl rfl rfl rfl ((cm_isWrong (y := 60)).eq (by rw [az_outR hx]) rfl) ?_
      refine az_if_eq rfl rfl (fun c7 => absurd c7 (by decide)) (fun c7 => ?_)
      refine az_er 4 rfl ?_
      refine az_ecallF rfl rfl rfl rfl ((cm_isWrong (y := 60)).eq (by rw [az_outR hx]) rfl) ?_
      refine az_ecall rfl rfl rfl rfl (cm_no hR (k := 6) (by decide) (by decide)) ?_
      rintro _ hh ⟨rfl, hh2, hh3⟩
      refine az_eret rfl rfl rfl ?_
      exact ⟨rfl, hh2, hh3⟩
  · obtain ⟨n, hn, rfl⟩ := rt_nat (x := x) (m := 60) (Int32.le_trans (by decide) hx.1) hx.2 (by decide)
    have hn1 : 1 ≤ n := (nI_leI (a := 1) (by omega) (by omega)).mp hx.1
    refine ⟨sq_sw (sq_ah σ.1) n, σ, hW, ?_, ?_⟩
    · refine az_er 3 rfl ?_
      refine az_ecallF rfl rfl rfl rfl (ct_out0 hx.1 hx.2) ?_
      refine az_er 2 rfl ?_
      refine az_if_eq rfl rfl (fun c9 => ?_) (fun c9 => absurd rfl c9)
      refine az_er 3 rfl ?_
      refine az_ecall rfl rfl rfl rfl (ct_lookAhead hC.1 hW.1 rfl (by omega)) ?_
      rintro _ h2 ⟨rfl, l1, l2, l3⟩
      have hC2 := rt_C_F hC (rt_Fs_m l3)
      refine az_er 2 rfl ?_
      refine az_ecallF rfl rfl rfl rfl (ct_swing rfl ⟨hn1, by omega⟩ l2) ?_
      refine az_eret rfl rfl rfl ?_
      exact ⟨rfl, hC2, fun a ha => l3 a (by omega) (by omega)⟩
    · intro h1 hR
      refine az_er 3 rfl ?_
      refine az_ecallF rfl rfl rfl rfl ((cm_isWrong (y := 60)).eq (by rw [az_out0 hx]) rfl) ?_
      refine az_if_eq rfl rfl (fun c7 => ?_) (fun c7 => absurd rfl c7)
      refine az_er 3 rfl ?_
      refine az_ecall rfl rfl rfl rfl (cm_gaN hR.1 hW.1 rfl (by omega) rfl) ?_
      rintro _ h2 ⟨rfl, l1, l2, l3⟩
      have hR2 := rt_R_A hR l1 l3
      refine az_er 3 rfl ?_
      refine az_ecallF rfl rfl rfl rfl (cm_swing rfl ⟨hn1, by omega⟩ l2) ?_
      refine az_eret rfl rfl rfl ?_
      exact ⟨rfl, hR2, fun a ha => l3 a (by omega) (by omega) (by omega) (by omega)⟩
set_option maxRecDepth 100000 in
theorem op_good {x : Int32} : rt_op az_m_X7_good az_m_X8_good [.int x] := by
  intro sc σ h hC hW
  rcases rt_cas (x := x) (lo := 1) (hi := 60) with hx | hx | hx
  · refine ⟨-4, sp_ref σ 4, hW, ?_, ?_⟩
    · refine az_er 3 rfl ?_
      refine az_ecallF rfl rfl rfl rfl (ct_outB hx) ?_
      refine az_er 2 rfl ?_
      refine az_if_eq rfl rfl (fun c9 => absurd c9 (by decide)) (fun c9 => ?_)
      refine az_er 2 rfl ?_
      refine az_ecall rfl rfl rfl rfl (ct_refuse hC (k := 4) (by decide) (by decide)) ?_
      rintro _ hh ⟨rfl, hh2, hh3⟩
      refine az_eret rfl rfl rfl ?_
      exact ⟨rfl, hh2, hh3⟩
    · intro h1 hR
      refine az_er 3 rfl ?_
      refine az_ecallF rfl rfl rfl rfl (cm_isWrong.eq (by rw [az_outB hx]) rfl) ?_
      refine az_if_eq rfl rfl (fun c7 => absurd c7 (by decide)) (fun c7 => ?_)
      refine az_er 4 rfl ?_
      refine az_ecallF rfl rfl rfl rfl (cm_isWrong.eq (by rw [az_outB hx]) rfl) ?_
      refine az_ecall rfl rfl rfl rfl (cm_no hR (k := 4) (by decide) (by decide)) ?_
      rintro _ hh ⟨rfl, hh2, hh3⟩
      refine az_eret rfl rfl rfl ?_
      exact ⟨rfl, hh2, hh3⟩
  · refine ⟨-6, sp_ref σ 6, hW, ?_, ?_⟩
    · refine az_er 3 rfl ?_
      refine az_ecallF rfl rfl rfl rfl (ct_outR hx.1 hx.2) ?_
      refine az_er 2 rfl ?_
      refine az_if_eq rfl rfl (fun c9 => absurd c9 (by decide)) (fun c9 => ?_)
      refine az_er 2 rfl ?_
      refine az_ecall rfl rfl rfl rfl (ct_refuse hC (k := 6) (by decide) (by decide)) ?_
      rintro _ hh ⟨rfl, hh2, hh3⟩
      refine az_eret rfl rfl rfl ?_
      exact ⟨rfl, hh2, hh3⟩
    · intro h1 hR
      refine az_er 3 rfl ?_
      refine az_ecallF rfl rfl rfl rfl ((cm_isWrong (y := 60)).eq (by rw [az_outR hx]) rfl) ?_
      refine az_if_eq rfl rfl (fun c7 => absurd c7 (by decide)) (fun c7 => ?_)
      refine az_er 4 rfl ?_
      refine az_ecallF rfl rfl rfl rfl ((cm_isWrong (y := 60)).eq (by rw [az_outR hx]) rfl) ?_
      refine az_ecall rfl rfl rfl rfl (cm_no hR (k := 6) (by decide) (by decide)) ?_
      rintro _ hh ⟨rfl, hh2, hh3⟩
      refine az_eret rfl rfl rfl ?_
      exact ⟨rfl, hh2, hh3⟩
  · obtain ⟨n, hn, rfl⟩ := rt_nat (x := x) (m := 60) (Int32.le_trans (by decide) hx.1) hx.2 (by decide)
    have hn1 : 1 ≤ n := (nI_leI (a := 1) (by omega) (by omega)).mp hx.1
    refine ⟨nI (sq_cg (sq_ah σ.1) (σ.1 2) n), σ, hW, ?_, ?_⟩
    · refine az_er 3 rfl ?_
      refine az_ecallF rfl rfl rfl rfl (ct_out0 hx.1 hx.2) ?_
      refine az_er 2 rfl ?_
      refine az_if_eq rfl rfl (fun c9 => ?_) (fun c9 => absurd rfl c9)
      refine az_er 3 rfl ?_
      refine az_ecall rfl rfl rfl rfl (ct_lookAhead hC.1 hW.1 rfl (by omega)) ?_
      rintro _ h2 ⟨rfl, l1, l2, l3⟩
      have hC2 := rt_C_F hC (rt_Fs_m l3)
      refine az_er 4 rfl ?_
      refine az_E.mono (lp_good rfl ⟨hn1, by omega⟩ l2 (hC2.1.1.1) n 0 0 0 (Nat.zero_le _) (by omega) rfl rfl) ?_
      rintro _ h3 ⟨rfl, rfl⟩
      exact ⟨rfl, hC2, fun a ha => l3 a (by omega) (by omega)⟩
    · intro h1 hR
      refine az_er 3 rfl ?_
      refine az_ecallF rfl rfl rfl rfl ((cm_isWrong (y := 60)).eq (by rw [az_out0 hx]) rfl) ?_
      refine az_if_eq rfl rfl (fun c7 => ?_) (fun c7 => absurd rfl c7)
      refine az_er 3 rfl ?_
      refine az_ecall rfl rfl rfl rfl (cm_gaN hR.1 hW.1 rfl (by omega) rfl) ?_
      rintro _ h2 ⟨rfl, l1, l2, l3⟩
      have hR2 := rt_R_A hR l1 l3
      refine az_er 5 rfl ?_
      refine az_E.mono (lm_good rfl ⟨hn1, by omega⟩ l2 (hR2.1 2 (by decide)) n 0 0 1 (Nat.zero_le _) (by omega) rfl rfl) ?_
      rintro _ h3 ⟨rfl, rfl⟩
      exact ⟨rfl, hR2, fun a ha => l3 a (by omega) (by omega) (by omega) (by omega)⟩
set_option maxRecDepth 100000 in
theorem op_again  : rt_op az_m_X7_again az_m_X8_again [] := by
  intro sc σ h hC hW
  refine ⟨sq_j1 (sq_ca (sq_ah σ.1)) 40 1, σ, hW, ?_, ?_⟩
  · refine az_er 3 rfl ?_
    refine az_ecall rfl rfl rfl rfl (ct_lookAhead hC.1 hW.1 (n := 80) rfl (by omega)) ?_
    rintro _ h2 ⟨rfl, l1, l2, l3⟩
    have hC2 := rt_C_F hC (rt_Fs_m l3)
    refine az_er 2 rfl ?_
    refine az_E.mono (lp_again l2 40 1 1 rfl rfl) ?_
    rintro _ h3 ⟨rfl, rfl⟩
    exact ⟨rfl, hC2, fun a ha => l3 a (by omega) (by omega)⟩
  · intro h1 hR
    refine az_er 3 rfl ?_
    refine az_ecall rfl rfl rfl rfl (cm_gaN hR.1 hW.1 (n := 80) rfl (by omega) rfl) ?_
    rintro _ h2 ⟨rfl, l1, l2, l3⟩
    have hR2 := rt_R_A hR l1 l3
    refine az_er 3 rfl ?_
    refine az_E.mono (lm_again l2 40 1 1 [] rfl rfl (Or.inl rfl)) ?_
    rintro _ h3 ⟨rfl, rfl⟩
    exact ⟨rfl, hR2, fun a ha => l3 a (by omega) (by omega) (by omega) (by omega)⟩
set_option maxRecDepth 100000 in
theorem op_gains {x z : Int32} : rt_op az_m_X7_gains az_m_X8_gains [.int x, .int z] := by
  intro sc σ h hC hW
  have b0 := hW.1.1
  rcases rt_has (x := x) (n := σ.1 0) (by omega) with hs | ⟨j, hj, rfl⟩
  · refine ⟨1000000000 - -1, sp_ref σ 1, hW, ?_, ?_⟩
    · refine az_er 4 rfl ?_
      refine az_ecallF rfl rfl rfl rfl ((ct_X4has_1 hC.1 hW.1).eq (by rw [rt_hasN hs]) rfl) ?_
      refine az_if_ne rfl rfl (fun c11 => absurd rfl c11) (fun c11 => ?_)
      refine az_er 2 rfl ?_
      refine az_ecall rfl rfl rfl rfl (ct_refuseW hC (k := 1) (by decide) (by decide)) ?_
      rintro _ hh ⟨rfl, hh2, hh3⟩
      refine az_eret rfl rfl rfl ?_
      exact ⟨rfl, hh2, hh3⟩
    · intro h1 hR
      refine az_er 2 rfl ?_
      refine az_ecallF rfl rfl rfl rfl ((cm_isNoSort hR.1).eq (by rw [if_pos hs]) rfl) ?_
      refine az_if_eq rfl rfl (fun c5 => absurd c5 (by decide)) (fun c5 => ?_)
      refine az_er 3 rfl ?_
      refine az_ecall rfl rfl rfl rfl (cm_no hR (k := 1) (by decide) (by decide)) ?_
      rintro _ hh ⟨rfl, hh2, hh3⟩
      refine az_er 1 rfl ?_
      refine az_eret rfl rfl rfl ?_
      exact ⟨rfl, hh2, hh3⟩
  · rcases rt_cas (x := z) (lo := 1) (hi := 60) with hx | hx | hx
    · refine ⟨1000000000 - -4, sp_ref σ 4, hW, ?_, ?_⟩
      · refine az_er 4 rfl ?_
        refine az_ecallF rfl rfl rfl rfl ((ct_X4has_1 hC.1 hW.1).eq (by rw [rt_hasY hj (by have := hW.1.1; omega)]) rfl) ?_
        refine az_if_ne rfl rfl (fun c11 => ?_) (fun c11 => absurd c11 (by decide))
        refine az_er 3 rfl ?_
        refine az_ecallF rfl rfl rfl rfl (ct_outB hx) ?_
        refine az_er 2 rfl ?_
        refine az_if_eq rfl rfl (fun c29 => absurd c29 (by decide)) (fun c29 => ?_)
        refine az_er 2 rfl ?_
        refine az_ecall rfl rfl rfl rfl (ct_refuseW hC (k := 4) (by decide) (by decide)) ?_
        rintro _ hh ⟨rfl, hh2, hh3⟩
        refine az_eret rfl rfl rfl ?_
        exact ⟨rfl, hh2, hh3⟩
      · intro h1 hR
        refine az_er 2 rfl ?_
        refine az_ecallF rfl rfl rfl rfl ((cm_isNoSort hR.1).eq (by rw [if_neg (fun q => q.elim (nI_pos (by have := hW.1.1; omega)) (nI_ge hj (by have := hW.1.1; omega)))]) rfl) ?_
        refine az_if_eq rfl rfl (fun c5 => ?_) (fun c5 => absurd rfl c5)
        refine az_er 3 rfl ?_
        refine az_ecallF rfl rfl rfl rfl (cm_isWrong.eq (by rw [az_outB hx]) rfl) ?_
        refine az_if_eq rfl rfl (fun c24 => absurd c24 (by decide)) (fun c24 => ?_)
        refine az_er 5 rfl ?_
        refine az_ecallF rfl rfl rfl rfl (cm_isWrong.eq (by rw [az_outB hx]) rfl) ?_
        refine az_ecall rfl rfl rfl rfl (cm_no hR (k := 4) (by decide) (by decide)) ?_
        rintro _ hh ⟨rfl, hh2, hh3⟩
        refine az_er 1 rfl ?_
        refine az_eret rfl rfl rfl ?_
        exact ⟨rfl, hh2, hh3⟩
    · refine ⟨1000000000 - -6, sp_ref σ 6, hW, ?_, ?_⟩
      · refine az_er 4 rfl ?_
        refine az_ecallF rfl rfl rfl rfl ((ct_X4has_1 hC.1 hW.1).eq (by rw [rt_hasY hj (by have := hW.1.1; omega)]) rfl) ?_
        refine az_if_ne rfl rfl (fun c11 => ?_) (fun c11 => absurd c11 (by decide))
        refine az_er 3 rfl ?_
        refine az_ecallF rfl rfl rfl rfl (ct_outR hx.1 hx.2) ?_
        refine az_er 2 rfl ?_
        refine az_if_eq rfl rfl (fun c29 => absurd c29 (by decide)) (fun c29 => ?_)
        refine az_er 2 rfl ?_
        refine az_ecall rfl rfl rfl rfl (ct_refuseW hC (k := 6) (by decide) (by decide)) ?_
        rintro _ hh ⟨rfl, hh2, hh3⟩
        refine az_eret rfl rfl rfl ?_
        exact ⟨rfl, hh2, hh3⟩
      · intro h1 hR
        refine az_er 2 rfl ?_
        refine az_ecallF rfl rfl rfl rfl ((cm_isNoSort hR.1).eq (by rw [if_neg (fun q => q.elim (nI_pos (by have := hW.1.1; omega)) (nI_ge hj (by have := hW.1.1; omega)))]) rfl) ?_
        refine az_if_eq rfl rfl (fun c5 => ?_) (fun c5 => absurd rfl c5)
        refine az_er 3 rfl ?_
        refine az_ecallF rfl rfl rfl rfl ((cm_isWrong (y := 60)).eq (by rw [az_outR hx]) rfl) ?_
        refine az_if_eq rfl rfl (fun c24 => absurd c24 (by decide)) (fun c24 => ?_)
        refine az_er 5 rfl ?_
        refine az_ecallF rfl rfl rfl rfl ((cm_isWrong (y := 60)).eq (by rw [az_outR hx]) rfl) ?_
        refine az_ecall rfl rfl rfl rfl (cm_no hR (k := 6) (by decide) (by decide)) ?_
        rintro _ hh ⟨rfl, hh2, hh3⟩
        refine az_er 1 rfl ?_
        refine az_eret rfl rfl rfl ?_
        exact ⟨rfl, hh2, hh3⟩
    · obtain ⟨n, hn, rfl⟩ := rt_nat (x := z) (m := 60) (Int32.le_trans (by decide) hx.1) hx.2 (by decide)
      refine ⟨sq_ga σ.1 j n, σ, hW, ?_, ?_⟩
      · refine az_er 4 rfl ?_
        refine az_ecallF rfl rfl rfl rfl ((ct_X4has_1 hC.1 hW.1).eq (by rw [rt_hasY hj (by have := hW.1.1; omega)]) rfl) ?_
        refine az_if_ne rfl rfl (fun c11 => ?_) (fun c11 => absurd c11 (by decide))
        refine az_er 3 rfl ?_
        refine az_ecallF rfl rfl rfl rfl (ct_out0 hx.1 hx.2) ?_
        refine az_er 2 rfl ?_
        refine az_if_eq rfl rfl (fun c29 => ?_) (fun c29 => absurd rfl c29)
        refine az_er 4 rfl ?_
        refine az_ecall rfl rfl rfl rfl (ct_copy_16_1 hC.1) ?_
        rintro _ h2 ⟨rfl, g1, g2⟩
        refine az_er 3 rfl ?_
        refine az_ecall rfl rfl rfl rfl (ct_gim g1 hW.1 rfl (by omega) rfl hj) ?_
        rintro _ h3 ⟨rfl, l3⟩
        have l4 : rt_Fm h h3 := fun a p q => (l3 a p q).trans (g2 a (by omega))
        refine az_eret rfl rfl rfl ?_
        exact ⟨rfl, rt_C_F hC (rt_Fs_m l4), fun a ha => l4 a (by omega) (by omega)⟩
      · intro h1 hR
        refine az_er 2 rfl ?_
        refine az_ecallF rfl rfl rfl rfl ((cm_isNoSort hR.1).eq (by rw [if_neg (fun q => q.elim (nI_pos (by have := hW.1.1; omega)) (nI_ge hj (by have := hW.1.1; omega)))]) rfl) ?_
        refine az_if_eq rfl rfl (fun c5 => ?_) (fun c5 => absurd rfl c5)
        refine az_er 3 rfl ?_
        refine az_ecallF rfl rfl rfl rfl ((cm_isWrong (y := 60)).eq (by rw [az_out0 hx]) rfl) ?_
        refine az_if_eq rfl rfl (fun c24 => ?_) (fun c24 => absurd rfl c24)
        refine az_er 3 rfl ?_
        refine az_ecall rfl rfl rfl rfl (cm_gaS hR.1 hW.1 rfl (by omega) rfl hj) ?_
        rintro _ h2 ⟨rfl, l1, l2, l3⟩
        have hR2 := rt_R_A hR l1 l3
        refine az_eret rfl rfl rfl ?_
        exact ⟨rfl, hR2, fun a ha => l3 a (by omega) (by omega) (by omega) (by omega)⟩
set_option maxRecDepth 100000 in
theorem lp_judge {sc : az_S} {f g : Nat → Nat} {h : az_H} {n : Nat} (hn : n ≤ 12) (hB : ∀ k, k < n → h 57 k = nI (g k)) (hA : ∀ k, k < n → h 55 k = nI (f k)) : ∀ (i : Nat) (v y : Int32), i ≤ n → v = sq_j1 (fun k => decide (¬ nI (g k) = nI (f k))) (n - i) i → y = nI i - 1 → az_E sc az_m_X7_judge 19 [.ref 0, .int v, .int y] [] h (fun v h1 => v = some (.int (sq_j1 (fun k => decide (¬ nI (g k) = nI (f k))) n 0)) ∧ h1 = az_up h 0 9 0) := by
  intro i
  induction i with
  | zero =>
    intro v y hi hv hy
    refine az_er 1 rfl ?_
    refine az_if_lt rfl rfl (fun c20 => ?_) (fun c20 => absurd (by rw [hy]; decide) c20)
    refine az_er 4 rfl ?_
    refine az_eret rfl rfl rfl ?_
    exact ⟨by rw [hv, Nat.sub_zero], rfl⟩
  | succ i ih =>
    intro v y hi hv hy
    refine az_er 1 rfl ?_
    refine az_if_lt rfl rfl (fun c20 => absurd c20 (by rw [hy, nI_pred]; exact nI_pos (by omega))) (fun c20 => ?_)
    refine az_er 3 rfl ?_
    refine az_ecallF rfl rfl rfl rfl (ct_atI rfl (hy.trans (nI_pred i)) (show i < 12 by omega) (by decide) (hB i (by omega))) ?_
    refine az_er 3 rfl ?_
    refine az_ecallF rfl rfl rfl rfl (ct_atI rfl (hy.trans (nI_pred i)) (show i < 80 by omega) (by decide) (hA i (by omega))) ?_
    refine az_ic_eq rfl rfl (fun c39 => ?_) (fun c39 => ?_)
    · refine az_er 2 rfl ?_
      refine ih _ _ (by omega) ?_ (by rw [hy, nI_pred]; exact i32_m1 _)
      rw [show n - i = (n - (i + 1)) + 1 by omega, sq_j1]
      first
      | (rw [if_neg (by rw [decide_eq_false (fun q => q c39)]; decide), hv])
      | (rw [if_pos (decide_eq_true c39), hy, nI_pred])
    · refine az_er 4 rfl ?_
      refine ih _ _ (by omega) ?_ (by rw [hy, nI_pred]; exact i32_m1 _)
      rw [show n - i = (n - (i + 1)) + 1 by omega, sq_j1]
      first
      | (rw [if_neg (by rw [decide_eq_false (fun q => q c39)]; decide), hv])
      | (rw [if_pos (decide_eq_true c39), hy, nI_pred])
set_option maxRecDepth 100000 in
theorem lm_judge {sc : az_S} {f g : Nat → Nat} {h : az_H} {x : Int32} {n : Nat} (hx : x = nI n) (hn : n ≤ 12) (hB : ∀ k, k < n → h 74 k = nI (g k)) (hA : ∀ k, k < n → h 70 (k + 1) = nI (f k)) : ∀ (d i : Nat) (y : Int32), i ≤ n → n - i = d → y = nI i → az_E sc az_m_X8_judge 19 [.ref 59, .int x, .int y] [] h (fun v h1 => v = some (.int (sq_j1 (fun k => decide (¬ nI (g k) = nI (f k))) (n - i) i)) ∧ h1 = h) := by
  intro d
  induction d with
  | zero =>
    intro i y hi hd hy
    have he : i = n := by omega
    refine az_er 2 rfl ?_
    refine az_ic_ge rfl rfl (fun c21 => ?_) (fun c21 => absurd (by rw [hy, hx, he]; exact nI_le (Nat.le_refl _) (by omega)) c21)
    refine az_er 1 rfl ?_
    refine az_eret rfl rfl rfl ?_
    exact ⟨by rw [show n - i = 0 by omega]; rfl, rfl⟩
  | succ d ih =>
    intro i y hi hd hy
    refine az_er 2 rfl ?_
    refine az_ic_ge rfl rfl (fun c21 => absurd c21 (by rw [hy, hx]; exact nI_ge (by omega) (by omega))) (fun c21 => ?_)
    refine az_er 3 rfl ?_
    refine az_iaI rfl rfl hy (show i < 12 by omega) (by decide) (hB i (by omega)) ?_
    refine az_er 5 rfl ?_
    refine az_iaI rfl rfl (show _ = nI (i + 1) by rw [hy]; exact nI_1' i) (show i + 1 < 81 by omega) (by decide) (hA i (by omega)) ?_
    refine az_ic_eq rfl rfl (fun c38 => ?_) (fun c38 => ?_)
    · refine az_er 2 rfl ?_
      refine (ih (i + 1) _ (by omega) (by omega) (by rw [hy]; exact nI_1' i)).mono ?_
      rintro _ _ ⟨rfl, rfl⟩
      exact ⟨by rw [show n - i = (n - (i + 1)) + 1 by omega, sq_j1, if_neg (by rw [decide_eq_false (fun q => q c38)]; decide)], rfl⟩
    · refine az_er 1 rfl ?_
      refine az_eret rfl rfl rfl ?_
      exact ⟨by rw [show n - i = (n - (i + 1)) + 1 by omega, sq_j1, if_pos (decide_eq_true c38), hy], rfl⟩
set_option maxRecDepth 100000 in
theorem op_judge  : rt_op az_m_X7_judge az_m_X8_judge [] := by
  intro sc σ h hC hW
  have hn12 := hW.2.2.2.1
  refine ⟨sq_j1 (fun k => decide (¬ nI (σ.2.2.2.2.1.2 k) = nI (sq_ah σ.1 k))) σ.2.2.2.2.1.1 0, (σ.1, σ.2.1, σ.2.2.1, σ.2.2.2.1, (0, σ.2.2.2.2.1.2), σ.2.2.2.2.2), ⟨hW.1, hW.2.1, hW.2.2.1, ⟨Nat.zero_le _, fun i hi => absurd hi (Nat.not_lt_zero i)⟩⟩, ?_, ?_⟩
  · refine az_er 4 rfl ?_
    refine az_ecall rfl rfl rfl rfl (ct_lookAhead hC.1 hW.1 (n := σ.2.2.2.2.1.1) hC.2.2.2.2.1.1 (by omega)) ?_
    rintro _ h2 ⟨rfl, l1, l2, l3⟩
    have hC2 := rt_C_F hC (rt_Fs_m l3)
    refine az_er 7 rfl ?_
    refine az_E.mono (lp_judge (f := sq_ah σ.1) (g := σ.2.2.2.2.1.2) (n := σ.2.2.2.2.1.1) (by omega) hC2.2.2.2.2.1.2 l2 σ.2.2.2.2.1.1 (-9) _ (Nat.le_refl _) (by rw [Nat.sub_self]; rfl) (by rw [hC2.2.2.2.2.1.1]; rfl)) ?_
    rintro _ h3 ⟨rfl, rfl⟩
    exact ⟨rfl, rt_C_u hC2 (by omega) rfl rfl rfl rfl (by rw [az_up_n (by decide)]; exact hC2.2.1) (by rw [az_up_o (by decide), az_up_o (by decide)]; exact hC2.2.2.2.1) ⟨az_up_s, fun i hi => absurd hi (Nat.not_lt_zero i)⟩, fun a ha => by rw [az_up_o (by omega)]; exact l3 a (by omega) (by omega)⟩
  · intro h1 hR
    refine az_er 9 rfl ?_
    refine az_ecall rfl rfl rfl rfl (cm_gaN (τ := σ.1) (n := σ.2.2.2.2.1.1) (rt_M_h hR.1 (az_up_o (by decide))) hW.1 hR.2.2.2.2.1.1 (by omega) rfl) ?_
    rintro _ h2 ⟨rfl, l1, l2, l3⟩
    refine az_er 3 rfl ?_
    have u : ∀ a, a ≠ 59 → a ≠ 61 → a ≠ 63 → a ≠ 69 → a ≠ 70 → h2 a = h1 a := fun a p q r s t => (l3 a q r s t).trans (az_up_o p)
    have u9 := l3 59 (by decide) (by decide) (by decide) (by decide)
    refine az_E.mono (lm_judge (f := sq_ah σ.1) (g := σ.2.2.2.2.1.2) (n := σ.2.2.2.2.1.1) hR.2.2.2.2.1.1 (by omega) (fun k hk => by rw [u 74 (by decide) (by decide) (by decide) (by decide) (by decide)]; exact hR.2.2.2.2.1.2 k hk) l2 σ.2.2.2.2.1.1 0 0 (Nat.zero_le _) (Nat.sub_zero _) rfl) ?_
    rintro _ h3 ⟨rfl, rfl⟩
    exact ⟨by rw [Nat.sub_zero], ⟨l1, by rw [u9, az_up_n (by decide)]; exact hR.2.1, fun q => rt_M_h (hR.2.2.1 q) (u 62 (by decide) (by decide) (by decide) (by decide) (by decide)), by rw [u9, az_up_n (by decide), u 64 (by decide) (by decide) (by decide) (by decide) (by decide)]; exact hR.2.2.2.1, ⟨by rw [u9]; exact az_up_s, fun i hi => absurd hi (Nat.not_lt_zero i)⟩, by rw [u 60 (by decide) (by decide) (by decide) (by decide) (by decide)]; exact hR.2.2.2.2.2⟩, fun a ha => u a (by omega) (by omega) (by omega) (by omega) (by omega)⟩
