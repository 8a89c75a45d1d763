/-! THE CLASS: a Town is read -/
set_option maxRecDepth 100000 in
theorem ct_X4has_1 {sc : az_S} {τ : Nat → Nat} {h : az_H} (hT : rt_T 1 τ h) (hV : rt_V τ) {x : Int32} : az_F sc az_m_X4_has [.ref 2, .int x] h (some (.int (if x < 0 then 0 else if nI (τ 0) ≤ x then 0 else 1))) h := by
  have e0 : h 2 6 = nI (τ 0) := hT.1.2.2.2.1
  have e1 : h 9 3 = nI (τ 1) := hT.1.2.2.2.2.1
  have e2 : h 1 3 = nI (τ 2) := hT.1.1
  have e4 : h 13 1 = nI (τ 4) := hT.1.2.2.2.2.2
  have b0 : τ 0 ≤ 4 := hV.1
  have b1 : τ 1 ≤ 6 := hV.2.1
  have b2 : τ 2 ≤ 60 := hV.2.2.1
  have b4 : τ 4 ≤ 8 := hV.2.2.2.1
  refine az_F.of ?_
  refine az_er 1 rfl ?_
  refine az_if_lt rfl rfl (fun c1 => ?_) (fun c1 => ?_)
  · refine az_er 1 rfl ?_
    refine az_eret rfl rfl rfl ?_
    exact ⟨by simp [*], rfl⟩
  · refine az_er 3 rfl ?_
    rw [e0]
    refine az_ic_ge rfl rfl (fun c9 => ?_) (fun c9 => ?_)
    · refine az_er 1 rfl ?_
      refine az_eret rfl rfl rfl ?_
      exact ⟨by simp [*], rfl⟩
    · refine az_er 2 rfl ?_
      refine az_eret rfl rfl rfl ?_
      exact ⟨by simp [*], rfl⟩
set_option maxRecDepth 100000 in
theorem ct_X3has_1 {sc : az_S} {τ : Nat → Nat} {h : az_H} (hT : rt_T 1 τ h) (hV : rt_V τ) {x : Int32} : az_F sc az_m_X3_has [.ref 9, .int x] h (some (.int (if x < 0 then 0 else if nI (τ 1) ≤ x then 0 else 1))) h := by
  have e0 : h 2 6 = nI (τ 0) := hT.1.2.2.2.1
  have e1 : h 9 3 = nI (τ 1) := hT.1.2.2.2.2.1
  have e2 : h 1 3 = nI (τ 2) := hT.1.1
  have e4 : h 13 1 = nI (τ 4) := hT.1.2.2.2.2.2
  have b0 : τ 0 ≤ 4 := hV.1
  have b1 : τ 1 ≤ 6 := hV.2.1
  have b2 : τ 2 ≤ 60 := hV.2.2.1
  have b4 : τ 4 ≤ 8 := hV.2.2.2.1
  refine az_F.of ?_
  refine az_er 1 rfl ?_
  refine az_if_lt rfl rfl (fun c1 => ?_) (fun c1 => ?_)
  · refine az_er 1 rfl ?_
    refine az_eret rfl rfl rfl ?_
    exact ⟨by simp [*], rfl⟩
  · refine az_er 3 rfl ?_
    rw [e1]
    refine az_ic_ge rfl rfl (fun c9 => ?_) (fun c9 => ?_)
    · refine az_er 1 rfl ?_
      refine az_eret rfl rfl rfl ?_
      exact ⟨by simp [*], rfl⟩
    · refine az_er 2 rfl ?_
      refine az_eret rfl rfl rfl ?_
      exact ⟨by simp [*], rfl⟩
set_option maxRecDepth 100000 in
theorem lp_people_1 {sc : az_S} {τ : Nat → Nat} {h : az_H} (hT : rt_T 1 τ h) (hV : rt_V τ) : ∀ (d i : Nat) (x y : Int32), i ≤ τ 0 → τ 0 - i = d → x = nI (sq_pp τ i) → y = nI i → az_E sc az_m_X4_people 4 [.ref 2, .int x, .int y] [] h (fun v h' => v = some (.int (nI (sq_pp τ (τ 0)))) ∧ h' = h) := by
  have e0 : h 2 6 = nI (τ 0) := hT.1.2.2.2.1
  have e1 : h 9 3 = nI (τ 1) := hT.1.2.2.2.2.1
  have e2 : h 1 3 = nI (τ 2) := hT.1.1
  have e4 : h 13 1 = nI (τ 4) := hT.1.2.2.2.2.2
  have b0 : τ 0 ≤ 4 := hV.1
  have b1 : τ 1 ≤ 6 := hV.2.1
  have b2 : τ 2 ≤ 60 := hV.2.2.1
  have b4 : τ 4 ≤ 8 := hV.2.2.2.1
  intro d
  induction d with
  | zero =>
    intro i x y hi hd hx hy
    have he : i = τ 0 := by omega
    refine az_er 3 rfl ?_
    refine az_ic_ge rfl rfl (fun c9 => ?_) (fun c9 => absurd (by rw [e0, hy, he]; exact nI_le (Nat.le_refl _) (by omega)) c9)
    refine az_er 1 rfl ?_
    refine az_eret rfl rfl rfl ?_
    exact ⟨by rw [hx, he], rfl⟩
  | succ d ih =>
    intro i x y hi hd hx hy
    have hlt : i < τ 0 := by omega
    refine az_er 3 rfl ?_
    refine az_ic_ge rfl rfl (fun c9 => absurd c9 (by rw [e0, hy]; exact nI_ge hlt (by omega))) (fun c9 => ?_)
    refine az_er 4 rfl ?_
    refine az_ecallF rfl rfl rfl rfl (ct_atI rfl hy (by omega) (by decide) (hT.2.1 i (by omega)).1) ?_
    refine az_er 4 rfl ?_
    exact ih (i + 1) _ _ (by omega) (by omega) (by rw [hx, nI_add]; rfl) (by rw [hy]; exact nI_1' i)
set_option maxRecDepth 100000 in
theorem ct_people_1 {sc : az_S} {τ : Nat → Nat} {h : az_H} (hT : rt_T 1 τ h) (hV : rt_V τ) : az_F sc az_m_X4_people [.ref 2] h (some (.int (nI (sq_pp τ (τ 0))))) h := by
  refine az_F.of ?_
  refine az_er 4 rfl ?_
  exact lp_people_1 hT hV (τ 0) 0 0 0 (Nat.zero_le _) (by omega) rfl rfl
set_option maxRecDepth 100000 in
theorem ct_presentAgo_1 {sc : az_S} {τ : Nat → Nat} {h : az_H} (hT : rt_T 1 τ h) (hV : rt_V τ) {x : Int32} {k : Nat} (hk : k < 8) (hx : x = nI (k + 1)) : az_F sc az_m_X6_presentAgo [.ref 1, .int x] h (some (.int (nI (sq_ag τ (k + 1))))) h := by
  have e0 : h 2 6 = nI (τ 0) := hT.1.2.2.2.1
  have e1 : h 9 3 = nI (τ 1) := hT.1.2.2.2.2.1
  have e2 : h 1 3 = nI (τ 2) := hT.1.1
  have e4 : h 13 1 = nI (τ 4) := hT.1.2.2.2.2.2
  have b0 : τ 0 ≤ 4 := hV.1
  have b1 : τ 1 ≤ 6 := hV.2.1
  have b2 : τ 2 ≤ 60 := hV.2.2.1
  have b4 : τ 4 ≤ 8 := hV.2.2.2.1
  refine az_F.of ?_
  refine az_er 6 rfl ?_
  refine az_ic_lt rfl rfl (fun c10 => absurd c10 (by rw [hx]; exact nI_nlt (a := k + 1) (b := 1) (by omega) (by omega))) (fun c10 => ?_)
  refine az_er 4 rfl ?_
  rw [e4, hx]
  refine az_ic_gt rfl rfl (fun c21 => ?_) (fun c21 => ?_)
  · refine az_er 2 rfl ?_
    refine az_eret rfl rfl rfl ?_
    exact ⟨by rw [e2, sq_ag, if_neg (by rw [nI_ltI (by omega) (by omega)] at c21; omega)], rfl⟩
  · refine az_er 2 rfl ?_
    refine az_len rfl rfl ?_
    refine az_ic_gt rfl rfl (fun c27 => absurd c27 (nI_nlt (a := 8) (b := k + 1) (by omega) (by omega))) (fun c27 => ?_)
    refine az_er 4 rfl ?_
    refine az_ia rfl rfl (by rw [show nI (k + 1) - Int32.ofInt 1 = nI k from nI_pred k]; exact vp_in_nI (by omega) (by decide)) ?_
    refine az_er 1 rfl ?_
    refine az_eret rfl rfl rfl ?_
    exact ⟨by rw [show nI (k + 1) - Int32.ofInt 1 = nI k from nI_pred k, nI_clamp (by omega), sq_ag, if_pos (by rw [nI_ltI (by omega) (by omega)] at c21; omega), show 59 + (k + 1) = 60 + k by omega]; exact congrArg _ (congrArg _ (hT.2.2.2 k hk)), rfl⟩
set_option maxRecDepth 100000 in
theorem lp_mean_1 {sc : az_S} {τ : Nat → Nat} {h : az_H} (hT : rt_T 1 τ h) (hV : rt_V τ) {s : Int32} {n : Nat} (hn : 1 ≤ n ∧ n ≤ 8) (hs : s = nI n) : ∀ (d i : Nat) (x y : Int32), i ≤ n → n - i = d → x = nI (sq_sm τ i) → y = nI (i + 1) → az_E sc az_m_X6_meanPresent 4 [.ref 1, .int s, .int x, .int y] [] h (fun v h' => v = some (.int (nI (sq_sm τ n) / nI n)) ∧ h' = h) := by
  have e0 : h 2 6 = nI (τ 0) := hT.1.2.2.2.1
  have e1 : h 9 3 = nI (τ 1) := hT.1.2.2.2.2.1
  have e2 : h 1 3 = nI (τ 2) := hT.1.1
  have e4 : h 13 1 = nI (τ 4) := hT.1.2.2.2.2.2
  have b0 : τ 0 ≤ 4 := hV.1
  have b1 : τ 1 ≤ 6 := hV.2.1
  have b2 : τ 2 ≤ 60 := hV.2.2.1
  have b4 : τ 4 ≤ 8 := hV.2.2.2.1
  intro d
  induction d with
  | zero =>
    intro i x y hi hd hx hy
    have he : i = n := by omega
    refine az_er 2 rfl ?_
    refine az_ic_gt rfl rfl (fun c6 => ?_) (fun c6 => absurd (by rw [hy, hs, he, nI_ltI (by omega) (by omega)]; omega) c6)
    refine az_er 2 rfl ?_
    refine az_ecallF rfl rfl rfl rfl (ct_quotient) ?_
    refine az_eret rfl rfl rfl ?_
    exact ⟨by rw [hx, hs, he, if_neg (nI_nle (by omega) (by omega))], rfl⟩
  | succ d ih =>
    intro i x y hi hd hx hy
    refine az_er 2 rfl ?_
    refine az_ic_gt rfl rfl (fun c6 => absurd c6 (by rw [hy, hs, nI_ltI (by omega) (by omega)]; omega)) (fun c6 => ?_)
    refine az_er 3 rfl ?_
    refine az_ecallF rfl rfl rfl rfl (ct_presentAgo_1 hT hV (k := i) (by omega) hy) ?_
    refine az_er 4 rfl ?_
    exact ih (i + 1) _ _ (by omega) (by omega) (by rw [hx, nI_add]; rfl) (by rw [hy]; exact nI_1' (i + 1))
set_option maxRecDepth 100000 in
theorem ct_mean_1 {sc : az_S} {τ : Nat → Nat} {h : az_H} (hT : rt_T 1 τ h) (hV : rt_V τ) {s : Int32} {n : Nat} (hn : 1 ≤ n ∧ n ≤ 8) (hs : s = nI n) : az_F sc az_m_X6_meanPresent [.ref 1, .int s] h (some (.int (nI (sq_sm τ n) / nI n))) h := by
  refine az_F.of ?_
  refine az_er 4 rfl ?_
  exact lp_mean_1 hT hV hn hs n 0 0 1 (Nat.zero_le _) (by omega) rfl rfl
set_option maxRecDepth 100000 in
theorem ct_foretells_1 {sc : az_S} {τ : Nat → Nat} {h : az_H} (hT : rt_T 1 τ h) (hV : rt_V τ) {s : Int32} {n k : Nat} (hn : 1 ≤ n ∧ n ≤ 6) (hs : s = nI n) (hk : k < 6) : az_F sc az_m_X6_foretells [.ref 1, .int (nI k), .int s] h (some (.int (sq_fo τ k n))) h := by
  have e0 : h 2 6 = nI (τ 0) := hT.1.2.2.2.1
  have e1 : h 9 3 = nI (τ 1) := hT.1.2.2.2.2.1
  have e2 : h 1 3 = nI (τ 2) := hT.1.1
  have e4 : h 13 1 = nI (τ 4) := hT.1.2.2.2.2.2
  have b0 : τ 0 ≤ 4 := hV.1
  have b1 : τ 1 ≤ 6 := hV.2.1
  have b2 : τ 2 ≤ 60 := hV.2.2.1
  have b4 : τ 4 ≤ 8 := hV.2.2.2.1
  have eN : n - 1 + 1 = n := by omega
  refine az_F.of ?_
  rcases (show k = 0 ∨ k = 1 ∨ k = 2 ∨ k = 3 ∨ k = 4 ∨ k = 5 by omega) with rfl | rfl | rfl | rfl | rfl | rfl
  · refine az_er 4 rfl ?_
    refine az_ecallF rfl rfl rfl rfl (ct_presentAgo_1 hT hV (k := n - 1) (by omega) (by rw [hs]; congr 1; omega)) ?_
    refine az_eret rfl rfl rfl ?_
    exact ⟨by rw [eN]; rfl, rfl⟩
  · refine az_er 5 rfl ?_
    refine az_ecallF rfl rfl rfl rfl (ct_people_1 hT hV) ?_
    refine az_er 2 rfl ?_
    refine az_ecallF rfl rfl rfl rfl (ct_presentAgo_1 hT hV (k := n - 1) (by omega) (by rw [hs]; congr 1; omega)) ?_
    refine az_er 1 rfl ?_
    refine az_er 1 rfl ?_
    refine az_eret rfl rfl rfl ?_
    exact ⟨by rw [eN]; rfl, rfl⟩
  · refine az_er 4 rfl ?_
    refine az_ecallF rfl rfl rfl rfl (ct_mean_1 hT hV ⟨hn.1, by omega⟩ hs) ?_
    refine az_eret rfl rfl rfl ?_
    exact ⟨rfl, rfl⟩
  · refine az_er 6 rfl ?_
    refine az_ecallF rfl rfl rfl rfl (ct_presentAgo_1 hT hV (k := 0) (by omega) rfl) ?_
    refine az_er 3 rfl ?_
    refine az_ecallF rfl rfl rfl rfl (ct_presentAgo_1 hT hV (k := n - 1) (by omega) (by rw [hs]; congr 1; omega)) ?_
    refine az_er 1 rfl ?_
    refine az_er 1 rfl ?_
    refine az_eret rfl rfl rfl ?_
    exact ⟨by rw [eN]; rfl, rfl⟩
  · refine az_er 5 rfl ?_
    refine az_ecallF rfl rfl rfl rfl (ct_mean_1 hT hV ⟨hn.1, by omega⟩ hs) ?_
    refine az_er 2 rfl ?_
    refine az_er 1 rfl ?_
    refine az_eret rfl rfl rfl ?_
    exact ⟨by rw [hs]; rfl, rfl⟩
  · refine az_er 5 rfl ?_
    refine az_eret rfl rfl rfl ?_
    exact ⟨by rw [hs]; rfl, rfl⟩
set_option maxRecDepth 100000 in
theorem ct_isRight_1 {sc : az_S} {τ : Nat → Nat} {h : az_H} (hT : rt_T 1 τ h) (hV : rt_V τ) {x p : Int32} (hp : h 1 8 = p) : az_F sc az_m_X6_isRight [.ref 1, .int x] h (some (.int (if decide (x ≤ nI (τ 2)) = decide (p ≤ nI (τ 2)) then 1 else 0))) h := by
  have e0 : h 2 6 = nI (τ 0) := hT.1.2.2.2.1
  have e1 : h 9 3 = nI (τ 1) := hT.1.2.2.2.2.1
  have e2 : h 1 3 = nI (τ 2) := hT.1.1
  have e4 : h 13 1 = nI (τ 4) := hT.1.2.2.2.2.2
  have b0 : τ 0 ≤ 4 := hV.1
  have b1 : τ 1 ≤ 6 := hV.2.1
  have b2 : τ 2 ≤ 60 := hV.2.2.1
  have b4 : τ 4 ≤ 8 := hV.2.2.2.1
  refine az_F.of ?_
  refine az_er 3 rfl ?_
  rw [e2]
  refine az_ic_gt rfl rfl (fun c5 => ?_) (fun c5 => ?_)
  · refine az_er 5 rfl ?_
    rw [e2, hp]
    refine az_ic_gt rfl rfl (fun c21 => ?_) (fun c21 => ?_)
    · refine az_er 1 rfl ?_
      refine az_ic_ne rfl rfl (fun c29 => ?_) (fun c29 => ?_)
      · refine az_er 1 rfl ?_
        refine az_eret rfl rfl rfl ?_
        refine ⟨?_, rfl⟩
        rcases Classical.em (x ≤ nI (τ 2)) with h1 | h1 <;> rcases Classical.em (p ≤ nI (τ 2)) with h2 | h2 <;> first | exact absurd h1 (Int32.not_le.mpr c5) | exact absurd (Int32.not_lt.mp c5) h1 | exact absurd h2 (Int32.not_le.mpr c21) | exact absurd (Int32.not_lt.mp c21) h2 | exact absurd rfl c29 | exact absurd c29 (by decide) | (simp [h1, h2]; done)
      · refine az_er 2 rfl ?_
        refine az_eret rfl rfl rfl ?_
        refine ⟨?_, rfl⟩
        rcases Classical.em (x ≤ nI (τ 2)) with h1 | h1 <;> rcases Classical.em (p ≤ nI (τ 2)) with h2 | h2 <;> first | exact absurd h1 (Int32.not_le.mpr c5) | exact absurd (Int32.not_lt.mp c5) h1 | exact absurd h2 (Int32.not_le.mpr c21) | exact absurd (Int32.not_lt.mp c21) h2 | exact absurd rfl c29 | exact absurd c29 (by decide) | (simp [h1, h2]; done)
    · refine az_er 2 rfl ?_
      refine az_ic_ne rfl rfl (fun c29 => ?_) (fun c29 => ?_)
      · refine az_er 1 rfl ?_
        refine az_eret rfl rfl rfl ?_
        refine ⟨?_, rfl⟩
        rcases Classical.em (x ≤ nI (τ 2)) with h1 | h1 <;> rcases Classical.em (p ≤ nI (τ 2)) with h2 | h2 <;> first | exact absurd h1 (Int32.not_le.mpr c5) | exact absurd (Int32.not_lt.mp c5) h1 | exact absurd h2 (Int32.not_le.mpr c21) | exact absurd (Int32.not_lt.mp c21) h2 | exact absurd rfl c29 | exact absurd c29 (by decide) | (simp [h1, h2]; done)
      · refine az_er 2 rfl ?_
        refine az_eret rfl rfl rfl ?_
        refine ⟨?_, rfl⟩
        rcases Classical.em (x ≤ nI (τ 2)) with h1 | h1 <;> rcases Classical.em (p ≤ nI (τ 2)) with h2 | h2 <;> first | exact absurd h1 (Int32.not_le.mpr c5) | exact absurd (Int32.not_lt.mp c5) h1 | exact absurd h2 (Int32.not_le.mpr c21) | exact absurd (Int32.not_lt.mp c21) h2 | exact absurd rfl c29 | exact absurd c29 (by decide) | (simp [h1, h2]; done)
  · refine az_er 6 rfl ?_
    rw [e2, hp]
    refine az_ic_gt rfl rfl (fun c21 => ?_) (fun c21 => ?_)
    · refine az_er 1 rfl ?_
      refine az_ic_ne rfl rfl (fun c29 => ?_) (fun c29 => ?_)
      · refine az_er 1 rfl ?_
        refine az_eret rfl rfl rfl ?_
        refine ⟨?_, rfl⟩
        rcases Classical.em (x ≤ nI (τ 2)) with h1 | h1 <;> rcases Classical.em (p ≤ nI (τ 2)) with h2 | h2 <;> first | exact absurd h1 (Int32.not_le.mpr c5) | exact absurd (Int32.not_lt.mp c5) h1 | exact absurd h2 (Int32.not_le.mpr c21) | exact absurd (Int32.not_lt.mp c21) h2 | exact absurd rfl c29 | exact absurd c29 (by decide) | (simp [h1, h2]; done)
      · refine az_er 2 rfl ?_
        refine az_eret rfl rfl rfl ?_
        refine ⟨?_, rfl⟩
        rcases Classical.em (x ≤ nI (τ 2)) with h1 | h1 <;> rcases Classical.em (p ≤ nI (τ 2)) with h2 | h2 <;> first | exact absurd h1 (Int32.not_le.mpr c5) | exact absurd (Int32.not_lt.mp c5) h1 | exact absurd h2 (Int32.not_le.mpr c21) | exact absurd (Int32.not_lt.mp c21) h2 | exact absurd rfl c29 | exact absurd c29 (by decide) | (simp [h1, h2]; done)
    · refine az_er 2 rfl ?_
      refine az_ic_ne rfl rfl (fun c29 => ?_) (fun c29 => ?_)
      · refine az_er 1 rfl ?_
        refine az_eret rfl rfl rfl ?_
        refine ⟨?_, rfl⟩
        rcases Classical.em (x ≤ nI (τ 2)) with h1 | h1 <;> rcases Classical.em (p ≤ nI (τ 2)) with h2 | h2 <;> first | exact absurd h1 (Int32.not_le.mpr c5) | exact absurd (Int32.not_lt.mp c5) h1 | exact absurd h2 (Int32.not_le.mpr c21) | exact absurd (Int32.not_lt.mp c21) h2 | exact absurd rfl c29 | exact absurd c29 (by decide) | (simp [h1, h2]; done)
      · refine az_er 2 rfl ?_
        refine az_eret rfl rfl rfl ?_
        refine ⟨?_, rfl⟩
        rcases Classical.em (x ≤ nI (τ 2)) with h1 | h1 <;> rcases Classical.em (p ≤ nI (τ 2)) with h2 | h2 <;> first | exact absurd h1 (Int32.not_le.mpr c5) | exact absurd (Int32.not_lt.mp c5) h1 | exact absurd h2 (Int32.not_le.mpr c21) | exact absurd (Int32.not_lt.mp c21) h2 | exact absurd rfl c29 | exact absurd c29 (by decide) | (simp [h1, h2]; done)
set_option maxRecDepth 100000 in
theorem lp_mostRight_1 {sc : az_S} {τ : Nat → Nat} {h : az_H} (hT : rt_T 1 τ h) (hV : rt_V τ) : ∀ (d best r : Nat) (x y z : Int32), best < 6 → r < 2 ^ 31 - 1 ∧ τ 1 - r = d → y = nI best → z = nI r → az_E sc az_m_X3_mostRight 6 [.ref 9, .int x, .int y, .int z] [] h (fun v h' => v = some (.int (nI (sq_ht τ d best r))) ∧ h' = h) := by
  have e0 : h 2 6 = nI (τ 0) := hT.1.2.2.2.1
  have e1 : h 9 3 = nI (τ 1) := hT.1.2.2.2.2.1
  have e2 : h 1 3 = nI (τ 2) := hT.1.1
  have e4 : h 13 1 = nI (τ 4) := hT.1.2.2.2.2.2
  have b0 : τ 0 ≤ 4 := hV.1
  have b1 : τ 1 ≤ 6 := hV.2.1
  have b2 : τ 2 ≤ 60 := hV.2.2.1
  have b4 : τ 4 ≤ 8 := hV.2.2.2.1
  intro d
  induction d with
  | zero =>
    intro best r x y z hb ⟨hr, hd⟩ hy hz
    refine az_er 3 rfl ?_
    refine az_ic_ge rfl rfl (fun c11 => ?_) (fun c11 => absurd (by rw [e1, hz]; exact nI_le (by omega) (by omega)) c11)
    refine az_er 1 rfl ?_
    refine az_eret rfl rfl rfl ?_
    exact ⟨by rw [hy]; rfl, rfl⟩
  | succ d ih =>
    intro best r x y z hb ⟨hr, hd⟩ hy hz
    refine az_er 3 rfl ?_
    refine az_ic_ge rfl rfl (fun c11 => absurd c11 (by rw [e1, hz]; exact nI_ge (by omega) (by omega))) (fun c11 => ?_)
    refine az_er 3 rfl ?_
    refine az_ecallF rfl rfl rfl rfl (ct_atI rfl hz (by omega) (by decide) (hT.2.2.1 r (by omega)).2.2) ?_
    refine az_er 3 rfl ?_
    refine az_ecallF rfl rfl rfl rfl (ct_atI rfl hy (by omega) (by decide) (hT.2.2.1 best (by omega)).2.2) ?_
    refine az_ic_le rfl rfl (fun c30 => ?_) (fun c30 => ?_)
    · refine az_er 2 rfl ?_
      rw [sq_ht, if_neg (Int32.not_lt.mpr c30)]
      exact ih best (r + 1) x y _ (by omega) ⟨by omega, by omega⟩ hy (by rw [hz]; exact nI_1' r)
    · refine az_er 4 rfl ?_
      rw [sq_ht, if_pos (Int32.not_le.mp c30)]
      exact ih r (r + 1) x z _ (by omega) ⟨by omega, by omega⟩ hz (by rw [hz]; exact nI_1' r)
set_option maxRecDepth 100000 in
theorem ct_mostRight_1 {sc : az_S} {τ : Nat → Nat} {h : az_H} (hT : rt_T 1 τ h) (hV : rt_V τ) {x : Int32} {j : Nat} (hj : j < 6) (hx : x = nI j) : az_F sc az_m_X3_mostRight [.ref 9, .int x] h (some (.int (nI (sq_hat τ j)))) h := by
  refine az_F.of ?_
  refine az_er 6 rfl ?_
  exact lp_mostRight_1 hT hV (τ 1 - (j + 1)) j (j + 1) x x _ hj ⟨by omega, rfl⟩ hx (by rw [hx]; exact nI_1' j)
set_option maxRecDepth 100000 in
theorem ct_X4has_16 {sc : az_S} {τ : Nat → Nat} {h : az_H} (hT : rt_T 16 τ h) (hV : rt_V τ) {x : Int32} : az_F sc az_m_X4_has [.ref 17, .int x] h (some (.int (if x < 0 then 0 else if nI (τ 0) ≤ x then 0 else 1))) h := by
  have e0 : h 17 6 = nI (τ 0) := hT.1.2.2.2.1
  have e1 : h 24 3 = nI (τ 1) := hT.1.2.2.2.2.1
  have e2 : h 16 3 = nI (τ 2) := hT.1.1
  have e4 : h 28 1 = nI (τ 4) := hT.1.2.2.2.2.2
  have b0 : τ 0 ≤ 4 := hV.1
  have b1 : τ 1 ≤ 6 := hV.2.1
  have b2 : τ 2 ≤ 60 := hV.2.2.1
  have b4 : τ 4 ≤ 8 := hV.2.2.2.1
  refine az_F.of ?_
  refine az_er 1 rfl ?_
  refine az_if_lt rfl rfl (fun c1 => ?_) (fun c1 => ?_)
  · refine az_er 1 rfl ?_
    refine az_eret rfl rfl rfl ?_
    exact ⟨by simp [*], rfl⟩
  · refine az_er 3 rfl ?_
    rw [e0]
    refine az_ic_ge rfl rfl (fun c9 => ?_) (fun c9 => ?_)
    · refine az_er 1 rfl ?_
      refine az_eret rfl rfl rfl ?_
      exact ⟨by simp [*], rfl⟩
    · refine az_er 2 rfl ?_
      refine az_eret rfl rfl rfl ?_
      exact ⟨by simp [*], rfl⟩
set_option maxRecDepth 100000 in
theorem ct_X3has_16 {sc : az_S} {τ : Nat → Nat} {h : az_H} (hT : rt_T 16 τ h) (hV : rt_V τ) {x : Int32} : az_F sc az_m_X3_has [.ref 24, .int x] h (some (.int (if x < 0 then 0 else if nI (τ 1) ≤ x then 0 else 1))) h := by
  have e0 : h 17 6 = nI (τ 0) := hT.1.2.2.2.1
  have e1 : h 24 3 = nI (τ 1) := hT.1.2.2.2.2.1
  have e2 : h 16 3 = nI (τ 2) := hT.1.1
  have e4 : h 28 1 = nI (τ 4) := hT.1.2.2.2.2.2
  have b0 : τ 0 ≤ 4 := hV.1
  have b1 : τ 1 ≤ 6 := hV.2.1
  have b2 : τ 2 ≤ 60 := hV.2.2.1
  have b4 : τ 4 ≤ 8 := hV.2.2.2.1
  refine az_F.of ?_
  refine az_er 1 rfl ?_
  refine az_if_lt rfl rfl (fun c1 => ?_) (fun c1 => ?_)
  · refine az_er 1 rfl ?_
    refine az_eret rfl rfl rfl ?_
    exact ⟨by simp [*], rfl⟩
  · refine az_er 3 rfl ?_
    rw [e1]
    refine az_ic_ge rfl rfl (fun c9 => ?_) (fun c9 => ?_)
    · refine az_er 1 rfl ?_
      refine az_eret rfl rfl rfl ?_
      exact ⟨by simp [*], rfl⟩
    · refine az_er 2 rfl ?_
      refine az_eret rfl rfl rfl ?_
      exact ⟨by simp [*], rfl⟩
set_option maxRecDepth 100000 in
theorem lp_people_16 {sc : az_S} {τ : Nat → Nat} {h : az_H} (hT : rt_T 16 τ h) (hV : rt_V τ) : ∀ (d i : Nat) (x y : Int32), i ≤ τ 0 → τ 0 - i = d → x = nI (sq_pp τ i) → y = nI i → az_E sc az_m_X4_people 4 [.ref 17, .int x, .int y] [] h (fun v h' => v = some (.int (nI (sq_pp τ (τ 0)))) ∧ h' = h) := by
  have e0 : h 17 6 = nI (τ 0) := hT.1.2.2.2.1
  have e1 : h 24 3 = nI (τ 1) := hT.1.2.2.2.2.1
  have e2 : h 16 3 = nI (τ 2) := hT.1.1
  have e4 : h 28 1 = nI (τ 4) := hT.1.2.2.2.2.2
  have b0 : τ 0 ≤ 4 := hV.1
  have b1 : τ 1 ≤ 6 := hV.2.1
  have b2 : τ 2 ≤ 60 := hV.2.2.1
  have b4 : τ 4 ≤ 8 := hV.2.2.2.1
  intro d
  induction d with
  | zero =>
    intro i x y hi hd hx hy
    have he : i = τ 0 := by omega
    refine az_er 3 rfl ?_
    refine az_ic_ge rfl rfl (fun c9 => ?_) (fun c9 => absurd (by rw [e0, hy, he]; exact nI_le (Nat.le_refl _) (by omega)) c9)
    refine az_er 1 rfl ?_
    refine az_eret rfl rfl rfl ?_
    exact ⟨by rw [hx, he], rfl⟩
  | succ d ih =>
    intro i x y hi hd hx hy
    have hlt : i < τ 0 := by omega
    refine az_er 3 rfl ?_
    refine az_ic_ge rfl rfl (fun c9 => absurd c9 (by rw [e0, hy]; exact nI_ge hlt (by omega))) (fun c9 => ?_)
    refine az_er 4 rfl ?_
    refine az_ecallF rfl rfl rfl rfl (ct_atI rfl hy (by omega) (by decide) (hT.2.1 i (by omega)).1) ?_
    refine az_er 4 rfl ?_
    exact ih (i + 1) _ _ (by omega) (by omega) (by rw [hx, nI_add]; rfl) (by rw [hy]; exact nI_1' i)
set_option maxRecDepth 100000 in
theorem ct_people_16 {sc : az_S} {τ : Nat → Nat} {h : az_H} (hT : rt_T 16 τ h) (hV : rt_V τ) : az_F sc az_m_X4_people [.ref 17] h (some (.int (nI (sq_pp τ (τ 0))))) h := by
  refine az_F.of ?_
  refine az_er 4 rfl ?_
  exact lp_people_16 hT hV (τ 0) 0 0 0 (Nat.zero_le _) (by omega) rfl rfl
set_option maxRecDepth 100000 in
theorem ct_presentAgo_16 {sc : az_S} {τ : Nat → Nat} {h : az_H} (hT : rt_T 16 τ h) (hV : rt_V τ) {x : Int32} {k : Nat} (hk : k < 8) (hx : x = nI (k + 1)) : az_F sc az_m_X6_presentAgo [.ref 16, .int x] h (some (.int (nI (sq_ag τ (k + 1))))) h := by
  have e0 : h 17 6 = nI (τ 0) := hT.1.2.2.2.1
  have e1 : h 24 3 = nI (τ 1) := hT.1.2.2.2.2.1
  have e2 : h 16 3 = nI (τ 2) := hT.1.1
  have e4 : h 28 1 = nI (τ 4) := hT.1.2.2.2.2.2
  have b0 : τ 0 ≤ 4 := hV.1
  have b1 : τ 1 ≤ 6 := hV.2.1
  have b2 : τ 2 ≤ 60 := hV.2.2.1
  have b4 : τ 4 ≤ 8 := hV.2.2.2.1
  refine az_F.of ?_
  refine az_er 6 rfl ?_
  refine az_ic_lt rfl rfl (fun c10 => absurd c10 (by rw [hx]; exact nI_nlt (a := k + 1) (b := 1) (by omega) (by omega))) (fun c10 => ?_)
  refine az_er 4 rfl ?_
  rw [e4, hx]
  refine az_ic_gt rfl rfl (fun c21 => ?_) (fun c21 => ?_)
  · refine az_er 2 rfl ?_
    refine az_eret rfl rfl rfl ?_
    exact ⟨by rw [e2, sq_ag, if_neg (by rw [nI_ltI (by omega) (by omega)] at c21; omega)], rfl⟩
  · refine az_er 2 rfl ?_
    refine az_len rfl rfl ?_
    refine az_ic_gt rfl rfl (fun c27 => absurd c27 (nI_nlt (a := 8) (b := k + 1) (by omega) (by omega))) (fun c27 => ?_)
    refine az_er 4 rfl ?_
    refine az_ia rfl rfl (by rw [show nI (k + 1) - Int32.ofInt 1 = nI k from nI_pred k]; exact vp_in_nI (by omega) (by decide)) ?_
    refine az_er 1 rfl ?_
    refine az_eret rfl rfl rfl ?_
    exact ⟨by rw [show nI (k + 1) - Int32.ofInt 1 = nI k from nI_pred k, nI_clamp (by omega), sq_ag, if_pos (by rw [nI_ltI (by omega) (by omega)] at c21; omega), show 59 + (k + 1) = 60 + k by omega]; exact congrArg _ (congrArg _ (hT.2.2.2 k hk)), rfl⟩
set_option maxRecDepth 100000 in
theorem lp_mean_16 {sc : az_S} {τ : Nat → Nat} {h : az_H} (hT : rt_T 16 τ h) (hV : rt_V τ) {s : Int32} {n : Nat} (hn : 1 ≤ n ∧ n ≤ 8) (hs : s = nI n) : ∀ (d i : Nat) (x y : Int32), i ≤ n → n - i = d → x = nI (sq_sm τ i) → y = nI (i + 1) → az_E sc az_m_X6_meanPresent 4 [.ref 16, .int s, .int x, .int y] [] h (fun v h' => v = some (.int (nI (sq_sm τ n) / nI n)) ∧ h' = h) := by
  have e0 : h 17 6 = nI (τ 0) := hT.1.2.2.2.1
  have e1 : h 24 3 = nI (τ 1) := hT.1.2.2.2.2.1
  have e2 : h 16 3 = nI (τ 2) := hT.1.1
  have e4 : h 28 1 = nI (τ 4) := hT.1.2.2.2.2.2
  have b0 : τ 0 ≤ 4 := hV.1
  have b1 : τ 1 ≤ 6 := hV.2.1
  have b2 : τ 2 ≤ 60 := hV.2.2.1
  have b4 : τ 4 ≤ 8 := hV.2.2.2.1
  intro d
  induction d with
  | zero =>
    intro i x y hi hd hx hy
    have he : i = n := by omega
    refine az_er 2 rfl ?_
    refine az_ic_gt rfl rfl (fun c6 => ?_) (fun c6 => absurd (by rw [hy, hs, he, nI_ltI (by omega) (by omega)]; omega) c6)
    refine az_er 2 rfl ?_
    refine az_ecallF rfl rfl rfl rfl (ct_quotient) ?_
    refine az_eret rfl rfl rfl ?_
    exact ⟨by rw [hx, hs, he, if_neg (nI_nle (by omega) (by omega))], rfl⟩
  | succ d ih =>
    intro i x y hi hd hx hy
    refine az_er 2 rfl ?_
    refine az_ic_gt rfl rfl (fun c6 => absurd c6 (by rw [hy, hs, nI_ltI (by omega) (by omega)]; omega)) (fun c6 => ?_)
    refine az_er 3 rfl ?_
    refine az_ecallF rfl rfl rfl rfl (ct_presentAgo_16 hT hV (k := i) (by omega) hy) ?_
    refine az_er 4 rfl ?_
    exact ih (i + 1) _ _ (by omega) (by omega) (by rw [hx, nI_add]; rfl) (by rw [hy]; exact nI_1' (i + 1))
set_option maxRecDepth 100000 in
theorem ct_mean_16 {sc : az_S} {τ : Nat → Nat} {h : az_H} (hT : rt_T 16 τ h) (hV : rt_V τ) {s : Int32} {n : Nat} (hn : 1 ≤ n ∧ n ≤ 8) (hs : s = nI n) : az_F sc az_m_X6_meanPresent [.ref 16, .int s] h (some (.int (nI (sq_sm τ n) / nI n))) h := by
  refine az_F.of ?_
  refine az_er 4 rfl ?_
  exact lp_mean_16 hT hV hn hs n 0 0 1 (Nat.zero_le _) (by omega) rfl rfl
set_option maxRecDepth 100000 in
theorem ct_foretells_16 {sc : az_S} {τ : Nat → Nat} {h : az_H} (hT : rt_T 16 τ h) (hV : rt_V τ) {s : Int32} {n k : Nat} (hn : 1 ≤ n ∧ n ≤ 6) (hs : s = nI n) (hk : k < 6) : az_F sc az_m_X6_foretells [.ref 16, .int (nI k), .int s] h (some (.int (sq_fo τ k n))) h := by
  have e0 : h 17 6 = nI (τ 0) := hT.1.2.2.2.1
  have e1 : h 24 3 = nI (τ 1) := hT.1.2.2.2.2.1
  have e2 : h 16 3 = nI (τ 2) := hT.1.1
  have e4 : h 28 1 = nI (τ 4) := hT.1.2.2.2.2.2
  have b0 : τ 0 ≤ 4 := hV.1
  have b1 : τ 1 ≤ 6 := hV.2.1
  have b2 : τ 2 ≤ 60 := hV.2.2.1
  have b4 : τ 4 ≤ 8 := hV.2.2.2.1
  have eN : n - 1 + 1 = n := by omega
  refine az_F.of ?_
  rcases (show k = 0 ∨ k = 1 ∨ k = 2 ∨ k = 3 ∨ k = 4 ∨ k = 5 by omega) with rfl | rfl | rfl | rfl | rfl | rfl
  · refine az_er 4 rfl ?_
    refine az_ecallF rfl rfl rfl rfl (ct_presentAgo_16 hT hV (k := n - 1) (by omega) (by rw [hs]; congr 1; omega)) ?_
    refine az_eret rfl rfl rfl ?_
    exact ⟨by rw [eN]; rfl, rfl⟩
  · refine az_er 5 rfl ?_
    refine az_ecallF rfl rfl rfl rfl (ct_people_16 hT hV) ?_
    refine az_er 2 rfl ?_
    refine az_ecallF rfl rfl rfl rfl (ct_presentAgo_16 hT hV (k := n - 1) (by omega) (by rw [hs]; congr 1; omega)) ?_
    refine az_er 1 rfl ?_
    refine az_er 1 rfl ?_
    refine az_eret rfl rfl rfl ?_
    exact ⟨by rw [eN]; rfl, rfl⟩
  · refine az_er 4 rfl ?_
    refine az_ecallF rfl rfl rfl rfl (ct_mean_16 hT hV ⟨hn.1, by omega⟩ hs) ?_
    refine az_eret rfl rfl rfl ?_
    exact ⟨rfl, rfl⟩
  · refine az_er 6 rfl ?_
    refine az_ecallF rfl rfl rfl rfl (ct_presentAgo_16 hT hV (k := 0) (by omega) rfl) ?_
    refine az_er 3 rfl ?_
    refine az_ecallF rfl rfl rfl rfl (ct_presentAgo_16 hT hV (k := n - 1) (by omega) (by rw [hs]; congr 1; omega)) ?_
    refine az_er 1 rfl ?_
    refine az_er 1 rfl ?_
    refine az_eret rfl rfl rfl ?_
    exact ⟨by rw [eN]; rfl, rfl⟩
  · refine az_er 5 rfl ?_
    refine az_ecallF rfl rfl rfl rfl (ct_mean_16 hT hV ⟨hn.1, by omega⟩ hs) ?_
    refine az_er 2 rfl ?_
    refine az_er 1 rfl ?_
    refine az_eret rfl rfl rfl ?_
    exact ⟨by rw [hs]; rfl, rfl⟩
  · refine az_er 5 rfl ?_
    refine az_eret rfl rfl rfl ?_
    exact ⟨by rw [hs]; rfl, rfl⟩
set_option maxRecDepth 100000 in
theorem ct_isRight_16 {sc : az_S} {τ : Nat → Nat} {h : az_H} (hT : rt_T 16 τ h) (hV : rt_V τ) {x p : Int32} (hp : h 16 8 = p) : az_F sc az_m_X6_isRight [.ref 16, .int x] h (some (.int (if decide (x ≤ nI (τ 2)) = decide (p ≤ nI (τ 2)) then 1 else 0))) h := by
  have e0 : h 17 6 = nI (τ 0) := hT.1.2.2.2.1
  have e1 : h 24 3 = nI (τ 1) := hT.1.2.2.2.2.1
  have e2 : h 16 3 = nI (τ 2) := hT.1.1
  have e4 : h 28 1 = nI (τ 4) := hT.1.2.2.2.2.2
  have b0 : τ 0 ≤ 4 := hV.1
  have b1 : τ 1 ≤ 6 := hV.2.1
  have b2 : τ 2 ≤ 60 := hV.2.2.1
  have b4 : τ 4 ≤ 8 := hV.2.2.2.1
  refine az_F.of ?_
  refine az_er 3 rfl ?_
  rw [e2]
  refine az_ic_gt rfl rfl (fun c5 => ?_) (fun c5 => ?_)
  · refine az_er 5 rfl ?_
    rw [e2, hp]
    refine az_ic_gt rfl rfl (fun c21 => ?_) (fun c21 => ?_)
    · refine az_er 1 rfl ?_
      refine az_ic_ne rfl rfl (fun c29 => ?_) (fun c29 => ?_)
      · refine az_er 1 rfl ?_
        refine az_eret rfl rfl rfl ?_
        refine ⟨?_, rfl⟩
        rcases Classical.em (x ≤ nI (τ 2)) with h1 | h1 <;> rcases Classical.em (p ≤ nI (τ 2)) with h2 | h2 <;> first | exact absurd h1 (Int32.not_le.mpr c5) | exact absurd (Int32.not_lt.mp c5) h1 | exact absurd h2 (Int32.not_le.mpr c21) | exact absurd (Int32.not_lt.mp c21) h2 | exact absurd rfl c29 | exact absurd c29 (by decide) | (simp [h1, h2]; done)
      · refine az_er 2 rfl ?_
        refine az_eret rfl rfl rfl ?_
        refine ⟨?_, rfl⟩
        rcases Classical.em (x ≤ nI (τ 2)) with h1 | h1 <;> rcases Classical.em (p ≤ nI (τ 2)) with h2 | h2 <;> first | exact absurd h1 (Int32.not_le.mpr c5) | exact absurd (Int32.not_lt.mp c5) h1 | exact absurd h2 (Int32.not_le.mpr c21) | exact absurd (Int32.not_lt.mp c21) h2 | exact absurd rfl c29 | exact absurd c29 (by decide) | (simp [h1, h2]; done)
    · refine az_er 2 rfl ?_
      refine az_ic_ne rfl rfl (fun c29 => ?_) (fun c29 => ?_)
      · refine az_er 1 rfl ?_
        refine az_eret rfl rfl rfl ?_
        refine ⟨?_, rfl⟩
        rcases Classical.em (x ≤ nI (τ 2)) with h1 | h1 <;> rcases Classical.em (p ≤ nI (τ 2)) with h2 | h2 <;> first | exact absurd h1 (Int32.not_le.mpr c5) | exact absurd (Int32.not_lt.mp c5) h1 | exact absurd h2 (Int32.not_le.mpr c21) | exact absurd (Int32.not_lt.mp c21) h2 | exact absurd rfl c29 | exact absurd c29 (by decide) | (simp [h1, h2]; done)
      · refine az_er 2 rfl ?_
        refine az_eret rfl rfl rfl ?_
        refine ⟨?_, rfl⟩
        rcases Classical.em (x ≤ nI (τ 2)) with h1 | h1 <;> rcases Classical.em (p ≤ nI (τ 2)) with h2 | h2 <;> first | exact absurd h1 (Int32.not_le.mpr c5) | exact absurd (Int32.not_lt.mp c5) h1 | exact absurd h2 (Int32.not_le.mpr c21) | exact absurd (Int32.not_lt.mp c21) h2 | exact absurd rfl c29 | exact absurd c29 (by decide) | (simp [h1, h2]; done)
  · refine az_er 6 rfl ?_
    rw [e2, hp]
    refine az_ic_gt rfl rfl (fun c21 => ?_) (fun c21 => ?_)
    · refine az_er 1 rfl ?_
      refine az_ic_ne rfl rfl (fun c29 => ?_) (fun c29 => ?_)
      · refine az_er 1 rfl ?_
        refine az_eret rfl rfl rfl ?_
        refine ⟨?_, rfl⟩
        rcases Classical.em (x ≤ nI (τ 2)) with h1 | h1 <;> rcases Classical.em (p ≤ nI (τ 2)) with h2 | h2 <;> first | exact absurd h1 (Int32.not_le.mpr c5) | exact absurd (Int32.not_lt.mp c5) h1 | exact absurd h2 (Int32.not_le.mpr c21) | exact absurd (Int32.not_lt.mp c21) h2 | exact absurd rfl c29 | exact absurd c29 (by decide) | (simp [h1, h2]; done)
      · refine az_er 2 rfl ?_
        refine az_eret rfl rfl rfl ?_
        refine ⟨?_, rfl⟩
        rcases Classical.em (x ≤ nI (τ 2)) with h1 | h1 <;> rcases Classical.em (p ≤ nI (τ 2)) with h2 | h2 <;> first | exact absurd h1 (Int32.not_le.mpr c5) | exact absurd (Int32.not_lt.mp c5) h1 | exact absurd h2 (Int32.not_le.mpr c21) | exact absurd (Int32.not_lt.mp c21) h2 | exact absurd rfl c29 | exact absurd c29 (by decide) | (simp [h1, h2]; done)
    · refine az_er 2 rfl ?_
      refine az_ic_ne rfl rfl (fun c29 => ?_) (fun c29 => ?_)
      · refine az_er 1 rfl ?_
        refine az_eret rfl rfl rfl ?_
        refine ⟨?_, rfl⟩
        rcases Classical.em (x ≤ nI (τ 2)) with h1 | h1 <;> rcases Classical.em (p ≤ nI (τ 2)) with h2 | h2 <;> first | exact absurd h1 (Int32.not_le.mpr c5) | exact absurd (Int32.not_lt.mp c5) h1 | exact absurd h2 (Int32.not_le.mpr c21) | exact absurd (Int32.not_lt.mp c21) h2 | exact absurd rfl c29 | exact absurd c29 (by decide) | (simp [h1, h2]; done)
      · refine az_er 2 rfl ?_
        refine az_eret rfl rfl rfl ?_
        refine ⟨?_, rfl⟩
        rcases Classical.em (x ≤ nI (τ 2)) with h1 | h1 <;> rcases Classical.em (p ≤ nI (τ 2)) with h2 | h2 <;> first | exact absurd h1 (Int32.not_le.mpr c5) | exact absurd (Int32.not_lt.mp c5) h1 | exact absurd h2 (Int32.not_le.mpr c21) | exact absurd (Int32.not_lt.mp c21) h2 | exact absurd rfl c29 | exact absurd c29 (by decide) | (simp [h1, h2]; done)
set_option maxRecDepth 100000 in
theorem lp_mostRight_16 {sc : az_S} {τ : Nat → Nat} {h : az_H} (hT : rt_T 16 τ h) (hV : rt_V τ) : ∀ (d best r : Nat) (x y z : Int32), best < 6 → r < 2 ^ 31 - 1 ∧ τ 1 - r = d → y = nI best → z = nI r → az_E sc az_m_X3_mostRight 6 [.ref 24, .int x, .int y, .int z] [] h (fun v h' => v = some (.int (nI (sq_ht τ d best r))) ∧ h' = h) := by
  have e0 : h 17 6 = nI (τ 0) := hT.1.2.2.2.1
  have e1 : h 24 3 = nI (τ 1) := hT.1.2.2.2.2.1
  have e2 : h 16 3 = nI (τ 2) := hT.1.1
  have e4 : h 28 1 = nI (τ 4) := hT.1.2.2.2.2.2
  have b0 : τ 0 ≤ 4 := hV.1
  have b1 : τ 1 ≤ 6 := hV.2.1
  have b2 : τ 2 ≤ 60 := hV.2.2.1
  have b4 : τ 4 ≤ 8 := hV.2.2.2.1
  intro d
  induction d with
  | zero =>
    intro best r x y z hb ⟨hr, hd⟩ hy hz
    refine az_er 3 rfl ?_
    refine az_ic_ge rfl rfl (fun c11 => ?_) (fun c11 => absurd (by rw [e1, hz]; exact nI_le (by omega) (by omega)) c11)
    refine az_er 1 rfl ?_
    refine az_eret rfl rfl rfl ?_
    exact ⟨by rw [hy]; rfl, rfl⟩
  | succ d ih =>
    intro best r x y z hb ⟨hr, hd⟩ hy hz
    refine az_er 3 rfl ?_
    refine az_ic_ge rfl rfl (fun c11 => absurd c11 (by rw [e1, hz]; exact nI_ge (by omega) (by omega))) (fun c11 => ?_)
    refine az_er 3 rfl ?_
    refine az_ecallF rfl rfl rfl rfl (ct_atI rfl hz (by omega) (by decide) (hT.2.2.1 r (by omega)).2.2) ?_
    refine az_er 3 rfl ?_
    refine az_ecallF rfl rfl rfl rfl (ct_atI rfl hy (by omega) (by decide) (hT.2.2.1 best (by omega)).2.2) ?_
    refine az_ic_le rfl rfl (fun c30 => ?_) (fun c30 => ?_)
    · refine az_er 2 rfl ?_
      rw [sq_ht, if_neg (Int32.not_lt.mpr c30)]
      exact ih best (r + 1) x y _ (by omega) ⟨by omega, by omega⟩ hy (by rw [hz]; exact nI_1' r)
    · refine az_er 4 rfl ?_
      rw [sq_ht, if_pos (Int32.not_le.mp c30)]
      exact ih r (r + 1) x z _ (by omega) ⟨by omega, by omega⟩ hz (by rw [hz]; exact nI_1' r)
set_option maxRecDepth 100000 in
theorem ct_mostRight_16 {sc : az_S} {τ : Nat → Nat} {h : az_H} (hT : rt_T 16 τ h) (hV : rt_V τ) {x : Int32} {j : Nat} (hj : j < 6) (hx : x = nI j) : az_F sc az_m_X3_mostRight [.ref 24, .int x] h (some (.int (nI (sq_hat τ j)))) h := by
  refine az_F.of ?_
  refine az_er 6 rfl ?_
  exact lp_mostRight_16 hT hV (τ 1 - (j + 1)) j (j + 1) x x _ hj ⟨by omega, rfl⟩ hx (by rw [hx]; exact nI_1' j)
