/-! THE REFERENCE: its row 'now' is cell 61 -/
section AZI
variable {sc : az_S} {M : az_M} {pc : Nat} {ls st : List Value} {h : az_H} {Q : Option Value → az_H → Prop} {n : Nat}
theorem az_iaI {k N j : Nat} {i v : Int32} (hl : az_look (az_cd M) pc = some (.iaload, n)) (hw : az_wd[k]? = some (.inr (0, N))) (hi : i = nI j) (hj : j < N) (hN : N < 2 ^ 31) (hv : h k j = v) (K : az_E sc M (pc + n) ls (.int v :: st) h Q) (hk : k < 75 := by decide) : az_E sc M pc ls (.int i :: .ref k :: st) h Q := by
  subst hi
  refine az_ia hl hw (vp_in_nI hj hN) ?_ hk
  rw [nI_clamp (by omega), hv]
  exact K
theorem az_baI {k N j : Nat} {i v : Int32} (hl : az_look (az_cd M) pc = some (.baload, n)) (hw : az_wd[k]? = some (.inr (1, N))) (hi : i = nI j) (hj : j < N) (hN : N < 2 ^ 31) (hv : h k j = v) (K : az_E sc M (pc + n) ls (.int v :: st) h Q) (hk : k < 75 := by decide) : az_E sc M pc ls (.int i :: .ref k :: st) h Q := by
  subst hi
  refine az_ba hl hw (vp_in_nI hj hN) ?_ hk
  rw [nI_clamp (by omega), hv]
  exact K
theorem az_caI {k N j : Nat} {i v : Int32} (hl : az_look (az_cd M) pc = some (.caload, n)) (hw : az_wd[k]? = some (.inr (2, N))) (hi : i = nI j) (hj : j < N) (hN : N < 2 ^ 31) (hv : h k j = v) (K : az_E sc M (pc + n) ls (.int v :: st) h Q) (hk : k < 75 := by decide) : az_E sc M pc ls (.int i :: .ref k :: st) h Q := by
  subst hi
  refine az_ca hl hw (vp_in_nI hj hN) ?_ hk
  rw [nI_clamp (by omega), hv]
  exact K
theorem az_iasI {k N j : Nat} {i x : Int32} (hl : az_look (az_cd M) pc = some (.iastore, n)) (hw : az_wd[k]? = some (.inr (0, N))) (hi : i = nI j) (hj : j < N) (hN : N < 2 ^ 31) (K : az_E sc M (pc + n) ls st (az_up h k j x) Q) (hk : k < 75 := by decide) : az_E sc M pc ls (.int x :: .int i :: .ref k :: st) h Q := by
  subst hi
  refine az_ias hl hw (vp_in_nI hj hN) ?_ hk
  rw [nI_clamp (by omega)]
  exact K
theorem az_basI {k N j : Nat} {i x : Int32} {g : Bool} (hl : az_look (az_cd M) pc = some (.bastore, n)) (hw : az_wd[k]? = some (.inr (1, N))) (hi : i = nI j) (hj : j < N) (hN : N < 2 ^ 31) (hx : x = sq_b g) (K : az_E sc M (pc + n) ls st (az_up h k j (sq_b g)) Q) (hk : k < 75 := by decide) : az_E sc M pc ls (.int x :: .int i :: .ref k :: st) h Q := by
  subst hi
  subst hx
  refine az_bas hl hw (vp_in_nI hj hN) ?_ hk
  rw [nI_clamp (by omega), show vp_nar .boolean (sq_b g) = sq_b g by cases g <;> rfl]
  exact K
end AZI
theorem ix_of {x y : Int32} {s k : Nat} (hx : x = nI s) (hy : y = nI k) : Int8.toInt32 (Int8.ofInt 10) + Int8.toInt32 (Int8.ofInt 6) * x + y = nI (10 + 6 * s + k) := by
  rw [hx, hy]
  show nI 10 + nI 6 * nI s + nI k = _
  rw [pk_mul, nI_add, nI_add]
theorem ix_r {x : Int32} {r : Nat} (hx : x = nI r) : Int8.toInt32 (Int8.ofInt 40) + Int32.ofInt 3 * x = nI (40 + 3 * r) := by
  rw [hx]
  show nI 40 + nI 3 * nI r = _
  rw [pk_mul, nI_add]
theorem ix_rk {x : Int32} {r : Nat} {c : Int} {k : Nat} (hx : x = nI r) (hc : Int32.ofInt c = nI k) : Int8.toInt32 (Int8.ofInt 40) + Int32.ofInt 3 * x + Int32.ofInt c = nI (40 + 3 * r + k) := by
  rw [ix_r hx, hc, nI_add]
theorem ix_w {x : Int32} {k : Nat} (hx : x = nI k) : Int8.toInt32 (Int8.ofInt 60) + x = nI (60 + k) := by
  rw [hx]
  show nI 60 + nI k = _
  rw [nI_add]
theorem ix_w1 {x : Int32} {k : Nat} (hx : x = nI (k + 1)) : Int8.toInt32 (Int8.ofInt 60) + x - Int32.ofInt 1 = nI (60 + k) := by
  rw [ix_w hx]
  exact nI_pred (60 + k)
theorem rt_M_h {c : Nat} {τ : Nat → Nat} {h h' : az_H} (hT : rt_M c τ h) (e : h' c = h c) : rt_M c τ h' := fun j hj => by rw [e]; exact hT j hj
theorem rt_M_up {c j : Nat} {τ τ2 : Nat → Nat} {h : az_H} {v : Int32} (hT : rt_M c τ h) (e : ∀ i, i < 70 → i ≠ j → τ2 i = τ i) (hv : v = nI (τ2 j)) : rt_M c τ2 (az_up h c j v) := by
  intro i hi
  by_cases hij : i = j
  · subst hij
    rw [az_up_s, hv]
  · rw [az_up_n hij, e i hi hij]
    exact hT i hi
theorem rt_M_cong {c : Nat} {τ τ2 : Nat → Nat} {h : az_H} (hT : rt_M c τ h) (e : ∀ i, i < 70 → τ2 i = τ i) : rt_M c τ2 h := fun j hj => by rw [e j hj]; exact hT j hj
set_option maxRecDepth 100000 in
theorem cm_of {sc : az_S} {τ : Nat → Nat} {h : az_H} (hT : rt_M 61 τ h) {x y : Int32} {s k : Nat} (hx : x = nI s) (hy : y = nI k) (hk : 10 + 6 * s + k < 70) : az_F sc az_m_X8_of [.ref 59, .int x, .int y] h (some (.int (nI (τ (10 + 6 * s + k))))) h := by
  refine az_F.of ?_
  refine az_er 9 rfl ?_
  refine az_iaI rfl rfl (ix_of hx hy) hk (by decide) (hT _ hk) ?_
  refine az_eret rfl rfl rfl ?_
  exact ⟨rfl, rfl⟩
set_option maxRecDepth 100000 in
theorem lm_people {sc : az_S} {τ : Nat → Nat} {h : az_H} (hT : rt_M 61 τ h) (hV : rt_V τ) : ∀ (d i : Nat) (x y : Int32), i ≤ τ 0 → τ 0 - i = d → x = nI (sq_pp τ i) → y = nI i → az_E sc az_m_X8_people 4 [.ref 59, .int x, .int y] [] h (fun v h' => v = some (.int (nI (sq_pp τ (τ 0)))) ∧ h' = h) := by
  have b0 : τ 0 ≤ 4 := hV.1
  have b1 : τ 1 ≤ 6 := hV.2.1
  have b2 : τ 2 ≤ 60 := hV.2.2.1
  have b4 : τ 4 ≤ 8 := hV.2.2.2.1
  intro d
  induction d with
  | zero =>
    intro i x y hi hd hx hy
    have he : i = τ 0 := by omega
    refine az_er 4 rfl ?_
    refine az_iaI rfl rfl (j := 0) (show Int32.ofInt 0 = nI 0 from rfl) (by decide) (by decide) (hT 0 (by decide)) ?_
    refine az_ic_ge rfl rfl (fun c11 => ?_) (fun c11 => absurd (by rw [hy, he]; exact nI_le (Nat.le_refl _) (by omega)) c11)
    refine az_er 1 rfl ?_
    refine az_eret rfl rfl rfl ?_
    exact ⟨by rw [hx, he], rfl⟩
  | succ d ih =>
    intro i x y hi hd hx hy
    have hlt : i < τ 0 := by omega
    refine az_er 4 rfl ?_
    refine az_iaI rfl rfl (j := 0) (show Int32.ofInt 0 = nI 0 from rfl) (by decide) (by decide) (hT 0 (by decide)) ?_
    refine az_ic_ge rfl rfl (fun c11 => absurd c11 (by rw [hy]; exact nI_ge hlt (by omega))) (fun c11 => ?_)
    refine az_er 4 rfl ?_
    refine az_ecallF rfl rfl rfl rfl (cm_of hT (s := i) (k := 0) hy rfl (by omega)) ?_
    refine az_er 4 rfl ?_
    exact ih (i + 1) _ _ (by omega) (by omega) (by rw [hx, nI_add]; rfl) (by rw [hy]; exact nI_1' i)
set_option maxRecDepth 100000 in
theorem cm_people {sc : az_S} {τ : Nat → Nat} {h : az_H} (hT : rt_M 61 τ h) (hV : rt_V τ) : az_F sc az_m_X8_people [.ref 59] h (some (.int (nI (sq_pp τ (τ 0))))) h := by
  refine az_F.of ?_
  refine az_er 4 rfl ?_
  exact lm_people hT hV (τ 0) 0 0 0 (Nat.zero_le _) (by omega) rfl rfl
set_option maxRecDepth 100000 in
theorem cm_ago {sc : az_S} {τ : Nat → Nat} {h : az_H} (hT : rt_M 61 τ h) (hV : rt_V τ) {x : Int32} {k : Nat} (hk : k < 8) (hx : x = nI (k + 1)) : az_F sc az_m_X8_ago [.ref 59, .int x] h (some (.int (nI (sq_ag τ (k + 1))))) h := by
  have b0 : τ 0 ≤ 4 := hV.1
  have b1 : τ 1 ≤ 6 := hV.2.1
  have b2 : τ 2 ≤ 60 := hV.2.2.1
  have b4 : τ 4 ≤ 8 := hV.2.2.2.1
  refine az_F.of ?_
  refine az_er 4 rfl ?_
  refine az_iaI rfl rfl (j := 4) (show Int32.ofInt 4 = nI 4 from rfl) (by decide) (by decide) (hT 4 (by decide)) ?_
  rw [hx]
  refine az_ic_gt rfl rfl (fun c7 => ?_) (fun c7 => ?_)
  · refine az_er 3 rfl ?_
    refine az_iaI rfl rfl (j := 2) (show Int32.ofInt 2 = nI 2 from rfl) (by decide) (by decide) (hT 2 (by decide)) ?_
    refine az_eret rfl rfl rfl ?_
    exact ⟨by rw [sq_ag, if_neg (by rw [nI_ltI (by omega) (by omega)] at c7; omega)], rfl⟩
  · refine az_er 7 rfl ?_
    refine az_iaI rfl rfl (ix_w1 rfl) (show 60 + k < 70 by omega) (by decide) (hT _ (by omega)) ?_
    refine az_er 1 rfl ?_
    refine az_eret rfl rfl rfl ?_
    exact ⟨by rw [sq_ag, if_pos (by rw [nI_ltI (by omega) (by omega)] at c7; omega), show 59 + (k + 1) = 60 + k by omega], rfl⟩
set_option maxRecDepth 100000 in
theorem lm_fo2 {sc : az_S} {τ : Nat → Nat} {h : az_H} (hT : rt_M 61 τ h) (hV : rt_V τ) {s : Int32} {n : Nat} (hn : 1 ≤ n ∧ n ≤ 8) (hs : s = nI n) : ∀ (d i : Nat) (x y : Int32), i ≤ n → n - i = d → x = nI (sq_sm τ i) → y = nI (i + 1) → az_E sc az_m_X8_foretold 87 [.ref 59, .int (nI 2), .int s, .int x, .int y] [] h (fun v h' => v = some (.int (sq_fo τ 2 n)) ∧ h' = h) := by
  have b0 : τ 0 ≤ 4 := hV.1
  have b1 : τ 1 ≤ 6 := hV.2.1
  have b2 : τ 2 ≤ 60 := hV.2.2.1
  have b4 : τ 4 ≤ 8 := hV.2.2.2.1
  intro d
  induction d with
  | zero =>
    intro i x y hi hd hx hy
    have he : i = n := by omega
    refine az_er 2 rfl ?_
    refine az_ic_gt rfl rfl (fun c90 => ?_) (fun c90 => absurd (by rw [hy, hs, he, nI_ltI (by omega) (by omega)]; omega) c90)
    refine az_er 2 rfl ?_
    refine az_ic_ne rfl rfl (fun c110 => absurd rfl c110) (fun c110 => ?_)
    refine az_er 2 rfl ?_
    refine az_div rfl (by rw [hs]; exact nI_ne0 (by omega) (by omega)) ?_
    refine az_er 1 rfl ?_
    refine az_eret rfl rfl rfl ?_
    exact ⟨by rw [hx, hs, he]; rfl, rfl⟩
  | succ d ih =>
    intro i x y hi hd hx hy
    refine az_er 2 rfl ?_
    refine az_ic_gt rfl rfl (fun c90 => absurd c90 (by rw [hy, hs, nI_ltI (by omega) (by omega)]; omega)) (fun c90 => ?_)
    refine az_er 3 rfl ?_
    refine az_ecallF rfl rfl rfl rfl (cm_ago hT hV (k := i) (by omega) hy) ?_
    refine az_er 4 rfl ?_
    exact ih (i + 1) _ _ (by omega) (by omega) (by rw [hx, nI_add]; rfl) (by rw [hy]; exact nI_1' (i + 1))
set_option maxRecDepth 100000 in
theorem lm_fo4 {sc : az_S} {τ : Nat → Nat} {h : az_H} (hT : rt_M 61 τ h) (hV : rt_V τ) {s : Int32} {n : Nat} (hn : 1 ≤ n ∧ n ≤ 8) (hs : s = nI n) : ∀ (d i : Nat) (x y : Int32), i ≤ n → n - i = d → x = nI (sq_sm τ i) → y = nI (i + 1) → az_E sc az_m_X8_foretold 87 [.ref 59, .int (nI 4), .int s, .int x, .int y] [] h (fun v h' => v = some (.int (sq_fo τ 4 n)) ∧ h' = h) := by
  have b0 : τ 0 ≤ 4 := hV.1
  have b1 : τ 1 ≤ 6 := hV.2.1
  have b2 : τ 2 ≤ 60 := hV.2.2.1
  have b4 : τ 4 ≤ 8 := hV.2.2.2.1
  intro d
  induction d with
  | zero =>
    intro i x y hi hd hx hy
    have he : i = n := by omega
    refine az_er 2 rfl ?_
    refine az_ic_gt rfl rfl (fun c90 => ?_) (fun c90 => absurd (by rw [hy, hs, he, nI_ltI (by omega) (by omega)]; omega) c90)
    refine az_er 2 rfl ?_
    refine az_ic_ne rfl rfl (fun c110 => ?_) (fun c110 => absurd c110 (by decide))
    refine az_er 3 rfl ?_
    refine az_div rfl (by rw [hs]; exact nI_ne0 (by omega) (by omega)) ?_
    refine az_er 2 rfl ?_
    refine az_er 1 rfl ?_
    refine az_eret rfl rfl rfl ?_
    exact ⟨by rw [hx, hs, he]; rfl, rfl⟩
  | succ d ih =>
    intro i x y hi hd hx hy
    refine az_er 2 rfl ?_
    refine az_ic_gt rfl rfl (fun c90 => absurd c90 (by rw [hy, hs, nI_ltI (by omega) (by omega)]; omega)) (fun c90 => ?_)
    refine az_er 3 rfl ?_
    refine az_ecallF rfl rfl rfl rfl (cm_ago hT hV (k := i) (by omega) hy) ?_
    refine az_er 4 rfl ?_
    exact ih (i + 1) _ _ (by omega) (by omega) (by rw [hx, nI_add]; rfl) (by rw [hy]; exact nI_1' (i + 1))
set_option maxRecDepth 100000 in
theorem cm_foretold {sc : az_S} {τ : Nat → Nat} {h : az_H} (hT : rt_M 61 τ h) (hV : rt_V τ) {s : Int32} {n k : Nat} (hn : 1 ≤ n ∧ n ≤ 6) (hs : s = nI n) (hk : k < 6) : az_F sc az_m_X8_foretold [.ref 59, .int (nI k), .int s] h (some (.int (sq_fo τ k n))) h := by
  have b0 : τ 0 ≤ 4 := hV.1
  have b1 : τ 1 ≤ 6 := hV.2.1
  have b2 : τ 2 ≤ 60 := hV.2.2.1
  have b4 : τ 4 ≤ 8 := hV.2.2.2.1
  have eN : n - 1 + 1 = n := by omega
  refine az_F.of ?_
  rcases (show k = 0 ∨ k = 1 ∨ k = 2 ∨ k = 3 ∨ k = 4 ∨ k = 5 by omega) with rfl | rfl | rfl | rfl | rfl | rfl
  · refine az_er 6 rfl ?_
    refine az_ecallF rfl rfl rfl rfl (cm_ago hT hV (k := n - 1) (by omega) (by rw [hs]; congr 1; omega)) ?_
    refine az_eret rfl rfl rfl ?_
    exact ⟨by rw [eN]; rfl, rfl⟩
  · refine az_er 6 rfl ?_
    refine az_ecallF rfl rfl rfl rfl (cm_people hT hV) ?_
    refine az_er 2 rfl ?_
    refine az_ecallF rfl rfl rfl rfl (cm_ago hT hV (k := n - 1) (by omega) (by rw [hs]; congr 1; omega)) ?_
    refine az_er 1 rfl ?_
    refine az_er 1 rfl ?_
    refine az_eret rfl rfl rfl ?_
    exact ⟨by rw [eN]; rfl, rfl⟩
  · refine az_er 6 rfl ?_
    exact lm_fo2 hT hV ⟨hn.1, by omega⟩ hs n 0 0 1 (Nat.zero_le _) (by omega) rfl rfl
  · refine az_er 8 rfl ?_
    refine az_ecallF rfl rfl rfl rfl (cm_ago hT hV (k := 0) (by omega) rfl) ?_
    refine az_er 3 rfl ?_
    refine az_ecallF rfl rfl rfl rfl (cm_ago hT hV (k := n - 1) (by omega) (by rw [hs]; congr 1; omega)) ?_
    refine az_er 1 rfl ?_
    refine az_er 1 rfl ?_
    refine az_eret rfl rfl rfl ?_
    exact ⟨by rw [eN]; rfl, rfl⟩
  · refine az_er 6 rfl ?_
    exact lm_fo4 hT hV ⟨hn.1, by omega⟩ hs n 0 0 1 (Nat.zero_le _) (by omega) rfl rfl
  · refine az_er 7 rfl ?_
    refine az_eret rfl rfl rfl ?_
    exact ⟨by rw [hs]; rfl, rfl⟩
set_option maxRecDepth 100000 in
theorem cm_isRoom {sc : az_S} {τ : Nat → Nat} {h : az_H} (hT : rt_M 61 τ h) (hV : rt_V τ) {x : Int32} {j : Nat} (hj : j < τ 1) (hx : x = nI j) : az_F sc az_m_X8_isRoom [.ref 59, .int x] h (some (.int (sq_b (sq_ok τ j)))) h := by
  have b0 : τ 0 ≤ 4 := hV.1
  have b1 : τ 1 ≤ 6 := hV.2.1
  have b2 : τ 2 ≤ 60 := hV.2.2.1
  have b4 : τ 4 ≤ 8 := hV.2.2.2.1
  refine az_F.of ?_
  refine az_er 8 rfl ?_
  refine az_iaI rfl rfl (ix_r hx) (show 40 + 3 * j < 70 by omega) (by decide) (hT _ (by omega)) ?_
  refine az_er 9 rfl ?_
  refine az_iaI rfl rfl (ix_rk (k := 1) hx rfl) (show 40 + 3 * j + 1 < 70 by omega) (by decide) (hT _ (by omega)) ?_
  refine az_ecallF rfl rfl rfl rfl (cm_foretold hT hV ⟨by have := hV.2.2.2.2.2.2.2.2.1 j hj; rw [show 40 + 3 * j + 1 = 41 + 3 * j by omega]; exact this, by have := (hV.2.2.2.2.2.2.2.1 j (by omega)).2; rw [show 40 + 3 * j + 1 = 41 + 3 * j by omega]; exact this⟩ rfl (hV.2.2.2.2.2.2.2.1 j (by omega)).1) ?_
  refine az_er 3 rfl ?_
  refine az_iaI rfl rfl (j := 2) (show Int32.ofInt 2 = nI 2 from rfl) (by decide) (by decide) (hT 2 (by decide)) ?_
  refine az_ic_gt rfl rfl (fun c34 => ?_) (fun c34 => ?_)
  · refine az_er 1 rfl ?_
    refine az_eret rfl rfl rfl ?_
    exact ⟨by rw [sq_ok, sq_fb, show 41 + 3 * j = 40 + 3 * j + 1 by omega, sq_bf (Int32.not_le.mpr c34)]; rfl, rfl⟩
  · refine az_er 2 rfl ?_
    refine az_eret rfl rfl rfl ?_
    exact ⟨by rw [sq_ok, sq_fb, show 41 + 3 * j = 40 + 3 * j + 1 by omega, sq_bt (Int32.not_lt.mp c34)]; rfl, rfl⟩
set_option maxRecDepth 100000 in
theorem lm_hat {sc : az_S} {τ : Nat → Nat} {h : az_H} (hT : rt_M 61 τ h) (hV : rt_V τ) : ∀ (d best r : Nat) (x y z : Int32), best < 6 → r < 2 ^ 31 - 1 ∧ τ 1 - r = d → y = nI best → z = nI r → az_E sc az_m_X8_hat 6 [.ref 59, .int x, .int y, .int z] [] h (fun v h' => v = some (.int (nI (sq_ht τ d best r))) ∧ h' = h) := by
  have b0 : τ 0 ≤ 4 := hV.1
  have b1 : τ 1 ≤ 6 := hV.2.1
  have b2 : τ 2 ≤ 60 := hV.2.2.1
  have b4 : τ 4 ≤ 8 := hV.2.2.2.1
  intro d
  induction d with
  | zero =>
    intro best r x y z hb ⟨hr, hd⟩ hy hz
    refine az_er 4 rfl ?_
    refine az_iaI rfl rfl (j := 1) (show Int32.ofInt 1 = nI 1 from rfl) (by decide) (by decide) (hT 1 (by decide)) ?_
    refine az_ic_ge rfl rfl (fun c13 => ?_) (fun c13 => absurd (by rw [hz]; exact nI_le (by omega) (by omega)) c13)
    refine az_er 1 rfl ?_
    refine az_eret rfl rfl rfl ?_
    exact ⟨by rw [hy]; rfl, rfl⟩
  | succ d ih =>
    intro best r x y z hb ⟨hr, hd⟩ hy hz
    refine az_er 4 rfl ?_
    refine az_iaI rfl rfl (j := 1) (show Int32.ofInt 1 = nI 1 from rfl) (by decide) (by decide) (hT 1 (by decide)) ?_
    refine az_ic_ge rfl rfl (fun c13 => absurd c13 (by rw [hz]; exact nI_ge (by omega) (by omega))) (fun c13 => ?_)
    refine az_er 9 rfl ?_
    refine az_iaI rfl rfl (ix_rk (k := 2) hz rfl) (show 40 + 3 * r + 2 < 70 by omega) (by decide) (hT _ (by omega)) ?_
    refine az_er 9 rfl ?_
    refine az_iaI rfl rfl (ix_rk (k := 2) hy rfl) (show 40 + 3 * best + 2 < 70 by omega) (by decide) (hT _ (by omega)) ?_
    refine az_ic_le rfl rfl (fun c42 => ?_) (fun c42 => ?_)
    · refine az_er 4 rfl ?_
      rw [show 40 + 3 * r + 2 = 42 + 3 * r by omega, show 40 + 3 * best + 2 = 42 + 3 * best by omega] at c42
      rw [sq_ht, if_neg (Int32.not_lt.mpr c42)]
      exact ih best (r + 1) x _ _ (by omega) ⟨by omega, by omega⟩ hy (by rw [hz]; exact nI_1' r)
    · refine az_er 5 rfl ?_
      rw [show 40 + 3 * r + 2 = 42 + 3 * r by omega, show 40 + 3 * best + 2 = 42 + 3 * best by omega] at c42
      rw [sq_ht, if_pos (Int32.not_le.mp c42)]
      exact ih r (r + 1) x _ _ (by omega) ⟨by omega, by omega⟩ hz (by rw [hz]; exact nI_1' r)
set_option maxRecDepth 100000 in
theorem cm_hat {sc : az_S} {τ : Nat → Nat} {h : az_H} (hT : rt_M 61 τ h) (hV : rt_V τ) {x : Int32} {j : Nat} (hj : j < 6) (hx : x = nI j) : az_F sc az_m_X8_hat [.ref 59, .int x] h (some (.int (nI (sq_hat τ j)))) h := by
  refine az_F.of ?_
  refine az_er 6 rfl ?_
  exact lm_hat hT hV (τ 1 - (j + 1)) j (j + 1) x x _ hj ⟨by omega, rfl⟩ hx (by rw [hx]; exact nI_1' j)
