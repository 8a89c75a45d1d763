/-! THE REFERENCE GOES THROUGH THE PLANS -/
def pX (τ : Nat → Nat) (k : Nat) : Nat → Nat := pl_x (bd_n τ) (τ 0) k
def rs_c (τ : Nat → Nat) (p : Nat) (x : Nat → Nat) (s : Nat) : Prop := (x s = 0 ∨ (bd_h τ s : Int) ≤ pw_i τ p s) ∧ (x s = bd_n τ s ∨ pw_i τ (p + 1) s ≤ (bd_h τ s : Int))
def rs_P (τ : Nat → Nat) (x : Nat → Nat) : Prop := ∀ s, s < τ 0 → rs_c τ (pl_sn x (τ 0)) x s
theorem sq_wg_i {τ : Nat → Nat} (hV : rt_V τ) {p s : Nat} (hp : p ≤ 1000) : sq_wg τ p s = iI (pw_i τ p s) := by
  have h2 := hV.2.2.1
  unfold sq_wg pw_i
  by_cases h : p ≤ τ 2
  · rw [if_pos (nI_le h (by omega)), if_pos h, iI_n, iI_n, iI_sub]
  · rw [if_neg (fun q => h ((nI_leI (by omega) (by omega)).mp q)), if_neg h, iI_n, iI_n, iI_sub]
theorem pw_i_b {τ : Nat → Nat} (hV : rt_V τ) {p s : Nat} (hs : s < 4) : -9 ≤ pw_i τ p s ∧ pw_i τ p s ≤ 9 := by
  have h9 := bd_9 hV hs
  unfold pw_i
  split <;> omega
theorem pX_9 {τ : Nat → Nat} (hV : rt_V τ) {k : Nat} : ∀ s, s < 4 → pX τ k s ≤ 9 := fun s hs => by
  have h9 := bd_9 hV hs
  have := pl_x_le (r := bd_n τ) (τ 0) k s
  unfold bd_n at this
  unfold pX
  exact Nat.le_trans this h9.1
theorem pX_36 {τ : Nat → Nat} (hV : rt_V τ) {k : Nat} : pl_sn (pX τ k) (τ 0) ≤ 36 := by
  have h0 := hV.1
  have := pl_sn_9 (f := pX τ k) (τ 0) (fun s hs => pX_9 hV s (by omega))
  omega
def pW (τ : Nat → Nat) : Nat := pl_W (bd_n τ) (τ 0)
theorem pW_b {r : Nat → Nat} : ∀ m, (∀ s, s < m → r s ≤ 9) → pl_W r m ≤ 10 ^ m
  | 0, _ => Nat.le_refl 1
  | m + 1, h => by
    rw [pl_W, Nat.pow_succ]
    exact Nat.mul_le_mul (pW_b m (fun s hs => h s (by omega))) (by have := h m (by omega); omega)
theorem pW_le {τ : Nat → Nat} (hV : rt_V τ) : pW τ ≤ 10000 := by
  have h0 := hV.1
  have h1 := pW_b (r := bd_n τ) (τ 0) (fun s hs => (bd_9 hV (show s < 4 by omega)).1)
  have h2 : 10 ^ (τ 0) ≤ 10 ^ 4 := Nat.pow_le_pow_right (by omega) h0
  unfold pW
  omega
noncomputable def ra_n (τ : Nat → Nat) (k : Nat) : Nat := pl_sn (fun j => if pl_d (rs_P τ (pX τ j)) = true then 1 else 0) k
theorem ra_n_t {τ : Nat → Nat} {k : Nat} (h : rs_P τ (pX τ k)) : ra_n τ (k + 1) = ra_n τ k + 1 := by
  show ra_n τ k + (if pl_d (rs_P τ (pX τ k)) = true then 1 else 0) = ra_n τ k + 1
  rw [if_pos (pl_d_t h)]
theorem ra_n_f {τ : Nat → Nat} {k : Nat} (h : ¬ rs_P τ (pX τ k)) : ra_n τ (k + 1) = ra_n τ k := by
  show ra_n τ k + (if pl_d (rs_P τ (pX τ k)) = true then 1 else 0) = ra_n τ k
  rw [if_neg (by rw [pl_d_f h]; decide)]
  rfl
theorem ra_n_le {τ : Nat → Nat} : ∀ k, ra_n τ k ≤ k
  | 0 => Nat.le_refl 0
  | k + 1 => by
    have := ra_n_le (τ := τ) k
    by_cases h : rs_P τ (pX τ k)
    · rw [ra_n_t h]; omega
    · rw [ra_n_f h]; omega
theorem ra_n_0 {τ : Nat → Nat} : ∀ k, ra_n τ k = 0 → ∀ j, j < k → ¬ rs_P τ (pX τ j)
  | 0, _, j, hj => absurd hj (Nat.not_lt_zero j)
  | k + 1, h, j, hj => by
    by_cases hk : rs_P τ (pX τ k)
    · rw [ra_n_t hk] at h; omega
    · rw [ra_n_f hk] at h
      rcases Nat.lt_or_eq_of_le (Nat.le_of_lt_succ hj) with h1 | h1
      · exact ra_n_0 k h j h1
      · subst h1; exact hk
def gt_B (τ : Nat → Nat) (k : Nat) (h : az_H) : Prop := h 59 23 = nI k ∧ (0 < k → ∃ j, j < k ∧ h 59 21 = iI (pw τ (pX τ j)) ∧ h 59 22 = nI (pl_sn (pX τ j) (τ 0)) ∧ (∀ i, i < k → pw τ (pX τ i) ≤ pw τ (pX τ j)) ∧ ∀ i, i < j → pw τ (pX τ i) < pw τ (pX τ j))
def gt_R (τ : Nat → Nat) (k : Nat) (h : az_H) : Prop := h 59 18 = nI (ra_n τ k) ∧ (¬ ra_n τ k = 0 → (∃ j, j < k ∧ rs_P τ (pX τ j) ∧ h 59 20 = nI (pl_sn (pX τ j) (τ 0)) ∧ (∀ s, s < 4 → h 72 s = nI (pX τ j s)) ∧ ∀ i, i < j → ¬ rs_P τ (pX τ i)) ∧ ∃ j, j < k ∧ rs_P τ (pX τ j) ∧ h 59 19 = iI (pw τ (pX τ j)) ∧ ∀ i, i < k → rs_P τ (pX τ i) → pw τ (pX τ i) ≤ pw τ (pX τ j))
theorem gt_B_h {τ : Nat → Nat} {k : Nat} {h h' : az_H} (hB : gt_B τ k h) (e : ∀ j, 21 ≤ j → j ≤ 23 → h' 59 j = h 59 j) : gt_B τ k h' := by
  unfold gt_B at hB ⊢
  rw [e 21 (by decide) (by decide), e 22 (by decide) (by decide), e 23 (by decide) (by decide)]
  exact hB
theorem gt_R_h {τ : Nat → Nat} {k : Nat} {h h' : az_H} (hB : gt_R τ k h) (e : ∀ j, 18 ≤ j → j ≤ 20 → h' 59 j = h 59 j) (e2 : h' 72 = h 72) : gt_R τ k h' := by
  unfold gt_R at hB ⊢
  rw [e 18 (by decide) (by decide), e 19 (by decide) (by decide), e 20 (by decide) (by decide), e2]
  exact hB
def gt_F (h h' : az_H) : Prop := (∀ a, a ≠ 59 → a ≠ 71 → a ≠ 72 → h' a = h a) ∧ ∀ j, (j < 18 ∨ 23 < j) → h' 59 j = h 59 j
theorem gt_F.rf {h : az_H} : gt_F h h := ⟨fun _ _ _ _ => rfl, fun _ _ => rfl⟩
theorem gt_F.tr {h h1 h2 : az_H} (a : gt_F h h1) (b : gt_F h1 h2) : gt_F h h2 := ⟨fun k x y z => (b.1 k x y z).trans (a.1 k x y z), fun j x => (b.2 j x).trans (a.2 j x)⟩
theorem gt_F.M {τ : Nat → Nat} {h h' : az_H} (hF : gt_F h h') (hM : rt_M 61 τ h) : rt_M 61 τ h' := rt_M_h hM (hF.1 61 (by decide) (by decide) (by decide))
theorem rs_st {τ : Nat → Nat} {p : Nat} {x : Nat → Nat} {i : Nat} (h : ∀ t, t < i → rs_c τ p x t) (hi : rs_c τ p x i) : ∀ t, t < i + 1 → rs_c τ p x t := fun t ht => by
  rcases Nat.lt_or_eq_of_le (Nat.le_of_lt_succ ht) with q | q
  · exact h t q
  · subst q; exact hi
set_option maxRecDepth 100000 in
theorem lm_rs {sc : az_S} {h : az_H} {τ : Nat → Nat} (hM : rt_M 61 τ h) (hV : rt_V τ) {x : Nat → Nat} {p : Nat} (hx : ∀ s, s < 4 → h 71 s = nI (x s)) (hx9 : ∀ s, s < 4 → x s ≤ 9) (hp : p ≤ 36) : ∀ (d i : Nat) (b z : Int32), i ≤ τ 0 → τ 0 - i = d → b = sq_b (pl_d (∀ t, t < i → rs_c τ p x t)) → z = nI i → az_E sc az_m_X8_isAtRest 4 [.ref 59, .int (nI p), .int b, .int z] [] h (fun v h' => v = some (.int (sq_b (pl_d (∀ t, t < τ 0 → rs_c τ p x t)))) ∧ h' = h) := by
  have h04 := hV.1
  intro d
  induction d with
  | zero =>
    intro i b z hi hd hb hz
    subst hb
    subst hz
    refine az_er 4 rfl ?_
    refine az_iaI rfl rfl (show _ = nI 0 from rfl) (show 0 < 70 by omega) (by decide) (hM 0 (by omega)) ?_
    refine az_ic_ge rfl rfl (fun c11 => ?_) (fun c11 => absurd (nI_le (by omega) (by omega)) c11)
    refine az_er 1 rfl ?_
    refine az_zret rfl rfl ((by cases pl_d (∀ t, t < i → rs_c τ p x t) <;> first | exact Or.inl rfl | exact Or.inr rfl)) ?_
    exact ⟨by rw [show τ 0 = i by omega], rfl⟩
  | succ d ih =>
    intro i b z hi hd hb hz
    subst hb
    subst hz
    have w1 := pw_i_b (p := p) hV (show i < 4 by omega)
    have w2 := pw_i_b (p := p + 1) hV (show i < 4 by omega)
    have w3 := bd_9 hV (show i < 4 by omega)
    have w4 : bd_h τ i ≤ 9 := w3.2.2.2.1
    have w5 : bd_n τ i ≤ 9 := w3.1
    have w6 := hx9 i (by omega)
    by_cases hall : ∀ t, t < i → rs_c τ p x t
    · skip
      refine az_er 4 rfl ?_
      refine az_iaI rfl rfl (show _ = nI 0 from rfl) (show 0 < 70 by omega) (by decide) (hM 0 (by omega)) ?_
      refine az_ic_ge rfl rfl (fun c11 => absurd c11 (nI_ge (show i < τ 0 by omega) (by omega))) (fun c11 => ?_)
      refine az_er 1 rfl ?_
      rw [pl_d_t hall]
      refine az_if_eq rfl rfl (fun c15 => absurd c15 (by decide)) (fun c15 => ?_)
      refine az_er 3 rfl ?_
      refine az_iaI rfl rfl rfl (show i < 4 by omega) (by decide) (hx i (by omega)) ?_
      refine az_if_eq rfl rfl (fun c24 => ?_) (fun c24 => ?_)
      · refine az_er 3 rfl ?_
        refine az_iaI rfl rfl rfl (show i < 4 by omega) (by decide) (hx i (by omega)) ?_
        refine az_er 3 rfl ?_
        refine az_ecallF rfl rfl rfl rfl ((cm_of hM rfl (show _ = nI 0 from rfl) (show 10 + 6 * i + 0 < 70 by omega)).eq (show _ = some (Value.int (nI (bd_n τ i))) from rfl) rfl) ?_
        refine az_ic_eq rfl rfl (fun c54 => ?_) (fun c54 => ?_)
        · refine az_er 5 rfl ?_
          first | replace c24 := (nI_eq (b := 0) (by omega) (by omega)).mp c24 | replace c24 := mt (nI_eq (b := 0) (by omega) (by omega)).mpr c24 | skip
          first | replace c39 := (iI_lt (by omega) (by omega)).mp c39 | replace c39 := mt (iI_lt (by omega) (by omega)).mpr c39 | skip
          first | replace c54 := (nI_eq (by omega) (by omega)).mp c54 | replace c54 := mt (nI_eq (by omega) (by omega)).mpr c54 | skip
          first | replace c71 := (iI_lt (by omega) (by omega)).mp c71 | replace c71 := mt (iI_lt (by omega) (by omega)).mpr c71 | skip
          refine ih (i + 1) _ _ (by omega) (by omega) ?_ (nI_1' i)
          first
          | (rw [pl_d_t (fun t ht => rs_st hall (show rs_c τ p x i from ⟨by omega, by omega⟩) t ht)]; rfl)
          | (rw [pl_d_f (fun q => by have q2 := q i (Nat.lt_succ_self i); unfold rs_c at q2; omega)]; rfl)
        · refine az_er 5 rfl ?_
          refine az_ecallF rfl rfl rfl rfl ((cm_wg hM rfl (show i < 4 by omega) (nI_1' p)).eq (show _ = some (Value.int (iI (pw_i τ (p + 1) i))) by rw [sq_wg_i hV (by omega)]) rfl) ?_
          refine az_er 3 rfl ?_
          refine az_ecallF rfl rfl rfl rfl ((cm_of hM rfl (show _ = nI 5 from rfl) (show 10 + 6 * i + 5 < 70 by omega)).eq (show _ = some (Value.int (nI (bd_h τ i))) by rw [bd_h, show 10 + 6 * i + 5 = 15 + 6 * i by omega]) rfl) ?_
          rw [iI_n (bd_h τ i)]
          refine az_ic_gt rfl rfl (fun c71 => ?_) (fun c71 => ?_)
          · refine az_er 4 rfl ?_
            first | replace c24 := (nI_eq (b := 0) (by omega) (by omega)).mp c24 | replace c24 := mt (nI_eq (b := 0) (by omega) (by omega)).mpr c24 | skip
            first | replace c39 := (iI_lt (by omega) (by omega)).mp c39 | replace c39 := mt (iI_lt (by omega) (by omega)).mpr c39 | skip
            first | replace c54 := (nI_eq (by omega) (by omega)).mp c54 | replace c54 := mt (nI_eq (by omega) (by omega)).mpr c54 | skip
            first | replace c71 := (iI_lt (by omega) (by omega)).mp c71 | replace c71 := mt (iI_lt (by omega) (by omega)).mpr c71 | skip
            refine ih (i + 1) _ _ (by omega) (by omega) ?_ (nI_1' i)
            first
            | (rw [pl_d_t (fun t ht => rs_st hall (show rs_c τ p x i from ⟨by omega, by omega⟩) t ht)]; rfl)
            | (rw [pl_d_f (fun q => by have q2 := q i (Nat.lt_succ_self i); unfold rs_c at q2; omega)]; rfl)
          · refine az_er 5 rfl ?_
            first | replace c24 := (nI_eq (b := 0) (by omega) (by omega)).mp c24 | replace c24 := mt (nI_eq (b := 0) (by omega) (by omega)).mpr c24 | skip
            first | replace c39 := (iI_lt (by omega) (by omega)).mp c39 | replace c39 := mt (iI_lt (by omega) (by omega)).mpr c39 | skip
            first | replace c54 := (nI_eq (by omega) (by omega)).mp c54 | replace c54 := mt (nI_eq (by omega) (by omega)).mpr c54 | skip
            first | replace c71 := (iI_lt (by omega) (by omega)).mp c71 | replace c71 := mt (iI_lt (by omega) (by omega)).mpr c71 | skip
            refine ih (i + 1) _ _ (by omega) (by omega) ?_ (nI_1' i)
            first
            | (rw [pl_d_t (fun t ht => rs_st hall (show rs_c τ p x i from ⟨by omega, by omega⟩) t ht)]; rfl)
            | (rw [pl_d_f (fun q => by have q2 := q i (Nat.lt_succ_self i); unfold rs_c at q2; omega)]; rfl)
      · refine az_er 3 rfl ?_
        refine az_ecallF rfl rfl rfl rfl ((cm_of hM rfl (show _ = nI 5 from rfl) (show 10 + 6 * i + 5 < 70 by omega)).eq (show _ = some (Value.int (nI (bd_h τ i))) by rw [bd_h, show 10 + 6 * i + 5 = 15 + 6 * i by omega]) rfl) ?_
        refine az_er 3 rfl ?_
        refine az_ecallF rfl rfl rfl rfl ((cm_wg hM rfl (show i < 4 by omega) (rfl)).eq (show _ = some (Value.int (iI (pw_i τ (p) i))) by rw [sq_wg_i hV (by omega)]) rfl) ?_
        rw [iI_n (bd_h τ i)]
        refine az_ic_gt rfl rfl (fun c39 => ?_) (fun c39 => ?_)
        · refine az_er 4 rfl ?_
          first | replace c24 := (nI_eq (b := 0) (by omega) (by omega)).mp c24 | replace c24 := mt (nI_eq (b := 0) (by omega) (by omega)).mpr c24 | skip
          first | replace c39 := (iI_lt (by omega) (by omega)).mp c39 | replace c39 := mt (iI_lt (by omega) (by omega)).mpr c39 | skip
          first | replace c54 := (nI_eq (by omega) (by omega)).mp c54 | replace c54 := mt (nI_eq (by omega) (by omega)).mpr c54 | skip
          first | replace c71 := (iI_lt (by omega) (by omega)).mp c71 | replace c71 := mt (iI_lt (by omega) (by omega)).mpr c71 | skip
          refine ih (i + 1) _ _ (by omega) (by omega) ?_ (nI_1' i)
          first
          | (rw [pl_d_t (fun t ht => rs_st hall (show rs_c τ p x i from ⟨by omega, by omega⟩) t ht)]; rfl)
          | (rw [pl_d_f (fun q => by have q2 := q i (Nat.lt_succ_self i); unfold rs_c at q2; omega)]; rfl)
        · refine az_er 3 rfl ?_
          refine az_iaI rfl rfl rfl (show i < 4 by omega) (by decide) (hx i (by omega)) ?_
          refine az_er 3 rfl ?_
          refine az_ecallF rfl rfl rfl rfl ((cm_of hM rfl (show _ = nI 0 from rfl) (show 10 + 6 * i + 0 < 70 by omega)).eq (show _ = some (Value.int (nI (bd_n τ i))) from rfl) rfl) ?_
          refine az_ic_eq rfl rfl (fun c54 => ?_) (fun c54 => ?_)
          · refine az_er 5 rfl ?_
            first | replace c24 := (nI_eq (b := 0) (by omega) (by omega)).mp c24 | replace c24 := mt (nI_eq (b := 0) (by omega) (by omega)).mpr c24 | skip
            first | replace c39 := (iI_lt (by omega) (by omega)).mp c39 | replace c39 := mt (iI_lt (by omega) (by omega)).mpr c39 | skip
            first | replace c54 := (nI_eq (by omega) (by omega)).mp c54 | replace c54 := mt (nI_eq (by omega) (by omega)).mpr c54 | skip
            first | replace c71 := (iI_lt (by omega) (by omega)).mp c71 | replace c71 := mt (iI_lt (by omega) (by omega)).mpr c71 | skip
            refine ih (i + 1) _ _ (by omega) (by omega) ?_ (nI_1' i)
            first
            | (rw [pl_d_t (fun t ht => rs_st hall (show rs_c τ p x i from ⟨by omega, by omega⟩) t ht)]; rfl)
            | (rw [pl_d_f (fun q => by have q2 := q i (Nat.lt_succ_self i); unfold rs_c at q2; omega)]; rfl)
          · refine az_er 5 rfl ?_
            refine az_ecallF rfl rfl rfl rfl ((cm_wg hM rfl (show i < 4 by omega) (nI_1' p)).eq (show _ = some (Value.int (iI (pw_i τ (p + 1) i))) by rw [sq_wg_i hV (by omega)]) rfl) ?_
            refine az_er 3 rfl ?_
            refine az_ecallF rfl rfl rfl rfl ((cm_of hM rfl (show _ = nI 5 from rfl) (show 10 + 6 * i + 5 < 70 by omega)).eq (show _ = some (Value.int (nI (bd_h τ i))) by rw [bd_h, show 10 + 6 * i + 5 = 15 + 6 * i by omega]) rfl) ?_
            rw [iI_n (bd_h τ i)]
            refine az_ic_gt rfl rfl (fun c71 => ?_) (fun c71 => ?_)
            · refine az_er 4 rfl ?_
              first | replace c24 := (nI_eq (b := 0) (by omega) (by omega)).mp c24 | replace c24 := mt (nI_eq (b := 0) (by omega) (by omega)).mpr c24 | skip
              first | replace c39 := (iI_lt (by omega) (by omega)).mp c39 | replace c39 := mt (iI_lt (by omega) (by omega)).mpr c39 | skip
              first | replace c54 := (nI_eq (by omega) (by omega)).mp c54 | replace c54 := mt (nI_eq (by omega) (by omega)).mpr c54 | skip
              first | replace c71 := (iI_lt (by omega) (by omega)).mp c71 | replace c71 := mt (iI_lt (by omega) (by omega)).mpr c71 | skip
              refine ih (i + 1) _ _ (by omega) (by omega) ?_ (nI_1' i)
              first
              | (rw [pl_d_t (fun t ht => rs_st hall (show rs_c τ p x i from ⟨by omega, by omega⟩) t ht)]; rfl)
              | (rw [pl_d_f (fun q => by have q2 := q i (Nat.lt_succ_self i); unfold rs_c at q2; omega)]; rfl)
            · refine az_er 5 rfl ?_
              first | replace c24 := (nI_eq (b := 0) (by omega) (by omega)).mp c24 | replace c24 := mt (nI_eq (b := 0) (by omega) (by omega)).mpr c24 | skip
              first | replace c39 := (iI_lt (by omega) (by omega)).mp c39 | replace c39 := mt (iI_lt (by omega) (by omega)).mpr c39 | skip
              first | replace c54 := (nI_eq (by omega) (by omega)).mp c54 | replace c54 := mt (nI_eq (by omega) (by omega)).mpr c54 | skip
              first | replace c71 := (iI_lt (by omega) (by omega)).mp c71 | replace c71 := mt (iI_lt (by omega) (by omega)).mpr c71 | skip
              refine ih (i + 1) _ _ (by omega) (by omega) ?_ (nI_1' i)
              first
              | (rw [pl_d_t (fun t ht => rs_st hall (show rs_c τ p x i from ⟨by omega, by omega⟩) t ht)]; rfl)
              | (rw [pl_d_f (fun q => by have q2 := q i (Nat.lt_succ_self i); unfold rs_c at q2; omega)]; rfl)
    · skip
      refine az_er 4 rfl ?_
      refine az_iaI rfl rfl (show _ = nI 0 from rfl) (show 0 < 70 by omega) (by decide) (hM 0 (by omega)) ?_
      refine az_ic_ge rfl rfl (fun c11 => absurd c11 (nI_ge (show i < τ 0 by omega) (by omega))) (fun c11 => ?_)
      refine az_er 1 rfl ?_
      rw [pl_d_f hall]
      refine az_if_eq rfl rfl (fun c15 => ?_) (fun c15 => absurd rfl c15)
      refine az_er 4 rfl ?_
      exact ih (i + 1) _ _ (by omega) (by omega) (by rw [pl_d_f (fun q => hall (fun t ht => q t (by omega)))]; rfl) (nI_1' i)
set_option maxRecDepth 100000 in
theorem cm_rs {sc : az_S} {h : az_H} {τ : Nat → Nat} (hM : rt_M 61 τ h) (hV : rt_V τ) {x : Nat → Nat} {p : Nat} (hx : ∀ s, s < 4 → h 71 s = nI (x s)) (hx9 : ∀ s, s < 4 → x s ≤ 9) (hp : p ≤ 36) : az_F sc az_m_X8_isAtRest [.ref 59, .int (nI p)] h (some (.int (sq_b (pl_d (∀ t, t < τ 0 → rs_c τ p x t))))) h := by
  refine az_F.of ?_
  refine az_er 4 rfl ?_
  exact lm_rs hM hV hx hx9 hp (τ 0) 0 _ _ (by omega) (by omega) (by rw [pl_d_t (fun t ht => absurd ht (Nat.not_lt_zero t))]; rfl) rfl
set_option maxRecDepth 100000 in
theorem lm_nx {sc : az_S} {h : az_H} {τ : Nat → Nat} (hM : rt_M 61 τ h) (hV : rt_V τ) : ∀ (s j : Nat) (z : Int32) (hh : az_H), s ≤ 4 → j < pl_W (bd_n τ) s → (∀ t, t < s → hh 71 t = nI (pl_x (bd_n τ) s j t)) → (∀ a, a ≠ 71 → hh a = h a) → z = nI s - 1 → az_E sc az_m_X8_isNextPlan 9 [.ref 59, .int z] [] hh (fun v h' => v = some (.int (sq_b (decide (j + 1 < pl_W (bd_n τ) s)))) ∧ (j + 1 < pl_W (bd_n τ) s → ∀ t, t < s → h' 71 t = nI (pl_x (bd_n τ) s (j + 1) t)) ∧ (∀ t, s ≤ t → h' 71 t = hh 71 t) ∧ ∀ a, a ≠ 71 → h' a = hh a) := by
  intro s
  induction s with
  | zero =>
    intro j z hh hs hj hx hF hz
    have hj1 : j < 1 := hj
    subst hz
    refine az_er 1 rfl ?_
    refine az_if_lt rfl rfl (fun c10 => ?_) (fun c10 => absurd (show nI 0 - 1 < 0 by decide) c10)
    refine az_er 1 rfl ?_
    refine az_zret rfl rfl (Or.inl rfl) ?_
    have e : ¬ j + 1 < pl_W (bd_n τ) 0 := by show ¬ j + 1 < 1; omega
    exact ⟨by rw [decide_eq_false e]; rfl, fun q => absurd q e, fun _ _ => rfl, fun _ _ => rfl⟩
  | succ s ih =>
    intro j z hh hs hj hx hF hz
    rw [nI_pred] at hz
    subst hz
    have w5 : bd_n τ s ≤ 9 := (bd_9 hV (show s < 4 by omega)).1
    have hm := Nat.mod_lt j (show 0 < bd_n τ s + 1 by omega)
    have hj2 : j / (bd_n τ s + 1) < pl_W (bd_n τ) s := Nat.div_lt_of_lt_mul (by rw [Nat.mul_comm]; exact hj)
    by_cases hlt : j % (bd_n τ s + 1) < bd_n τ s
    · skip
      refine az_er 1 rfl ?_
      refine az_if_lt rfl rfl (fun c10 => absurd c10 (nI_pos (by omega))) (fun c10 => ?_)
      refine az_er 3 rfl ?_
      refine az_iaI rfl rfl rfl (show s < 4 by omega) (by decide) (show hh 71 s = nI (j % (bd_n τ s + 1)) by rw [hx s (by omega), pl_x_m]) ?_
      refine az_er 3 rfl ?_
      refine az_ecallF rfl rfl rfl rfl ((cm_of (rt_M_h hM (hF 61 (by decide))) rfl (show _ = nI 0 from rfl) (show 10 + 6 * s + 0 < 70 by omega)).eq (show _ = some (Value.int (nI (bd_n τ s))) from rfl) rfl) ?_
      refine az_ic_ge rfl rfl (fun c25 => absurd c25 (nI_ge (show j % (bd_n τ s + 1) < bd_n τ s by omega) (by omega))) (fun c25 => ?_)
      refine az_er 4 rfl ?_
      refine az_iaI rfl rfl rfl (show s < 4 by omega) (by decide) (show hh 71 s = nI (j % (bd_n τ s + 1)) by rw [hx s (by omega), pl_x_m]) ?_
      refine az_er 2 rfl ?_
      refine az_iasI rfl rfl rfl (show s < 4 by omega) (by decide) ?_
      refine az_er 1 rfl ?_
      refine az_zret rfl rfl (Or.inr rfl) ?_
      obtain ⟨k1, k2⟩ := pl_nx1 hlt
      have e : j + 1 < pl_W (bd_n τ) (s + 1) := by
        rw [pl_W]
        exact (Nat.div_lt_iff_lt_mul (by omega)).mp (by rw [k2]; exact hj2)
      refine ⟨by rw [decide_eq_true e]; rfl, fun _ t ht => ?_, fun t ht => by rw [az_up_n (by omega)], fun a ha => az_up_o ha⟩
      by_cases hts : t = s
      · subst hts; rw [az_up_s, pl_x_m, k1]; exact nI_1' _
      · rw [az_up_n hts, hx t ht, pl_x_p (by omega), pl_x_p (by omega), k2]
    · skip
      refine az_er 1 rfl ?_
      refine az_if_lt rfl rfl (fun c10 => absurd c10 (nI_pos (by omega))) (fun c10 => ?_)
      refine az_er 3 rfl ?_
      refine az_iaI rfl rfl rfl (show s < 4 by omega) (by decide) (show hh 71 s = nI (j % (bd_n τ s + 1)) by rw [hx s (by omega), pl_x_m]) ?_
      refine az_er 3 rfl ?_
      refine az_ecallF rfl rfl rfl rfl ((cm_of (rt_M_h hM (hF 61 (by decide))) rfl (show _ = nI 0 from rfl) (show 10 + 6 * s + 0 < 70 by omega)).eq (show _ = some (Value.int (nI (bd_n τ s))) from rfl) rfl) ?_
      refine az_ic_ge rfl rfl (fun c25 => ?_) (fun c25 => absurd (nI_le (show bd_n τ s ≤ j % (bd_n τ s + 1) by omega) (by omega)) c25)
      refine az_er 4 rfl ?_
      refine az_iasI rfl rfl rfl (show s < 4 by omega) (by decide) ?_
      refine az_er 2 rfl ?_
      rw [i32_m1]
      refine az_E.mono (ih (j / (bd_n τ s + 1)) _ _ (by omega) hj2 (fun t ht => by rw [az_up_n (by omega), hx t (by omega), pl_x_p ht]) (fun a ha => by rw [az_up_o ha]; exact hF a ha) rfl) ?_
      rintro v h5 ⟨q1, q2, q3, q4⟩
      obtain ⟨k1, k2⟩ := pl_nx0 (k := j) (R := bd_n τ s) (by omega)
      have e : j + 1 < pl_W (bd_n τ) (s + 1) ↔ j / (bd_n τ s + 1) + 1 < pl_W (bd_n τ) s := by
        rw [pl_W, ← Nat.div_lt_iff_lt_mul (by omega), k2]
      refine ⟨by rw [q1, decide_eq_decide.mpr e], fun z t ht => ?_, fun t ht => by rw [q3 t (by omega), az_up_n (by omega)], fun a ha => by rw [q4 a ha, az_up_o ha]⟩
      by_cases hts : t = s
      · subst hts; rw [q3 t (Nat.le_refl t), az_up_s, pl_x_m, k1]; rfl
      · rw [q2 (e.mp z) t (by omega), pl_x_p (show t < s by omega), k2]
set_option maxRecDepth 100000 in
theorem cm_nx {sc : az_S} {h : az_H} {τ : Nat → Nat} (hM : rt_M 61 τ h) (hV : rt_V τ) {k : Nat} (hk : k < pW τ) (hx : ∀ s, s < 4 → h 71 s = nI (pX τ k s)) : az_E sc az_m_X8_isNextPlan 0 [.ref 59] [] h (fun v h' => v = some (.int (sq_b (decide (k + 1 < pW τ)))) ∧ (k + 1 < pW τ → ∀ t, t < 4 → h' 71 t = nI (pX τ (k + 1) t)) ∧ ∀ a, a ≠ 71 → h' a = h a) := by
  refine az_er 3 rfl ?_
  refine az_iaI rfl rfl (show _ = nI 0 from rfl) (show 0 < 70 by omega) (by decide) (hM 0 (by omega)) ?_
  refine az_er 3 rfl ?_
  refine az_E.mono (lm_nx hM hV (τ 0) k _ h hV.1 hk (fun t ht => hx t (by have := hV.1; omega)) (fun _ _ => rfl) rfl) ?_
  rintro v h5 ⟨q1, q2, q3, q4⟩
  refine ⟨q1, fun z t ht => ?_, q4⟩
  by_cases hts : t < τ 0
  · exact q2 z t hts
  · rw [q3 t (by omega), hx t ht]
    unfold pX
    rw [pl_x_h (τ 0) k t (by omega), pl_x_h (τ 0) (k + 1) t (by omega)]
set_option maxRecDepth 100000 in
theorem lm_g1 {sc : az_S} {h : az_H} {τ : Nat → Nat} (hM : rt_M 61 τ h) (hV : rt_V τ) {x : Nat → Nat} (hx : ∀ s, s < 4 → h 71 s = nI (x s)) {Q : Option Value → az_H → Prop} {w : Int32} (K : ∀ z, az_E sc az_m_X8_goThrough 45 [.ref 59, .int (nI (pl_sn x (τ 0))), .int w, .int z] [] h Q) : ∀ (d i : Nat) (a z : Int32), i ≤ τ 0 → τ 0 - i = d → a = nI (pl_sn x i) → z = nI i → az_E sc az_m_X8_goThrough 20 [.ref 59, .int a, .int w, .int z] [] h Q := by
  have h04 := hV.1
  intro d
  induction d with
  | zero =>
    intro i a z hi hd ha hz
    subst ha
    subst hz
    refine az_er 4 rfl ?_
    refine az_iaI rfl rfl (show _ = nI 0 from rfl) (show 0 < 70 by omega) (by decide) (hM 0 (by omega)) ?_
    refine az_ic_ge rfl rfl (fun c27 => ?_) (fun c27 => absurd (nI_le (by omega) (by omega)) c27)
    have e : i = τ 0 := by omega
    rw [e]
    exact K _
  | succ d ih =>
    intro i a z hi hd ha hz
    subst ha
    subst hz
    refine az_er 4 rfl ?_
    refine az_iaI rfl rfl (show _ = nI 0 from rfl) (show 0 < 70 by omega) (by decide) (hM 0 (by omega)) ?_
    refine az_ic_ge rfl rfl (fun c27 => absurd c27 (nI_ge (show i < τ 0 by omega) (by omega))) (fun c27 => ?_)
    refine az_er 4 rfl ?_
    refine az_iaI rfl rfl rfl (show i < 4 by omega) (by decide) (hx i (by omega)) ?_
    refine az_er 4 rfl ?_
    exact ih (i + 1) _ _ (by omega) (by omega) (nI_add _ _) (nI_1' i)
set_option maxRecDepth 100000 in
theorem lm_g2 {sc : az_S} {h : az_H} {τ : Nat → Nat} (hM : rt_M 61 τ h) (hV : rt_V τ) {x : Nat → Nat} (hx : ∀ s, s < 4 → h 71 s = nI (x s)) (hp : pl_sn x (τ 0) ≤ 36) {Q : Option Value → az_H → Prop} (K : ∀ z, az_E sc az_m_X8_goThrough 100 [.ref 59, .int (nI (pl_sn x (τ 0))), .int (iI (pw τ x)), .int z] [] h Q) : ∀ (d i : Nat) (w z : Int32), i ≤ τ 0 → τ 0 - i = d → w = iI (pl_sm (fun s => (x s : Int) * pw_i τ (pl_sn x (τ 0)) s + ((bd_n τ s : Int) - (x s : Int)) * (bd_h τ s : Int)) i) → z = nI i → az_E sc az_m_X8_goThrough 47 [.ref 59, .int (nI (pl_sn x (τ 0))), .int w, .int z] [] h Q := by
  have h04 := hV.1
  intro d
  induction d with
  | zero =>
    intro i w z hi hd hw hz
    subst hw
    subst hz
    refine az_er 4 rfl ?_
    refine az_iaI rfl rfl (show _ = nI 0 from rfl) (show 0 < 70 by omega) (by decide) (hM 0 (by omega)) ?_
    refine az_ic_ge rfl rfl (fun c54 => ?_) (fun c54 => absurd (nI_le (by omega) (by omega)) c54)
    have e : i = τ 0 := by omega
    rw [e]
    exact K _
  | succ d ih =>
    intro i w z hi hd hw hz
    subst hw
    subst hz
    refine az_er 4 rfl ?_
    refine az_iaI rfl rfl (show _ = nI 0 from rfl) (show 0 < 70 by omega) (by decide) (hM 0 (by omega)) ?_
    refine az_ic_ge rfl rfl (fun c54 => absurd c54 (nI_ge (show i < τ 0 by omega) (by omega))) (fun c54 => ?_)
    refine az_er 4 rfl ?_
    refine az_iaI rfl rfl rfl (show i < 4 by omega) (by decide) (hx i (by omega)) ?_
    refine az_er 3 rfl ?_
    refine az_ecallF rfl rfl rfl rfl ((cm_wg hM rfl (show i < 4 by omega) (rfl)).eq (show _ = some (Value.int (iI (pw_i τ (pl_sn x (τ 0)) i))) by rw [sq_wg_i hV (by omega)]) rfl) ?_
    refine az_er 4 rfl ?_
    refine az_ecallF rfl rfl rfl rfl ((cm_of hM rfl (show _ = nI 0 from rfl) (show 10 + 6 * i + 0 < 70 by omega)).eq (show _ = some (Value.int (nI (bd_n τ i))) from rfl) rfl) ?_
    refine az_er 3 rfl ?_
    refine az_iaI rfl rfl rfl (show i < 4 by omega) (by decide) (hx i (by omega)) ?_
    refine az_er 4 rfl ?_
    refine az_ecallF rfl rfl rfl rfl ((cm_of hM rfl (show _ = nI 5 from rfl) (show 10 + 6 * i + 5 < 70 by omega)).eq (show _ = some (Value.int (nI (bd_h τ i))) by rw [bd_h, show 10 + 6 * i + 5 = 15 + 6 * i by omega]) rfl) ?_
    refine az_er 6 rfl ?_
    refine ih (i + 1) _ _ (by omega) (by omega) ?_ (nI_1' i)
    rw [iI_n (x i), iI_n (bd_n τ i), iI_n (bd_h τ i), iI_sub, iI_mul, iI_mul, iI_add, iI_add]
    rfl
set_option maxRecDepth 100000 in
theorem lm_gB {sc : az_S} {h : az_H} {τ : Nat → Nat} {k : Nat} {Q : Option Value → az_H → Prop} {z : Int32} (hV : rt_V τ) (hk : k < pW τ) (hpw : ∀ i, -2000 ≤ pw τ (pX τ i) ∧ pw τ (pX τ i) ≤ 2000) (hB : gt_B τ k h) (K : ∀ h', gt_B τ (k + 1) h' → (∀ c, c ≠ 59 → h' c = h c) → (∀ j, j ≠ 21 → j ≠ 22 → j ≠ 23 → h' 59 j = h 59 j) → az_E sc az_m_X8_goThrough 135 [.ref 59, .int (nI (pl_sn (pX τ k) (τ 0))), .int (iI (pw τ (pX τ k))), .int z] [] h' Q) : az_E sc az_m_X8_goThrough 100 [.ref 59, .int (nI (pl_sn (pX τ k) (τ 0))), .int (iI (pw τ (pX τ k))), .int z] [] h Q := by
  have hW := pW_le hV
  have p1 := hpw k
  obtain ⟨b1, b2⟩ := hB
  by_cases hk0 : k = 0
  · subst hk0
    refine az_er 2 rfl ?_
    rw [b1]
    refine az_if_eq rfl rfl (fun c104 => ?_) (fun c104 => absurd rfl c104)
    refine az_er 11 rfl ?_
    rw [az_up_n (show (23 : Nat) ≠ 22 by decide), az_up_n (show (23 : Nat) ≠ 21 by decide), b1]
    refine az_er 1 rfl ?_
    refine K _ ⟨az_up_s.trans (nI_1' 0), fun _ => ⟨0, Nat.lt_succ_self 0, ?_, ?_, fun i hi => ?_, fun i hi => ?_⟩⟩ (fun c hc => by rw [az_up_o hc, az_up_o hc, az_up_o hc]) (fun j h1 h2 h3 => by rw [az_up_n h3, az_up_n h2, az_up_n h1])
    · rw [az_up_n (by decide), az_up_n (by decide), az_up_s]
    · rw [az_up_n (by decide), az_up_s]
    · rcases Nat.lt_or_eq_of_le (Nat.le_of_lt_succ hi) with q | q
      · omega
      · subst q; exact Int.le_refl _
    · omega
  · obtain ⟨j, hj, j1, j2, j3, j4⟩ := b2 (by omega)
    have p2 := hpw j
    by_cases hlt : pw τ (pX τ j) < pw τ (pX τ k)
    · skip
      refine az_er 2 rfl ?_
      rw [b1]
      refine az_if_eq rfl rfl (fun c104 => absurd c104 (nI_ne0 (by omega) (by omega))) (fun c104 => ?_)
      refine az_er 3 rfl ?_
      rw [j1]
      refine az_ic_le rfl rfl (fun c112 => absurd ((iI_le (by omega) (by omega)).mp c112) (by omega)) (fun c112 => ?_)
      refine az_er 11 rfl ?_
      rw [az_up_n (show (23 : Nat) ≠ 22 by decide), az_up_n (show (23 : Nat) ≠ 21 by decide), b1]
      refine az_er 1 rfl ?_
      refine K _ ⟨az_up_s.trans (nI_1' k), fun _ => ⟨k, Nat.lt_succ_self k, ?_, ?_, fun i hi => ?_, fun i hi => ?_⟩⟩ (fun c hc => by rw [az_up_o hc, az_up_o hc, az_up_o hc]) (fun j h1 h2 h3 => by rw [az_up_n h3, az_up_n h2, az_up_n h1])
      · rw [az_up_n (by decide), az_up_n (by decide), az_up_s]
      · rw [az_up_n (by decide), az_up_s]
      · rcases Nat.lt_or_eq_of_le (Nat.le_of_lt_succ hi) with q | q
        · have := j3 i q; omega
        · subst q; exact Int.le_refl _
      · have := j3 i hi; omega
    · skip
      refine az_er 2 rfl ?_
      rw [b1]
      refine az_if_eq rfl rfl (fun c104 => absurd c104 (nI_ne0 (by omega) (by omega))) (fun c104 => ?_)
      refine az_er 3 rfl ?_
      rw [j1]
      refine az_ic_le rfl rfl (fun c112 => ?_) (fun c112 => absurd ((iI_le (by omega) (by omega)).mpr (by omega)) c112)
      refine az_er 5 rfl ?_
      rw [b1]
      refine az_er 1 rfl ?_
      refine K _ ⟨az_up_s.trans (nI_1' k), fun _ => ⟨j, by omega, by rw [az_up_n (by decide)]; exact j1, by rw [az_up_n (by decide)]; exact j2, fun i hi => ?_, j4⟩⟩ (fun c hc => by rw [az_up_o hc]) (fun j h1 h2 h3 => by rw [az_up_n h3])
      rcases Nat.lt_or_eq_of_le (Nat.le_of_lt_succ hi) with q | q
      · exact j3 i q
      · subst q; omega
set_option maxRecDepth 100000 in
theorem lm_g4 {sc : az_S} {h : az_H} {x : Nat → Nat} {Q : Option Value → az_H → Prop} {a w : Int32} (hx : ∀ s, s < 4 → h 71 s = nI (x s)) (K : ∀ z hh, (∀ s, s < 4 → hh 72 s = nI (x s)) → (∀ c, c ≠ 72 → hh c = h c) → az_E sc az_m_X8_goThrough 180 [.ref 59, .int a, .int w, .int z] [] hh Q) : ∀ (d i : Nat) (z : Int32) (hh : az_H), i ≤ 4 → 4 - i = d → z = nI i → (∀ s, s < i → hh 72 s = nI (x s)) → (∀ c, c ≠ 72 → hh c = h c) → az_E sc az_m_X8_goThrough 157 [.ref 59, .int a, .int w, .int z] [] hh Q := by
  intro d
  induction d with
  | zero =>
    intro i z hh hi hd hz h72 hF
    subst hz
    refine az_er 2 rfl ?_
    refine az_ic_ge rfl rfl (fun c159 => ?_) (fun c159 => absurd (by rw [show i = 4 by omega]; decide) c159)
    exact K _ hh (fun s hs => h72 s (by omega)) hF
  | succ d ih =>
    intro i z hh hi hd hz h72 hF
    subst hz
    refine az_er 2 rfl ?_
    refine az_ic_ge rfl rfl (fun c159 => absurd c159 (nI_ge (b := 4) (show i < 4 by omega) (by omega))) (fun c159 => ?_)
    refine az_er 6 rfl ?_
    refine az_iaI rfl rfl rfl (show i < 4 by omega) (by decide) (show hh 71 i = nI (x i) by rw [hF 71 (by decide)]; exact hx i (by omega)) ?_
    refine az_iasI rfl rfl rfl (show i < 4 by omega) (by decide) ?_
    refine az_er 2 rfl ?_
    refine ih (i + 1) _ _ (by omega) (by omega) (nI_1' i) (fun s hs => ?_) (fun a ha => by rw [az_up_o ha]; exact hF a ha)
    by_cases q : s = i
    · subst q; exact az_up_s
    · rw [az_up_n q]; exact h72 s (by omega)
set_option maxRecDepth 100000 in
theorem lm_gC {sc : az_S} {h : az_H} {τ : Nat → Nat} (hM : rt_M 61 τ h) (hV : rt_V τ) {k : Nat} {Q : Option Value → az_H → Prop} {z : Int32} (hk : k < pW τ) (hpw : ∀ i, -2000 ≤ pw τ (pX τ i) ∧ pw τ (pX τ i) ≤ 2000) (hx : ∀ s, s < 4 → h 71 s = nI (pX τ k s)) (hR : gt_R τ k h) (K : ∀ z2 h', gt_R τ (k + 1) h' → gt_F h h' → h' 71 = h 71 → (∀ j, 21 ≤ j → j ≤ 23 → h' 59 j = h 59 j) → az_E sc az_m_X8_goThrough 217 [.ref 59, .int (nI (pl_sn (pX τ k) (τ 0))), .int (iI (pw τ (pX τ k))), .int z2] [] h' Q) : az_E sc az_m_X8_goThrough 135 [.ref 59, .int (nI (pl_sn (pX τ k) (τ 0))), .int (iI (pw τ (pX τ k))), .int z] [] h Q := by
  have hW := pW_le hV
  have p1 := hpw k
  have ra := ra_n_le (τ := τ) k
  obtain ⟨r1, r2⟩ := hR
  by_cases hr : rs_P τ (pX τ k)
  · by_cases h0 : ra_n τ k = 0
    · skip
      refine az_er 2 rfl ?_
      refine az_ecallF rfl rfl rfl rfl ((cm_rs hM hV hx (pX_9 hV) (pX_36 hV)).eq (by rw [show (∀ t, t < τ 0 → rs_c τ (pl_sn (pX τ k) (τ 0)) (pX τ k) t) = rs_P τ (pX τ k) from rfl, pl_d_t hr]) rfl) ?_
      refine az_if_eq rfl rfl (fun c140 => absurd c140 (by decide)) (fun c140 => ?_)
      refine az_er 2 rfl ?_
      rw [r1, h0]
      refine az_if_ne rfl rfl (fun c147 => absurd rfl c147) (fun c147 => ?_)
      refine az_er 5 rfl ?_
      refine lm_g4 (x := pX τ k) (fun s hs => by rw [az_up_o (by decide)]; exact hx s hs) (fun z3 h3 h72 hF3 => ?_) 4 0 _ _ (by omega) (by omega) rfl (fun s hs => absurd hs (Nat.not_lt_zero s)) (fun _ _ => rfl)
      have e18 : h3 59 18 = nI 0 := by rw [hF3 59 (by decide), az_up_n (by decide), r1, h0]
      refine az_er 3 rfl ?_
      rw [e18]
      refine az_if_eq rfl rfl (fun c185 => ?_) (fun c185 => absurd rfl c185)
      refine az_er 8 rfl ?_
      rw [az_up_n (show (18 : Nat) ≠ 19 by decide), e18]
      refine az_er 1 rfl ?_
      refine K _ _ ⟨by rw [ra_n_t hr, h0]; exact az_up_s.trans (nI_1' 0), fun _ => ⟨⟨k, Nat.lt_succ_self k, hr, ?_, fun s hs => ?_, fun i hi => ra_n_0 k h0 i hi⟩, k, Nat.lt_succ_self k, hr, ?_, fun i hi hri => ?_⟩⟩ ⟨fun a p q r => ?_, fun j hj => ?_⟩ ?_ (fun j h1 h2 => ?_)
      · rw [az_up_n (by decide), az_up_n (by decide), hF3 59 (by decide), az_up_s]
      · rw [az_up_o (by decide), az_up_o (by decide)]; exact h72 s hs
      · rw [az_up_n (by decide), az_up_s]
      · rcases Nat.lt_or_eq_of_le (Nat.le_of_lt_succ hi) with q2 | q2
        · exact absurd hri (ra_n_0 k h0 i q2)
        · subst q2; exact Int.le_refl _
      · rw [az_up_o p, az_up_o p, hF3 a r, az_up_o p]
      · rw [az_up_n (by omega), az_up_n (by omega), hF3 59 (by decide), az_up_n (by omega)]
      · rw [az_up_o (by decide), az_up_o (by decide), hF3 71 (by decide), az_up_o (by decide)]
      · rw [az_up_n (by omega), az_up_n (by omega), hF3 59 (by decide), az_up_n (by omega)]
    · obtain ⟨⟨j, k1, k2, k3, k4, k5⟩, j', l1, l2, l3, l4⟩ := r2 h0
      have p2 := hpw j'
      by_cases hlt : pw τ (pX τ j') < pw τ (pX τ k)
      · skip
        refine az_er 2 rfl ?_
        refine az_ecallF rfl rfl rfl rfl ((cm_rs hM hV hx (pX_9 hV) (pX_36 hV)).eq (by rw [show (∀ t, t < τ 0 → rs_c τ (pl_sn (pX τ k) (τ 0)) (pX τ k) t) = rs_P τ (pX τ k) from rfl, pl_d_t hr]) rfl) ?_
        refine az_if_eq rfl rfl (fun c140 => absurd c140 (by decide)) (fun c140 => ?_)
        refine az_er 2 rfl ?_
        rw [r1]
        refine az_if_ne rfl rfl (fun c147 => ?_) (fun c147 => absurd c147 (nI_ne0 (by omega) (by omega)))
        refine az_er 3 rfl ?_
        rw [r1]
        refine az_if_eq rfl rfl (fun c185 => absurd c185 (nI_ne0 (by omega) (by omega))) (fun c185 => ?_)
        refine az_er 3 rfl ?_
        rw [l3]
        refine az_ic_le rfl rfl (fun c193 => absurd ((iI_le (by omega) (by omega)).mp c193) (by omega)) (fun c193 => ?_)
        refine az_er 8 rfl ?_
        rw [az_up_n (show (18 : Nat) ≠ 19 by decide), r1]
        refine az_er 1 rfl ?_
        refine K _ _ ⟨by rw [ra_n_t hr]; exact az_up_s.trans (nI_1' _), fun _ => ⟨⟨j, by omega, k2, ?_, fun s hs => ?_, k5⟩, k, Nat.lt_succ_self k, hr, ?_, fun i hi hri => ?_⟩⟩ ⟨fun a p q r => ?_, fun j hj => ?_⟩ ?_ (fun j h1 h2 => ?_)
        · rw [az_up_n (by decide), az_up_n (by decide)]; exact k3
        · rw [az_up_o (by decide), az_up_o (by decide)]; exact k4 s hs
        · rw [az_up_n (by decide), az_up_s]
        · rcases Nat.lt_or_eq_of_le (Nat.le_of_lt_succ hi) with q2 | q2
          · have := l4 i q2 hri; omega
          · subst q2; omega
        · rw [az_up_o p, az_up_o p]
        · rw [az_up_n (by omega), az_up_n (by omega)]
        · rw [az_up_o (by decide), az_up_o (by decide)]
        · rw [az_up_n (by omega), az_up_n (by omega)]
      · skip
        refine az_er 2 rfl ?_
        refine az_ecallF rfl rfl rfl rfl ((cm_rs hM hV hx (pX_9 hV) (pX_36 hV)).eq (by rw [show (∀ t, t < τ 0 → rs_c τ (pl_sn (pX τ k) (τ 0)) (pX τ k) t) = rs_P τ (pX τ k) from rfl, pl_d_t hr]) rfl) ?_
        refine az_if_eq rfl rfl (fun c140 => absurd c140 (by decide)) (fun c140 => ?_)
        refine az_er 2 rfl ?_
        rw [r1]
        refine az_if_ne rfl rfl (fun c147 => ?_) (fun c147 => absurd c147 (nI_ne0 (by omega) (by omega)))
        refine az_er 3 rfl ?_
        rw [r1]
        refine az_if_eq rfl rfl (fun c185 => absurd c185 (nI_ne0 (by omega) (by omega))) (fun c185 => ?_)
        refine az_er 3 rfl ?_
        rw [l3]
        refine az_ic_le rfl rfl (fun c193 => ?_) (fun c193 => absurd ((iI_le (by omega) (by omega)).mpr (by omega)) c193)
        refine az_er 2 rfl ?_
        rw [l3]
        refine az_er 6 rfl ?_
        rw [az_up_n (show (18 : Nat) ≠ 19 by decide), r1]
        refine az_er 1 rfl ?_
        refine K _ _ ⟨by rw [ra_n_t hr]; exact az_up_s.trans (nI_1' _), fun _ => ⟨⟨j, by omega, k2, ?_, fun s hs => ?_, k5⟩, j', by omega, l2, ?_, fun i hi hri => ?_⟩⟩ ⟨fun a p q r => ?_, fun j hj => ?_⟩ ?_ (fun j h1 h2 => ?_)
        · rw [az_up_n (by decide), az_up_n (by decide)]; exact k3
        · rw [az_up_o (by decide), az_up_o (by decide)]; exact k4 s hs
        · rw [az_up_n (by decide), az_up_s]
        · rcases Nat.lt_or_eq_of_le (Nat.le_of_lt_succ hi) with q2 | q2
          · have := l4 i q2 hri; omega
          · subst q2; omega
        · rw [az_up_o p, az_up_o p]
        · rw [az_up_n (by omega), az_up_n (by omega)]
        · rw [az_up_o (by decide), az_up_o (by decide)]
        · rw [az_up_n (by omega), az_up_n (by omega)]
  · skip
    refine az_er 2 rfl ?_
    refine az_ecallF rfl rfl rfl rfl ((cm_rs hM hV hx (pX_9 hV) (pX_36 hV)).eq (by rw [show (∀ t, t < τ 0 → rs_c τ (pl_sn (pX τ k) (τ 0)) (pX τ k) t) = rs_P τ (pX τ k) from rfl, pl_d_f hr]) rfl) ?_
    refine az_if_eq rfl rfl (fun c140 => ?_) (fun c140 => absurd rfl c140)
    refine K _ h ⟨by rw [ra_n_f hr]; exact r1, fun q => ?_⟩ gt_F.rf rfl (fun j _ _ => rfl)
    rw [ra_n_f hr] at q
    obtain ⟨⟨j, k1, k2, k3, k4, k5⟩, j', l1, l2, l3, l4⟩ := r2 q
    refine ⟨⟨j, by omega, k2, k3, k4, k5⟩, j', by omega, l2, l3, fun i hi hri => ?_⟩
    rcases Nat.lt_or_eq_of_le (Nat.le_of_lt_succ hi) with q2 | q2
    · exact l4 i q2 hri
    · subst q2; exact absurd hri hr
set_option maxRecDepth 100000 in
theorem lm_gt {sc : az_S} {h : az_H} {τ : Nat → Nat} (hM : rt_M 61 τ h) (hV : rt_V τ) (hpw : ∀ i, -2000 ≤ pw τ (pX τ i) ∧ pw τ (pX τ i) ≤ 2000) : ∀ (d k : Nat) (tl : List Value) (hh : az_H), k < pW τ → pW τ - (k + 1) = d → gt_B τ k hh → gt_R τ k hh → gt_F h hh → (∀ s, s < 4 → hh 71 s = nI (pX τ k s)) → (tl = [] ∨ ∃ a b c, tl = [.int a, .int b, .int c]) → az_E sc az_m_X8_goThrough 14 (.ref 59 :: tl) [] hh (fun v h' => v = none ∧ gt_B τ (pW τ) h' ∧ gt_R τ (pW τ) h' ∧ gt_F h h') := by
  intro d
  induction d with
  | zero =>
    intro k tl hh hk hd hB hR hF hx htl
    rcases htl with rfl | ⟨a9, b9, c9, rfl⟩
    · skip
      refine az_er 6 rfl ?_
      refine lm_g1 (hF.M hM) hV hx (fun z => ?_) (τ 0) 0 _ _ (by omega) (by omega) rfl rfl
      refine az_er 2 rfl ?_
      refine lm_g2 (hF.M hM) hV hx (pX_36 hV) (fun z => ?_) (τ 0) 0 _ _ (by omega) (by omega) rfl rfl
      refine lm_gB hV (show k < pW τ by omega) hpw hB (fun h1 hB1 f1 f2 => ?_)
      have hF1 : gt_F h h1 := hF.tr ⟨fun a x _ _ => f1 a x, fun j hj => f2 j (by omega) (by omega) (by omega)⟩
      refine lm_gC (hF1.M hM) hV (show k < pW τ by omega) hpw (fun s hs => by rw [f1 71 (by decide)]; exact hx s hs) (gt_R_h hR (fun j h1 h2 => f2 j (by omega) (by omega) (by omega)) (f1 72 (by decide))) (fun z2 h2 hR2 f3 f4 f5 => ?_)
      have hB2 := gt_B_h hB1 f5
      have hF2 := hF1.tr f3
      have hk1 : ¬ k + 1 < pW τ := by omega
      refine az_er 1 rfl ?_
      refine az_ecall rfl rfl rfl rfl (cm_nx (k := k) (hF2.M hM) hV (by omega) (fun s hs => by rw [f4, f1 71 (by decide)]; exact hx s hs)) ?_
      rintro _ h5 ⟨rfl, n2, n3⟩
      have hF5 : gt_F h h5 := hF2.tr ⟨fun a _ y _ => n3 a y, fun j _ => by rw [n3 59 (by decide)]⟩
      have hB5 := gt_B_h (h' := h5) hB2 (fun j _ _ => by rw [n3 59 (by decide)])
      have hR5 := gt_R_h (h' := h5) hR2 (fun j _ _ => by rw [n3 59 (by decide)]) (n3 72 (by decide))
      rw [decide_eq_false hk1]
      refine az_if_ne rfl rfl (fun c221 => absurd rfl c221) (fun c221 => ?_)
      refine az_eret rfl rfl rfl ?_
      have e : pW τ = k + 1 := by omega
      rw [e]
      exact ⟨rfl, hB5, hR5, hF5⟩
    · skip
      refine az_er 6 rfl ?_
      refine lm_g1 (hF.M hM) hV hx (fun z => ?_) (τ 0) 0 _ _ (by omega) (by omega) rfl rfl
      refine az_er 2 rfl ?_
      refine lm_g2 (hF.M hM) hV hx (pX_36 hV) (fun z => ?_) (τ 0) 0 _ _ (by omega) (by omega) rfl rfl
      refine lm_gB hV (show k < pW τ by omega) hpw hB (fun h1 hB1 f1 f2 => ?_)
      have hF1 : gt_F h h1 := hF.tr ⟨fun a x _ _ => f1 a x, fun j hj => f2 j (by omega) (by omega) (by omega)⟩
      refine lm_gC (hF1.M hM) hV (show k < pW τ by omega) hpw (fun s hs => by rw [f1 71 (by decide)]; exact hx s hs) (gt_R_h hR (fun j h1 h2 => f2 j (by omega) (by omega) (by omega)) (f1 72 (by decide))) (fun z2 h2 hR2 f3 f4 f5 => ?_)
      have hB2 := gt_B_h hB1 f5
      have hF2 := hF1.tr f3
      have hk1 : ¬ k + 1 < pW τ := by omega
      refine az_er 1 rfl ?_
      refine az_ecall rfl rfl rfl rfl (cm_nx (k := k) (hF2.M hM) hV (by omega) (fun s hs => by rw [f4, f1 71 (by decide)]; exact hx s hs)) ?_
      rintro _ h5 ⟨rfl, n2, n3⟩
      have hF5 : gt_F h h5 := hF2.tr ⟨fun a _ y _ => n3 a y, fun j _ => by rw [n3 59 (by decide)]⟩
      have hB5 := gt_B_h (h' := h5) hB2 (fun j _ _ => by rw [n3 59 (by decide)])
      have hR5 := gt_R_h (h' := h5) hR2 (fun j _ _ => by rw [n3 59 (by decide)]) (n3 72 (by decide))
      rw [decide_eq_false hk1]
      refine az_if_ne rfl rfl (fun c221 => absurd rfl c221) (fun c221 => ?_)
      refine az_eret rfl rfl rfl ?_
      have e : pW τ = k + 1 := by omega
      rw [e]
      exact ⟨rfl, hB5, hR5, hF5⟩
  | succ d ih =>
    intro k tl hh hk hd hB hR hF hx htl
    rcases htl with rfl | ⟨a9, b9, c9, rfl⟩
    · skip
      refine az_er 6 rfl ?_
      refine lm_g1 (hF.M hM) hV hx (fun z => ?_) (τ 0) 0 _ _ (by omega) (by omega) rfl rfl
      refine az_er 2 rfl ?_
      refine lm_g2 (hF.M hM) hV hx (pX_36 hV) (fun z => ?_) (τ 0) 0 _ _ (by omega) (by omega) rfl rfl
      refine lm_gB hV (show k < pW τ by omega) hpw hB (fun h1 hB1 f1 f2 => ?_)
      have hF1 : gt_F h h1 := hF.tr ⟨fun a x _ _ => f1 a x, fun j hj => f2 j (by omega) (by omega) (by omega)⟩
      refine lm_gC (hF1.M hM) hV (show k < pW τ by omega) hpw (fun s hs => by rw [f1 71 (by decide)]; exact hx s hs) (gt_R_h hR (fun j h1 h2 => f2 j (by omega) (by omega) (by omega)) (f1 72 (by decide))) (fun z2 h2 hR2 f3 f4 f5 => ?_)
      have hB2 := gt_B_h hB1 f5
      have hF2 := hF1.tr f3
      by_cases hk1 : k + 1 < pW τ
      · skip
        refine az_er 1 rfl ?_
        refine az_ecall rfl rfl rfl rfl (cm_nx (k := k) (hF2.M hM) hV (by omega) (fun s hs => by rw [f4, f1 71 (by decide)]; exact hx s hs)) ?_
        rintro _ h5 ⟨rfl, n2, n3⟩
        have hF5 : gt_F h h5 := hF2.tr ⟨fun a _ y _ => n3 a y, fun j _ => by rw [n3 59 (by decide)]⟩
        have hB5 := gt_B_h (h' := h5) hB2 (fun j _ _ => by rw [n3 59 (by decide)])
        have hR5 := gt_R_h (h' := h5) hR2 (fun j _ _ => by rw [n3 59 (by decide)]) (n3 72 (by decide))
        rw [decide_eq_true hk1]
        refine az_if_ne rfl rfl (fun c221 => ?_) (fun c221 => absurd c221 (by decide))
        exact ih (k + 1) _ h5 (by omega) (by omega) hB5 hR5 hF5 (n2 hk1) (Or.inr ⟨_, _, _, rfl⟩)
      · skip
        refine az_er 1 rfl ?_
        refine az_ecall rfl rfl rfl rfl (cm_nx (k := k) (hF2.M hM) hV (by omega) (fun s hs => by rw [f4, f1 71 (by decide)]; exact hx s hs)) ?_
        rintro _ h5 ⟨rfl, n2, n3⟩
        have hF5 : gt_F h h5 := hF2.tr ⟨fun a _ y _ => n3 a y, fun j _ => by rw [n3 59 (by decide)]⟩
        have hB5 := gt_B_h (h' := h5) hB2 (fun j _ _ => by rw [n3 59 (by decide)])
        have hR5 := gt_R_h (h' := h5) hR2 (fun j _ _ => by rw [n3 59 (by decide)]) (n3 72 (by decide))
        rw [decide_eq_false hk1]
        refine az_if_ne rfl rfl (fun c221 => absurd rfl c221) (fun c221 => ?_)
        refine az_eret rfl rfl rfl ?_
        have e : pW τ = k + 1 := by omega
        rw [e]
        exact ⟨rfl, hB5, hR5, hF5⟩
    · skip
      refine az_er 6 rfl ?_
      refine lm_g1 (hF.M hM) hV hx (fun z => ?_) (τ 0) 0 _ _ (by omega) (by omega) rfl rfl
      refine az_er 2 rfl ?_
      refine lm_g2 (hF.M hM) hV hx (pX_36 hV) (fun z => ?_) (τ 0) 0 _ _ (by omega) (by omega) rfl rfl
      refine lm_gB hV (show k < pW τ by omega) hpw hB (fun h1 hB1 f1 f2 => ?_)
      have hF1 : gt_F h h1 := hF.tr ⟨fun a x _ _ => f1 a x, fun j hj => f2 j (by omega) (by omega) (by omega)⟩
      refine lm_gC (hF1.M hM) hV (show k < pW τ by omega) hpw (fun s hs => by rw [f1 71 (by decide)]; exact hx s hs) (gt_R_h hR (fun j h1 h2 => f2 j (by omega) (by omega) (by omega)) (f1 72 (by decide))) (fun z2 h2 hR2 f3 f4 f5 => ?_)
      have hB2 := gt_B_h hB1 f5
      have hF2 := hF1.tr f3
      by_cases hk1 : k + 1 < pW τ
      · skip
        refine az_er 1 rfl ?_
        refine az_ecall rfl rfl rfl rfl (cm_nx (k := k) (hF2.M hM) hV (by omega) (fun s hs => by rw [f4, f1 71 (by decide)]; exact hx s hs)) ?_
        rintro _ h5 ⟨rfl, n2, n3⟩
        have hF5 : gt_F h h5 := hF2.tr ⟨fun a _ y _ => n3 a y, fun j _ => by rw [n3 59 (by decide)]⟩
        have hB5 := gt_B_h (h' := h5) hB2 (fun j _ _ => by rw [n3 59 (by decide)])
        have hR5 := gt_R_h (h' := h5) hR2 (fun j _ _ => by rw [n3 59 (by decide)]) (n3 72 (by decide))
        rw [decide_eq_true hk1]
        refine az_if_ne rfl rfl (fun c221 => ?_) (fun c221 => absurd c221 (by decide))
        exact ih (k + 1) _ h5 (by omega) (by omega) hB5 hR5 hF5 (n2 hk1) (Or.inr ⟨_, _, _, rfl⟩)
      · skip
        refine az_er 1 rfl ?_
        refine az_ecall rfl rfl rfl rfl (cm_nx (k := k) (hF2.M hM) hV (by omega) (fun s hs => by rw [f4, f1 71 (by decide)]; exact hx s hs)) ?_
        rintro _ h5 ⟨rfl, n2, n3⟩
        have hF5 : gt_F h h5 := hF2.tr ⟨fun a _ y _ => n3 a y, fun j _ => by rw [n3 59 (by decide)]⟩
        have hB5 := gt_B_h (h' := h5) hB2 (fun j _ _ => by rw [n3 59 (by decide)])
        have hR5 := gt_R_h (h' := h5) hR2 (fun j _ _ => by rw [n3 59 (by decide)]) (n3 72 (by decide))
        rw [decide_eq_false hk1]
        refine az_if_ne rfl rfl (fun c221 => absurd rfl c221) (fun c221 => ?_)
        refine az_eret rfl rfl rfl ?_
        have e : pW τ = k + 1 := by omega
        rw [e]
        exact ⟨rfl, hB5, hR5, hF5⟩
set_option maxRecDepth 100000 in
theorem lm_bg {sc : az_S} {h : az_H} : ∀ (d i : Nat) (z : Int32) (hh : az_H), i ≤ 4 → 4 - i = d → z = nI i → (∀ s, s < i → hh 71 s = nI 0) → (∀ a, a ≠ 71 → hh a = h a) → az_E sc az_m_X8_begin 2 [.ref 59, .int z] [] hh (fun v h' => v = none ∧ (∀ s, s < 4 → h' 71 s = nI 0) ∧ ∀ a, a ≠ 71 → h' a = h a) := by
  intro d
  induction d with
  | zero =>
    intro i z hh hi hd hz9 hz hF
    subst hz9
    refine az_er 2 rfl ?_
    refine az_ic_ge rfl rfl (fun c4 => ?_) (fun c4 => absurd (by rw [show i = 4 by omega]; decide) c4)
    refine az_eret rfl rfl rfl ?_
    exact ⟨rfl, fun s hs => hz s (by omega), hF⟩
  | succ d ih =>
    intro i z hh hi hd hz9 hz hF
    subst hz9
    refine az_er 2 rfl ?_
    refine az_ic_ge rfl rfl (fun c4 => absurd c4 (nI_ge (b := 4) (show i < 4 by omega) (by omega))) (fun c4 => ?_)
    refine az_er 4 rfl ?_
    refine az_iasI rfl rfl rfl (show i < 4 by omega) (by decide) ?_
    refine az_er 2 rfl ?_
    refine ih (i + 1) _ _ (by omega) (by omega) (nI_1' i) (fun s hs => ?_) (fun a ha => by rw [az_up_o ha]; exact hF a ha)
    by_cases q : s = i
    · subst q; exact az_up_s
    · rw [az_up_n q]; exact hz s (by omega)
set_option maxRecDepth 100000 in
theorem cm_bg {sc : az_S} {h : az_H} : az_E sc az_m_X8_begin 0 [.ref 59] [] h (fun v h' => v = none ∧ (∀ s, s < 4 → h' 71 s = nI 0) ∧ ∀ a, a ≠ 71 → h' a = h a) := by
  refine az_er 2 rfl ?_
  exact lm_bg 4 0 _ h (by omega) (by omega) rfl (fun s hs => absurd hs (Nat.not_lt_zero s)) (fun _ _ => rfl)
set_option maxRecDepth 100000 in
theorem cm_gt {sc : az_S} {h : az_H} {τ : Nat → Nat} (hM : rt_M 61 τ h) (hV : rt_V τ) (hpw : ∀ i, -2000 ≤ pw τ (pX τ i) ∧ pw τ (pX τ i) ≤ 2000) : az_E sc az_m_X8_goThrough 0 [.ref 59] [] h (fun v h' => v = none ∧ gt_B τ (pW τ) h' ∧ gt_R τ (pW τ) h' ∧ gt_F h h') := by
  refine az_er 7 rfl ?_
  refine az_ecall rfl rfl rfl rfl (cm_bg) ?_
  rintro _ h1 ⟨rfl, z1, z2⟩
  have g59 : ∀ j, h1 59 j = az_up (az_up h 59 18 (Int32.ofInt 0)) 59 23 (Int32.ofInt 0) 59 j := fun j => by rw [z2 59 (by decide)]
  refine lm_gt hM hV hpw (pW τ - 1) 0 [] h1 (pl_W_pos (τ 0)) rfl ⟨by rw [g59, az_up_s]; rfl, fun q => absurd q (by decide)⟩ ⟨by rw [g59, az_up_n (by decide), az_up_s]; rfl, fun q => absurd rfl q⟩ ⟨fun a x y _ => by rw [z2 a y, az_up_o x, az_up_o x], fun j hj => by rw [g59, az_up_n (by omega), az_up_n (by omega)]⟩ (fun s hs => ?_) (Or.inl rfl)
  rw [z1 s hs]
  unfold pX
  rw [pl_x_0]
