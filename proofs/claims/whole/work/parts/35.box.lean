/-! THE CLASS'S BOX -/
def iI (z : Int) : Int32 := Int32.ofInt z
theorem iI_n (n : Nat) : nI n = iI (n : Int) := Int32.ofInt_eq_ofNat.symm
theorem iI_add (a b : Int) : iI a + iI b = iI (a + b) := (Int32.ofInt_add a b).symm
theorem iI_sub (a b : Int) : iI a - iI b = iI (a - b) := (Int32.ofInt_sub a b).symm
theorem iI_mul (a b : Int) : iI a * iI b = iI (a * b) := (Int32.ofInt_mul a b).symm
theorem iI_lt {a b : Int} (ha : -2000000000 ≤ a ∧ a ≤ 2000000000) (hb : -2000000000 ≤ b ∧ b ≤ 2000000000) : iI a < iI b ↔ a < b := by
  rw [Int32.lt_iff_toInt_lt]
  unfold iI
  rw [Int32.toInt_ofInt_of_le (by omega) (by omega), Int32.toInt_ofInt_of_le (by omega) (by omega)]
theorem iI_le {a b : Int} (ha : -2000000000 ≤ a ∧ a ≤ 2000000000) (hb : -2000000000 ≤ b ∧ b ≤ 2000000000) : iI a ≤ iI b ↔ a ≤ b := by
  rw [Int32.le_iff_toInt_le]
  unfold iI
  rw [Int32.toInt_ofInt_of_le (by omega) (by omega), Int32.toInt_ofInt_of_le (by omega) (by omega)]
theorem iI_eq {a b : Int} (ha : -2000000000 ≤ a ∧ a ≤ 2000000000) (hb : -2000000000 ≤ b ∧ b ≤ 2000000000) : iI a = iI b ↔ a = b := by
  constructor
  · intro h
    have h2 := congrArg Int32.toInt h
    unfold iI at h2
    rw [Int32.toInt_ofInt_of_le (by omega) (by omega), Int32.toInt_ofInt_of_le (by omega) (by omega)] at h2
    exact h2
  · exact fun h => by rw [h]
noncomputable def pl_d (P : Prop) : Bool := @decide P (Classical.propDecidable P)
theorem pl_d_t {P : Prop} (h : P) : pl_d P = true := by unfold pl_d; simp [h]
theorem pl_d_f {P : Prop} (h : ¬ P) : pl_d P = false := by unfold pl_d; simp [h]
def bx_R (m : Nat) (lo hi : Nat → Nat) (g : Nat → Int) (fa tb w0 : Int) (h : az_H) : Prop := h 49 4 = nI m ∧ h 49 5 = iI fa ∧ h 49 6 = iI tb ∧ h 49 7 = iI w0 ∧ ∀ s, s < m → h 50 s = nI (lo s) ∧ h 51 s = nI (hi s) ∧ h 52 s = iI (g s)
def bx_V (m : Nat) (lo hi : Nat → Nat) (g : Nat → Int) (fa tb : Int) : Prop := m ≤ 4 ∧ (-1 ≤ fa ∧ fa ≤ 100) ∧ (-1 ≤ tb ∧ tb ≤ 100) ∧ ∀ s, s < m → lo s ≤ 9 ∧ hi s ≤ 9 ∧ -20 ≤ g s ∧ g s ≤ 20
theorem pl_sn_9 {f : Nat → Nat} : ∀ n, (∀ s, s < n → f s ≤ 9) → pl_sn f n ≤ 9 * n
  | 0, _ => Nat.le_refl 0
  | n + 1, h => by
    rw [pl_sn]
    have h1 := pl_sn_9 n (fun s hs => h s (by omega))
    have h2 := h n (by omega)
    omega
set_option maxRecDepth 100000 in
theorem ct_bbegin {sc : az_S} {h : az_H} {lo hi : Nat → Nat} {g : Nat → Int} {fa tb : Int} : az_E sc az_m_X0_begin 0 [.ref 49, .int (iI fa), .int (iI tb)] [] h (fun v h' => v = none ∧ bx_R 0 lo hi g fa tb 0 h' ∧ ∀ a, a ≠ 49 → h' a = h a) := by
  refine az_er 12 rfl ?_
  refine az_eret rfl rfl rfl ?_
  refine ⟨rfl, ⟨?_, ?_, ?_, az_up_s, fun s hs => absurd hs (Nat.not_lt_zero s)⟩, fun a ha => by rw [az_up_o ha, az_up_o ha, az_up_o ha, az_up_o ha]⟩
  · rw [az_up_n (by decide), az_up_n (by decide), az_up_n (by decide)]; exact az_up_s
  · rw [az_up_n (by decide), az_up_n (by decide)]; exact az_up_s
  · rw [az_up_n (by decide)]; exact az_up_s
theorem nI_m4a {s : Nat} (hs : s ≤ 3) : (if (4 : Int32) < nI s + Int32.ofInt 1 then (4 : Int32) else nI s + Int32.ofInt 1) = nI (s + 1) := by
  rw [show nI s + Int32.ofInt 1 = nI (s + 1) from nI_1' s]
  exact if_neg (nI_nlt (a := 4) (by omega) (by omega))
set_option maxRecDepth 100000 in
theorem ct_badd {sc : az_S} {h : az_H} {m : Nat} {lo hi : Nat → Nat} {g : Nat → Int} {fa tb w0 : Int} (hB : bx_R m lo hi g fa tb w0 h) (h3 : m ≤ 3) {x1 x2 x3 x4 x5 : Int32} {l9 u9 : Nat} {n9 o9 z9 : Int} (hx1 : x1 = nI l9) (hx2 : x2 = nI u9) (hm9 : x3 = iI n9) (ho9 : x4 = iI o9) (hh9 : x5 = iI z9) : az_E sc az_m_X0_add 0 [.ref 49, .int x1, .int x2, .int x3, .int x4, .int x5] [] h (fun v h' => v = none ∧ bx_R (m + 1) (fun s => if s = m then l9 else lo s) (fun s => if s = m then u9 else hi s) (fun s => if s = m then o9 - z9 else g s) fa tb (w0 + n9 * z9) h' ∧ ∀ a, (a < 49 ∨ 52 < a) → h' a = h a) := by
  obtain ⟨r4, r5, r6, r7, r8⟩ := hB
  have e4 : ∀ {z : Int32}, z = nI m → (if Int32.ofInt 4 < z + Int32.ofInt 1 then Int32.ofInt 4 else z + Int32.ofInt 1) = nI (m + 1) := fun q => by rw [q]; exact nI_m4a h3
  refine az_er 5 rfl ?_
  refine az_ecallF rfl rfl rfl rfl (ct_putI (j := m) rfl (by exact r4) (show m < 4 by omega) (by decide)) ?_
  refine az_er 5 rfl ?_
  refine az_ecallF rfl rfl rfl rfl (ct_putI (j := m) rfl (by rw [az_up_o (by decide)]; exact r4) (show m < 4 by omega) (by decide)) ?_
  refine az_er 7 rfl ?_
  refine az_ecallF rfl rfl rfl rfl (ct_putI (j := m) rfl (by rw [az_up_o (by decide), az_up_o (by decide)]; exact r4) (show m < 4 by omega) (by decide)) ?_
  refine az_er 14 rfl ?_
  refine az_er 2 rfl ?_
  refine az_eret rfl rfl rfl ?_
  refine ⟨rfl, ⟨?_, ?_, ?_, ?_, fun s hs => ?_⟩, fun a ha => ?_⟩
  · rw [az_up_s]; refine e4 ?_; rw [az_up_n (by decide), az_up_o (by decide), az_up_o (by decide), az_up_o (by decide)]; exact r4
  · rw [az_up_n (by decide), az_up_n (by decide), az_up_o (by decide), az_up_o (by decide), az_up_o (by decide)]; exact r5
  · rw [az_up_n (by decide), az_up_n (by decide), az_up_o (by decide), az_up_o (by decide), az_up_o (by decide)]; exact r6
  · rw [az_up_n (by decide), az_up_s, az_up_o (by decide), az_up_o (by decide), az_up_o (by decide), r7, hm9, hh9, iI_mul, iI_add]
  · by_cases hsm : s = m
    · subst hsm
      refine ⟨?_, ?_, ?_⟩
      · rw [az_up_o (by decide), az_up_o (by decide), az_up_o (by decide), az_up_o (by decide), az_up_s]; exact hx1.trans (congrArg nI (if_pos rfl).symm)
      · rw [az_up_o (by decide), az_up_o (by decide), az_up_o (by decide), az_up_s]; exact hx2.trans (congrArg nI (if_pos rfl).symm)
      · rw [az_up_o (by decide), az_up_o (by decide), az_up_s, ho9, hh9, iI_sub]; exact congrArg iI (if_pos rfl).symm
    · have q := r8 s (by omega)
      refine ⟨?_, ?_, ?_⟩
      · rw [az_up_o (by decide), az_up_o (by decide), az_up_o (by decide), az_up_o (by decide), az_up_n hsm]; exact q.1.trans (congrArg nI (if_neg hsm).symm)
      · rw [az_up_o (by decide), az_up_o (by decide), az_up_o (by decide), az_up_n hsm, az_up_o (by decide)]; exact q.2.1.trans (congrArg nI (if_neg hsm).symm)
      · rw [az_up_o (by decide), az_up_o (by decide), az_up_n hsm, az_up_o (by decide), az_up_o (by decide)]; exact q.2.2.trans (congrArg iI (if_neg hsm).symm)
  · rw [az_up_o (by omega), az_up_o (by omega), az_up_o (by omega), az_up_o (by omega), az_up_o (by omega)]
set_option maxRecDepth 100000 in
theorem lp_hp {sc : az_S} {h : az_H} {m : Nat} {lo hi : Nat → Nat} {g : Nat → Int} {fa tb w0 : Int} (hB : bx_R m lo hi g fa tb w0 h) (hV : bx_V m lo hi g fa tb) : ∀ (d i : Nat) (x y z : Int32), i ≤ m → m - i = d → (∀ s, s < i → lo s ≤ hi s) → x = nI (pl_sn lo i) → y = nI (pl_sn hi i) → z = nI i → az_E sc az_m_X0_hasPlan 6 [.ref 49, .int x, .int y, .int z] [] h (fun v h' => v = some (.int (sq_b (pl_d (pl_hp m lo hi fa tb)))) ∧ h' = h) := by
  obtain ⟨r4, r5, r6, r7, r8⟩ := hB
  obtain ⟨v1, v2, v3, v4⟩ := hV
  have k1 := pl_sn_9 m (fun s hs => (v4 s hs).1)
  have k2 := pl_sn_9 m (fun s hs => (v4 s hs).2.1)
  intro d
  induction d with
  | zero =>
    intro i x y z hi9 hd hle hx hy hz
    obtain rfl : i = m := by omega
    subst hx
    subst hy
    subst hz
    refine az_er 3 rfl ?_
    rw [r4]
    refine az_ic_ge rfl rfl (fun c11 => ?_) (fun c11 => absurd (nI_le (by omega) (by omega)) c11)
    refine az_er 4 rfl ?_
    rw [r5, r6]
    refine az_ic_gt rfl rfl (fun c71 => ?_) (fun c71 => ?_)
    · refine az_er 1 rfl ?_
      refine az_zret rfl rfl (by first | exact Or.inl rfl | exact Or.inr rfl) ?_
      first | replace c71 := (iI_lt (by omega) (by omega)).mp c71 | replace c71 := mt (iI_lt (by omega) (by omega)).mpr c71 | skip
      first | replace c79 := (iI_lt (by omega) (by omega)).mp c79 | replace c79 := mt (iI_lt (by omega) (by omega)).mpr c79 | skip
      first | replace c87 := (iI_lt (by omega) (by omega)).mp c87 | replace c87 := mt (iI_lt (by omega) (by omega)).mpr c87 | skip
      first
      | (rw [pl_d_t ⟨hle, by omega, by omega, by omega⟩]; exact ⟨rfl, rfl⟩)
      | (rw [pl_d_f (fun q => by obtain ⟨q1, q2, q3, q4⟩ := q; omega)]; exact ⟨rfl, rfl⟩)
    · refine az_er 3 rfl ?_
      rw [r6, iI_n (pl_sn lo i)]
      refine az_ic_gt rfl rfl (fun c79 => ?_) (fun c79 => ?_)
      · refine az_er 1 rfl ?_
        refine az_zret rfl rfl (by first | exact Or.inl rfl | exact Or.inr rfl) ?_
        first | replace c71 := (iI_lt (by omega) (by omega)).mp c71 | replace c71 := mt (iI_lt (by omega) (by omega)).mpr c71 | skip
        first | replace c79 := (iI_lt (by omega) (by omega)).mp c79 | replace c79 := mt (iI_lt (by omega) (by omega)).mpr c79 | skip
        first | replace c87 := (iI_lt (by omega) (by omega)).mp c87 | replace c87 := mt (iI_lt (by omega) (by omega)).mpr c87 | skip
        first
        | (rw [pl_d_t ⟨hle, by omega, by omega, by omega⟩]; exact ⟨rfl, rfl⟩)
        | (rw [pl_d_f (fun q => by obtain ⟨q1, q2, q3, q4⟩ := q; omega)]; exact ⟨rfl, rfl⟩)
      · refine az_er 3 rfl ?_
        rw [r5, iI_n (pl_sn hi i)]
        refine az_ic_lt rfl rfl (fun c87 => ?_) (fun c87 => ?_)
        · refine az_er 1 rfl ?_
          refine az_zret rfl rfl (by first | exact Or.inl rfl | exact Or.inr rfl) ?_
          first | replace c71 := (iI_lt (by omega) (by omega)).mp c71 | replace c71 := mt (iI_lt (by omega) (by omega)).mpr c71 | skip
          first | replace c79 := (iI_lt (by omega) (by omega)).mp c79 | replace c79 := mt (iI_lt (by omega) (by omega)).mpr c79 | skip
          first | replace c87 := (iI_lt (by omega) (by omega)).mp c87 | replace c87 := mt (iI_lt (by omega) (by omega)).mpr c87 | skip
          first
          | (rw [pl_d_t ⟨hle, by omega, by omega, by omega⟩]; exact ⟨rfl, rfl⟩)
          | (rw [pl_d_f (fun q => by obtain ⟨q1, q2, q3, q4⟩ := q; omega)]; exact ⟨rfl, rfl⟩)
        · refine az_er 2 rfl ?_
          refine az_zret rfl rfl (by first | exact Or.inl rfl | exact Or.inr rfl) ?_
          first | replace c71 := (iI_lt (by omega) (by omega)).mp c71 | replace c71 := mt (iI_lt (by omega) (by omega)).mpr c71 | skip
          first | replace c79 := (iI_lt (by omega) (by omega)).mp c79 | replace c79 := mt (iI_lt (by omega) (by omega)).mpr c79 | skip
          first | replace c87 := (iI_lt (by omega) (by omega)).mp c87 | replace c87 := mt (iI_lt (by omega) (by omega)).mpr c87 | skip
          first
          | (rw [pl_d_t ⟨hle, by omega, by omega, by omega⟩]; exact ⟨rfl, rfl⟩)
          | (rw [pl_d_f (fun q => by obtain ⟨q1, q2, q3, q4⟩ := q; omega)]; exact ⟨rfl, rfl⟩)
  | succ d ih =>
    intro i x y z hi9 hd hle hx hy hz
    subst hx
    subst hy
    subst hz
    have v5 := v4 i (by omega)
    refine az_er 3 rfl ?_
    rw [r4]
    refine az_ic_ge rfl rfl (fun c11 => absurd c11 (nI_ge (show i < m by omega) (by omega))) (fun c11 => ?_)
    refine az_er 3 rfl ?_
    refine az_ecallF rfl rfl rfl rfl (ct_atI rfl rfl (show i < 4 by omega) (by decide) (r8 i (by omega)).1) ?_
    refine az_er 3 rfl ?_
    refine az_ecallF rfl rfl rfl rfl (ct_atI rfl rfl (show i < 4 by omega) (by decide) (r8 i (by omega)).2.1) ?_
    refine az_ic_le rfl rfl (fun c30 => ?_) (fun c30 => ?_)
    · refine az_er 4 rfl ?_
      refine az_ecallF rfl rfl rfl rfl (ct_atI rfl rfl (show i < 4 by omega) (by decide) (r8 i (by omega)).1) ?_
      refine az_er 6 rfl ?_
      refine az_ecallF rfl rfl rfl rfl (ct_atI rfl rfl (show i < 4 by omega) (by decide) (r8 i (by omega)).2.1) ?_
      refine az_er 4 rfl ?_
      refine ih (i + 1) _ _ _ (by omega) (by omega) (fun s hs => ?_) (nI_add _ _) (nI_add _ _) (nI_1' i)
      rcases Nat.lt_or_eq_of_le (Nat.le_of_lt_succ hs) with q | q
      · exact hle s q
      · subst q; exact (nI_leI (by omega) (by omega)).mp c30
    · refine az_er 1 rfl ?_
      refine az_zret rfl rfl (by first | exact Or.inl rfl | exact Or.inr rfl) ?_
      rw [pl_d_f (fun q => c30 (nI_le (q.1 i (by omega)) (by omega)))]
      exact ⟨rfl, rfl⟩
set_option maxRecDepth 100000 in
theorem ct_hp {sc : az_S} {h : az_H} {m : Nat} {lo hi : Nat → Nat} {g : Nat → Int} {fa tb w0 : Int} (hB : bx_R m lo hi g fa tb w0 h) (hV : bx_V m lo hi g fa tb) : az_F sc az_m_X0_hasPlan [.ref 49] h (some (.int (sq_b (pl_d (pl_hp m lo hi fa tb))))) h := by
  refine az_F.of ?_
  refine az_er 6 rfl ?_
  exact lp_hp hB hV m 0 _ _ _ (by omega) (by omega) (fun s hs => absurd hs (Nat.not_lt_zero s)) rfl rfl rfl
set_option maxRecDepth 100000 in
theorem lp_cw0 {sc : az_S} {h : az_H} {lo hi : Nat → Nat} {Q : Option Value → az_H → Prop} (K : ∀ x hh, (∀ s, s < 37 → hh 53 s = nI (pl_wy lo hi 0 s)) → (∀ a, a ≠ 53 → hh a = h a) → az_E sc az_m_X0_countWays 34 [.ref 49, .int x] [] hh Q) : ∀ (d p : Nat) (x : Int32) (hh : az_H), p ≤ 37 → 37 - p = d → x = nI p → (∀ s, s < p → hh 53 s = nI (pl_wy lo hi 0 s)) → (∀ a, a ≠ 53 → hh a = h a) → az_E sc az_m_X0_countWays 2 [.ref 49, .int x] [] hh Q := by
  intro d
  induction d with
  | zero =>
    intro p x hh hp hd hx hw hF
    subst hx
    refine az_er 3 rfl ?_
    refine az_len rfl rfl ?_
    refine az_ic_ge rfl rfl (fun c8 => ?_) (fun c8 => absurd (by rw [show p = 37 by omega]; exact nI_le (Nat.le_refl _) (by omega)) c8)
    exact K _ _ (fun s hs => hw s (by omega)) hF
  | succ d ih =>
    intro p x hh hp hd hx hw hF
    subst hx
    refine az_er 3 rfl ?_
    refine az_len rfl rfl ?_
    refine az_ic_ge rfl rfl (fun c8 => absurd c8 (nI_ge (show p < 37 by omega) (by omega))) (fun c8 => ?_)
    refine az_er 4 rfl ?_
    refine az_if_ne rfl rfl (fun c17 => ?_) (fun c17 => ?_)
    · refine az_er 1 rfl ?_
      refine az_ecallF rfl rfl rfl rfl (ct_putI rfl rfl (show p < 37 by omega) (by decide)) ?_
      refine az_er 2 rfl ?_
      refine ih (p + 1) _ _ (by omega) (by omega) (nI_1' p) (fun s hs => ?_) (fun a ha => by rw [az_up_o ha]; exact hF a ha)
      by_cases hq : s = p
      · subst hq
        rw [az_up_s, pl_wy]
        first
        | (rw [if_neg (fun q => c17 (by rw [q]; rfl))]; rfl)
        | (rw [if_pos ((nI_eq (b := 0) (by omega) (by omega)).mp c17)]; rfl)
      · rw [az_up_n hq]; exact hw s (by omega)
    · refine az_er 2 rfl ?_
      refine az_ecallF rfl rfl rfl rfl (ct_putI rfl rfl (show p < 37 by omega) (by decide)) ?_
      refine az_er 2 rfl ?_
      refine ih (p + 1) _ _ (by omega) (by omega) (nI_1' p) (fun s hs => ?_) (fun a ha => by rw [az_up_o ha]; exact hF a ha)
      by_cases hq : s = p
      · subst hq
        rw [az_up_s, pl_wy]
        first
        | (rw [if_neg (fun q => c17 (by rw [q]; rfl))]; rfl)
        | (rw [if_pos ((nI_eq (b := 0) (by omega) (by omega)).mp c17)]; rfl)
      · rw [az_up_n hq]; exact hw s (by omega)
set_option maxRecDepth 100000 in
theorem lp_cwg {sc : az_S} {h hh : az_H} {m i p : Nat} {lo hi : Nat → Nat} {g : Nat → Int} {fa tb w0 : Int} (hB : bx_R m lo hi g fa tb w0 h) (hV : bx_V m lo hi g fa tb) (him : i < m) (hp : p < 37) (hF : ∀ a, a ≠ 53 → hh a = h a) (hw : ∀ s, s ≤ p → hh 53 s = nI (pl_wy lo hi i s)) {Q : Option Value → az_H → Prop} (K : ∀ s y, s = nI (pl_wy lo hi (i + 1) p) → az_E sc az_m_X0_countWays 101 [.ref 49, .int (nI i), .int (nI p), .int s, .int y] [] hh Q) : ∀ (d q : Nat) (s y : Int32), lo i ≤ q → q ≤ hi i + 1 → hi i + 1 - q = d → s = nI (pl_sn (fun j => if lo i ≤ j ∧ j ≤ p then pl_wy lo hi i (p - j) else 0) q) → y = nI q → az_E sc az_m_X0_countWays 68 [.ref 49, .int (nI i), .int (nI p), .int s, .int y] [] hh Q := by
  obtain ⟨r4, r5, r6, r7, r8⟩ := hB
  obtain ⟨v1, v2, v3, v4⟩ := hV
  have v5 := v4 i him
  intro d
  induction d with
  | zero =>
    intro q s y hq hq2 hd hs hy
    subst hy
    refine az_er 4 rfl ?_
    refine az_ecallF rfl rfl rfl rfl (ct_atI rfl rfl (show i < 4 by omega) (by decide) (show hh 51 i = nI (hi i) by rw [hF 51 (by decide)]; exact (r8 i him).2.1)) ?_
    refine az_ic_gt rfl rfl (fun c78 => ?_) (fun c78 => absurd (nI_lt (show hi i < q by omega) (by omega)) c78)
    exact K _ _ (by rw [hs, show q = hi i + 1 by omega]; rfl)
  | succ d ih =>
    intro q s y hq hq2 hd hs hy
    subst hy
    by_cases hqp : q ≤ p
    · skip
      refine az_er 4 rfl ?_
      refine az_ecallF rfl rfl rfl rfl (ct_atI rfl rfl (show i < 4 by omega) (by decide) (show hh 51 i = nI (hi i) by rw [hF 51 (by decide)]; exact (r8 i him).2.1)) ?_
      refine az_ic_gt rfl rfl (fun c78 => absurd c78 (nI_nlt (show q ≤ hi i by omega) (by omega))) (fun c78 => ?_)
      refine az_er 6 rfl ?_
      refine az_ecallF rfl rfl rfl rfl (ct_atI rfl (nI_sb hqp) (show p - q < 37 by omega) (by decide) (hw (p - q) (by omega))) ?_
      refine az_er 4 rfl ?_
      exact ih (q + 1) _ _ (by omega) (by omega) (by omega) (by rw [hs, nI_add, pl_sn, if_pos ⟨hq, hqp⟩]) (nI_1' q)
    · skip
      refine az_er 4 rfl ?_
      refine az_ecallF rfl rfl rfl rfl (ct_atI rfl rfl (show i < 4 by omega) (by decide) (show hh 51 i = nI (hi i) by rw [hF 51 (by decide)]; exact (r8 i him).2.1)) ?_
      refine az_ic_gt rfl rfl (fun c78 => absurd c78 (nI_nlt (show q ≤ hi i by omega) (by omega))) (fun c78 => ?_)
      refine az_er 6 rfl ?_
      refine az_ecallF rfl rfl rfl rfl ((ct_at rfl (by decide)).eq (show some (Value.int (az_at 37 (hh 53) (nI p - nI q))) = some (Value.int 0) by rw [az_at, if_pos (pk_sneg (by omega) (by omega))]) rfl) ?_
      refine az_er 4 rfl ?_
      exact ih (q + 1) _ _ (by omega) (by omega) (by omega) (by rw [hs, pl_sn, if_neg (fun z => hqp z.2)]; exact Int32.add_zero _) (nI_1' q)
set_option maxRecDepth 100000 in
theorem lp_cws {sc : az_S} {h hh : az_H} {m i p : Nat} {lo hi : Nat → Nat} {g : Nat → Int} {fa tb w0 : Int} (hB : bx_R m lo hi g fa tb w0 h) (hV : bx_V m lo hi g fa tb) (him : i < m) (hp : p < 37) (hF : ∀ a, a ≠ 53 → hh a = h a) (hw : ∀ s, s ≤ p → hh 53 s = nI (pl_wy lo hi i s)) (hle : lo i ≤ hi i) {Q : Option Value → az_H → Prop} {tl : List Value} (htl : tl = [] ∨ ∃ a b, tl = [.int a, .int b]) (K : ∀ s y, s = nI (pl_wy lo hi (i + 1) p) → az_E sc az_m_X0_countWays 101 [.ref 49, .int (nI i), .int (nI p), .int s, .int y] [] hh Q) : az_E sc az_m_X0_countWays 56 (.ref 49 :: .int (nI i) :: .int (nI p) :: tl) [] hh Q := by
  have hB0 := hB
  have hV0 := hV
  obtain ⟨r4, r5, r6, r7, r8⟩ := hB
  obtain ⟨v1, v2, v3, v4⟩ := hV
  rcases htl with rfl | ⟨a9, b9, rfl⟩
  · skip
    refine az_er 5 rfl ?_
    refine az_ecallF rfl rfl rfl rfl (ct_atI rfl rfl (show i < 4 by omega) (by decide) (show hh 50 i = nI (lo i) by rw [hF 50 (by decide)]; exact (r8 i him).1)) ?_
    refine az_er 1 rfl ?_
    refine lp_cwg hB0 hV0 him hp hF hw K (hi i + 1 - lo i) (lo i) _ _ (Nat.le_refl _) (by have := hle; omega) rfl ?_ rfl
    rw [pl_sn_0 _ (fun s hs => if_neg (by omega))]; rfl
  · skip
    refine az_er 5 rfl ?_
    refine az_ecallF rfl rfl rfl rfl (ct_atI rfl rfl (show i < 4 by omega) (by decide) (show hh 50 i = nI (lo i) by rw [hF 50 (by decide)]; exact (r8 i him).1)) ?_
    refine az_er 1 rfl ?_
    refine lp_cwg hB0 hV0 him hp hF hw K (hi i + 1 - lo i) (lo i) _ _ (Nat.le_refl _) (by have := hle; omega) rfl ?_ rfl
    rw [pl_sn_0 _ (fun s hs => if_neg (by omega))]; rfl
set_option maxRecDepth 100000 in
theorem lp_cwp {sc : az_S} {h : az_H} {m i : Nat} {lo hi : Nat → Nat} {g : Nat → Int} {fa tb w0 : Int} (hB : bx_R m lo hi g fa tb w0 h) (hV : bx_V m lo hi g fa tb) (him : i < m) (hle : lo i ≤ hi i) {Q : Option Value → az_H → Prop} (K : ∀ x tl hh, (tl = [] ∨ ∃ a b, tl = [.int a, .int b]) → (∀ s, s < 37 → hh 53 s = nI (pl_wy lo hi (i + 1) s)) → (∀ a, a ≠ 53 → hh a = h a) → az_E sc az_m_X0_countWays 116 (.ref 49 :: .int (nI i) :: .int x :: tl) [] hh Q) : ∀ (P : Nat) (x : Int32) (tl : List Value) (hh : az_H), P ≤ 37 → x = nI P - 1 → (∀ s, s < 37 → (s < P → hh 53 s = nI (pl_wy lo hi i s)) ∧ (P ≤ s → hh 53 s = nI (pl_wy lo hi (i + 1) s))) → (∀ a, a ≠ 53 → hh a = h a) → (tl = [] ∨ ∃ a b, tl = [.int a, .int b]) → az_E sc az_m_X0_countWays 52 (.ref 49 :: .int (nI i) :: .int x :: tl) [] hh Q := by
  intro P
  induction P with
  | zero =>
    intro x tl hh hP hx hw hF htl
    subst hx
    refine az_er 1 rfl ?_
    refine az_if_lt rfl rfl (fun c53 => ?_) (fun c53 => absurd (by decide) c53)
    exact K _ tl hh htl (fun s hs => (hw s hs).2 (Nat.zero_le s)) hF
  | succ P ih =>
    intro x tl hh hP hx hw hF htl
    rw [nI_pred] at hx
    subst hx
    refine az_er 1 rfl ?_
    refine az_if_lt rfl rfl (fun c53 => absurd c53 (nI_pos (by omega))) (fun c53 => ?_)
    refine lp_cws hB hV him (by omega) hF (fun s hs => (hw s (by omega)).1 (by omega)) hle htl (fun s y hs => ?_)
    refine az_er 4 rfl ?_
    refine az_ecallF rfl rfl rfl rfl (ct_putI rfl rfl (show P < 37 by omega) (by decide)) ?_
    refine az_er 2 rfl ?_
    refine ih _ _ _ (by omega) (by rw [i32_m1]) (fun s2 hs2 => ?_) (fun a ha => by rw [az_up_o ha]; exact hF a ha) (Or.inr ⟨_, _, rfl⟩)
    by_cases hq : s2 = P
    · subst hq
      refine ⟨fun z => absurd z (Nat.lt_irrefl _), fun _ => ?_⟩
      rw [az_up_s]; exact hs
    · rw [az_up_n hq]
      exact ⟨fun z => (hw s2 hs2).1 (by omega), fun z => (hw s2 hs2).2 (by omega)⟩
set_option maxRecDepth 100000 in
theorem lp_cw {sc : az_S} {h : az_H} {m : Nat} {lo hi : Nat → Nat} {g : Nat → Int} {fa tb w0 : Int} (hB : bx_R m lo hi g fa tb w0 h) (hV : bx_V m lo hi g fa tb) (hle : ∀ s, s < m → lo s ≤ hi s) : ∀ (d i : Nat) (x : Int32) (tl : List Value) (hh : az_H), i ≤ m → m - i = d → x = nI i → (∀ s, s < 37 → hh 53 s = nI (pl_wy lo hi i s)) → (∀ a, a ≠ 53 → hh a = h a) → (tl = [] ∨ ∃ a, tl = [.int a] ∨ ∃ b c, tl = [.int a, .int b, .int c]) → az_E sc az_m_X0_countWays 36 (.ref 49 :: .int x :: tl) [] hh (fun v h' => v = none ∧ (∀ s, s < 37 → h' 53 s = nI (pl_wy lo hi m s)) ∧ ∀ a, a ≠ 53 → h' a = h a) := by
  have hB0 := hB
  have hV0 := hV
  obtain ⟨r4, r5, r6, r7, r8⟩ := hB
  obtain ⟨v1, v2, v3, v4⟩ := hV
  intro d
  induction d with
  | zero =>
    intro i x tl hh hi9 hd hx hw hF htl
    subst hx
    refine az_er 3 rfl ?_
    rw [hF 49 (by decide), r4]
    refine az_ic_ge rfl rfl (fun c41 => ?_) (fun c41 => absurd (nI_le (by omega) (by omega)) c41)
    refine az_eret rfl rfl rfl ?_
    exact ⟨rfl, fun s hs => by rw [hw s hs, show i = m by omega], hF⟩
  | succ d ih =>
    intro i x tl hh hi9 hd hx hw hF htl
    subst hx
    rcases htl with rfl | ⟨a8, rfl | ⟨b8, c8, rfl⟩⟩
    · skip
      refine az_er 3 rfl ?_
      rw [hF 49 (by decide), r4]
      refine az_ic_ge rfl rfl (fun c41 => absurd c41 (nI_ge (show i < m by omega) (by omega))) (fun c41 => ?_)
      refine az_er 2 rfl ?_
      refine az_len rfl rfl ?_
      refine az_er 3 rfl ?_
      refine lp_cwp hB0 hV0 (show i < m by omega) (hle i (by omega)) (fun x9 tl9 hh9 htl9 hw9 hF9 => ?_) 37 _ [] hh (Nat.le_refl _) rfl (fun s hs => ⟨fun _ => hw s hs, fun z => absurd z (by omega)⟩) hF (Or.inl rfl)
      rcases htl9 with rfl | ⟨a9, b9, rfl⟩
      · skip
        refine az_er 2 rfl ?_
        exact ih (i + 1) _ _ _ (by omega) (by omega) (nI_1' i) hw9 hF9 (Or.inr ⟨_, Or.inl rfl⟩)
      · skip
        refine az_er 2 rfl ?_
        exact ih (i + 1) _ _ _ (by omega) (by omega) (nI_1' i) hw9 hF9 (Or.inr ⟨_, Or.inr ⟨_, _, rfl⟩⟩)
    · skip
      refine az_er 3 rfl ?_
      rw [hF 49 (by decide), r4]
      refine az_ic_ge rfl rfl (fun c41 => absurd c41 (nI_ge (show i < m by omega) (by omega))) (fun c41 => ?_)
      refine az_er 2 rfl ?_
      refine az_len rfl rfl ?_
      refine az_er 3 rfl ?_
      refine lp_cwp hB0 hV0 (show i < m by omega) (hle i (by omega)) (fun x9 tl9 hh9 htl9 hw9 hF9 => ?_) 37 _ [] hh (Nat.le_refl _) rfl (fun s hs => ⟨fun _ => hw s hs, fun z => absurd z (by omega)⟩) hF (Or.inl rfl)
      rcases htl9 with rfl | ⟨a9, b9, rfl⟩
      · skip
        refine az_er 2 rfl ?_
        exact ih (i + 1) _ _ _ (by omega) (by omega) (nI_1' i) hw9 hF9 (Or.inr ⟨_, Or.inl rfl⟩)
      · skip
        refine az_er 2 rfl ?_
        exact ih (i + 1) _ _ _ (by omega) (by omega) (nI_1' i) hw9 hF9 (Or.inr ⟨_, Or.inr ⟨_, _, rfl⟩⟩)
    · skip
      refine az_er 3 rfl ?_
      rw [hF 49 (by decide), r4]
      refine az_ic_ge rfl rfl (fun c41 => absurd c41 (nI_ge (show i < m by omega) (by omega))) (fun c41 => ?_)
      refine az_er 2 rfl ?_
      refine az_len rfl rfl ?_
      refine az_er 3 rfl ?_
      refine lp_cwp hB0 hV0 (show i < m by omega) (hle i (by omega)) (fun x9 tl9 hh9 htl9 hw9 hF9 => ?_) 37 _ [.int b8, .int c8] hh (Nat.le_refl _) rfl (fun s hs => ⟨fun _ => hw s hs, fun z => absurd z (by omega)⟩) hF (Or.inr ⟨_, _, rfl⟩)
      rcases htl9 with rfl | ⟨a9, b9, rfl⟩
      · skip
        refine az_er 2 rfl ?_
        exact ih (i + 1) _ _ _ (by omega) (by omega) (nI_1' i) hw9 hF9 (Or.inr ⟨_, Or.inl rfl⟩)
      · skip
        refine az_er 2 rfl ?_
        exact ih (i + 1) _ _ _ (by omega) (by omega) (nI_1' i) hw9 hF9 (Or.inr ⟨_, Or.inr ⟨_, _, rfl⟩⟩)
set_option maxRecDepth 100000 in
theorem ct_cw {sc : az_S} {h : az_H} {m : Nat} {lo hi : Nat → Nat} {g : Nat → Int} {fa tb w0 : Int} (hB : bx_R m lo hi g fa tb w0 h) (hV : bx_V m lo hi g fa tb) (hle : ∀ s, s < m → lo s ≤ hi s) : az_E sc az_m_X0_countWays 0 [.ref 49] [] h (fun v h' => v = none ∧ (∀ s, s < 37 → h' 53 s = nI (pl_wy lo hi m s)) ∧ ∀ a, a ≠ 53 → h' a = h a) := by
  refine az_er 2 rfl ?_
  refine lp_cw0 (lo := lo) (hi := hi) (h := h) (fun x hh hw hF => ?_) 37 0 _ _ (by omega) (by omega) rfl (fun s hs => absurd hs (Nat.not_lt_zero s)) (fun _ _ => rfl)
  refine az_er 2 rfl ?_
  exact lp_cw hB hV hle m 0 _ [] hh (by omega) (by omega) rfl hw hF (Or.inl rfl)
noncomputable def bx_n (r lo hi : Nat → Nat) (m : Nat) (fa tb : Int) : Nat := pl_sn (fun k => if pl_in lo hi (pl_x r m k) m = true ∧ decide (fa ≤ (pl_sn (pl_x r m k) m : Int) ∧ (pl_sn (pl_x r m k) m : Int) ≤ tb) = true then 1 else 0) (pl_W r m)
def bx_f (lo hi : Nat → Nat) (m : Nat) (fa tb : Int) (p : Nat) : Nat := if decide (fa ≤ (p : Int) ∧ (p : Int) ≤ tb) = true then pl_wy lo hi m p else 0
theorem bx_n_f {r lo hi : Nat → Nat} {m : Nat} {fa tb : Int} (hr : ∀ s, s < m → hi s ≤ r s) (hr9 : ∀ s, s < m → r s ≤ 9) (hm : m ≤ 4) : bx_n r lo hi m fa tb = pl_sn (bx_f lo hi m fa tb) 37 := by
  rw [bx_n, ← pl_cnt (n := 37) (q := fun p => decide (fa ≤ (p : Int) ∧ (p : Int) ≤ tb)) hr (fun k => ?_)]
  · rfl
  · have := pl_sn_9 m (f := pl_x r m k) (fun s hs => Nat.le_trans (pl_x_le m k s) (hr9 s hs))
    omega
theorem bx_n_0 {r lo hi : Nat → Nat} {m : Nat} {fa tb : Int} (h : ¬ pl_hp m lo hi fa tb) : bx_n r lo hi m fa tb = 0 := by
  refine pl_sn_0 _ (fun k _ => if_neg (fun q => h (pl_hp_of (x := pl_x r m k) ⟨(pl_in_i m).mp q.1, ?_⟩)))
  exact of_decide_eq_true q.2
theorem mx_0 {z : Int} (h : -100 ≤ z ∧ z ≤ 100) : (if (Int32.ofInt 0) < iI z then iI z else Int32.ofInt 0) = nI z.toNat := by
  show (if iI 0 < iI z then iI z else iI 0) = nI z.toNat
  by_cases h0 : 0 < z
  · rw [if_pos ((iI_lt (a := 0) (by omega) (by omega)).mpr h0), iI_n]
    exact congrArg iI (by omega)
  · rw [if_neg (fun q => h0 ((iI_lt (a := 0) (by omega) (by omega)).mp q)), show z.toNat = 0 by omega]
    rfl
set_option maxRecDepth 100000 in
theorem lp_pls {sc : az_S} {h : az_H} {m : Nat} {lo hi : Nat → Nat} {g : Nat → Int} {fa tb w0 : Int} (hB : bx_R m lo hi g fa tb w0 h) (hV : bx_V m lo hi g fa tb) {r : Nat → Nat} {hh : az_H} (hr : ∀ s, s < m → hi s ≤ r s) (hr9 : ∀ s, s < m → r s ≤ 9) (hF : ∀ a, a ≠ 53 → hh a = h a) (hw : ∀ s, s < 37 → hh 53 s = nI (pl_wy lo hi m s)) : ∀ (d p : Nat) (x y : Int32), p ≤ 37 → 37 - p = d → fa ≤ (p : Int) → x = nI (pl_sn (bx_f lo hi m fa tb) p) → y = nI p → az_E sc az_m_X0_plans 24 [.ref 49, .int x, .int y] [] hh (fun v h' => v = some (.int (nI (bx_n r lo hi m fa tb))) ∧ ∀ a, a ≠ 53 → h' a = h a) := by
  have hB0 := hB
  have hV0 := hV
  obtain ⟨r4, r5, r6, r7, r8⟩ := hB
  obtain ⟨v1, v2, v3, v4⟩ := hV
  intro d
  induction d with
  | zero =>
    intro p x y hp hd hfa ha hy
    subst hy
    subst ha
    by_cases htb : tb < (p : Int)
    · skip
      refine az_er 3 rfl ?_
      rw [hF 49 (by decide), r6, iI_n p]
      refine az_ic_gt rfl rfl (fun c29 => ?_) (fun c29 => absurd ((iI_lt (by omega) (by omega)).mpr (show tb < (p : Int) by omega)) c29)
      refine az_er 1 rfl ?_
      refine az_eret rfl rfl rfl ?_
      exact ⟨by rw [bx_n_f hr hr9 v1, pl_sn_cut (f := bx_f lo hi m fa tb) (a := p) 37 (by omega) (fun s h1 h2 => if_neg (fun q => by have := of_decide_eq_true q; omega))], hF⟩
    · skip
      refine az_er 3 rfl ?_
      rw [hF 49 (by decide), r6, iI_n p]
      refine az_ic_gt rfl rfl (fun c29 => absurd c29 (fun q => by have := (iI_lt (by omega) (by omega)).mp q; omega)) (fun c29 => ?_)
      refine az_er 3 rfl ?_
      refine az_len rfl rfl ?_
      refine az_ic_ge rfl rfl (fun c38 => ?_) (fun c38 => absurd (nI_le (show 37 ≤ p by omega) (by omega)) c38)
      refine az_er 1 rfl ?_
      refine az_eret rfl rfl rfl ?_
      exact ⟨by rw [bx_n_f hr hr9 v1, pl_sn_cut (f := bx_f lo hi m fa tb) (a := p) 37 (by omega) (fun s h1 h2 => if_neg (fun q => by have := of_decide_eq_true q; omega))], hF⟩
  | succ d ih =>
    intro p x y hp hd hfa ha hy
    subst hy
    by_cases htb : tb < (p : Int)
    · subst ha
      refine az_er 3 rfl ?_
      rw [hF 49 (by decide), r6, iI_n p]
      refine az_ic_gt rfl rfl (fun c29 => ?_) (fun c29 => absurd ((iI_lt (by omega) (by omega)).mpr (show tb < (p : Int) by omega)) c29)
      refine az_er 1 rfl ?_
      refine az_eret rfl rfl rfl ?_
      exact ⟨by rw [bx_n_f hr hr9 v1, pl_sn_cut (f := bx_f lo hi m fa tb) (a := p) 37 (by omega) (fun s h1 h2 => if_neg (fun q => by have := of_decide_eq_true q; omega))], hF⟩
    · skip
      refine az_er 3 rfl ?_
      rw [hF 49 (by decide), r6, iI_n p]
      refine az_ic_gt rfl rfl (fun c29 => absurd c29 (fun q => by have := (iI_lt (by omega) (by omega)).mp q; omega)) (fun c29 => ?_)
      refine az_er 3 rfl ?_
      refine az_len rfl rfl ?_
      refine az_ic_ge rfl rfl (fun c38 => absurd c38 (nI_ge (show p < 37 by omega) (by omega))) (fun c38 => ?_)
      refine az_er 4 rfl ?_
      refine az_ecallF rfl rfl rfl rfl (ct_atI rfl rfl (show p < 37 by omega) (by decide) (hw p (by omega))) ?_
      refine az_er 4 rfl ?_
      rw [← iI_n p]
      exact ih (p + 1) _ _ (by omega) (by omega) (by omega) (by rw [ha, nI_add, pl_sn, show bx_f lo hi m fa tb p = pl_wy lo hi m p from if_pos (decide_eq_true ⟨by omega, by omega⟩)]) (nI_1' p)
set_option maxRecDepth 100000 in
theorem ct_plans {sc : az_S} {h : az_H} {m : Nat} {lo hi : Nat → Nat} {g : Nat → Int} {fa tb w0 : Int} (hB : bx_R m lo hi g fa tb w0 h) (hV : bx_V m lo hi g fa tb) {r : Nat → Nat} (hr : ∀ s, s < m → hi s ≤ r s) (hr9 : ∀ s, s < m → r s ≤ 9) : az_E sc az_m_X0_plans 0 [.ref 49] [] h (fun v h' => v = some (.int (nI (bx_n r lo hi m fa tb))) ∧ ∀ a, a ≠ 53 → h' a = h a) := by
  have hB0 := hB
  have hV0 := hV
  obtain ⟨r4, r5, r6, r7, r8⟩ := hB
  obtain ⟨v1, v2, v3, v4⟩ := hV
  by_cases hp : pl_hp m lo hi fa tb
  · have k2 := pl_sn_9 m (fun s hs => (v4 s hs).2.1)
    have hp4 := hp.2.2.2
    have hp3 := hp.2.1
    refine az_er 1 rfl ?_
    refine az_ecallF rfl rfl rfl rfl ((ct_hp hB0 hV0).eq (by rw [pl_d_t hp]) rfl) ?_
    refine az_if_ne rfl rfl (fun c4 => ?_) (fun c4 => absurd c4 (by decide))
    refine az_er 1 rfl ?_
    refine az_ecall rfl rfl rfl rfl (ct_cw hB0 hV0 hp.1) ?_
    rintro _ hh ⟨rfl, hw, hF⟩
    refine az_er 5 rfl ?_
    refine az_er 2 rfl ?_
    rw [hF 49 (by decide), r5, mx_0 (by omega)]
    exact lp_pls hB0 hV0 hr hr9 hF hw (37 - fa.toNat) fa.toNat _ _ (by omega) rfl (by omega) (by rw [pl_sn_0 (f := bx_f lo hi m fa tb) fa.toNat (fun s hs => if_neg (fun q => by have := of_decide_eq_true q; omega))]; rfl) rfl
  · skip
    refine az_er 1 rfl ?_
    refine az_ecallF rfl rfl rfl rfl ((ct_hp hB0 hV0).eq (by rw [pl_d_f hp]) rfl) ?_
    refine az_if_ne rfl rfl (fun c4 => absurd rfl c4) (fun c4 => ?_)
    refine az_er 1 rfl ?_
    refine az_eret rfl rfl rfl ?_
    exact ⟨by rw [bx_n_0 hp]; rfl, fun _ _ => rfl⟩
def gg_v : Option Nat → Int32
  | none => -1
  | some f => nI f
def gg_m (t : Nat) (T : Nat → Bool) : Prop := t < 16 ∧ ∀ s, s < 4 → T s = t.testBit s
theorem gg_1 : ∀ t, t < 16 → ∀ i, i < 4 → (nI t >>> (nI i &&& 31)) &&& (Int32.ofInt 1) = if t.testBit i = true then 1 else 0 := by decide
theorem gg_2 : ∀ t, t < 16 → ∀ i, i < 4 → (nI t ||| (Int32.ofInt 1 <<< (nI i &&& 31))) = nI (t ||| 1 <<< i) ∧ t ||| 1 <<< i < 16 ∧ ∀ s, s < 4 → (t.testBit s || s == i) = (t ||| 1 <<< i).testBit s := by decide
theorem gg_u {t i : Nat} {T : Nat → Bool} (h : gg_m t T) (hi : i < 4) : gg_m (t ||| 1 <<< i) (fun s => T s || s == i) := ⟨(gg_2 t h.1 i hi).2.1, fun s hs => by show (T s || s == i) = _; rw [h.2 s hs]; exact (gg_2 t h.1 i hi).2.2 s hs⟩
theorem pl_gg_lt {T : Nat → Bool} {g : Nat → Int} {n i : Nat} (h : pl_gg T g n = some i) : i < n := by
  rcases pl_gg_ok (T := T) (g := g) n with ⟨h1, -⟩ | ⟨j, h1, h2, -⟩
  · rw [h] at h1; cases h1
  · rw [h] at h1; cases h1; exact h2
set_option maxRecDepth 100000 in
theorem lp_gg {sc : az_S} {h : az_H} {m : Nat} {lo hi : Nat → Nat} {g : Nat → Int} {fa tb w0 : Int} (hB : bx_R m lo hi g fa tb w0 h) (hV : bx_V m lo hi g fa tb) {t : Nat} {T : Nat → Bool} (hT : gg_m t T) : ∀ (d i : Nat) (x y : Int32), i ≤ m → m - i = d → x = gg_v (pl_gg T g i) → y = nI i → az_E sc az_m_X0_greatestGain 4 [.ref 49, .int (nI t), .int x, .int y] [] h (fun v h' => v = some (.int (gg_v (pl_gg T g m))) ∧ h' = h) := by
  obtain ⟨r4, r5, r6, r7, r8⟩ := hB
  obtain ⟨v1, v2, v3, v4⟩ := hV
  intro d
  induction d with
  | zero =>
    intro i x y hi9 hd hf hy
    subst hy
    subst hf
    refine az_er 3 rfl ?_
    rw [r4]
    refine az_ic_ge rfl rfl (fun c9 => ?_) (fun c9 => absurd (nI_le (by omega) (by omega)) c9)
    refine az_er 1 rfl ?_
    refine az_eret rfl rfl rfl ?_
    exact ⟨by rw [show m = i by omega], rfl⟩
  | succ d ih =>
    intro i x y hi9 hd hf hy
    subst hy
    by_cases ht : T i = true
    · skip
      refine az_er 3 rfl ?_
      rw [r4]
      refine az_ic_ge rfl rfl (fun c9 => absurd c9 (nI_ge (show i < m by omega) (by omega))) (fun c9 => ?_)
      refine az_er 5 rfl ?_
      rw [gg_1 t hT.1 i (by omega), ← hT.2 i (by omega), if_pos ht]
      refine az_if_ne rfl rfl (fun c17 => ?_) (fun c17 => absurd c17 (by decide))
      refine az_er 2 rfl ?_
      exact ih (i + 1) _ _ (by omega) (by omega) (by rw [pl_gg, if_pos ht]; exact hf) (nI_1' i)
    · subst hf
      cases hg : pl_gg T g i with
      | none =>
        refine az_er 3 rfl ?_
        rw [r4]
        refine az_ic_ge rfl rfl (fun c9 => absurd c9 (nI_ge (show i < m by omega) (by omega))) (fun c9 => ?_)
        refine az_er 5 rfl ?_
        rw [gg_1 t hT.1 i (by omega), ← hT.2 i (by omega), if_neg ht]
        refine az_if_ne rfl rfl (fun c17 => absurd rfl c17) (fun c17 => ?_)
        refine az_er 1 rfl ?_
        refine az_if_lt rfl rfl (fun c21 => ?_) (fun c21 => absurd (show gg_v none < 0 by decide) c21)
        refine az_er 4 rfl ?_
        exact ih (i + 1) _ _ (by omega) (by omega) (by rw [pl_gg, if_neg ht, hg]; rfl) (nI_1' i)
      | some f =>
        have hfi := pl_gg_lt hg
        have w1 := v4 i (by omega)
        have w2 := v4 f (by omega)
        by_cases hgt : g f < g i
        · skip
          refine az_er 3 rfl ?_
          rw [r4]
          refine az_ic_ge rfl rfl (fun c9 => absurd c9 (nI_ge (show i < m by omega) (by omega))) (fun c9 => ?_)
          refine az_er 5 rfl ?_
          rw [gg_1 t hT.1 i (by omega), ← hT.2 i (by omega), if_neg ht]
          refine az_if_ne rfl rfl (fun c17 => absurd rfl c17) (fun c17 => ?_)
          refine az_er 1 rfl ?_
          rw [show gg_v (some f) = nI f from rfl]
          refine az_if_lt rfl rfl (fun c21 => absurd c21 (nI_pos (show f < 2 ^ 31 by omega))) (fun c21 => ?_)
          refine az_er 3 rfl ?_
          refine az_ecallF rfl rfl rfl rfl (ct_atI rfl rfl (show i < 4 by omega) (by decide) (r8 i (by omega)).2.2) ?_
          refine az_er 3 rfl ?_
          refine az_ecallF rfl rfl rfl rfl (ct_atI rfl rfl (show f < 4 by omega) (by decide) (r8 f (by omega)).2.2) ?_
          refine az_ic_le rfl rfl (fun c40 => absurd c40 (fun q => by have := (iI_le (by omega) (by omega)).mp q; omega)) (fun c40 => ?_)
          refine az_er 4 rfl ?_
          exact ih (i + 1) _ _ (by omega) (by omega) (by rw [pl_gg, if_neg ht, hg]; show _ = gg_v (if g f < g i then some i else some f); rw [if_pos hgt]; rfl) (nI_1' i)
        · skip
          refine az_er 3 rfl ?_
          rw [r4]
          refine az_ic_ge rfl rfl (fun c9 => absurd c9 (nI_ge (show i < m by omega) (by omega))) (fun c9 => ?_)
          refine az_er 5 rfl ?_
          rw [gg_1 t hT.1 i (by omega), ← hT.2 i (by omega), if_neg ht]
          refine az_if_ne rfl rfl (fun c17 => absurd rfl c17) (fun c17 => ?_)
          refine az_er 1 rfl ?_
          rw [show gg_v (some f) = nI f from rfl]
          refine az_if_lt rfl rfl (fun c21 => absurd c21 (nI_pos (show f < 2 ^ 31 by omega))) (fun c21 => ?_)
          refine az_er 3 rfl ?_
          refine az_ecallF rfl rfl rfl rfl (ct_atI rfl rfl (show i < 4 by omega) (by decide) (r8 i (by omega)).2.2) ?_
          refine az_er 3 rfl ?_
          refine az_ecallF rfl rfl rfl rfl (ct_atI rfl rfl (show f < 4 by omega) (by decide) (r8 f (by omega)).2.2) ?_
          refine az_ic_le rfl rfl (fun c40 => ?_) (fun c40 => absurd ((iI_le (by omega) (by omega)).mpr (by omega)) c40)
          refine az_er 2 rfl ?_
          exact ih (i + 1) _ _ (by omega) (by omega) (by rw [pl_gg, if_neg ht, hg]; show _ = gg_v (if g f < g i then some i else some f); rw [if_neg hgt]; rfl) (nI_1' i)
set_option maxRecDepth 100000 in
theorem ct_gg {sc : az_S} {h : az_H} {m : Nat} {lo hi : Nat → Nat} {g : Nat → Int} {fa tb w0 : Int} (hB : bx_R m lo hi g fa tb w0 h) (hV : bx_V m lo hi g fa tb) {t : Nat} {T : Nat → Bool} (hT : gg_m t T) : az_F sc az_m_X0_greatestGain [.ref 49, .int (nI t)] h (some (.int (gg_v (pl_gg T g m)))) h := by
  refine az_F.of ?_
  refine az_er 4 rfl ?_
  exact lp_gg hB hV hT m 0 _ _ (by omega) (by omega) rfl rfl
theorem pl_e_v {w : Int} {c : Nat} (hw : -1000 ≤ w ∧ w ≤ 1000) (hc : c ≤ 9) : (if Int32.ofInt 0 < (if nI c < iI w then nI c else iI w) then (if nI c < iI w then nI c else iI w) else Int32.ofInt 0) = nI (pl_e w c) := by
  have e : (if nI c < iI w then nI c else iI w) = iI (min w c) := by
    by_cases h : (c : Int) < w
    · rw [if_pos (by rw [iI_n]; exact (iI_lt (by omega) (by omega)).mpr h), iI_n]
      exact congrArg iI (by omega)
    · rw [if_neg (fun q => h (by rw [iI_n] at q; exact (iI_lt (by omega) (by omega)).mp q))]
      exact congrArg iI (by omega)
  rw [e]
  unfold pl_e
  show (if iI 0 < iI (min w c) then iI (min w c) else iI 0) = nI (min w.toNat c)
  by_cases h : 0 < min w c
  · rw [if_pos ((iI_lt (a := 0) (by omega) (by omega)).mpr h), iI_n]
    exact congrArg iI (by omega)
  · rw [if_neg (fun q => h ((iI_lt (a := 0) (by omega) (by omega)).mp q)), show min w.toNat c = 0 by omega]
    rfl
set_option maxRecDepth 100000 in
theorem lp_gw1 {sc : az_S} {h : az_H} {m : Nat} {lo hi : Nat → Nat} {g : Nat → Int} {fa tb w0 : Int} (hB : bx_R m lo hi g fa tb w0 h) (hV : bx_V m lo hi g fa tb) {Q : Option Value → az_H → Prop} (K : ∀ z, az_E sc az_m_X0_greatestWorth 54 [.ref 49, .int (nI (pl_sn lo m)), .int (iI (w0 + pl_sm (fun s => (lo s : Int) * g s) m)), .int z] [] h Q) : ∀ (d i : Nat) (x y z : Int32), i ≤ m → m - i = d → x = nI (pl_sn lo i) → y = iI (w0 + pl_sm (fun s => (lo s : Int) * g s) i) → z = nI i → az_E sc az_m_X0_greatestWorth 9 [.ref 49, .int x, .int y, .int z] [] h Q := by
  obtain ⟨r4, r5, r6, r7, r8⟩ := hB
  obtain ⟨v1, v2, v3, v4⟩ := hV
  intro d
  induction d with
  | zero =>
    intro i x y z hi9 hd hx hy hz
    subst hx
    subst hy
    subst hz
    refine az_er 3 rfl ?_
    rw [r4]
    refine az_ic_ge rfl rfl (fun c14 => ?_) (fun c14 => absurd (nI_le (by omega) (by omega)) c14)
    have e : i = m := by omega
    subst e
    exact K _
  | succ d ih =>
    intro i x y z hi9 hd hx hy hz
    subst hx
    subst hy
    subst hz
    refine az_er 3 rfl ?_
    rw [r4]
    refine az_ic_ge rfl rfl (fun c14 => absurd c14 (nI_ge (show i < m by omega) (by omega))) (fun c14 => ?_)
    refine az_er 4 rfl ?_
    refine az_ecallF rfl rfl rfl rfl (ct_atI rfl rfl (show i < 4 by omega) (by decide) (r8 i (by omega)).1) ?_
    refine az_er 6 rfl ?_
    refine az_ecallF rfl rfl rfl rfl (ct_atI rfl rfl (show i < 4 by omega) (by decide) (r8 i (by omega)).1) ?_
    refine az_er 3 rfl ?_
    refine az_ecallF rfl rfl rfl rfl (ct_atI rfl rfl (show i < 4 by omega) (by decide) (r8 i (by omega)).2.2) ?_
    refine az_er 5 rfl ?_
    refine ih (i + 1) _ _ _ (by omega) (by omega) (nI_add _ _) ?_ (nI_1' i)
    rw [iI_n (lo i), iI_mul, iI_add, pl_sm, Int.add_assoc]
set_option maxRecDepth 100000 in
theorem lp_gw2 {sc : az_S} {h : az_H} {m : Nat} {lo hi : Nat → Nat} {g : Nat → Int} {fa tb w0 : Int} (hB : bx_R m lo hi g fa tb w0 h) (hV : bx_V m lo hi g fa tb) (hle : ∀ s, s < m → lo s ≤ hi s) : ∀ (d : Nat) (T : Nat → Bool) (t P : Nat) (w : Int) (x y tk z : Int32) (tl : List Value), d ≤ m → gg_m t T → pl_sn (fun s => if T s = true then 0 else 1) m = d → P + 9 * d ≤ 100 → x = nI P → y = iI w → tk = nI t → z = nI (m - d) → (tl = [] ∨ ∃ a b c, tl = [.int a, .int b, .int c]) → az_E sc az_m_X0_greatestWorth 59 (.ref 49 :: .int x :: .int y :: .int tk :: .int z :: tl) [] h (fun v h' => v = some (.int (iI (pl_gl g (fun s => hi s - lo s) m fa tb d T P w))) ∧ h' = h) := by
  have hB0 := hB
  have hV0 := hV
  obtain ⟨r4, r5, r6, r7, r8⟩ := hB
  obtain ⟨v1, v2, v3, v4⟩ := hV
  intro d
  induction d with
  | zero =>
    intro T t P w x y tk z tl hdm hT hc hP hx hy htk hz htl
    subst hx
    subst hy
    subst htk
    subst hz
    refine az_er 3 rfl ?_
    rw [r4]
    refine az_ic_ge rfl rfl (fun c65 => ?_) (fun c65 => absurd (nI_le (by omega) (by omega)) c65)
    refine az_er 1 rfl ?_
    refine az_eret rfl rfl rfl ?_
    exact ⟨rfl, rfl⟩
  | succ d ih =>
    intro T t P w x y tk z tl hdm hT hc hP hx hy htk hz htl
    subst hx
    subst hy
    subst htk
    subst hz
    rcases pl_gg_ok (T := T) (g := g) m with ⟨-, q1⟩ | ⟨i, hgg, him, hTi, -⟩
    · rw [pl_sn_0 m (fun s hs => if_pos (q1 s hs))] at hc
      exact absurd hc (by omega)
    have hc2 := pl_un (c := fun _ => 1) him hTi
    have w1 := v4 i (by omega)
    obtain ⟨e, he⟩ : ∃ e, e = pl_e (pl_wt fa tb (g i) P) (hi i - lo i) := ⟨_, rfl⟩
    have he9 : e ≤ 9 := by rw [he]; have : pl_e (pl_wt fa tb (g i) P) (hi i - lo i) ≤ hi i - lo i := Nat.min_le_right _ _; omega
    have hgl : pl_gl g (fun s => hi s - lo s) m fa tb (d + 1) T P w = pl_gl g (fun s => hi s - lo s) m fa tb d (fun s => T s || s == i) (P + e) (w + (e : Int) * g i) := by rw [pl_gl, hgg, he]
    have hz2 : nI (m - (d + 1)) + Int32.ofInt 1 = nI (m - d) := by rw [show nI (m - (d + 1)) + Int32.ofInt 1 = nI (m - (d + 1) + 1) from nI_1' _, show m - (d + 1) + 1 = m - d by omega]
    rcases htl with rfl | ⟨a9, b9, c9, rfl⟩
    · by_cases hgi : 0 < g i
      · have hwt : pl_wt fa tb (g i) P = tb - (P : Int) := by rw [pl_wt, if_pos hgi]
        refine az_er 3 rfl ?_
        rw [r4]
        refine az_ic_ge rfl rfl (fun c65 => absurd c65 (nI_ge (show m - (d + 1) < m by omega) (by omega))) (fun c65 => ?_)
        refine az_er 2 rfl ?_
        refine az_ecallF rfl rfl rfl rfl (ct_gg hB0 hV0 hT) ?_
        rw [hgg, show gg_v (some i) = nI i from rfl]
        refine az_er 6 rfl ?_
        rw [(gg_2 t hT.1 i (by omega)).1]
        refine az_er 4 rfl ?_
        refine az_ecallF rfl rfl rfl rfl (ct_atI rfl rfl (show i < 4 by omega) (by decide) (r8 i (by omega)).2.2) ?_
        refine az_if_le rfl rfl (fun c91 => absurd ((iI_lt (a := 0) (by omega) (by omega)).mpr hgi) (Int32.not_lt.mpr c91)) (fun c91 => ?_)
        refine az_er 11 rfl ?_
        refine az_ecallF rfl rfl rfl rfl (ct_atI rfl rfl (show i < 4 by omega) (by decide) (r8 i (by omega)).2.1) ?_
        refine az_er 3 rfl ?_
        refine az_ecallF rfl rfl rfl rfl (ct_atI rfl rfl (show i < 4 by omega) (by decide) (r8 i (by omega)).1) ?_
        refine az_er 1 rfl ?_
        refine az_er 1 rfl ?_
        refine az_er 1 rfl ?_
        rw [r6, iI_n P, iI_sub, ← hwt, nI_sb (hle i (by omega)), pl_e_v (by omega) (by omega)]
        refine az_er 10 rfl ?_
        refine az_ecallF rfl rfl rfl rfl (ct_atI rfl rfl (show i < 4 by omega) (by decide) (r8 i (by omega)).2.2) ?_
        refine az_er 5 rfl ?_
        refine az_E.mono (ih (fun s => T s || s == i) (t ||| 1 <<< i) (P + e) (w + (e : Int) * g i) _ _ _ _ _ (by omega) (gg_u hT (by omega)) (by omega) (by omega) (by rw [← he, iI_n e, iI_add, iI_n (P + e)]; rfl) (by rw [← he, iI_n e, iI_mul, iI_add]) rfl hz2 (Or.inr ⟨_, _, _, rfl⟩)) ?_
        rw [hgl]
        exact fun _ _ q => q
      · have hwt : pl_wt fa tb (g i) P = fa - (P : Int) := by rw [pl_wt, if_neg hgi]
        refine az_er 3 rfl ?_
        rw [r4]
        refine az_ic_ge rfl rfl (fun c65 => absurd c65 (nI_ge (show m - (d + 1) < m by omega) (by omega))) (fun c65 => ?_)
        refine az_er 2 rfl ?_
        refine az_ecallF rfl rfl rfl rfl (ct_gg hB0 hV0 hT) ?_
        rw [hgg, show gg_v (some i) = nI i from rfl]
        refine az_er 6 rfl ?_
        rw [(gg_2 t hT.1 i (by omega)).1]
        refine az_er 4 rfl ?_
        refine az_ecallF rfl rfl rfl rfl (ct_atI rfl rfl (show i < 4 by omega) (by decide) (r8 i (by omega)).2.2) ?_
        refine az_if_le rfl rfl (fun c91 => ?_) (fun c91 => absurd (Int32.not_lt.mp (fun q => hgi ((iI_lt (a := 0) (by omega) (by omega)).mp q))) c91)
        refine az_er 10 rfl ?_
        refine az_ecallF rfl rfl rfl rfl (ct_atI rfl rfl (show i < 4 by omega) (by decide) (r8 i (by omega)).2.1) ?_
        refine az_er 3 rfl ?_
        refine az_ecallF rfl rfl rfl rfl (ct_atI rfl rfl (show i < 4 by omega) (by decide) (r8 i (by omega)).1) ?_
        refine az_er 1 rfl ?_
        refine az_er 1 rfl ?_
        refine az_er 1 rfl ?_
        rw [r5, iI_n P, iI_sub, ← hwt, nI_sb (hle i (by omega)), pl_e_v (by omega) (by omega)]
        refine az_er 10 rfl ?_
        refine az_ecallF rfl rfl rfl rfl (ct_atI rfl rfl (show i < 4 by omega) (by decide) (r8 i (by omega)).2.2) ?_
        refine az_er 5 rfl ?_
        refine az_E.mono (ih (fun s => T s || s == i) (t ||| 1 <<< i) (P + e) (w + (e : Int) * g i) _ _ _ _ _ (by omega) (gg_u hT (by omega)) (by omega) (by omega) (by rw [← he, iI_n e, iI_add, iI_n (P + e)]; rfl) (by rw [← he, iI_n e, iI_mul, iI_add]) rfl hz2 (Or.inr ⟨_, _, _, rfl⟩)) ?_
        rw [hgl]
        exact fun _ _ q => q
    · by_cases hgi : 0 < g i
      · have hwt : pl_wt fa tb (g i) P = tb - (P : Int) := by rw [pl_wt, if_pos hgi]
        refine az_er 3 rfl ?_
        rw [r4]
        refine az_ic_ge rfl rfl (fun c65 => absurd c65 (nI_ge (show m - (d + 1) < m by omega) (by omega))) (fun c65 => ?_)
        refine az_er 2 rfl ?_
        refine az_ecallF rfl rfl rfl rfl (ct_gg hB0 hV0 hT) ?_
        rw [hgg, show gg_v (some i) = nI i from rfl]
        refine az_er 6 rfl ?_
        rw [(gg_2 t hT.1 i (by omega)).1]
        refine az_er 4 rfl ?_
        refine az_ecallF rfl rfl rfl rfl (ct_atI rfl rfl (show i < 4 by omega) (by decide) (r8 i (by omega)).2.2) ?_
        refine az_if_le rfl rfl (fun c91 => absurd ((iI_lt (a := 0) (by omega) (by omega)).mpr hgi) (Int32.not_lt.mpr c91)) (fun c91 => ?_)
        refine az_er 11 rfl ?_
        refine az_ecallF rfl rfl rfl rfl (ct_atI rfl rfl (show i < 4 by omega) (by decide) (r8 i (by omega)).2.1) ?_
        refine az_er 3 rfl ?_
        refine az_ecallF rfl rfl rfl rfl (ct_atI rfl rfl (show i < 4 by omega) (by decide) (r8 i (by omega)).1) ?_
        refine az_er 1 rfl ?_
        refine az_er 1 rfl ?_
        refine az_er 1 rfl ?_
        rw [r6, iI_n P, iI_sub, ← hwt, nI_sb (hle i (by omega)), pl_e_v (by omega) (by omega)]
        refine az_er 10 rfl ?_
        refine az_ecallF rfl rfl rfl rfl (ct_atI rfl rfl (show i < 4 by omega) (by decide) (r8 i (by omega)).2.2) ?_
        refine az_er 5 rfl ?_
        refine az_E.mono (ih (fun s => T s || s == i) (t ||| 1 <<< i) (P + e) (w + (e : Int) * g i) _ _ _ _ _ (by omega) (gg_u hT (by omega)) (by omega) (by omega) (by rw [← he, iI_n e, iI_add, iI_n (P + e)]; rfl) (by rw [← he, iI_n e, iI_mul, iI_add]) rfl hz2 (Or.inr ⟨_, _, _, rfl⟩)) ?_
        rw [hgl]
        exact fun _ _ q => q
      · have hwt : pl_wt fa tb (g i) P = fa - (P : Int) := by rw [pl_wt, if_neg hgi]
        refine az_er 3 rfl ?_
        rw [r4]
        refine az_ic_ge rfl rfl (fun c65 => absurd c65 (nI_ge (show m - (d + 1) < m by omega) (by omega))) (fun c65 => ?_)
        refine az_er 2 rfl ?_
        refine az_ecallF rfl rfl rfl rfl (ct_gg hB0 hV0 hT) ?_
        rw [hgg, show gg_v (some i) = nI i from rfl]
        refine az_er 6 rfl ?_
        rw [(gg_2 t hT.1 i (by omega)).1]
        refine az_er 4 rfl ?_
        refine az_ecallF rfl rfl rfl rfl (ct_atI rfl rfl (show i < 4 by omega) (by decide) (r8 i (by omega)).2.2) ?_
        refine az_if_le rfl rfl (fun c91 => ?_) (fun c91 => absurd (Int32.not_lt.mp (fun q => hgi ((iI_lt (a := 0) (by omega) (by omega)).mp q))) c91)
        refine az_er 10 rfl ?_
        refine az_ecallF rfl rfl rfl rfl (ct_atI rfl rfl (show i < 4 by omega) (by decide) (r8 i (by omega)).2.1) ?_
        refine az_er 3 rfl ?_
        refine az_ecallF rfl rfl rfl rfl (ct_atI rfl rfl (show i < 4 by omega) (by decide) (r8 i (by omega)).1) ?_
        refine az_er 1 rfl ?_
        refine az_er 1 rfl ?_
        refine az_er 1 rfl ?_
        rw [r5, iI_n P, iI_sub, ← hwt, nI_sb (hle i (by omega)), pl_e_v (by omega) (by omega)]
        refine az_er 10 rfl ?_
        refine az_ecallF rfl rfl rfl rfl (ct_atI rfl rfl (show i < 4 by omega) (by decide) (r8 i (by omega)).2.2) ?_
        refine az_er 5 rfl ?_
        refine az_E.mono (ih (fun s => T s || s == i) (t ||| 1 <<< i) (P + e) (w + (e : Int) * g i) _ _ _ _ _ (by omega) (gg_u hT (by omega)) (by omega) (by omega) (by rw [← he, iI_n e, iI_add, iI_n (P + e)]; rfl) (by rw [← he, iI_n e, iI_mul, iI_add]) rfl hz2 (Or.inr ⟨_, _, _, rfl⟩)) ?_
        rw [hgl]
        exact fun _ _ q => q
theorem pl_sn_1 : ∀ n, pl_sn (fun s => if (fun _ => false) s = true then 0 else 1) n = n
  | 0 => rfl
  | n + 1 => by rw [pl_sn, pl_sn_1 n]; rfl
set_option maxRecDepth 100000 in
theorem ct_gw {sc : az_S} {h : az_H} {m : Nat} {lo hi : Nat → Nat} {g : Nat → Int} {fa tb w0 : Int} (hB : bx_R m lo hi g fa tb w0 h) (hV : bx_V m lo hi g fa tb) (hle : ∀ s, s < m → lo s ≤ hi s) : az_F sc az_m_X0_greatestWorth [.ref 49] h (some (.int (iI (pl_gw m lo hi g fa tb w0)))) h := by
  have hV1 := hV.1
  have k1 := pl_sn_9 m (fun s hs => (hV.2.2.2 s hs).1)
  have r7 := hB.2.2.2.1
  refine az_F.of ?_
  refine az_er 7 rfl ?_
  rw [r7]
  refine lp_gw1 hB hV (fun z => ?_) m 0 _ _ _ (by omega) (by omega) rfl (by rw [pl_sm, Int.add_zero]) rfl
  refine az_er 4 rfl ?_
  exact lp_gw2 hB hV hle m (fun _ => false) 0 (pl_sn lo m) _ _ _ _ _ _ (Nat.le_refl _) ⟨by omega, fun s _ => (Nat.zero_testBit s).symm⟩ (pl_sn_1 m) (by omega) rfl rfl rfl (by rw [Nat.sub_self]; rfl) (Or.inl rfl)
