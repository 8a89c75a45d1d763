/-! BOTH SIDES' PLANS -/
theorem al3 {τ : Nat → Nat} (hV : rt_V τ) {x : Nat → Nat} : bs3 τ (fun _ _ => 0) (fun _ => bd_n τ) 3 x ↔ ∀ s, s < τ 0 → x s ≤ bd_n τ s := by
  constructor
  · rintro ⟨q, -, h⟩ s hs
    exact (h.1 s hs).2
  · intro h
    have h0 := hV.1
    have h36 := pl_sn_9 (f := x) (τ 0) (fun s hs => Nat.le_trans (h s hs) (bd_9 hV (show s < 4 by omega)).1)
    have hb : ∀ s, s < τ 0 → (0 : Nat) ≤ x s ∧ x s ≤ bd_n τ s := fun s hs => ⟨Nat.zero_le _, h s hs⟩
    rcases Nat.lt_trichotomy (pl_sn x (τ 0)) (τ 2) with h1 | h1 | h1
    · exact ⟨0, by omega, hb, by show (0 : Int) ≤ _; omega, by show _ ≤ (τ 2 : Int) - 1; omega⟩
    · exact ⟨1, by omega, hb, by show (τ 2 : Int) ≤ _; omega, by show _ ≤ (τ 2 : Int); omega⟩
    · exact ⟨2, by omega, hb, by show (τ 2 : Int) + 1 ≤ _; omega, by show _ ≤ (36 : Int); omega⟩
theorem bd_oi {τ : Nat → Nat} {q p s : Nat} (hq : q < 3) (h1 : bd_a τ q ≤ (p : Int)) (h2 : (p : Int) ≤ bd_b τ q) : pw_i τ (p + 1) s = bd_w τ q s := by
  unfold pw_i bd_w
  rcases (show q = 0 ∨ q = 1 ∨ q = 2 by omega) with rfl | rfl | rfl
  · have h3 : (p : Int) ≤ (τ 2 : Int) - 1 := h2
    rw [if_pos (by omega), if_pos rfl]
  · have h3 : (τ 2 : Int) ≤ (p : Int) := h1
    rw [if_neg (by omega), if_neg (by decide)]
  · have h3 : (τ 2 : Int) + 1 ≤ (p : Int) := h1
    rw [if_neg (by omega), if_neg (by decide)]
theorem rs_bd {τ : Nat → Nat} {q : Nat} {x : Nat → Nat} (hq : q < 3) (h1 : bd_a τ q ≤ (pl_sn x (τ 0) : Int)) (h2 : (pl_sn x (τ 0) : Int) ≤ bd_b τ q) : (∀ s, s < τ 0 → bd_lo τ q s ≤ x s ∧ x s ≤ bd_hi τ q s) ↔ (∀ s, s < τ 0 → x s ≤ bd_n τ s) ∧ rs_P τ x := by
  have e : ∀ s, (bd_lo τ q s ≤ x s ∧ x s ≤ bd_hi τ q s) ↔ x s ≤ bd_n τ s ∧ rs_c τ (pl_sn x (τ 0)) x s := fun s => by
    unfold rs_c
    rw [pw_i_o hq h1 h2, bd_oi hq h1 h2]
    unfold bd_lo bd_hi
    by_cases c1 : (bd_h τ s : Int) < bd_w τ q s
    · rw [if_pos c1]
      by_cases c2 : bd_o τ q s < (bd_h τ s : Int)
      · rw [if_pos c2]; omega
      · rw [if_neg c2]; omega
    · rw [if_neg c1]
      by_cases c2 : bd_o τ q s < (bd_h τ s : Int)
      · rw [if_pos c2]; omega
      · rw [if_neg c2]; omega
  exact ⟨fun h => ⟨fun s hs => ((e s).mp (h s hs)).1, fun s hs => ((e s).mp (h s hs)).2⟩, fun h s hs => (e s).mpr ⟨h.1 s hs, h.2 s hs⟩⟩
theorem bd_ex {τ : Nat → Nat} {p : Nat} (hp : p ≤ 36) : ∃ q, q < 3 ∧ bd_a τ q ≤ (p : Int) ∧ (p : Int) ≤ bd_b τ q := by
  rcases Nat.lt_trichotomy p (τ 2) with h1 | h1 | h1
  · exact ⟨0, by omega, by show (0 : Int) ≤ _; omega, by show _ ≤ (τ 2 : Int) - 1; omega⟩
  · exact ⟨1, by omega, by show (τ 2 : Int) ≤ _; omega, by show _ ≤ (τ 2 : Int); omega⟩
  · exact ⟨2, by omega, by show (τ 2 : Int) + 1 ≤ _; omega, by show _ ≤ (36 : Int); omega⟩
theorem rs3 {τ : Nat → Nat} (hV : rt_V τ) {x : Nat → Nat} : bs3 τ (bd_lo τ) (bd_hi τ) 3 x ↔ (∀ s, s < τ 0 → x s ≤ bd_n τ s) ∧ rs_P τ x := by
  constructor
  · rintro ⟨q, hq, h1, h2, h3⟩
    exact (rs_bd hq h2 h3).mp h1
  · rintro ⟨h, hr⟩
    have h0 := hV.1
    have h36 := pl_sn_9 (f := x) (τ 0) (fun s hs => Nat.le_trans (h s hs) (bd_9 hV (show s < 4 by omega)).1)
    obtain ⟨q, hq, h1, h2⟩ := bd_ex (τ := τ) (p := pl_sn x (τ 0)) (by omega)
    exact ⟨q, hq, (rs_bd hq h1 h2).mpr ⟨h, hr⟩, h1, h2⟩
theorem pX_le {τ : Nat → Nat} {k : Nat} : ∀ s, s < τ 0 → pX τ k s ≤ bd_n τ s := fun s _ => pl_x_le (τ 0) k s
theorem pX_of {τ : Nat → Nat} {x : Nat → Nat} (h : ∀ s, s < τ 0 → x s ≤ bd_n τ s) : ∃ k, k < pW τ ∧ ∀ s, s < τ 0 → x s = pX τ k s := by
  obtain ⟨k, hk, he⟩ := pl_x_of (r := bd_n τ) (τ 0) h
  exact ⟨k, hk, fun s hs => (he s hs).symm⟩
theorem pw_c {τ : Nat → Nat} {x y : Nat → Nat} (e : ∀ s, s < τ 0 → x s = y s) : pw τ x = pw τ y := by
  unfold pw
  rw [pl_sn_c (τ 0) e]
  exact pl_sm_c (τ 0) (fun s hs => by rw [e s hs])
theorem rs_Pc {τ : Nat → Nat} {x y : Nat → Nat} (e : ∀ s, s < τ 0 → x s = y s) (h : rs_P τ x) : rs_P τ y := by
  intro s hs
  have := h s hs
  unfold rs_c at this ⊢
  rw [← e s hs, ← pl_sn_c (τ 0) e]
  exact this
theorem pX_b {τ : Nat → Nat} (hV : rt_V τ) (k : Nat) : -2000 ≤ pw τ (pX τ k) ∧ pw τ (pX τ k) ≤ 2000 := by
  obtain ⟨q, hq, hb⟩ := (al3 hV).mpr (pX_le (τ := τ) (k := k))
  exact pw_b hV hq (fun s _ => Nat.zero_le _) (fun s _ => Nat.le_refl _) hb
/-- how many rest -/
theorem ra_sum {τ : Nat → Nat} (hV : rt_V τ) : rs_n τ 0 + rs_n τ 1 + rs_n τ 2 = ra_n τ (pW τ) := by
  unfold rs_n bx_n ra_n
  rw [← pl_sn_a, ← pl_sn_a]
  refine pl_sn_c _ (fun k hk => ?_)
  have h36 := pX_36 hV (k := k)
  have e : ∀ q, q < 3 → ((pl_in (bd_lo τ q) (bd_hi τ q) (pl_x (bd_n τ) (τ 0) k) (τ 0) = true ∧ decide (bd_a τ q ≤ (pl_sn (pl_x (bd_n τ) (τ 0) k) (τ 0) : Int) ∧ (pl_sn (pl_x (bd_n τ) (τ 0) k) (τ 0) : Int) ≤ bd_b τ q) = true) ↔ (rs_P τ (pX τ k) ∧ bd_a τ q ≤ (pl_sn (pX τ k) (τ 0) : Int) ∧ (pl_sn (pX τ k) (τ 0) : Int) ≤ bd_b τ q)) := fun q hq => by
    rw [pl_in_i, decide_eq_true_iff]
    constructor
    · rintro ⟨h1, h2, h3⟩
      exact ⟨((rs_bd (x := pX τ k) hq h2 h3).mp h1).2, h2, h3⟩
    · rintro ⟨h1, h2, h3⟩
      exact ⟨(rs_bd (x := pX τ k) hq h2 h3).mpr ⟨pX_le, h1⟩, h2, h3⟩
  have a0 : bd_a τ 0 = 0 := rfl
  have a1 : bd_a τ 1 = (τ 2 : Int) := rfl
  have a2 : bd_a τ 2 = (τ 2 : Int) + 1 := rfl
  have b0 : bd_b τ 0 = (τ 2 : Int) - 1 := rfl
  have b1 : bd_b τ 1 = (τ 2 : Int) := rfl
  have b2 : bd_b τ 2 = 36 := rfl
  by_cases hr : rs_P τ (pX τ k)
  · rw [pl_d_t hr, if_pos (show (true = true) from rfl)]
    rcases Nat.lt_trichotomy (pl_sn (pX τ k) (τ 0)) (τ 2) with h1 | h1 | h1
    · rw [if_pos ((e 0 (by omega)).mpr ⟨hr, by omega, by omega⟩), if_neg (fun z => by have := (e 1 (by omega)).mp z; omega), if_neg (fun z => by have := (e 2 (by omega)).mp z; omega)]
    · rw [if_neg (fun z => by have := (e 0 (by omega)).mp z; omega), if_pos ((e 1 (by omega)).mpr ⟨hr, by omega, by omega⟩), if_neg (fun z => by have := (e 2 (by omega)).mp z; omega)]
    · rw [if_neg (fun z => by have := (e 0 (by omega)).mp z; omega), if_neg (fun z => by have := (e 1 (by omega)).mp z; omega), if_pos ((e 2 (by omega)).mpr ⟨hr, by omega, by omega⟩)]
  · rw [pl_d_f hr, if_neg (show ¬ (false = true) by decide), if_neg (fun z => hr ((e 0 (by omega)).mp z).1), if_neg (fun z => hr ((e 1 (by omega)).mp z).1), if_neg (fun z => hr ((e 2 (by omega)).mp z).1)]
/-- the first among those of the greatest f, the first that is so -/
theorem ex_max {f : Nat → Int} : ∀ n, 0 < n → ∃ j, j < n ∧ (∀ i, i < n → f i ≤ f j) ∧ ∀ i, i < j → f i < f j
  | 0, h => absurd h (Nat.lt_irrefl 0)
  | n + 1, _ => by
    by_cases h0 : n = 0
    · subst h0
      exact ⟨0, by omega, fun i hi => by rw [show i = 0 by omega]; exact Int.le_refl _, fun i hi => absurd hi (Nat.not_lt_zero i)⟩
    · obtain ⟨j, h1, h2, h3⟩ := ex_max (f := f) n (by omega)
      by_cases h : f j < f n
      · refine ⟨n, by omega, fun i hi => ?_, fun i hi => ?_⟩
        · rcases Nat.lt_or_eq_of_le (Nat.le_of_lt_succ hi) with q | q
          · have := h2 i q; omega
          · subst q; exact Int.le_refl _
        · have := h2 i hi; omega
      · refine ⟨j, by omega, fun i hi => ?_, h3⟩
        rcases Nat.lt_or_eq_of_le (Nat.le_of_lt_succ hi) with q | q
        · exact h2 i q
        · subst q; omega
theorem ex_fst {P : Nat → Prop} : ∀ n, (∀ i, i < n → ¬ P i) ∨ ∃ j, j < n ∧ P j ∧ ∀ i, i < j → ¬ P i
  | 0 => Or.inl (fun i h => absurd h (Nat.not_lt_zero i))
  | n + 1 => by
    rcases ex_fst (P := P) n with h | ⟨j, h1, h2, h3⟩
    · by_cases hn : P n
      · exact Or.inr ⟨n, by omega, hn, h⟩
      · refine Or.inl (fun i hi => ?_)
        rcases Nat.lt_or_eq_of_le (Nat.le_of_lt_succ hi) with q | q
        · exact h i q
        · subst q; exact hn
    · exact Or.inr ⟨j, by omega, h2, h3⟩
theorem ex_mxP {P : Nat → Prop} {f : Nat → Int} : ∀ n, (∃ i, i < n ∧ P i) → ∃ j, j < n ∧ P j ∧ ∀ i, i < n → P i → f i ≤ f j
  | 0, ⟨i, h, _⟩ => absurd h (Nat.not_lt_zero i)
  | n + 1, h => by
    by_cases hn : ∃ i, i < n ∧ P i
    · obtain ⟨j, h1, h2, h3⟩ := ex_mxP (f := f) n hn
      by_cases hp : P n ∧ f j < f n
      · refine ⟨n, by omega, hp.1, fun i hi hP => ?_⟩
        rcases Nat.lt_or_eq_of_le (Nat.le_of_lt_succ hi) with q | q
        · have := h3 i q hP; have := hp.2; omega
        · subst q; exact Int.le_refl _
      · refine ⟨j, by omega, h2, fun i hi hP => ?_⟩
        rcases Nat.lt_or_eq_of_le (Nat.le_of_lt_succ hi) with q | q
        · exact h3 i q hP
        · subst q
          by_cases h9 : f j < f i
          · exact absurd ⟨hP, h9⟩ hp
          · omega
    · obtain ⟨i, h1, h2⟩ := h
      have e : i = n := by
        rcases Nat.lt_or_eq_of_le (Nat.le_of_lt_succ h1) with q | q
        · exact absurd ⟨i, q, h2⟩ hn
        · exact q
      subst e
      refine ⟨i, by omega, h2, fun k hk hP => ?_⟩
      rcases Nat.lt_or_eq_of_le (Nat.le_of_lt_succ hk) with q | q
      · exact absurd ⟨k, q, hP⟩ hn
      · subst q; exact Int.le_refl _
theorem ra_pos {τ : Nat → Nat} : ∀ k, (∃ j, j < k ∧ rs_P τ (pX τ j)) → ¬ ra_n τ k = 0 := fun k ⟨j, h1, h2⟩ h => ra_n_0 k h j h1 h2
/-- the values: rests, the greatest worth of all, of those that rest, the first that rests -/
def vl_b (τ : Nat → Nat) (j : Nat) : Prop := j < pW τ ∧ (∀ i, i < pW τ → pw τ (pX τ i) ≤ pw τ (pX τ j)) ∧ ∀ i, i < j → pw τ (pX τ i) < pw τ (pX τ j)
def vl_f (τ : Nat → Nat) (j : Nat) : Prop := j < pW τ ∧ rs_P τ (pX τ j) ∧ ∀ i, i < j → ¬ rs_P τ (pX τ i)
def vl_r (τ : Nat → Nat) (z : Int) : Prop := (∃ j, j < pW τ ∧ rs_P τ (pX τ j) ∧ pw τ (pX τ j) = z) ∧ ∀ i, i < pW τ → rs_P τ (pX τ i) → pw τ (pX τ i) ≤ z
def vl_n (τ : Nat → Nat) : Prop := ∀ i, i < pW τ → ¬ rs_P τ (pX τ i)
theorem vl_b_ex (τ : Nat → Nat) : ∃ j, vl_b τ j := ex_max (f := fun j => pw τ (pX τ j)) (pW τ) (pl_W_pos (τ 0))
theorem vl_ex (τ : Nat → Nat) : vl_n τ ∨ ((∃ j, vl_f τ j) ∧ ∃ z, vl_r τ z) := by
  rcases ex_fst (P := fun j => rs_P τ (pX τ j)) (pW τ) with h | ⟨j, h1, h2, h3⟩
  · exact Or.inl h
  · obtain ⟨k, k1, k2, k3⟩ := ex_mxP (P := fun j => rs_P τ (pX τ j)) (f := fun j => pw τ (pX τ j)) (pW τ) ⟨j, h1, h2⟩
    exact Or.inr ⟨⟨j, h1, h2, h3⟩, _, ⟨k, k1, k2, rfl⟩, k3⟩
theorem vl_r_u {τ : Nat → Nat} {z z' : Int} (h : vl_r τ z) (h' : vl_r τ z') : z = z' := by
  obtain ⟨⟨j, j1, j2, j3⟩, j4⟩ := h
  obtain ⟨⟨k, k1, k2, k3⟩, k4⟩ := h'
  have a := j4 k k1 k2
  have b := k4 j j1 j2
  omega
theorem vl_f_u {τ : Nat → Nat} {i j : Nat} (h : vl_f τ i) (h' : vl_f τ j) : i = j := by
  rcases Nat.lt_trichotomy i j with q | q | q
  · exact absurd h.2.1 (h'.2.2 i q)
  · exact q
  · exact absurd h'.2.1 (h.2.2 j q)
/-- the reference's fields -/
theorem gt_B_v {τ : Nat → Nat} {h : az_H} (hB : gt_B τ (pW τ) h) {j : Nat} (hj : vl_b τ j) : h 59 21 = iI (pw τ (pX τ j)) ∧ h 59 22 = nI (pl_sn (pX τ j) (τ 0)) := by
  obtain ⟨k, k1, k2, k3, k4, k5⟩ := hB.2 (pl_W_pos (τ 0))
  have e : k = j := by
    rcases Nat.lt_trichotomy k j with q | q | q
    · have a := hj.2.2 k q; have b := k4 j hj.1; omega
    · exact q
    · have a := k5 j q; have b := hj.2.1 k k1; omega
  subst e
  exact ⟨k2, k3⟩
theorem gt_R_0 {τ : Nat → Nat} {h : az_H} (hR : gt_R τ (pW τ) h) (hn : vl_n τ) : h 59 18 = nI 0 := by
  have e : ra_n τ (pW τ) = 0 := pl_sn_0 _ (fun j hj => if_neg (by rw [pl_d_f (hn j hj)]; decide))
  rw [hR.1, e]
theorem gt_R_v {τ : Nat → Nat} (hV : rt_V τ) {h : az_H} (hR : gt_R τ (pW τ) h) {j : Nat} {z : Int} (hj : vl_f τ j) (hz : vl_r τ z) : (∃ n, 0 < n ∧ n ≤ 10000 ∧ h 59 18 = nI n) ∧ h 59 20 = nI (pl_sn (pX τ j) (τ 0)) ∧ (∀ s, s < 4 → h 72 s = nI (pX τ j s)) ∧ h 59 19 = iI z := by
  have hW := pW_le hV
  have hp := ra_pos (τ := τ) (pW τ) ⟨j, hj.1, hj.2.1⟩
  have hl := ra_n_le (τ := τ) (pW τ)
  obtain ⟨⟨k, k1, k2, k3, k4, k5⟩, k', l1, l2, l3, l4⟩ := hR.2 hp
  have e : k = j := vl_f_u ⟨k1, k2, k5⟩ hj
  subst e
  have e2 : pw τ (pX τ k') = z := vl_r_u ⟨⟨k', l1, l2, rfl⟩, l4⟩ hz
  exact ⟨⟨_, by omega, by omega, hR.1⟩, k3, k4, by rw [l3, e2]⟩
/-- the class's answers -/
theorem gi_b {τ : Nat → Nat} (hV : rt_V τ) {gr : Int32} (hI : gi_I (bs3 τ (fun _ _ => 0) (fun _ => bd_n τ) 3) (pw τ) gr) {j : Nat} (hj : vl_b τ j) : gr = iI (pw τ (pX τ j)) := by
  rcases hI with ⟨-, h⟩ | ⟨z, hz, -, ⟨x, hx, hw⟩, hub⟩
  · exact absurd ((al3 hV).mpr (pX_le (k := j))) (h _)
  · obtain ⟨k, hk, he⟩ := pX_of ((al3 hV).mp hx)
    have a := hub _ ((al3 hV).mpr (pX_le (k := j)))
    have b := hj.2.1 k hk
    rw [pw_c he] at hw
    rw [hz]
    exact congrArg iI (by omega)
theorem rs3X {τ : Nat → Nat} (hV : rt_V τ) {k : Nat} : bs3 τ (bd_lo τ) (bd_hi τ) 3 (pX τ k) ↔ rs_P τ (pX τ k) := by
  rw [rs3 hV]
  exact ⟨fun h => h.2, fun h => ⟨pX_le, h⟩⟩
theorem gi_r {τ : Nat → Nat} (hV : rt_V τ) {gr : Int32} (hI : gi_I (bs3 τ (bd_lo τ) (bd_hi τ) 3) (pw τ) gr) : (vl_n τ → gr = -1000000000) ∧ ∀ z, vl_r τ z → gr = iI z ∧ -2000 ≤ z ∧ z ≤ 2000 := by
  rcases hI with ⟨hg, h⟩ | ⟨y, hy, hb, ⟨x, hx, hw⟩, hub⟩
  · exact ⟨fun _ => hg, fun z hz => by
      obtain ⟨⟨j, j1, j2, j3⟩, -⟩ := hz
      exact absurd ((rs3X hV).mpr j2) (h _)⟩
  · have hx2 := (rs3 hV).mp hx
    obtain ⟨k, hk, he⟩ := pX_of hx2.1
    have hP := rs_Pc he hx2.2
    refine ⟨fun hn => absurd hP (hn k hk), fun z hz => ?_⟩
    rw [pw_c he] at hw
    have e : y = z := vl_r_u ⟨⟨k, hk, hP, hw⟩, fun i hi hri => hub _ ((rs3X hV).mpr hri)⟩ hz
    subst e
    exact ⟨hy, hb⟩
theorem fs_v {τ : Nat → Nat} (hV : rt_V τ) {h : az_H} (hI : fs_I (bs3 τ (bd_lo τ) (bd_hi τ) 3) (τ 0) h) : (vl_n τ → h 48 3 = 0) ∧ ∀ j, vl_f τ j → h 48 3 = 1 ∧ h 48 2 = nI (τ 0) ∧ ∀ s, s < τ 0 → h 54 s = nI (pX τ j s) ∧ pX τ j s ≤ 9 := by
  rcases hI with ⟨h0, hn⟩ | ⟨h1, h2, x, hx, hmin, h54⟩
  · exact ⟨fun _ => h0, fun j hj => absurd ((rs3X hV).mpr hj.2.1) (hn _)⟩
  · have hx2 := (rs3 hV).mp hx
    obtain ⟨k, hk, he⟩ := pX_of hx2.1
    have hP := rs_Pc he hx2.2
    refine ⟨fun hn => absurd hP (hn k hk), fun j hj => ⟨h1, h2, fun s hs => ?_⟩⟩
    have e : k = j := by
      rcases Nat.lt_trichotomy k j with q | q | q
      · exact absurd hP (hj.2.2 k q)
      · exact q
      · have hlt := pl_x_lt (r := bd_n τ) (τ 0) j k q hk
        exact absurd (pl_lt_c (τ 0) (fun _ _ => rfl) (fun s hs => (he s hs).symm) hlt) (hmin (pX τ j) ((rs3X hV).mpr hj.2.1))
    subst e
    rw [← he s hs]
    exact h54 s hs
theorem fs_b {τ : Nat → Nat} (hV : rt_V τ) {h : az_H} {z : Int} (hI : fs_I (fun x => bs3 τ (fun _ _ => 0) (fun _ => bd_n τ) 3 x ∧ pw τ x = z) (τ 0) h) (hat : ∃ x, bs3 τ (fun _ _ => 0) (fun _ => bd_n τ) 3 x ∧ pw τ x = z) (hub : ∀ x, bs3 τ (fun _ _ => 0) (fun _ => bd_n τ) 3 x → pw τ x ≤ z) {j : Nat} (hj : vl_b τ j) : h 48 2 = nI (τ 0) ∧ ∀ s, s < τ 0 → h 54 s = nI (pX τ j s) ∧ pX τ j s ≤ 9 := by
  obtain ⟨xa, ha1, ha2⟩ := hat
  obtain ⟨ka, hka, hea⟩ := pX_of ((al3 hV).mp ha1)
  rw [pw_c hea] at ha2
  have hjz : pw τ (pX τ j) = z := by
    have a := hj.2.1 ka hka
    have b := hub _ ((al3 hV).mpr (pX_le (k := j)))
    omega
  rcases hI with ⟨-, hn⟩ | ⟨h1, h2, x, ⟨hx, hxw⟩, hmin, h54⟩
  · exact absurd ⟨(al3 hV).mpr (pX_le (k := j)), hjz⟩ (hn _)
  · obtain ⟨k, hk, he⟩ := pX_of ((al3 hV).mp hx)
    rw [pw_c he] at hxw
    have e : k = j := by
      rcases Nat.lt_trichotomy k j with q | q | q
      · have := hj.2.2 k q; omega
      · exact q
      · have hlt := pl_x_lt (r := bd_n τ) (τ 0) j k q hk
        exact absurd (pl_lt_c (τ 0) (fun _ _ => rfl) (fun s hs => (he s hs).symm) hlt) (hmin (pX τ j) ⟨(al3 hV).mpr pX_le, hjz⟩)
    subst e
    refine ⟨h2, fun s hs => ?_⟩
    rw [← he s hs]
    exact h54 s hs
