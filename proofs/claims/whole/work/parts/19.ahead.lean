/-! WEEKS AHEAD -/
def sq_it (τ : Nat → Nat) : Nat → (Nat → Nat)
  | 0 => τ
  | n + 1 => sq_st (sq_it τ n)
theorem rt_V_it {τ : Nat → Nat} (hV : rt_V τ) : ∀ n, rt_V (sq_it τ n)
  | 0 => hV
  | n + 1 => rt_V_st (rt_V_it hV n)
def sq_ah (τ : Nat → Nat) (i : Nat) : Nat := sq_pr (sq_it τ i)
theorem sq_ah_le {τ : Nat → Nat} (hV : rt_V τ) (i : Nat) : sq_ah τ i ≤ 60 := sq_pr_le (rt_V_it hV i)
theorem sq_st_lo {τ : Nat → Nat} (h1 : τ 1 ≤ 6) {j : Nat} (hj : j < 42) (h3 : j ≠ 3) (h4 : j ≠ 4) : sq_st τ j = τ j := by
  rw [sq_st, if_neg h3, sq_mem, if_neg h4, if_neg (by omega), if_neg (by omega), sq_rt_of (by omega) h1]
theorem sq_it_lo {τ : Nat → Nat} (hV : rt_V τ) {j : Nat} (hj : j < 42) (h3 : j ≠ 3) (h4 : j ≠ 4) : ∀ n, sq_it τ n j = τ j
  | 0 => rfl
  | n + 1 => by rw [sq_it, sq_st_lo (rt_V_it hV n).2.1 hj h3 h4, sq_it_lo hV hj h3 h4 n]
theorem sq_w_st {τ : Nat → Nat} (h1 : τ 1 ≤ 6) {g : Bool} {p s : Nat} (hs : s < 4) : sq_w (sq_st τ) g p s = sq_w τ g p s := by
  rw [sq_w, sq_w, sq_wg, sq_wg, sq_st_lo h1 (j := 2) (by omega) (by omega) (by omega), sq_st_lo h1 (j := 13 + 6 * s) (by omega) (by omega) (by omega), sq_st_lo h1 (j := 14 + 6 * s) (by omega) (by omega) (by omega), sq_st_lo h1 (j := 15 + 6 * s) (by omega) (by omega) (by omega), sq_st_lo h1 (j := 5) (by omega) (by omega) (by omega)]
def sq_ga (τ : Nat → Nat) (s : Nat) : Nat → Int32
  | 0 => 0
  | n + 1 => sq_ga τ s n + sq_w (sq_it τ n) (sq_go (sq_it τ n) s) (sq_pr (sq_it τ n)) s
def sq_lw (f : Nat → Nat) : Nat → Int32
  | 0 => nI (f 0)
  | n + 1 => sq_mn (sq_lw f n) (nI (f (n + 1)))
def sq_hi (f : Nat → Nat) : Nat → Int32
  | 0 => nI (f 0)
  | n + 1 => sq_mx (sq_hi f n) (nI (f (n + 1)))
def sq_sw (f : Nat → Nat) (n : Nat) : Int32 := sq_hi f (n - 1) - sq_lw f (n - 1)
def sq_su (f : Nat → Nat) : Nat → Nat
  | 0 => 0
  | n + 1 => sq_su f n + f n
def sq_cg (f : Nat → Nat) (c : Nat) : Nat → Nat
  | 0 => 0
  | n + 1 => if nI (f n) ≤ nI c then sq_cg f c n + 1 else sq_cg f c n
/-- the first among d places from i on that p says, else -9 -/
def sq_j1 (p : Nat → Bool) : Nat → Nat → Int32
  | 0, _ => -9
  | d + 1, i => if p i = true then nI i else sq_j1 p d (i + 1)
def sq_cn (f : Nat → Nat) (n : Nat) : Nat → Bool
  | 0 => true
  | i + 1 => sq_cn f n i && decide (nI (f i) = nI (f (i + n)))
def sq_ca (f : Nat → Nat) (n : Nat) : Bool := sq_cn f n 40
theorem sq_cn_t {f : Nat → Nat} {n : Nat} : ∀ m, (∀ i, i < m → nI (f i) = nI (f (i + n))) → sq_cn f n m = true
  | 0, _ => rfl
  | m + 1, h => by rw [sq_cn, sq_cn_t m (fun i hi => h i (by omega)), decide_eq_true (h m (by omega))]; rfl
theorem sq_cn_f {f : Nat → Nat} {n i : Nat} (h : ¬ nI (f i) = nI (f (i + n))) : ∀ m, i < m → sq_cn f n m = false
  | 0, hm => absurd hm (Nat.not_lt_zero i)
  | m + 1, hm => by
    rw [sq_cn]
    by_cases h9 : i = m
    · rw [← h9, decide_eq_false h, Bool.and_false]
    · rw [sq_cn_f h m (by omega), Bool.false_and]
/-- the class's mind behind n weeks; the frame -/
def rt_Fm (h h1 : az_H) : Prop := ∀ a, (a < 16 ∨ 30 < a) → a ≠ 55 → h1 a = h a
theorem rt_Fs_m {h h1 : az_H} (x : rt_Fm h h1) : rt_Fs h h1 := ⟨fun a _ _ r s => x a r (by omega), fun j _ _ => by rw [x 1 (by omega) (by omega)]⟩
theorem az_up_id {h : az_H} {k j : Nat} {v : Int32} (e : h k j = v) : az_up h k j v = h := by
  funext a i
  unfold az_up
  split
  · rename_i e2
    subst e2
    unfold upd
    split
    · rename_i e3
      subst e3
      exact e.symm
    · rfl
  · rfl
theorem nI_m6z {s : Nat} (hs : s ≤ 6) : (if (6 : Int32) < nI s + 0 then (6 : Int32) else nI s + 0) = nI s := by
  rw [Int32.add_zero]
  exact if_neg (nI_nlt (a := 6) (b := s) hs (by omega))
set_option maxRecDepth 100000 in
theorem lp_len0 {sc : az_S} {τ : Nat → Nat} {h : az_H} (hT : rt_T 16 τ h) (hV : rt_V τ) : ∀ (d i : Nat) (y : Int32), i ≤ τ 1 → τ 1 - i = d → y = nI i → az_E sc az_m_X3_lengthen 2 [.ref 24, .int 0, .int y] [] h (fun v h1 => v = none ∧ h1 = h) := by
  have b1 : τ 1 ≤ 6 := hV.2.1
  intro d
  induction d with
  | zero =>
    intro i y hi hd hy
    have e1 : h 24 3 = nI (τ 1) := hT.1.2.2.2.2.1
    have he : i = τ 1 := by omega
    refine az_er 3 rfl ?_
    refine az_ic_ge rfl rfl (fun c7 => ?_) (fun c7 => absurd (by rw [e1, hy, he]; exact nI_le (Nat.le_refl _) (by omega)) c7)
    refine az_eret rfl rfl rfl ?_
    exact ⟨rfl, rfl⟩
  | succ d ih =>
    intro i y hi hd hy
    have e1 : h 24 3 = nI (τ 1) := hT.1.2.2.2.2.1
    refine az_er 3 rfl ?_
    refine az_ic_ge rfl rfl (fun c7 => absurd c7 (by rw [e1, hy]; exact nI_ge (by omega) (by omega))) (fun c7 => ?_)
    refine az_er 6 rfl ?_
    refine az_ecallF rfl rfl rfl rfl (ct_atI rfl hy (show i < 6 by omega) (by decide) (hT.2.2.1 i (by omega)).2.1) ?_
    refine az_er 3 rfl ?_
    refine az_er 1 rfl ?_
    refine az_ecallF rfl rfl rfl rfl (ct_putI rfl hy (show i < 6 by omega) (by decide)) ?_
    refine az_er 2 rfl ?_
    have e8 : ∀ v9, v9 = nI (τ (41 + 3 * i)) → az_up h 26 i v9 = h := fun v9 hv9 => az_up_id ((hT.2.2.1 i (by omega)).2.1.trans hv9.symm)
    rw [e8]
    · exact ih (i + 1) _ (by omega) (by omega) (by rw [hy]; exact nI_1' i)
    · exact nI_m6z (hV.2.2.2.2.2.2.2.1 i (by omega)).2
def rt_Ln (sc : az_S) (y9 : Int32) (τ τ1 : Nat → Nat) : Prop := ∀ h9, rt_T 16 τ h9 → az_E sc az_m_X3_lengthen 0 [.ref 24, .int y9] [] h9 (fun v h1 => v = none ∧ rt_T 16 τ1 h1 ∧ ∀ a, a ≠ 26 → h1 a = h9 a)
set_option maxRecDepth 100000 in
theorem ct_len0 {sc : az_S} {τ : Nat → Nat} (hV : rt_V τ) : rt_Ln sc 0 τ τ := by
  intro h9 hT
  refine az_er 2 rfl ?_
  refine (lp_len0 hT hV (τ 1) 0 0 (Nat.zero_le _) (by omega) rfl).mono ?_
  rintro v h1 ⟨rfl, rfl⟩
  exact ⟨rfl, hT, fun _ _ => rfl⟩
set_option maxRecDepth 100000 in
theorem lp_look {sc : az_S} {τ : Nat → Nat} {h : az_H} (hV : rt_V τ) {x y9 : Int32} {n : Nat} (hx : x = nI n) (hn : n ≤ 80) : ∀ (d i : Nat) (y : Int32) (hh : az_H), i ≤ n → n - i = d → y = nI i → rt_T 16 (sq_it τ i) hh → (∀ k, k < i → hh 55 k = nI (sq_ah τ k)) → rt_Fm h hh → az_E sc az_m_X7_lookAhead 24 [.ref 0, .int x, .int y9, .int y] [] hh (fun v h1 => v = none ∧ rt_T 16 (sq_it τ n) h1 ∧ (∀ k, k < n → h1 55 k = nI (sq_ah τ k)) ∧ rt_Fm h h1) := by
  intro d
  induction d with
  | zero =>
    intro i y hh hi hd hy hT2 hA hF
    have he : i = n := by omega
    refine az_er 2 rfl ?_
    refine az_ic_ge rfl rfl (fun c26 => ?_) (fun c26 => absurd (by rw [hy, hx, he]; exact nI_le (Nat.le_refl _) (by omega)) c26)
    refine az_eret rfl rfl rfl ?_
    exact ⟨rfl, he ▸ hT2, fun k hk => hA k (by omega), hF⟩
  | succ d ih =>
    intro i y hh hi hd hy hT2 hA hF
    refine az_er 2 rfl ?_
    refine az_ic_ge rfl rfl (fun c26 => absurd c26 (by rw [hy, hx]; exact nI_ge (by omega) (by omega))) (fun c26 => ?_)
    refine az_er 5 rfl ?_
    refine az_ecall rfl rfl rfl rfl (ct_goBy_16 hT2 (rt_V_it hV i)) ?_
    rintro _ h2 ⟨rfl, g1, g2, g3, g4⟩
    refine az_ecallF rfl rfl rfl rfl (ct_putI rfl hy (show i < 80 by omega) (by decide)) ?_
    refine az_er 2 rfl ?_
    refine ih (i + 1) _ _ (by omega) (by omega) (by rw [hy]; exact nI_1' i) (rt_T_h g1 (fun k hk => az_up_o (by omega))) (fun k hk => ?_) (fun a p q => by rw [az_up_o q, g4 a (by omega)]; exact hF a p q)
    by_cases h9 : k = i
    · subst h9
      exact az_up_s
    · rw [az_up_n h9, g4 55 (by omega)]
      exact hA k (by omega)
set_option maxRecDepth 100000 in
theorem ct_look {sc : az_S} {τ τ1 : Nat → Nat} {h : az_H} (hT : rt_T 1 τ h) {x y9 : Int32} (hL : rt_Ln sc y9 τ τ1) (hV1 : rt_V τ1) {n : Nat} (hx : x = nI n) (hn : n ≤ 80) : az_E sc az_m_X7_lookAhead 0 [.ref 0, .int x, .int y9] [] h (fun v h1 => v = none ∧ rt_T 16 (sq_it τ1 n) h1 ∧ (∀ k, k < n → h1 55 k = nI (sq_ah τ1 k)) ∧ rt_Fm h h1) := by
  refine az_er 4 rfl ?_
  refine az_ecall rfl rfl rfl rfl (ct_copy_16_1 hT) ?_
  rintro _ h2 ⟨rfl, g1, g2⟩
  refine az_er 4 rfl ?_
  refine az_ecall rfl rfl rfl rfl (hL h2 g1) ?_
  rintro _ h3 ⟨rfl, l1, l2⟩
  refine az_er 2 rfl ?_
  exact lp_look hV1 hx hn n 0 0 h3 (Nat.zero_le _) (by omega) rfl l1 (fun k hk => absurd hk (Nat.not_lt_zero k)) (fun a p q => (l2 a (by omega)).trans (g2 a (by omega)))
set_option maxRecDepth 100000 in
theorem ct_lookAhead {sc : az_S} {τ : Nat → Nat} {h : az_H} (hT : rt_T 1 τ h) (hV : rt_V τ) {x : Int32} {n : Nat} (hx : x = nI n) (hn : n ≤ 80) : az_E sc az_m_X7_lookAhead 0 [.ref 0, .int x, .int 0] [] h (fun v h1 => v = none ∧ rt_T 16 (sq_it τ n) h1 ∧ (∀ k, k < n → h1 55 k = nI (sq_ah τ k)) ∧ rt_Fm h h1) := by
  exact ct_look hT (ct_len0 hV) hV hx hn
set_option maxRecDepth 100000 in
theorem lp_gim {sc : az_S} {τ : Nat → Nat} {h : az_H} (hV : rt_V τ) {x s9 : Int32} {n s : Nat} (hx : x = nI n) (hn : n ≤ 80) (hs : s9 = nI s) (hs4 : s < τ 0) : ∀ (d i : Nat) (z y : Int32) (hh : az_H), i ≤ n → n - i = d → z = sq_ga τ s i → y = nI i → rt_T 16 (sq_it τ i) hh → rt_Fm h hh → az_E sc az_m_X7_gainsInMind 5 [.ref 0, .int s9, .int x, .int z, .int y] [] hh (fun v h1 => v = some (.int (sq_ga τ s n)) ∧ rt_Fm h h1) := by
  have b0 : τ 0 ≤ 4 := hV.1
  have b1 : τ 1 ≤ 6 := hV.2.1
  intro d
  induction d with
  | zero =>
    intro i z y hh hi hd hz hy hT2 hF
    have he : i = n := by omega
    refine az_er 2 rfl ?_
    refine az_ic_ge rfl rfl (fun c8 => ?_) (fun c8 => absurd (by rw [hy, hx, he]; exact nI_le (Nat.le_refl _) (by omega)) c8)
    refine az_er 1 rfl ?_
    refine az_eret rfl rfl rfl ?_
    exact ⟨by rw [hz, he], hF⟩
  | succ d ih =>
    intro i z y hh hi hd hz hy hT2 hF
    refine az_er 2 rfl ?_
    refine az_ic_ge rfl rfl (fun c8 => absurd c8 (by rw [hy, hx]; exact nI_ge (by omega) (by omega))) (fun c8 => ?_)
    refine az_er 2 rfl ?_
    refine az_ecall rfl rfl rfl rfl (ct_goBy_16 hT2 (rt_V_it hV i)) ?_
    rintro _ h2 ⟨rfl, g1, g2, g3, g4⟩
    refine az_er 5 rfl ?_
    refine az_ecallF rfl rfl rfl rfl (ct_worthOne_16 g1 (show s < 4 by omega) hs (g3 s (by rw [sq_it_lo hV (by omega) (by omega) (by omega)]; exact hs4)) g2) ?_
    refine az_er 4 rfl ?_
    exact ih (i + 1) _ _ _ (by omega) (by omega) (by rw [hz, sq_w_st (rt_V_it hV i).2.1 (by omega)]; rfl) (by rw [hy]; exact nI_1' i) g1 (fun a p q => (g4 a (by omega)).trans (hF a p q))
set_option maxRecDepth 100000 in
theorem ct_gim {sc : az_S} {τ : Nat → Nat} {h : az_H} (hT : rt_T 16 τ h) (hV : rt_V τ) {x s9 : Int32} {n s : Nat} (hx : x = nI n) (hn : n ≤ 80) (hs : s9 = nI s) (hs4 : s < τ 0) : az_E sc az_m_X7_gainsInMind 0 [.ref 0, .int s9, .int x] [] h (fun v h1 => v = some (.int (sq_ga τ s n)) ∧ rt_Fm h h1) := by
  refine az_er 4 rfl ?_
  exact lp_gim hV hx hn hs hs4 n 0 0 0 h (Nat.zero_le _) (by omega) rfl rfl hT (fun _ _ _ => rfl)
set_option maxRecDepth 100000 in
theorem lp_swing {sc : az_S} {f : Nat → Nat} {h : az_H} {x : Int32} {n : Nat} (hx : x = nI n) (hn : 1 ≤ n ∧ n ≤ 80) (hA : ∀ k, k < n → h 55 k = nI (f k)) : ∀ (d i : Nat) (l g y : Int32), i < n → n - 1 - i = d → l = sq_lw f i → g = sq_hi f i → y = nI (i + 1) → az_E sc az_m_X7_swingOf 14 [.ref 0, .int x, .int l, .int g, .int y] [] h (fun v h1 => v = some (.int (sq_sw f n)) ∧ h1 = h) := by
  intro d
  induction d with
  | zero =>
    intro i l g y hi hd hl hg hy
    refine az_er 2 rfl ?_
    refine az_ic_ge rfl rfl (fun c17 => ?_) (fun c17 => absurd (by rw [hy, hx]; exact nI_le (by omega) (by omega)) c17)
    refine az_er 3 rfl ?_
    refine az_eret rfl rfl rfl ?_
    exact ⟨by rw [hl, hg, sq_sw, show i = n - 1 by omega], rfl⟩
  | succ d ih =>
    intro i l g y hi hd hl hg hy
    refine az_er 2 rfl ?_
    refine az_ic_ge rfl rfl (fun c17 => absurd c17 (by rw [hy, hx]; exact nI_ge (by omega) (by omega))) (fun c17 => ?_)
    refine az_er 4 rfl ?_
    refine az_ecallF rfl rfl rfl rfl (ct_atI rfl hy (show i + 1 < 80 by omega) (by decide) (hA (i + 1) (by omega))) ?_
    refine az_er 6 rfl ?_
    refine az_ecallF rfl rfl rfl rfl (ct_atI rfl hy (show i + 1 < 80 by omega) (by decide) (hA (i + 1) (by omega))) ?_
    refine az_er 4 rfl ?_
    exact ih (i + 1) _ _ _ (by omega) (by omega) (by rw [hl]; rfl) (by rw [hg]; rfl) (by rw [hy]; exact nI_1' (i + 1))
set_option maxRecDepth 100000 in
theorem ct_swing {sc : az_S} {f : Nat → Nat} {h : az_H} {x : Int32} {n : Nat} (hx : x = nI n) (hn : 1 ≤ n ∧ n ≤ 80) (hA : ∀ k, k < n → h 55 k = nI (f k)) : az_F sc az_m_X7_swingOf [.ref 0, .int x] h (some (.int (sq_sw f n))) h := by
  refine az_F.of ?_
  refine az_er 3 rfl ?_
  refine az_ecallF rfl rfl rfl rfl (ct_atI (j := 0) rfl rfl (by decide) (by decide) (hA 0 (by omega))) ?_
  refine az_er 5 rfl ?_
  exact lp_swing hx hn hA (n - 1) 0 _ _ 1 (by omega) (by omega) rfl rfl rfl
set_option maxRecDepth 100000 in
theorem lm_swing {sc : az_S} {f : Nat → Nat} {h : az_H} {x : Int32} {n : Nat} (hx : x = nI n) (hn : 1 ≤ n ∧ n ≤ 80) (hA : ∀ k, k < n → h 70 (k + 1) = nI (f k)) : ∀ (d i : Nat) (l g y : Int32), i < n → n - 1 - i = d → l = sq_lw f i → g = sq_hi f i → y = nI (i + 2) → az_E sc az_m_X8_swungIn 17 [.ref 59, .int x, .int l, .int g, .int y] [] h (fun v h1 => v = some (.int (sq_sw f n)) ∧ h1 = h) := by
  intro d
  induction d with
  | zero =>
    intro i l g y hi hd hl hg hy
    refine az_er 2 rfl ?_
    refine az_ic_gt rfl rfl (fun c20 => ?_) (fun c20 => absurd (by rw [hy, hx, nI_ltI (by omega) (by omega)]; omega) c20)
    refine az_er 3 rfl ?_
    refine az_eret rfl rfl rfl ?_
    exact ⟨by rw [hl, hg, sq_sw, show i = n - 1 by omega], rfl⟩
  | succ d ih =>
    intro i l g y hi hd hl hg hy
    refine az_er 2 rfl ?_
    refine az_ic_gt rfl rfl (fun c20 => absurd c20 (by rw [hy, hx, nI_ltI (by omega) (by omega)]; omega)) (fun c20 => ?_)
    refine az_er 4 rfl ?_
    refine az_iaI rfl rfl hy (show i + 2 < 81 by omega) (by decide) (hA (i + 1) (by omega)) ?_
    refine az_er 6 rfl ?_
    refine az_iaI rfl rfl hy (show i + 2 < 81 by omega) (by decide) (hA (i + 1) (by omega)) ?_
    refine az_er 4 rfl ?_
    exact ih (i + 1) _ _ _ (by omega) (by omega) (by rw [hl]; rfl) (by rw [hg]; rfl) (by rw [hy]; exact nI_1' (i + 2))
set_option maxRecDepth 100000 in
theorem cm_swing {sc : az_S} {f : Nat → Nat} {h : az_H} {x : Int32} {n : Nat} (hx : x = nI n) (hn : 1 ≤ n ∧ n ≤ 80) (hA : ∀ k, k < n → h 70 (k + 1) = nI (f k)) : az_F sc az_m_X8_swungIn [.ref 59, .int x] h (some (.int (sq_sw f n))) h := by
  refine az_F.of ?_
  refine az_er 3 rfl ?_
  refine az_iaI rfl rfl (j := 1) rfl (by decide) (by decide) (hA 0 (by omega)) ?_
  refine az_er 4 rfl ?_
  refine az_iaI rfl rfl (j := 1) rfl (by decide) (by decide) (hA 0 (by omega)) ?_
  refine az_er 3 rfl ?_
  exact lm_swing hx hn hA (n - 1) 0 _ _ 2 (by omega) (by omega) rfl rfl rfl
set_option maxRecDepth 100000 in
theorem lm_gaN {sc : az_S} {τ : Nat → Nat} {h : az_H} (hV : rt_V τ) {x s9 : Int32} {n : Nat} (hx : x = nI n) (hn : n ≤ 80) (hs : s9 = -1) : ∀ (d i : Nat) (z y : Int32) (hh : az_H), i ≤ n → n - i = d → z = 0 → y = nI (i + 1) → rt_M 61 (sq_it τ i) hh → rt_M 63 τ hh → (∀ k, k < i → hh 70 (k + 1) = nI (sq_ah τ k)) → (∀ a, a ≠ 61 → a ≠ 63 → a ≠ 69 → a ≠ 70 → hh a = h a) → az_E sc az_m_X8_goAhead 16 [.ref 59, .int x, .int s9, .int z, .int y] [] hh (fun v h1 => v = some (.int (0)) ∧ rt_M 61 τ h1 ∧ (∀ k, k < n → h1 70 (k + 1) = nI (sq_ah τ k)) ∧ ∀ a, a ≠ 61 → a ≠ 63 → a ≠ 69 → a ≠ 70 → h1 a = h a) := by
  intro d
  induction d with
  | zero =>
    intro i z y hh hi hd hz hy hM1 hM2 hA hF
    refine az_er 2 rfl ?_
    refine az_ic_gt rfl rfl (fun c19 => ?_) (fun c19 => absurd (by rw [hy, hx, nI_ltI (by omega) (by omega)]; omega) c19)
    refine az_er 4 rfl ?_
    refine az_ecallF rfl rfl rfl rfl (cm_move rfl rfl (by decide)) ?_
    refine az_er 1 rfl ?_
    refine az_eret rfl rfl rfl ?_
    refine ⟨by rw [hz], rt_M_cp hM2, fun k hk => ?_, fun a p q r s => by rw [az_cp_o p]; exact hF a p q r s⟩
    rw [az_cp_o (by decide)]
    exact hA k (by omega)
  | succ d ih =>
    intro i z y hh hi hd hz hy hM1 hM2 hA hF
    refine az_er 2 rfl ?_
    refine az_ic_gt rfl rfl (fun c19 => absurd c19 (by rw [hy, hx, nI_ltI (by omega) (by omega)]; omega)) (fun c19 => ?_)
    refine az_er 1 rfl ?_
    refine az_if_lt rfl rfl (fun c23 => ?_) (fun c23 => absurd (by rw [hs]; decide) c23)
    refine az_er 4 rfl ?_
    refine az_ecall rfl rfl rfl rfl (cm_goOn hM1 (rt_V_it hV i)) ?_
    rintro _ h2 ⟨rfl, g1, g2, g3⟩
    refine az_iasI rfl rfl hy (show i + 1 < 81 by omega) (by decide) ?_
    refine az_er 2 rfl ?_
    refine ih (i + 1) _ _ _ (by omega) (by omega) hz (by rw [hy]; exact nI_1' (i + 1)) (rt_M_h g1 (az_up_o (by decide))) (rt_M_h hM2 (by rw [az_up_o (by decide), g3 _ (by decide) (by decide)])) (fun k hk => ?_) (fun a p q r s => by rw [az_up_o s, g3 a p r]; exact hF a p q r s)
    by_cases h9 : k = i
    · subst h9
      exact az_up_s
    · rw [az_up_n (by omega), g3 70 (by decide) (by decide)]
      exact hA k (by omega)
set_option maxRecDepth 100000 in
theorem cm_gaN {sc : az_S} {τ : Nat → Nat} {h : az_H} (hT : rt_M 61 τ h) (hV : rt_V τ) {x s9 : Int32} {n : Nat} (hx : x = nI n) (hn : n ≤ 80) (hs : s9 = -1) : az_E sc az_m_X8_goAhead 0 [.ref 59, .int x, .int s9] [] h (fun v h1 => v = some (.int (0)) ∧ rt_M 61 τ h1 ∧ (∀ k, k < n → h1 70 (k + 1) = nI (sq_ah τ k)) ∧ ∀ a, a ≠ 61 → a ≠ 63 → a ≠ 69 → a ≠ 70 → h1 a = h a) := by
  refine az_er 4 rfl ?_
  refine az_ecallF rfl rfl rfl rfl (cm_move rfl rfl (by decide)) ?_
  refine az_er 4 rfl ?_
  exact lm_gaN hV hx hn hs n 0 0 1 _ (Nat.zero_le _) (by omega) rfl rfl (rt_M_h hT (az_cp_o (by decide))) (rt_M_cp hT) (fun k hk => absurd hk (Nat.not_lt_zero k)) (fun a p q r s => az_cp_o q)
set_option maxRecDepth 100000 in
theorem lm_gaS {sc : az_S} {τ : Nat → Nat} {h : az_H} (hV : rt_V τ) {x s9 : Int32} {n : Nat} (hx : x = nI n) (hn : n ≤ 80) {s : Nat} (hs : s9 = nI s) (hs4 : s < τ 0) : ∀ (d i : Nat) (z y : Int32) (tl : List Value) (hh : az_H), i ≤ n → n - i = d → z = sq_ga τ s i → y = nI (i + 1) → (tl = [] ∨ ∃ u, tl = [.int u]) → rt_M 61 (sq_it τ i) hh → rt_M 63 τ hh → (∀ k, k < i → hh 70 (k + 1) = nI (sq_ah τ k)) → (∀ a, a ≠ 61 → a ≠ 63 → a ≠ 69 → a ≠ 70 → hh a = h a) → az_E sc az_m_X8_goAhead 16 (.ref 59 :: .int x :: .int s9 :: .int z :: .int y :: tl) [] hh (fun v h1 => v = some (.int (sq_ga τ s n)) ∧ rt_M 61 τ h1 ∧ (∀ k, k < n → h1 70 (k + 1) = nI (sq_ah τ k)) ∧ ∀ a, a ≠ 61 → a ≠ 63 → a ≠ 69 → a ≠ 70 → h1 a = h a) := by
  have b0 : τ 0 ≤ 4 := hV.1
  have b1 : τ 1 ≤ 6 := hV.2.1
  intro d
  induction d with
  | zero =>
    intro i z y tl hh hi hd hz hy htl hM1 hM2 hA hF
    refine az_er 2 rfl ?_
    refine az_ic_gt rfl rfl (fun c19 => ?_) (fun c19 => absurd (by rw [hy, hx, nI_ltI (by omega) (by omega)]; omega) c19)
    refine az_er 4 rfl ?_
    refine az_ecallF rfl rfl rfl rfl (cm_move rfl rfl (by decide)) ?_
    refine az_er 1 rfl ?_
    refine az_eret rfl rfl rfl ?_
    refine ⟨by rw [hz, show i = n by omega], rt_M_cp hM2, fun k hk => ?_, fun a p q r s => by rw [az_cp_o p]; exact hF a p q r s⟩
    rw [az_cp_o (by decide)]
    exact hA k (by omega)
  | succ d ih =>
    intro i z y tl hh hi hd hz hy htl hM1 hM2 hA hF
    rcases htl with rfl | ⟨u, rfl⟩
    · skip
      refine az_er 2 rfl ?_
      refine az_ic_gt rfl rfl (fun c19 => absurd c19 (by rw [hy, hx, nI_ltI (by omega) (by omega)]; omega)) (fun c19 => ?_)
      refine az_er 1 rfl ?_
      refine az_if_lt rfl rfl (fun c23 => absurd c23 (by rw [hs]; exact nI_pos (by omega))) (fun c23 => ?_)
      refine az_er 1 rfl ?_
      refine az_ecall rfl rfl rfl rfl (cm_present hM1 (rt_V_it hV i)) ?_
      rintro _ h3 ⟨rfl, p1, p2⟩
      have hM3 := rt_M_h hM1 (p1 61 (by decide))
      refine az_er 5 rfl ?_
      refine az_ecallF rfl rfl rfl rfl (cm_worthNext hM3 hs (show s < 4 by omega) rfl (p2 s (by rw [sq_it_lo hV (by omega) (by omega) (by omega)]; exact hs4))) ?_
      refine az_er 6 rfl ?_
      refine az_ecall rfl rfl rfl rfl (cm_goOn hM3 (rt_V_it hV i)) ?_
      rintro _ h2 ⟨rfl, g1, g2, g3⟩
      refine az_iasI rfl rfl hy (show i + 1 < 81 by omega) (by decide) ?_
      refine az_er 2 rfl ?_
      refine ih (i + 1) _ _ _ _ (by omega) (by omega) (by rw [hz]; rfl) (by rw [hy]; exact nI_1' (i + 1)) (Or.inr ⟨_, rfl⟩) (rt_M_h g1 (az_up_o (by decide))) (rt_M_h hM2 (by rw [az_up_o (by decide), g3 _ (by decide) (by decide), p1 _ (by decide)])) (fun k hk => ?_) (fun a p q r s => by rw [az_up_o s, g3 a p r, p1 a r]; exact hF a p q r s)
      by_cases h9 : k = i
      · subst h9
        exact az_up_s
      · rw [az_up_n (by omega), g3 70 (by decide) (by decide), p1 70 (by decide)]
        exact hA k (by omega)
    · skip
      refine az_er 2 rfl ?_
      refine az_ic_gt rfl rfl (fun c19 => absurd c19 (by rw [hy, hx, nI_ltI (by omega) (by omega)]; omega)) (fun c19 => ?_)
      refine az_er 1 rfl ?_
      refine az_if_lt rfl rfl (fun c23 => absurd c23 (by rw [hs]; exact nI_pos (by omega))) (fun c23 => ?_)
      refine az_er 1 rfl ?_
      refine az_ecall rfl rfl rfl rfl (cm_present hM1 (rt_V_it hV i)) ?_
      rintro _ h3 ⟨rfl, p1, p2⟩
      have hM3 := rt_M_h hM1 (p1 61 (by decide))
      refine az_er 5 rfl ?_
      refine az_ecallF rfl rfl rfl rfl (cm_worthNext hM3 hs (show s < 4 by omega) rfl (p2 s (by rw [sq_it_lo hV (by omega) (by omega) (by omega)]; exact hs4))) ?_
      refine az_er 6 rfl ?_
      refine az_ecall rfl rfl rfl rfl (cm_goOn hM3 (rt_V_it hV i)) ?_
      rintro _ h2 ⟨rfl, g1, g2, g3⟩
      refine az_iasI rfl rfl hy (show i + 1 < 81 by omega) (by decide) ?_
      refine az_er 2 rfl ?_
      refine ih (i + 1) _ _ _ _ (by omega) (by omega) (by rw [hz]; rfl) (by rw [hy]; exact nI_1' (i + 1)) (Or.inr ⟨_, rfl⟩) (rt_M_h g1 (az_up_o (by decide))) (rt_M_h hM2 (by rw [az_up_o (by decide), g3 _ (by decide) (by decide), p1 _ (by decide)])) (fun k hk => ?_) (fun a p q r s => by rw [az_up_o s, g3 a p r, p1 a r]; exact hF a p q r s)
      by_cases h9 : k = i
      · subst h9
        exact az_up_s
      · rw [az_up_n (by omega), g3 70 (by decide) (by decide), p1 70 (by decide)]
        exact hA k (by omega)
set_option maxRecDepth 100000 in
theorem cm_gaS {sc : az_S} {τ : Nat → Nat} {h : az_H} (hT : rt_M 61 τ h) (hV : rt_V τ) {x s9 : Int32} {n s : Nat} (hx : x = nI n) (hn : n ≤ 80) (hs : s9 = nI s) (hs4 : s < τ 0) : az_E sc az_m_X8_goAhead 0 [.ref 59, .int x, .int s9] [] h (fun v h1 => v = some (.int (sq_ga τ s n)) ∧ rt_M 61 τ h1 ∧ (∀ k, k < n → h1 70 (k + 1) = nI (sq_ah τ k)) ∧ ∀ a, a ≠ 61 → a ≠ 63 → a ≠ 69 → a ≠ 70 → h1 a = h a) := by
  refine az_er 4 rfl ?_
  refine az_ecallF rfl rfl rfl rfl (cm_move rfl rfl (by decide)) ?_
  refine az_er 4 rfl ?_
  exact lm_gaS hV hx hn hs hs4 n 0 0 1 [] _ (Nat.zero_le _) (by omega) rfl rfl (Or.inl rfl) (rt_M_h hT (az_cp_o (by decide))) (rt_M_cp hT) (fun k hk => absurd hk (Nat.not_lt_zero k)) (fun a p q r s => az_cp_o q)
set_option maxRecDepth 100000 in
theorem cm_isWrong {sc : az_S} {h : az_H} {x y : Int32} : az_F sc az_m_X8_isWrong [.ref 59, .int x, .int y] h (some (.int (az_out x 1 y))) h := by
  refine az_F.of ?_
  refine az_er 2 rfl ?_
  refine az_ic_ge rfl rfl (fun c2 => ?_) (fun c2 => ?_)
  · refine az_er 2 rfl ?_
    refine az_ic_le rfl rfl (fun c12 => ?_) (fun c12 => ?_)
    · refine az_er 1 rfl ?_
      refine az_eret rfl rfl rfl ?_
      first | exact ⟨by rw [az_out, if_neg (show ¬ (1 : Int32) ≤ x from c2)]; first | done | rfl, rfl⟩ | exact ⟨by rw [az_out, if_pos (show (1 : Int32) ≤ x from c2), if_pos c12]; first | done | rfl, rfl⟩ | exact ⟨by rw [az_out, if_pos (show (1 : Int32) ≤ x from c2), if_neg c12]; first | done | rfl, rfl⟩
    · refine az_er 2 rfl ?_
      refine az_eret rfl rfl rfl ?_
      first | exact ⟨by rw [az_out, if_neg (show ¬ (1 : Int32) ≤ x from c2)]; first | done | rfl, rfl⟩ | exact ⟨by rw [az_out, if_pos (show (1 : Int32) ≤ x from c2), if_pos c12]; first | done | rfl, rfl⟩ | exact ⟨by rw [az_out, if_pos (show (1 : Int32) ≤ x from c2), if_neg c12]; first | done | rfl, rfl⟩
  · refine az_er 2 rfl ?_
    refine az_eret rfl rfl rfl ?_
    first | exact ⟨by rw [az_out, if_neg (show ¬ (1 : Int32) ≤ x from c2)]; first | done | rfl, rfl⟩ | exact ⟨by rw [az_out, if_pos (show (1 : Int32) ≤ x from c2), if_pos c12]; first | done | rfl, rfl⟩ | exact ⟨by rw [az_out, if_pos (show (1 : Int32) ≤ x from c2), if_neg c12]; first | done | rfl, rfl⟩
theorem az_outB {x lo hi : Int32} (h : x < lo) : az_out x lo hi = -4 := by rw [az_out, if_neg (Int32.not_le.mpr h)]
theorem az_outR {x lo hi : Int32} (h : lo ≤ x ∧ hi < x) : az_out x lo hi = -6 := by rw [az_out, if_pos h.1, if_neg (Int32.not_le.mpr h.2)]
theorem az_out0 {x lo hi : Int32} (h : lo ≤ x ∧ x ≤ hi) : az_out x lo hi = 0 := by rw [az_out, if_pos h.1, if_pos h.2]
