/-! which rule is right most often -/
def sq_rg (τ : Nat → Nat) (i w : Nat) : Bool := decide (sq_fo (sq_it τ w) (i / 6) (i % 6 + 1) ≤ nI (sq_it τ w 2) ↔ nI (sq_pr (sq_it τ w)) ≤ nI (sq_it τ w 2))
def sq_rc (τ : Nat → Nat) (i : Nat) : Nat → Nat
  | 0 => 0
  | w + 1 => if sq_rg τ i w = true then sq_rc τ i w + 1 else sq_rc τ i w
theorem sq_rc_t {τ : Nat → Nat} {i w : Nat} (h : sq_fo (sq_it τ w) (i / 6) (i % 6 + 1) ≤ nI (sq_it τ w 2) ↔ nI (sq_pr (sq_it τ w)) ≤ nI (sq_it τ w 2)) : sq_rc τ i (w + 1) = sq_rc τ i w + 1 := by rw [sq_rc, sq_rg, if_pos (decide_eq_true h)]
theorem sq_rc_f {τ : Nat → Nat} {i w : Nat} (h : ¬ (sq_fo (sq_it τ w) (i / 6) (i % 6 + 1) ≤ nI (sq_it τ w 2) ↔ nI (sq_pr (sq_it τ w)) ≤ nI (sq_it τ w 2))) : sq_rc τ i (w + 1) = sq_rc τ i w := by
  rw [sq_rc, sq_rg, if_neg]
  rw [decide_eq_false h]
  decide
theorem sq_rc_le {τ : Nat → Nat} {i : Nat} : ∀ w, sq_rc τ i w ≤ w
  | 0 => Nat.le_refl 0
  | w + 1 => by
    have := sq_rc_le (τ := τ) (i := i) w
    rw [sq_rc]
    split <;> omega
/-- the first greatest among 0 to k -/
def sq_am (g : Nat → Nat) : Nat → Nat
  | 0 => 0
  | k + 1 => if g (sq_am g k) < g (k + 1) then k + 1 else sq_am g k
theorem sq_am_le {g : Nat → Nat} : ∀ k, sq_am g k ≤ k
  | 0 => Nat.le_refl 0
  | k + 1 => by
    have := sq_am_le (g := g) k
    rw [sq_am]
    split <;> omega
def sq_code (i : Nat) : Nat := 10 * (i / 6) + i % 6 + 1
theorem i32_if0 {P : Prop} [Decidable P] (h : (if P then (1 : Int32) else 0) = 0) : ¬ P := fun p => by
  rw [if_pos p] at h
  exact absurd h (by decide)
theorem i32_if1 {P : Prop} [Decidable P] (h : ¬ (if P then (1 : Int32) else 0) = 0) : P := Classical.byContradiction fun p => h (by rw [if_neg p])
theorem dec_iff {A B : Prop} [Decidable A] [Decidable B] : decide A = decide B ↔ (A ↔ B) := by
  by_cases a : A <;> by_cases b : B <;> simp [a, b]
theorem ct_fore16 {sc : az_S} {τ : Nat → Nat} {h : az_H} (hT : rt_T 16 τ h) (hV : rt_V τ) {s x : Int32} {n k : Nat} (hn : 1 ≤ n ∧ n ≤ 6) (hs : s = nI n) (hk : k < 6) (hx : x = nI k) : az_F sc az_m_X6_foretells [.ref 16, .int x, .int s] h (some (.int (sq_fo τ k n))) h := by
  subst hx
  exact ct_foretells_16 hT hV hn hs hk
theorem cm_fore {sc : az_S} {τ : Nat → Nat} {h : az_H} (hT : rt_M 61 τ h) (hV : rt_V τ) {s x : Int32} {n k : Nat} (hn : 1 ≤ n ∧ n ≤ 6) (hs : s = nI n) (hk : k < 6) (hx : x = nI k) : az_F sc az_m_X8_foretold [.ref 59, .int x, .int s] h (some (.int (sq_fo τ k n))) h := by
  subst hx
  exact cm_foretold hT hV hn hs hk
def rt_Fn (h h1 : az_H) : Prop := ∀ a, (a < 16 ∨ 30 < a) → a ≠ 56 → h1 a = h a
theorem rt_Fs_n {h h1 : az_H} (x : rt_Fn h h1) : rt_Fs h h1 := ⟨fun a _ _ r s => x a r (by omega), fun j _ _ => by rw [x 1 (by omega) (by omega)]⟩
set_option maxRecDepth 100000 in
theorem lp_zero {sc : az_S} {h : az_H} {Q : Option Value → az_H → Prop} {x : Int32} (K : ∀ y hh, (∀ k, k < 36 → hh 56 k = nI 0) → (∀ a, a ≠ 56 → hh a = h a) → az_E sc az_m_X7_tallyRight 26 [.ref 0, .int x, .int y] [] hh Q) : ∀ (d i : Nat) (y : Int32) (hh : az_H), i ≤ 36 → 36 - i = d → y = nI i → (∀ k, k < i → hh 56 k = nI 0) → (∀ a, a ≠ 56 → hh a = h a) → az_E sc az_m_X7_tallyRight 2 [.ref 0, .int x, .int y] [] hh Q := by
  intro d
  induction d with
  | zero =>
    intro i y hh hi hd hy hA hF
    have he : i = 36 := by omega
    refine az_er 3 rfl ?_
    refine az_len rfl rfl ?_
    refine az_ic_ge rfl rfl (fun c8 => ?_) (fun c8 => absurd (by rw [hy, he]; exact nI_le (Nat.le_refl _) (by omega)) c8)
    exact K y hh (fun k hk => hA k (by omega)) hF
  | succ d ih =>
    intro i y hh hi hd hy hA hF
    refine az_er 3 rfl ?_
    refine az_len rfl rfl ?_
    refine az_ic_ge rfl rfl (fun c8 => absurd c8 (by rw [hy]; exact nI_ge (b := 36) (by omega) (by omega))) (fun c8 => ?_)
    refine az_er 4 rfl ?_
    refine az_ecallF rfl rfl rfl rfl (ct_putI rfl hy (show i < 36 by omega) (by decide)) ?_
    refine az_er 2 rfl ?_
    refine ih (i + 1) _ _ (by omega) (by omega) (by rw [hy]; exact nI_1' i) (fun k hk => ?_) (fun a ha => by rw [az_up_o ha]; exact hF a ha)
    by_cases h9 : k = i
    · subst h9
      exact az_up_s
    · rw [az_up_n h9]
      exact hA k (by omega)
set_option maxRecDepth 100000 in
theorem lp_tw {sc : az_S} {τ : Nat → Nat} {h : az_H} {Q : Option Value → az_H → Prop} {x y : Int32} {t : Nat} (hV : rt_V τ) (K : ∀ z hh, rt_T 16 (sq_it τ t) hh → (∀ k, k < 36 → hh 56 k = nI (sq_rc τ k (t + 1))) → rt_Fn h hh → az_E sc az_m_X7_tallyRight 113 [.ref 0, .int x, .int y, .int z] [] hh Q) : ∀ (d i : Nat) (z : Int32) (hh : az_H), i ≤ 36 → 36 - i = d → z = nI i → rt_T 16 (sq_it τ t) hh → hh 16 8 = nI (sq_pr (sq_it τ t)) → (∀ k, k < 36 → hh 56 k = nI (if k < i then sq_rc τ k (t + 1) else sq_rc τ k t)) → rt_Fn h hh → az_E sc az_m_X7_tallyRight 53 [.ref 0, .int x, .int y, .int z] [] hh Q := by
  intro d
  induction d with
  | zero =>
    intro i z hh hi hd hz hT2 hp hA hF
    subst hz
    have he : i = 36 := by omega
    refine az_er 3 rfl ?_
    refine az_len rfl rfl ?_
    refine az_ic_ge rfl rfl (fun c59 => ?_) (fun c59 => absurd (by rw [he]; exact nI_le (Nat.le_refl _) (by omega)) c59)
    exact K _ hh hT2 (fun k hk => by rw [hA k hk, if_pos (by omega)]) hF
  | succ d ih =>
    intro i z hh hi hd hz hT2 hp hA hF
    subst hz
    refine az_er 3 rfl ?_
    refine az_len rfl rfl ?_
    refine az_ic_ge rfl rfl (fun c59 => absurd c59 (nI_ge (b := 36) (by omega) (by omega))) (fun c59 => ?_)
    refine az_er 12 rfl ?_
    refine az_ecallF rfl rfl rfl rfl (ct_fore16 hT2 (rt_V_it hV t) (n := i % 6 + 1) (k := i / 6) (by omega) (show nI i - nI i / nI 6 * nI 6 + Int32.ofInt 1 = _ by rw [pk_rem (by omega) (by omega) (by omega)]; exact nI_1' _) (by omega) (show nI i / nI 6 = _ from pk_div (by omega) (by omega) (by omega))) ?_
    refine az_ecallF rfl rfl rfl rfl (ct_isRight_16 hT2 (rt_V_it hV t) hp) ?_
    refine az_if_eq rfl rfl (fun c86 => ?_) (fun c86 => ?_)
    · refine az_er 2 rfl ?_
      first
      | (refine ih (i + 1) _ _ (by omega) (by omega) (nI_1' i) (rt_T_h hT2 (fun k hk => az_up_o (by omega))) (by rw [az_up_o (by decide)]; exact hp) (fun k hk => ?_) (fun a p q => by rw [az_up_o q]; exact hF a p q)
         by_cases h9 : k = i
         · subst h9
           rw [az_up_s, if_pos (by omega), sq_rc_t (dec_iff.mp (i32_if1 c86))]
           exact nI_1' _
         · rw [az_up_n h9, hA k hk]
           by_cases h8 : k < i
           · rw [if_pos h8, if_pos (by omega)]
           · rw [if_neg h8, if_neg (by omega)])
      | (refine ih (i + 1) _ _ (by omega) (by omega) (nI_1' i) hT2 hp (fun k hk => ?_) hF
         rw [hA k hk]
         by_cases h8 : k < i
         · rw [if_pos h8, if_pos (by omega)]
         · rw [if_neg h8]
           by_cases h9 : k = i
           · subst h9
             rw [if_pos (by omega), sq_rc_f (fun q => i32_if0 c86 (dec_iff.mpr q))]
           · rw [if_neg (by omega)])
    · refine az_er 6 rfl ?_
      refine az_ecallF rfl rfl rfl rfl (ct_atI rfl rfl (show i < 36 by omega) (by decide) ((hA i (by omega)).trans (congrArg nI (if_neg (Nat.lt_irrefl i))))) ?_
      refine az_er 2 rfl ?_
      refine az_ecallF rfl rfl rfl rfl (ct_putI rfl rfl (show i < 36 by omega) (by decide)) ?_
      refine az_er 2 rfl ?_
      first
      | (refine ih (i + 1) _ _ (by omega) (by omega) (nI_1' i) (rt_T_h hT2 (fun k hk => az_up_o (by omega))) (by rw [az_up_o (by decide)]; exact hp) (fun k hk => ?_) (fun a p q => by rw [az_up_o q]; exact hF a p q)
         by_cases h9 : k = i
         · subst h9
           rw [az_up_s, if_pos (by omega), sq_rc_t (dec_iff.mp (i32_if1 c86))]
           exact nI_1' _
         · rw [az_up_n h9, hA k hk]
           by_cases h8 : k < i
           · rw [if_pos h8, if_pos (by omega)]
           · rw [if_neg h8, if_neg (by omega)])
      | (refine ih (i + 1) _ _ (by omega) (by omega) (nI_1' i) hT2 hp (fun k hk => ?_) hF
         rw [hA k hk]
         by_cases h8 : k < i
         · rw [if_pos h8, if_pos (by omega)]
         · rw [if_neg h8]
           by_cases h9 : k = i
           · subst h9
             rw [if_pos (by omega), sq_rc_f (fun q => i32_if0 c86 (dec_iff.mpr q))]
           · rw [if_neg (by omega)])
set_option maxRecDepth 100000 in
theorem lp_tally {sc : az_S} {τ : Nat → Nat} {h : az_H} {x : Int32} {n : Nat} (hV : rt_V τ) (hx : x = nI n) (hn : n ≤ 60) : ∀ (d i : Nat) (y : Int32) (tl : List Value) (hh : az_H), i ≤ n → n - i = d → y = nI i → (tl = [] ∨ ∃ k, tl = [.int k]) → rt_T 16 (sq_it τ i) hh → (∀ k, k < 36 → hh 56 k = nI (sq_rc τ k i)) → rt_Fn h hh → az_E sc az_m_X7_tallyRight 39 (.ref 0 :: .int x :: .int y :: tl) [] hh (fun v h1 => v = none ∧ (∀ k, k < 36 → h1 56 k = nI (sq_rc τ k n)) ∧ rt_Fn h h1) := by
  intro d
  induction d with
  | zero =>
    intro i y tl hh hi hd hy htl hT2 hA hF
    have he : i = n := by omega
    refine az_er 2 rfl ?_
    refine az_ic_ge rfl rfl (fun c41 => ?_) (fun c41 => absurd (by rw [hy, hx, he]; exact nI_le (Nat.le_refl _) (by omega)) c41)
    refine az_eret rfl rfl rfl ?_
    exact ⟨rfl, he ▸ hA, hF⟩
  | succ d ih =>
    intro i y tl hh hi hd hy htl hT2 hA hF
    rcases htl with rfl | ⟨k9, rfl⟩
    · skip
      refine az_er 2 rfl ?_
      refine az_ic_ge rfl rfl (fun c41 => absurd c41 (by rw [hy, hx]; exact nI_ge (by omega) (by omega))) (fun c41 => ?_)
      refine az_er 2 rfl ?_
      refine az_ecall rfl rfl rfl rfl (ct_decide_16 hT2 (rt_V_it hV i)) ?_
      rintro _ h3 ⟨rfl, kF, kp, kg⟩
      refine az_er 2 rfl ?_
      refine lp_tw (h := h) (t := i) hV (fun z h4 m1 m2 m3 => ?_) 36 0 0 h3 (by decide) rfl rfl (rt_T_F hT2 kF) kp (fun k hk => by rw [kF.1 56 (by decide) (by decide), hA k hk, if_neg (Nat.not_lt_zero k)]) (fun a p q => by rw [kF.1 a (by omega) (by omega)]; exact hF a p q)
      refine az_er 2 rfl ?_
      refine az_ecall rfl rfl rfl rfl (ct_goBy_16 m1 (rt_V_it hV i)) ?_
      rintro _ h5 ⟨rfl, g1, g2, g3, g4⟩
      refine az_er 3 rfl ?_
      exact ih (i + 1) _ _ _ (by omega) (by omega) (by rw [hy]; exact nI_1' i) (Or.inr ⟨_, rfl⟩) g1 (fun k hk => by rw [g4 56 (by omega)]; exact m2 k hk) (fun a p q => by rw [g4 a (by omega)]; exact m3 a p q)
    · skip
      refine az_er 2 rfl ?_
      refine az_ic_ge rfl rfl (fun c41 => absurd c41 (by rw [hy, hx]; exact nI_ge (by omega) (by omega))) (fun c41 => ?_)
      refine az_er 2 rfl ?_
      refine az_ecall rfl rfl rfl rfl (ct_decide_16 hT2 (rt_V_it hV i)) ?_
      rintro _ h3 ⟨rfl, kF, kp, kg⟩
      refine az_er 2 rfl ?_
      refine lp_tw (h := h) (t := i) hV (fun z h4 m1 m2 m3 => ?_) 36 0 0 h3 (by decide) rfl rfl (rt_T_F hT2 kF) kp (fun k hk => by rw [kF.1 56 (by decide) (by decide), hA k hk, if_neg (Nat.not_lt_zero k)]) (fun a p q => by rw [kF.1 a (by omega) (by omega)]; exact hF a p q)
      refine az_er 2 rfl ?_
      refine az_ecall rfl rfl rfl rfl (ct_goBy_16 m1 (rt_V_it hV i)) ?_
      rintro _ h5 ⟨rfl, g1, g2, g3, g4⟩
      refine az_er 3 rfl ?_
      exact ih (i + 1) _ _ _ (by omega) (by omega) (by rw [hy]; exact nI_1' i) (Or.inr ⟨_, rfl⟩) g1 (fun k hk => by rw [g4 56 (by omega)]; exact m2 k hk) (fun a p q => by rw [g4 a (by omega)]; exact m3 a p q)
set_option maxRecDepth 100000 in
theorem ct_tally {sc : az_S} {τ : Nat → Nat} {h : az_H} {x : Int32} {n : Nat} (hT : rt_T 1 τ h) (hV : rt_V τ) (hx : x = nI n) (hn : n ≤ 60) : az_E sc az_m_X7_tallyRight 0 [.ref 0, .int x] [] h (fun v h1 => v = none ∧ (∀ k, k < 36 → h1 56 k = nI (sq_rc τ k n)) ∧ rt_Fn h h1) := by
  refine az_er 2 rfl ?_
  refine lp_zero (fun y h2 z1 z2 => ?_) 36 0 0 h (by decide) rfl rfl (fun k hk => absurd hk (Nat.not_lt_zero k)) (fun _ _ => rfl)
  refine az_er 4 rfl ?_
  refine az_ecall rfl rfl rfl rfl (ct_copy_16_1 (rt_T_h hT (fun k hk => z2 _ (by omega)))) ?_
  rintro _ h3 ⟨rfl, g1, g2⟩
  refine az_er 2 rfl ?_
  exact lp_tally hV hx hn n 0 0 [] h3 (Nat.zero_le _) (Nat.sub_zero _) rfl (Or.inl rfl) g1 (fun k hk => by rw [g2 56 (by omega)]; exact z1 k hk) (fun a p q => by rw [g2 a (by omega)]; exact z2 a q)
set_option maxRecDepth 100000 in
theorem lp_which {sc : az_S} {g : Nat → Nat} {h : az_H} {x w9 : Int32} (hg : ∀ k, g k < 2 ^ 31) (hA : ∀ k, k < 36 → h 56 k = nI (g k)) : ∀ (d i : Nat) (f y : Int32), i < 36 → 35 - i = d → f = nI (sq_am g i) → y = nI (i + 1) → az_E sc az_m_X7_which 28 [.ref 0, .int x, .int w9, .int f, .int y] [] h (fun v h1 => v = some (.int (nI (sq_code (sq_am g 35)))) ∧ h1 = h) := by
  intro d
  induction d with
  | zero =>
    intro i f y hi hd hf hy
    subst hf
    subst hy
    have he : i + 1 = 36 := by omega
    have ha := sq_am_le (g := g) 35
    refine az_er 3 rfl ?_
    refine az_len rfl rfl ?_
    refine az_ic_ge rfl rfl (fun c35 => ?_) (fun c35 => absurd (by rw [he]; exact nI_le (b := 36) (Nat.le_refl _) (by omega)) c35)
    refine az_er 11 rfl ?_
    refine az_eret rfl rfl rfl ?_
    have e35 : i = 35 := by omega
    subst e35
    exact ⟨congrArg some (congrArg Value.int (show nI 10 * (nI (sq_am g 35) / nI 6) + (nI (sq_am g 35) - nI (sq_am g 35) / nI 6 * nI 6) + Int32.ofInt 1 = nI (sq_code (sq_am g 35)) by rw [pk_rem (by omega) (by omega) (by omega), pk_div (by omega) (by omega) (by omega), pk_mul, nI_add, nI_1']; rfl)), rfl⟩
  | succ d ih =>
    intro i f y hi hd hf hy
    subst hf
    subst hy
    have ha := sq_am_le (g := g) i
    refine az_er 3 rfl ?_
    refine az_len rfl rfl ?_
    refine az_ic_ge rfl rfl (fun c35 => absurd c35 (nI_ge (b := 36) (by omega) (by omega))) (fun c35 => ?_)
    refine az_er 3 rfl ?_
    refine az_ecallF rfl rfl rfl rfl (ct_atI rfl rfl (show i + 1 < 36 by omega) (by decide) (hA (i + 1) (by omega))) ?_
    refine az_er 3 rfl ?_
    refine az_ecallF rfl rfl rfl rfl (ct_atI rfl rfl (show sq_am g i < 36 by omega) (by decide) (hA (sq_am g i) (by omega))) ?_
    refine az_ic_le rfl rfl (fun c55 => ?_) (fun c55 => ?_)
    · refine az_er 2 rfl ?_
      refine ih (i + 1) _ _ (by omega) (by omega) ?_ (nI_1' (i + 1))
      first
      | (rw [sq_am, if_neg (fun q => absurd ((nI_ltI (hg _) (hg _)).mpr q) (Int32.not_lt.mpr c55))])
      | (rw [sq_am, if_pos ((nI_ltI (hg _) (hg _)).mp (Int32.not_le.mp c55))])
    · refine az_er 4 rfl ?_
      refine ih (i + 1) _ _ (by omega) (by omega) ?_ (nI_1' (i + 1))
      first
      | (rw [sq_am, if_neg (fun q => absurd ((nI_ltI (hg _) (hg _)).mpr q) (Int32.not_lt.mpr c55))])
      | (rw [sq_am, if_pos ((nI_ltI (hg _) (hg _)).mp (Int32.not_le.mp c55))])
set_option maxRecDepth 100000 in
theorem lm_run {sc : az_S} {τ : Nat → Nat} {h : az_H} {Q : Option Value → az_H → Prop} {x be mo kd sp : Int32} {n i : Nat} (hV : rt_V τ) (hx : x = nI n) (hn : 1 ≤ n ∧ n ≤ 60) (hi : i < 36) (hkd : kd = nI (i / 6)) (hsp : sp = nI (i % 6 + 1)) (K : ∀ ri y r hh, ri = nI (sq_rc τ i n) → (∀ a, a ≠ 61 → a ≠ 69 → hh a = h a) → az_E sc az_m_X8_which 133 [.ref 59, .int x, .int be, .int mo, .int kd, .int sp, .int ri, .int y, .int r] [] hh Q) : ∀ (d w : Nat) (ri y : Int32) (tl : List Value) (hh : az_H), w ≤ n → n - w = d → ri = nI (sq_rc τ i w) → y = nI w → ((tl = [] ∧ w = 0) ∨ ∃ r, tl = [.int r]) → rt_M 61 (sq_it τ w) hh → (∀ a, a ≠ 61 → a ≠ 69 → hh a = h a) → az_E sc az_m_X8_which 64 (.ref 59 :: .int x :: .int be :: .int mo :: .int kd :: .int sp :: .int ri :: .int y :: tl) [] hh Q := by
  intro d
  induction d with
  | zero =>
    intro w ri y tl hh hw hd hr hy htl hM hF
    have he : w = n := by omega
    refine az_er 2 rfl ?_
    refine az_ic_ge rfl rfl (fun c67 => ?_) (fun c67 => absurd (by rw [hy, hx, he]; exact nI_le (Nat.le_refl _) (by omega)) c67)
    rcases htl with ⟨_, q⟩ | ⟨r, rfl⟩
    · omega
    · exact K _ _ _ hh (by rw [hr, he]) hF
  | succ d ih =>
    intro w ri y tl hh hw hd hr hy htl hM hF
    rcases htl with ⟨rfl, _⟩ | ⟨r9, rfl⟩
    · skip
      refine az_er 2 rfl ?_
      refine az_ic_ge rfl rfl (fun c67 => absurd c67 (by rw [hy, hx]; exact nI_ge (by omega) (by omega))) (fun c67 => ?_)
      refine az_er 3 rfl ?_
      refine az_ecallF rfl rfl rfl rfl (cm_fore hM (rt_V_it hV w) (n := i % 6 + 1) (k := i / 6) (by omega) hsp (by omega) hkd) ?_
      refine az_er 3 rfl ?_
      refine az_iaI rfl rfl (j := 2) (show Int32.ofInt 2 = nI 2 from rfl) (by decide) (by decide) (hM 2 (by decide)) ?_
      refine az_ic_gt rfl rfl (fun c84 => ?_) (fun c84 => ?_)
      · refine az_er 4 rfl ?_
        refine az_ecall rfl rfl rfl rfl (cm_goOn hM (rt_V_it hV w)) ?_
        rintro _ h2 ⟨rfl, g1, g2, g3⟩
        refine az_er 3 rfl ?_
        refine az_iaI rfl rfl (j := 2) rfl (by decide) (by decide) ((g1 2 (by decide)).trans (congrArg nI (sq_st_lo (rt_V_it hV w).2.1 (by decide) (by decide) (by decide)))) ?_
        refine az_ic_gt rfl rfl (fun c106 => ?_) (fun c106 => ?_)
        · refine az_er 2 rfl ?_
          refine az_ic_ne rfl rfl (fun c116 => ?_) (fun c116 => ?_)
          · refine az_er 5 rfl ?_
            refine ih (w + 1) _ _ _ _ (by omega) (by omega) ?_ (by rw [hy]; exact nI_1' w) (Or.inr ⟨_, rfl⟩) g1 (fun a p q => by rw [g3 a p q]; exact hF a p q)
            first
            | exact absurd rfl c116
            | exact absurd c116 (by decide)
            | (rw [hr, sq_rc_t (iff_of_true (Int32.not_lt.mp c84) (Int32.not_lt.mp c106))]; exact nI_1' _)
            | (rw [hr, sq_rc_t (iff_of_false (Int32.not_le.mpr c84) (Int32.not_le.mpr c106))]; exact nI_1' _)
            | (rw [hr, sq_rc_f (fun q => absurd (q.mp (Int32.not_lt.mp c84)) (Int32.not_le.mpr c106))]; exact Int32.add_zero _)
            | (rw [hr, sq_rc_f (fun q => absurd (q.mpr (Int32.not_lt.mp c106)) (Int32.not_le.mpr c84))]; exact Int32.add_zero _)
          · refine az_er 6 rfl ?_
            refine ih (w + 1) _ _ _ _ (by omega) (by omega) ?_ (by rw [hy]; exact nI_1' w) (Or.inr ⟨_, rfl⟩) g1 (fun a p q => by rw [g3 a p q]; exact hF a p q)
            first
            | exact absurd rfl c116
            | exact absurd c116 (by decide)
            | (rw [hr, sq_rc_t (iff_of_true (Int32.not_lt.mp c84) (Int32.not_lt.mp c106))]; exact nI_1' _)
            | (rw [hr, sq_rc_t (iff_of_false (Int32.not_le.mpr c84) (Int32.not_le.mpr c106))]; exact nI_1' _)
            | (rw [hr, sq_rc_f (fun q => absurd (q.mp (Int32.not_lt.mp c84)) (Int32.not_le.mpr c106))]; exact Int32.add_zero _)
            | (rw [hr, sq_rc_f (fun q => absurd (q.mpr (Int32.not_lt.mp c106)) (Int32.not_le.mpr c84))]; exact Int32.add_zero _)
        · refine az_er 3 rfl ?_
          refine az_ic_ne rfl rfl (fun c116 => ?_) (fun c116 => ?_)
          · refine az_er 5 rfl ?_
            refine ih (w + 1) _ _ _ _ (by omega) (by omega) ?_ (by rw [hy]; exact nI_1' w) (Or.inr ⟨_, rfl⟩) g1 (fun a p q => by rw [g3 a p q]; exact hF a p q)
            first
            | exact absurd rfl c116
            | exact absurd c116 (by decide)
            | (rw [hr, sq_rc_t (iff_of_true (Int32.not_lt.mp c84) (Int32.not_lt.mp c106))]; exact nI_1' _)
            | (rw [hr, sq_rc_t (iff_of_false (Int32.not_le.mpr c84) (Int32.not_le.mpr c106))]; exact nI_1' _)
            | (rw [hr, sq_rc_f (fun q => absurd (q.mp (Int32.not_lt.mp c84)) (Int32.not_le.mpr c106))]; exact Int32.add_zero _)
            | (rw [hr, sq_rc_f (fun q => absurd (q.mpr (Int32.not_lt.mp c106)) (Int32.not_le.mpr c84))]; exact Int32.add_zero _)
          · refine az_er 6 rfl ?_
            refine ih (w + 1) _ _ _ _ (by omega) (by omega) ?_ (by rw [hy]; exact nI_1' w) (Or.inr ⟨_, rfl⟩) g1 (fun a p q => by rw [g3 a p q]; exact hF a p q)
            first
            | exact absurd rfl c116
            | exact absurd c116 (by decide)
            | (rw [hr, sq_rc_t (iff_of_true (Int32.not_lt.mp c84) (Int32.not_lt.mp c106))]; exact nI_1' _)
            | (rw [hr, sq_rc_t (iff_of_false (Int32.not_le.mpr c84) (Int32.not_le.mpr c106))]; exact nI_1' _)
            | (rw [hr, sq_rc_f (fun q => absurd (q.mp (Int32.not_lt.mp c84)) (Int32.not_le.mpr c106))]; exact Int32.add_zero _)
            | (rw [hr, sq_rc_f (fun q => absurd (q.mpr (Int32.not_lt.mp c106)) (Int32.not_le.mpr c84))]; exact Int32.add_zero _)
      · refine az_er 5 rfl ?_
        refine az_ecall rfl rfl rfl rfl (cm_goOn hM (rt_V_it hV w)) ?_
        rintro _ h2 ⟨rfl, g1, g2, g3⟩
        refine az_er 3 rfl ?_
        refine az_iaI rfl rfl (j := 2) rfl (by decide) (by decide) ((g1 2 (by decide)).trans (congrArg nI (sq_st_lo (rt_V_it hV w).2.1 (by decide) (by decide) (by decide)))) ?_
        refine az_ic_gt rfl rfl (fun c106 => ?_) (fun c106 => ?_)
        · refine az_er 2 rfl ?_
          refine az_ic_ne rfl rfl (fun c116 => ?_) (fun c116 => ?_)
          · refine az_er 5 rfl ?_
            refine ih (w + 1) _ _ _ _ (by omega) (by omega) ?_ (by rw [hy]; exact nI_1' w) (Or.inr ⟨_, rfl⟩) g1 (fun a p q => by rw [g3 a p q]; exact hF a p q)
            first
            | exact absurd rfl c116
            | exact absurd c116 (by decide)
            | (rw [hr, sq_rc_t (iff_of_true (Int32.not_lt.mp c84) (Int32.not_lt.mp c106))]; exact nI_1' _)
            | (rw [hr, sq_rc_t (iff_of_false (Int32.not_le.mpr c84) (Int32.not_le.mpr c106))]; exact nI_1' _)
            | (rw [hr, sq_rc_f (fun q => absurd (q.mp (Int32.not_lt.mp c84)) (Int32.not_le.mpr c106))]; exact Int32.add_zero _)
            | (rw [hr, sq_rc_f (fun q => absurd (q.mpr (Int32.not_lt.mp c106)) (Int32.not_le.mpr c84))]; exact Int32.add_zero _)
          · refine az_er 6 rfl ?_
            refine ih (w + 1) _ _ _ _ (by omega) (by omega) ?_ (by rw [hy]; exact nI_1' w) (Or.inr ⟨_, rfl⟩) g1 (fun a p q => by rw [g3 a p q]; exact hF a p q)
            first
            | exact absurd rfl c116
            | exact absurd c116 (by decide)
            | (rw [hr, sq_rc_t (iff_of_true (Int32.not_lt.mp c84) (Int32.not_lt.mp c106))]; exact nI_1' _)
            | (rw [hr, sq_rc_t (iff_of_false (Int32.not_le.mpr c84) (Int32.not_le.mpr c106))]; exact nI_1' _)
            | (rw [hr, sq_rc_f (fun q => absurd (q.mp (Int32.not_lt.mp c84)) (Int32.not_le.mpr c106))]; exact Int32.add_zero _)
            | (rw [hr, sq_rc_f (fun q => absurd (q.mpr (Int32.not_lt.mp c106)) (Int32.not_le.mpr c84))]; exact Int32.add_zero _)
        · refine az_er 3 rfl ?_
          refine az_ic_ne rfl rfl (fun c116 => ?_) (fun c116 => ?_)
          · refine az_er 5 rfl ?_
            refine ih (w + 1) _ _ _ _ (by omega) (by omega) ?_ (by rw [hy]; exact nI_1' w) (Or.inr ⟨_, rfl⟩) g1 (fun a p q => by rw [g3 a p q]; exact hF a p q)
            first
            | exact absurd rfl c116
            | exact absurd c116 (by decide)
            | (rw [hr, sq_rc_t (iff_of_true (Int32.not_lt.mp c84) (Int32.not_lt.mp c106))]; exact nI_1' _)
            | (rw [hr, sq_rc_t (iff_of_false (Int32.not_le.mpr c84) (Int32.not_le.mpr c106))]; exact nI_1' _)
            | (rw [hr, sq_rc_f (fun q => absurd (q.mp (Int32.not_lt.mp c84)) (Int32.not_le.mpr c106))]; exact Int32.add_zero _)
            | (rw [hr, sq_rc_f (fun q => absurd (q.mpr (Int32.not_lt.mp c106)) (Int32.not_le.mpr c84))]; exact Int32.add_zero _)
          · refine az_er 6 rfl ?_
            refine ih (w + 1) _ _ _ _ (by omega) (by omega) ?_ (by rw [hy]; exact nI_1' w) (Or.inr ⟨_, rfl⟩) g1 (fun a p q => by rw [g3 a p q]; exact hF a p q)
            first
            | exact absurd rfl c116
            | exact absurd c116 (by decide)
            | (rw [hr, sq_rc_t (iff_of_true (Int32.not_lt.mp c84) (Int32.not_lt.mp c106))]; exact nI_1' _)
            | (rw [hr, sq_rc_t (iff_of_false (Int32.not_le.mpr c84) (Int32.not_le.mpr c106))]; exact nI_1' _)
            | (rw [hr, sq_rc_f (fun q => absurd (q.mp (Int32.not_lt.mp c84)) (Int32.not_le.mpr c106))]; exact Int32.add_zero _)
            | (rw [hr, sq_rc_f (fun q => absurd (q.mpr (Int32.not_lt.mp c106)) (Int32.not_le.mpr c84))]; exact Int32.add_zero _)
    · skip
      refine az_er 2 rfl ?_
      refine az_ic_ge rfl rfl (fun c67 => absurd c67 (by rw [hy, hx]; exact nI_ge (by omega) (by omega))) (fun c67 => ?_)
      refine az_er 3 rfl ?_
      refine az_ecallF rfl rfl rfl rfl (cm_fore hM (rt_V_it hV w) (n := i % 6 + 1) (k := i / 6) (by omega) hsp (by omega) hkd) ?_
      refine az_er 3 rfl ?_
      refine az_iaI rfl rfl (j := 2) (show Int32.ofInt 2 = nI 2 from rfl) (by decide) (by decide) (hM 2 (by decide)) ?_
      refine az_ic_gt rfl rfl (fun c84 => ?_) (fun c84 => ?_)
      · refine az_er 4 rfl ?_
        refine az_ecall rfl rfl rfl rfl (cm_goOn hM (rt_V_it hV w)) ?_
        rintro _ h2 ⟨rfl, g1, g2, g3⟩
        refine az_er 3 rfl ?_
        refine az_iaI rfl rfl (j := 2) rfl (by decide) (by decide) ((g1 2 (by decide)).trans (congrArg nI (sq_st_lo (rt_V_it hV w).2.1 (by decide) (by decide) (by decide)))) ?_
        refine az_ic_gt rfl rfl (fun c106 => ?_) (fun c106 => ?_)
        · refine az_er 2 rfl ?_
          refine az_ic_ne rfl rfl (fun c116 => ?_) (fun c116 => ?_)
          · refine az_er 5 rfl ?_
            refine ih (w + 1) _ _ _ _ (by omega) (by omega) ?_ (by rw [hy]; exact nI_1' w) (Or.inr ⟨_, rfl⟩) g1 (fun a p q => by rw [g3 a p q]; exact hF a p q)
            first
            | exact absurd rfl c116
            | exact absurd c116 (by decide)
            | (rw [hr, sq_rc_t (iff_of_true (Int32.not_lt.mp c84) (Int32.not_lt.mp c106))]; exact nI_1' _)
            | (rw [hr, sq_rc_t (iff_of_false (Int32.not_le.mpr c84) (Int32.not_le.mpr c106))]; exact nI_1' _)
            | (rw [hr, sq_rc_f (fun q => absurd (q.mp (Int32.not_lt.mp c84)) (Int32.not_le.mpr c106))]; exact Int32.add_zero _)
            | (rw [hr, sq_rc_f (fun q => absurd (q.mpr (Int32.not_lt.mp c106)) (Int32.not_le.mpr c84))]; exact Int32.add_zero _)
          · refine az_er 6 rfl ?_
            refine ih (w + 1) _ _ _ _ (by omega) (by omega) ?_ (by rw [hy]; exact nI_1' w) (Or.inr ⟨_, rfl⟩) g1 (fun a p q => by rw [g3 a p q]; exact hF a p q)
            first
            | exact absurd rfl c116
            | exact absurd c116 (by decide)
            | (rw [hr, sq_rc_t (iff_of_true (Int32.not_lt.mp c84) (Int32.not_lt.mp c106))]; exact nI_1' _)
            | (rw [hr, sq_rc_t (iff_of_false (Int32.not_le.mpr c84) (Int32.not_le.mpr c106))]; exact nI_1' _)
            | (rw [hr, sq_rc_f (fun q => absurd (q.mp (Int32.not_lt.mp c84)) (Int32.not_le.mpr c106))]; exact Int32.add_zero _)
            | (rw [hr, sq_rc_f (fun q => absurd (q.mpr (Int32.not_lt.mp c106)) (Int32.not_le.mpr c84))]; exact Int32.add_zero _)
        · refine az_er 3 rfl ?_
          refine az_ic_ne rfl rfl (fun c116 => ?_) (fun c116 => ?_)
          · refine az_er 5 rfl ?_
            refine ih (w + 1) _ _ _ _ (by omega) (by omega) ?_ (by rw [hy]; exact nI_1' w) (Or.inr ⟨_, rfl⟩) g1 (fun a p q => by rw [g3 a p q]; exact hF a p q)
            first
            | exact absurd rfl c116
            | exact absurd c116 (by decide)
            | (rw [hr, sq_rc_t (iff_of_true (Int32.not_lt.mp c84) (Int32.not_lt.mp c106))]; exact nI_1' _)
            | (rw [hr, sq_rc_t (iff_of_false (Int32.not_le.mpr c84) (Int32.not_le.mpr c106))]; exact nI_1' _)
            | (rw [hr, sq_rc_f (fun q => absurd (q.mp (Int32.not_lt.mp c84)) (Int32.not_le.mpr c106))]; exact Int32.add_zero _)
            | (rw [hr, sq_rc_f (fun q => absurd (q.mpr (Int32.not_lt.mp c106)) (Int32.not_le.mpr c84))]; exact Int32.add_zero _)
          · refine az_er 6 rfl ?_
            refine ih (w + 1) _ _ _ _ (by omega) (by omega) ?_ (by rw [hy]; exact nI_1' w) (Or.inr ⟨_, rfl⟩) g1 (fun a p q => by rw [g3 a p q]; exact hF a p q)
            first
            | exact absurd rfl c116
            | exact absurd c116 (by decide)
            | (rw [hr, sq_rc_t (iff_of_true (Int32.not_lt.mp c84) (Int32.not_lt.mp c106))]; exact nI_1' _)
            | (rw [hr, sq_rc_t (iff_of_false (Int32.not_le.mpr c84) (Int32.not_le.mpr c106))]; exact nI_1' _)
            | (rw [hr, sq_rc_f (fun q => absurd (q.mp (Int32.not_lt.mp c84)) (Int32.not_le.mpr c106))]; exact Int32.add_zero _)
            | (rw [hr, sq_rc_f (fun q => absurd (q.mpr (Int32.not_lt.mp c106)) (Int32.not_le.mpr c84))]; exact Int32.add_zero _)
      · refine az_er 5 rfl ?_
        refine az_ecall rfl rfl rfl rfl (cm_goOn hM (rt_V_it hV w)) ?_
        rintro _ h2 ⟨rfl, g1, g2, g3⟩
        refine az_er 3 rfl ?_
        refine az_iaI rfl rfl (j := 2) rfl (by decide) (by decide) ((g1 2 (by decide)).trans (congrArg nI (sq_st_lo (rt_V_it hV w).2.1 (by decide) (by decide) (by decide)))) ?_
        refine az_ic_gt rfl rfl (fun c106 => ?_) (fun c106 => ?_)
        · refine az_er 2 rfl ?_
          refine az_ic_ne rfl rfl (fun c116 => ?_) (fun c116 => ?_)
          · refine az_er 5 rfl ?_
            refine ih (w + 1) _ _ _ _ (by omega) (by omega) ?_ (by rw [hy]; exact nI_1' w) (Or.inr ⟨_, rfl⟩) g1 (fun a p q => by rw [g3 a p q]; exact hF a p q)
            first
            | exact absurd rfl c116
            | exact absurd c116 (by decide)
            | (rw [hr, sq_rc_t (iff_of_true (Int32.not_lt.mp c84) (Int32.not_lt.mp c106))]; exact nI_1' _)
            | (rw [hr, sq_rc_t (iff_of_false (Int32.not_le.mpr c84) (Int32.not_le.mpr c106))]; exact nI_1' _)
            | (rw [hr, sq_rc_f (fun q => absurd (q.mp (Int32.not_lt.mp c84)) (Int32.not_le.mpr c106))]; exact Int32.add_zero _)
            | (rw [hr, sq_rc_f (fun q => absurd (q.mpr (Int32.not_lt.mp c106)) (Int32.not_le.mpr c84))]; exact Int32.add_zero _)
          · refine az_er 6 rfl ?_
            refine ih (w + 1) _ _ _ _ (by omega) (by omega) ?_ (by rw [hy]; exact nI_1' w) (Or.inr ⟨_, rfl⟩) g1 (fun a p q => by rw [g3 a p q]; exact hF a p q)
            first
            | exact absurd rfl c116
            | exact absurd c116 (by decide)
            | (rw [hr, sq_rc_t (iff_of_true (Int32.not_lt.mp c84) (Int32.not_lt.mp c106))]; exact nI_1' _)
            | (rw [hr, sq_rc_t (iff_of_false (Int32.not_le.mpr c84) (Int32.not_le.mpr c106))]; exact nI_1' _)
            | (rw [hr, sq_rc_f (fun q => absurd (q.mp (Int32.not_lt.mp c84)) (Int32.not_le.mpr c106))]; exact Int32.add_zero _)
            | (rw [hr, sq_rc_f (fun q => absurd (q.mpr (Int32.not_lt.mp c106)) (Int32.not_le.mpr c84))]; exact Int32.add_zero _)
        · refine az_er 3 rfl ?_
          refine az_ic_ne rfl rfl (fun c116 => ?_) (fun c116 => ?_)
          · refine az_er 5 rfl ?_
            refine ih (w + 1) _ _ _ _ (by omega) (by omega) ?_ (by rw [hy]; exact nI_1' w) (Or.inr ⟨_, rfl⟩) g1 (fun a p q => by rw [g3 a p q]; exact hF a p q)
            first
            | exact absurd rfl c116
            | exact absurd c116 (by decide)
            | (rw [hr, sq_rc_t (iff_of_true (Int32.not_lt.mp c84) (Int32.not_lt.mp c106))]; exact nI_1' _)
            | (rw [hr, sq_rc_t (iff_of_false (Int32.not_le.mpr c84) (Int32.not_le.mpr c106))]; exact nI_1' _)
            | (rw [hr, sq_rc_f (fun q => absurd (q.mp (Int32.not_lt.mp c84)) (Int32.not_le.mpr c106))]; exact Int32.add_zero _)
            | (rw [hr, sq_rc_f (fun q => absurd (q.mpr (Int32.not_lt.mp c106)) (Int32.not_le.mpr c84))]; exact Int32.add_zero _)
          · refine az_er 6 rfl ?_
            refine ih (w + 1) _ _ _ _ (by omega) (by omega) ?_ (by rw [hy]; exact nI_1' w) (Or.inr ⟨_, rfl⟩) g1 (fun a p q => by rw [g3 a p q]; exact hF a p q)
            first
            | exact absurd rfl c116
            | exact absurd c116 (by decide)
            | (rw [hr, sq_rc_t (iff_of_true (Int32.not_lt.mp c84) (Int32.not_lt.mp c106))]; exact nI_1' _)
            | (rw [hr, sq_rc_t (iff_of_false (Int32.not_le.mpr c84) (Int32.not_le.mpr c106))]; exact nI_1' _)
            | (rw [hr, sq_rc_f (fun q => absurd (q.mp (Int32.not_lt.mp c84)) (Int32.not_le.mpr c106))]; exact Int32.add_zero _)
            | (rw [hr, sq_rc_f (fun q => absurd (q.mpr (Int32.not_lt.mp c106)) (Int32.not_le.mpr c84))]; exact Int32.add_zero _)
/-- the best so far, before the i-th is looked at -/
def sq_bs (g : Nat → Nat) (i : Nat) (be mo : Int32) : Prop := (i = 0 ∧ be = -9 ∧ mo = 0) ∨ ∃ j, i = j + 1 ∧ be = nI (sq_code (sq_am g j)) ∧ mo = nI (g (sq_am g j))
set_option maxRecDepth 100000 in
theorem lm_span {sc : az_S} {τ g : Nat → Nat} {h : az_H} {Q : Option Value → az_H → Prop} {x kd : Int32} {n q : Nat} (hV : rt_V τ) (hx : x = nI n) (hn : 1 ≤ n ∧ n ≤ 60) (hq : q < 6) (hkd : kd = nI q) (hg : ∀ k, sq_rc τ k n = g k) (hgb : ∀ k, g k < 2 ^ 31) (K : ∀ be mo sp tl hh, sq_bs g (6 * q + 6) be mo → (tl = [] ∨ ∃ a b c, tl = [.int a, .int b, .int c]) → rt_M 61 τ hh → (∀ a, a ≠ 61 → a ≠ 69 → a ≠ 73 → hh a = h a) → az_E sc az_m_X8_which 174 (.ref 59 :: .int x :: .int be :: .int mo :: .int kd :: .int sp :: tl) [] hh Q) : ∀ (d s : Nat) (be mo sp : Int32) (tl : List Value) (hh : az_H), s ≤ 6 → 6 - s = d → sp = nI (s + 1) → sq_bs g (6 * q + s) be mo → (tl = [] ∨ ∃ a b c, tl = [.int a, .int b, .int c]) → rt_M 61 τ hh → (∀ a, a ≠ 61 → a ≠ 69 → a ≠ 73 → hh a = h a) → az_E sc az_m_X8_which 40 (.ref 59 :: .int x :: .int be :: .int mo :: .int kd :: .int sp :: tl) [] hh Q := by
  intro d
  induction d with
  | zero =>
    intro s be mo sp tl hh hs hd hsp hb htl hM hF
    have he : s = 6 := by omega
    refine az_er 2 rfl ?_
    refine az_ic_ge rfl rfl (fun c44 => ?_) (fun c44 => absurd (by rw [hsp, he]; decide) c44)
    exact K _ _ _ tl hh (by rw [show 6 * q + 6 = 6 * q + s by omega]; exact hb) htl hM hF
  | succ d ih =>
    intro s be mo sp tl hh hs hd hsp hb htl hM hF
    rcases htl with rfl | ⟨a9, b9, c9, rfl⟩
    · skip
      refine az_er 2 rfl ?_
      refine az_ic_ge rfl rfl (fun c44 => absurd c44 (by rw [hsp]; exact nI_ge (b := 7) (by omega) (by omega))) (fun c44 => ?_)
      refine az_er 4 rfl ?_
      refine az_ecallF rfl rfl rfl rfl (cm_move rfl rfl (by decide)) ?_
      refine az_er 4 rfl ?_
      refine lm_run (τ := τ) (i := 6 * q + s) hV hx hn (by omega) (by rw [hkd]; exact congrArg nI (by omega)) (by rw [hsp]; exact congrArg nI (by omega)) (fun ri y r h2 k0 k1 => ?_) n 0 0 0 [] _ (Nat.zero_le _) (Nat.sub_zero _) rfl rfl (Or.inl ⟨rfl, rfl⟩) (rt_M_h hM (az_cp_o (by decide))) (fun _ _ _ => rfl)
      refine az_er 4 rfl ?_
      refine az_ecallF rfl rfl rfl rfl (cm_move rfl rfl (by decide)) ?_
      refine az_er 2 rfl ?_
      refine az_ic_eq rfl rfl (fun c147 => ?_) (fun c147 => ?_)
      · refine az_er 10 rfl ?_
        refine ih (s + 1) _ _ _ _ _ (by omega) (by omega) (by rw [hsp]; exact nI_1' (s + 1)) ?_ (Or.inr ⟨_, _, _, rfl⟩) (rt_M_cp (fun j hj => by rw [k1 73 (by decide) (by decide)]; exact rt_M_cp hM j hj)) (fun a p r t => by rw [az_cp_o p, k1 a p r, az_cp_o t]; exact hF a p r t)
        rcases hb with ⟨h0, hbe, hmo⟩ | ⟨j, hj, hbe, hmo⟩
        · first
          | (refine Or.inr ⟨0, by omega, ?_, by rw [k0, h0, hg]; rfl⟩
             rw [hkd, hsp]
             show nI 10 * nI q + nI (s + 1) = _
             rw [pk_mul, nI_add]
             exact congrArg nI (by rw [sq_am, sq_code]; omega))
          | exact absurd hbe c147
        · first
          | exact absurd c147 (by rw [hbe]; exact fun t => absurd (t ▸ nI_pos (n := sq_code (sq_am g j)) (by have := sq_am_le (g := g) j; unfold sq_code; omega)) (by decide))
          | (refine Or.inr ⟨j + 1, by omega, ?_, ?_⟩
             · rw [hbe, sq_am, if_neg (fun t => absurd ((nI_ltI (hgb _) (hgb _)).mpr t) (Int32.not_lt.mpr (by rw [k0, hmo, hj, hg] at c153; exact c153)))]
             · rw [hmo, sq_am, if_neg (fun t => absurd ((nI_ltI (hgb _) (hgb _)).mpr t) (Int32.not_lt.mpr (by rw [k0, hmo, hj, hg] at c153; exact c153)))])
          | (have c8 : g (sq_am g j) < g (j + 1) := (nI_ltI (hgb _) (hgb _)).mp (Int32.not_le.mp (by rw [k0, hmo, hj, hg] at c153; exact c153))
             refine Or.inr ⟨j + 1, by omega, ?_, by rw [k0, sq_am, if_pos c8, hj, hg]⟩
             rw [hkd, hsp, sq_am, if_pos c8, ← hj]
             show nI 10 * nI q + nI (s + 1) = _
             rw [pk_mul, nI_add]
             exact congrArg nI (by rw [sq_code]; omega))
      · refine az_er 2 rfl ?_
        refine az_ic_le rfl rfl (fun c153 => ?_) (fun c153 => ?_)
        · refine az_er 2 rfl ?_
          refine ih (s + 1) _ _ _ _ _ (by omega) (by omega) (by rw [hsp]; exact nI_1' (s + 1)) ?_ (Or.inr ⟨_, _, _, rfl⟩) (rt_M_cp (fun j hj => by rw [k1 73 (by decide) (by decide)]; exact rt_M_cp hM j hj)) (fun a p r t => by rw [az_cp_o p, k1 a p r, az_cp_o t]; exact hF a p r t)
          rcases hb with ⟨h0, hbe, hmo⟩ | ⟨j, hj, hbe, hmo⟩
          · first
            | (refine Or.inr ⟨0, by omega, ?_, by rw [k0, h0, hg]; rfl⟩
               rw [hkd, hsp]
               show nI 10 * nI q + nI (s + 1) = _
               rw [pk_mul, nI_add]
               exact congrArg nI (by rw [sq_am, sq_code]; omega))
            | exact absurd hbe c147
          · first
            | exact absurd c147 (by rw [hbe]; exact fun t => absurd (t ▸ nI_pos (n := sq_code (sq_am g j)) (by have := sq_am_le (g := g) j; unfold sq_code; omega)) (by decide))
            | (refine Or.inr ⟨j + 1, by omega, ?_, ?_⟩
               · rw [hbe, sq_am, if_neg (fun t => absurd ((nI_ltI (hgb _) (hgb _)).mpr t) (Int32.not_lt.mpr (by rw [k0, hmo, hj, hg] at c153; exact c153)))]
               · rw [hmo, sq_am, if_neg (fun t => absurd ((nI_ltI (hgb _) (hgb _)).mpr t) (Int32.not_lt.mpr (by rw [k0, hmo, hj, hg] at c153; exact c153)))])
            | (have c8 : g (sq_am g j) < g (j + 1) := (nI_ltI (hgb _) (hgb _)).mp (Int32.not_le.mp (by rw [k0, hmo, hj, hg] at c153; exact c153))
               refine Or.inr ⟨j + 1, by omega, ?_, by rw [k0, sq_am, if_pos c8, hj, hg]⟩
               rw [hkd, hsp, sq_am, if_pos c8, ← hj]
               show nI 10 * nI q + nI (s + 1) = _
               rw [pk_mul, nI_add]
               exact congrArg nI (by rw [sq_code]; omega))
        · refine az_er 10 rfl ?_
          refine ih (s + 1) _ _ _ _ _ (by omega) (by omega) (by rw [hsp]; exact nI_1' (s + 1)) ?_ (Or.inr ⟨_, _, _, rfl⟩) (rt_M_cp (fun j hj => by rw [k1 73 (by decide) (by decide)]; exact rt_M_cp hM j hj)) (fun a p r t => by rw [az_cp_o p, k1 a p r, az_cp_o t]; exact hF a p r t)
          rcases hb with ⟨h0, hbe, hmo⟩ | ⟨j, hj, hbe, hmo⟩
          · first
            | (refine Or.inr ⟨0, by omega, ?_, by rw [k0, h0, hg]; rfl⟩
               rw [hkd, hsp]
               show nI 10 * nI q + nI (s + 1) = _
               rw [pk_mul, nI_add]
               exact congrArg nI (by rw [sq_am, sq_code]; omega))
            | exact absurd hbe c147
          · first
            | exact absurd c147 (by rw [hbe]; exact fun t => absurd (t ▸ nI_pos (n := sq_code (sq_am g j)) (by have := sq_am_le (g := g) j; unfold sq_code; omega)) (by decide))
            | (refine Or.inr ⟨j + 1, by omega, ?_, ?_⟩
               · rw [hbe, sq_am, if_neg (fun t => absurd ((nI_ltI (hgb _) (hgb _)).mpr t) (Int32.not_lt.mpr (by rw [k0, hmo, hj, hg] at c153; exact c153)))]
               · rw [hmo, sq_am, if_neg (fun t => absurd ((nI_ltI (hgb _) (hgb _)).mpr t) (Int32.not_lt.mpr (by rw [k0, hmo, hj, hg] at c153; exact c153)))])
            | (have c8 : g (sq_am g j) < g (j + 1) := (nI_ltI (hgb _) (hgb _)).mp (Int32.not_le.mp (by rw [k0, hmo, hj, hg] at c153; exact c153))
               refine Or.inr ⟨j + 1, by omega, ?_, by rw [k0, sq_am, if_pos c8, hj, hg]⟩
               rw [hkd, hsp, sq_am, if_pos c8, ← hj]
               show nI 10 * nI q + nI (s + 1) = _
               rw [pk_mul, nI_add]
               exact congrArg nI (by rw [sq_code]; omega))
    · skip
      refine az_er 2 rfl ?_
      refine az_ic_ge rfl rfl (fun c44 => absurd c44 (by rw [hsp]; exact nI_ge (b := 7) (by omega) (by omega))) (fun c44 => ?_)
      refine az_er 4 rfl ?_
      refine az_ecallF rfl rfl rfl rfl (cm_move rfl rfl (by decide)) ?_
      refine az_er 4 rfl ?_
      refine lm_run (τ := τ) (i := 6 * q + s) hV hx hn (by omega) (by rw [hkd]; exact congrArg nI (by omega)) (by rw [hsp]; exact congrArg nI (by omega)) (fun ri y r h2 k0 k1 => ?_) n 0 0 0 [.int c9] _ (Nat.zero_le _) (Nat.sub_zero _) rfl rfl (Or.inr ⟨_, rfl⟩) (rt_M_h hM (az_cp_o (by decide))) (fun _ _ _ => rfl)
      refine az_er 4 rfl ?_
      refine az_ecallF rfl rfl rfl rfl (cm_move rfl rfl (by decide)) ?_
      refine az_er 2 rfl ?_
      refine az_ic_eq rfl rfl (fun c147 => ?_) (fun c147 => ?_)
      · refine az_er 10 rfl ?_
        refine ih (s + 1) _ _ _ _ _ (by omega) (by omega) (by rw [hsp]; exact nI_1' (s + 1)) ?_ (Or.inr ⟨_, _, _, rfl⟩) (rt_M_cp (fun j hj => by rw [k1 73 (by decide) (by decide)]; exact rt_M_cp hM j hj)) (fun a p r t => by rw [az_cp_o p, k1 a p r, az_cp_o t]; exact hF a p r t)
        rcases hb with ⟨h0, hbe, hmo⟩ | ⟨j, hj, hbe, hmo⟩
        · first
          | (refine Or.inr ⟨0, by omega, ?_, by rw [k0, h0, hg]; rfl⟩
             rw [hkd, hsp]
             show nI 10 * nI q + nI (s + 1) = _
             rw [pk_mul, nI_add]
             exact congrArg nI (by rw [sq_am, sq_code]; omega))
          | exact absurd hbe c147
        · first
          | exact absurd c147 (by rw [hbe]; exact fun t => absurd (t ▸ nI_pos (n := sq_code (sq_am g j)) (by have := sq_am_le (g := g) j; unfold sq_code; omega)) (by decide))
          | (refine Or.inr ⟨j + 1, by omega, ?_, ?_⟩
             · rw [hbe, sq_am, if_neg (fun t => absurd ((nI_ltI (hgb _) (hgb _)).mpr t) (Int32.not_lt.mpr (by rw [k0, hmo, hj, hg] at c153; exact c153)))]
             · rw [hmo, sq_am, if_neg (fun t => absurd ((nI_ltI (hgb _) (hgb _)).mpr t) (Int32.not_lt.mpr (by rw [k0, hmo, hj, hg] at c153; exact c153)))])
          | (have c8 : g (sq_am g j) < g (j + 1) := (nI_ltI (hgb _) (hgb _)).mp (Int32.not_le.mp (by rw [k0, hmo, hj, hg] at c153; exact c153))
             refine Or.inr ⟨j + 1, by omega, ?_, by rw [k0, sq_am, if_pos c8, hj, hg]⟩
             rw [hkd, hsp, sq_am, if_pos c8, ← hj]
             show nI 10 * nI q + nI (s + 1) = _
             rw [pk_mul, nI_add]
             exact congrArg nI (by rw [sq_code]; omega))
      · refine az_er 2 rfl ?_
        refine az_ic_le rfl rfl (fun c153 => ?_) (fun c153 => ?_)
        · refine az_er 2 rfl ?_
          refine ih (s + 1) _ _ _ _ _ (by omega) (by omega) (by rw [hsp]; exact nI_1' (s + 1)) ?_ (Or.inr ⟨_, _, _, rfl⟩) (rt_M_cp (fun j hj => by rw [k1 73 (by decide) (by decide)]; exact rt_M_cp hM j hj)) (fun a p r t => by rw [az_cp_o p, k1 a p r, az_cp_o t]; exact hF a p r t)
          rcases hb with ⟨h0, hbe, hmo⟩ | ⟨j, hj, hbe, hmo⟩
          · first
            | (refine Or.inr ⟨0, by omega, ?_, by rw [k0, h0, hg]; rfl⟩
               rw [hkd, hsp]
               show nI 10 * nI q + nI (s + 1) = _
               rw [pk_mul, nI_add]
               exact congrArg nI (by rw [sq_am, sq_code]; omega))
            | exact absurd hbe c147
          · first
            | exact absurd c147 (by rw [hbe]; exact fun t => absurd (t ▸ nI_pos (n := sq_code (sq_am g j)) (by have := sq_am_le (g := g) j; unfold sq_code; omega)) (by decide))
            | (refine Or.inr ⟨j + 1, by omega, ?_, ?_⟩
               · rw [hbe, sq_am, if_neg (fun t => absurd ((nI_ltI (hgb _) (hgb _)).mpr t) (Int32.not_lt.mpr (by rw [k0, hmo, hj, hg] at c153; exact c153)))]
               · rw [hmo, sq_am, if_neg (fun t => absurd ((nI_ltI (hgb _) (hgb _)).mpr t) (Int32.not_lt.mpr (by rw [k0, hmo, hj, hg] at c153; exact c153)))])
            | (have c8 : g (sq_am g j) < g (j + 1) := (nI_ltI (hgb _) (hgb _)).mp (Int32.not_le.mp (by rw [k0, hmo, hj, hg] at c153; exact c153))
               refine Or.inr ⟨j + 1, by omega, ?_, by rw [k0, sq_am, if_pos c8, hj, hg]⟩
               rw [hkd, hsp, sq_am, if_pos c8, ← hj]
               show nI 10 * nI q + nI (s + 1) = _
               rw [pk_mul, nI_add]
               exact congrArg nI (by rw [sq_code]; omega))
        · refine az_er 10 rfl ?_
          refine ih (s + 1) _ _ _ _ _ (by omega) (by omega) (by rw [hsp]; exact nI_1' (s + 1)) ?_ (Or.inr ⟨_, _, _, rfl⟩) (rt_M_cp (fun j hj => by rw [k1 73 (by decide) (by decide)]; exact rt_M_cp hM j hj)) (fun a p r t => by rw [az_cp_o p, k1 a p r, az_cp_o t]; exact hF a p r t)
          rcases hb with ⟨h0, hbe, hmo⟩ | ⟨j, hj, hbe, hmo⟩
          · first
            | (refine Or.inr ⟨0, by omega, ?_, by rw [k0, h0, hg]; rfl⟩
               rw [hkd, hsp]
               show nI 10 * nI q + nI (s + 1) = _
               rw [pk_mul, nI_add]
               exact congrArg nI (by rw [sq_am, sq_code]; omega))
            | exact absurd hbe c147
          · first
            | exact absurd c147 (by rw [hbe]; exact fun t => absurd (t ▸ nI_pos (n := sq_code (sq_am g j)) (by have := sq_am_le (g := g) j; unfold sq_code; omega)) (by decide))
            | (refine Or.inr ⟨j + 1, by omega, ?_, ?_⟩
               · rw [hbe, sq_am, if_neg (fun t => absurd ((nI_ltI (hgb _) (hgb _)).mpr t) (Int32.not_lt.mpr (by rw [k0, hmo, hj, hg] at c153; exact c153)))]
               · rw [hmo, sq_am, if_neg (fun t => absurd ((nI_ltI (hgb _) (hgb _)).mpr t) (Int32.not_lt.mpr (by rw [k0, hmo, hj, hg] at c153; exact c153)))])
            | (have c8 : g (sq_am g j) < g (j + 1) := (nI_ltI (hgb _) (hgb _)).mp (Int32.not_le.mp (by rw [k0, hmo, hj, hg] at c153; exact c153))
               refine Or.inr ⟨j + 1, by omega, ?_, by rw [k0, sq_am, if_pos c8, hj, hg]⟩
               rw [hkd, hsp, sq_am, if_pos c8, ← hj]
               show nI 10 * nI q + nI (s + 1) = _
               rw [pk_mul, nI_add]
               exact congrArg nI (by rw [sq_code]; omega))
set_option maxRecDepth 100000 in
theorem lm_kind {sc : az_S} {τ g : Nat → Nat} {h : az_H} {x : Int32} {n : Nat} (hV : rt_V τ) (hx : x = nI n) (hn : 1 ≤ n ∧ n ≤ 60) (hg : ∀ k, sq_rc τ k n = g k) (hgb : ∀ k, g k < 2 ^ 31) : ∀ (d q : Nat) (be mo kd : Int32) (tl : List Value) (hh : az_H), q ≤ 6 → 6 - q = d → kd = nI q → sq_bs g (6 * q) be mo → (tl = [] ∨ (∃ a, tl = [.int a]) ∨ ∃ a b c e, tl = [.int a, .int b, .int c, .int e]) → rt_M 61 τ hh → (∀ a, a ≠ 61 → a ≠ 69 → a ≠ 73 → hh a = h a) → az_E sc az_m_X8_which 30 (.ref 59 :: .int x :: .int be :: .int mo :: .int kd :: tl) [] hh (fun v h1 => v = some (.int (nI (sq_code (sq_am g 35)))) ∧ rt_M 61 τ h1 ∧ ∀ a, a ≠ 61 → a ≠ 69 → a ≠ 73 → h1 a = h a) := by
  intro d
  induction d with
  | zero =>
    intro q be mo kd tl hh hq hd hkd hb htl hM hF
    have he : q = 6 := by omega
    refine az_er 2 rfl ?_
    refine az_ic_ge rfl rfl (fun c34 => ?_) (fun c34 => absurd (by rw [hkd, he]; decide) c34)
    refine az_er 1 rfl ?_
    refine az_eret rfl rfl rfl ?_
    rcases hb with ⟨h0, _⟩ | ⟨j, hj, hbe, _⟩
    · omega
    · exact ⟨by rw [hbe, show j = 35 by omega], hM, hF⟩
  | succ d ih =>
    intro q be mo kd tl hh hq hd hkd hb htl hM hF
    rcases htl with rfl | ⟨a9, rfl⟩ | ⟨a9, b9, c9, e9, rfl⟩
    · skip
      refine az_er 2 rfl ?_
      refine az_ic_ge rfl rfl (fun c34 => absurd c34 (by rw [hkd]; exact nI_ge (b := 6) (by omega) (by omega))) (fun c34 => ?_)
      refine az_er 2 rfl ?_
      refine lm_span hV hx hn (show q < 6 by omega) hkd hg hgb (fun be mo sp tl h2 k0 k1 k2 k3 => ?_) 6 0 _ _ 1 [] hh (by decide) rfl rfl hb (Or.inl rfl) hM hF
      rcases k1 with rfl | ⟨u1, u2, u3, rfl⟩
      · refine az_er 2 rfl ?_
        exact ih (q + 1) _ _ _ _ _ (by omega) (by omega) (by rw [hkd]; exact nI_1' q) k0 (Or.inr (Or.inl ⟨_, rfl⟩)) k2 k3
      · refine az_er 2 rfl ?_
        exact ih (q + 1) _ _ _ _ _ (by omega) (by omega) (by rw [hkd]; exact nI_1' q) k0 (Or.inr (Or.inr ⟨_, _, _, _, rfl⟩)) k2 k3
    · skip
      refine az_er 2 rfl ?_
      refine az_ic_ge rfl rfl (fun c34 => absurd c34 (by rw [hkd]; exact nI_ge (b := 6) (by omega) (by omega))) (fun c34 => ?_)
      refine az_er 2 rfl ?_
      refine lm_span hV hx hn (show q < 6 by omega) hkd hg hgb (fun be mo sp tl h2 k0 k1 k2 k3 => ?_) 6 0 _ _ 1 [] hh (by decide) rfl rfl hb (Or.inl rfl) hM hF
      rcases k1 with rfl | ⟨u1, u2, u3, rfl⟩
      · refine az_er 2 rfl ?_
        exact ih (q + 1) _ _ _ _ _ (by omega) (by omega) (by rw [hkd]; exact nI_1' q) k0 (Or.inr (Or.inl ⟨_, rfl⟩)) k2 k3
      · refine az_er 2 rfl ?_
        exact ih (q + 1) _ _ _ _ _ (by omega) (by omega) (by rw [hkd]; exact nI_1' q) k0 (Or.inr (Or.inr ⟨_, _, _, _, rfl⟩)) k2 k3
    · skip
      refine az_er 2 rfl ?_
      refine az_ic_ge rfl rfl (fun c34 => absurd c34 (by rw [hkd]; exact nI_ge (b := 6) (by omega) (by omega))) (fun c34 => ?_)
      refine az_er 2 rfl ?_
      refine lm_span hV hx hn (show q < 6 by omega) hkd hg hgb (fun be mo sp tl h2 k0 k1 k2 k3 => ?_) 6 0 _ _ 1 _ hh (by decide) rfl rfl hb (Or.inr ⟨_, _, _, rfl⟩) hM hF
      rcases k1 with rfl | ⟨u1, u2, u3, rfl⟩
      · refine az_er 2 rfl ?_
        exact ih (q + 1) _ _ _ _ _ (by omega) (by omega) (by rw [hkd]; exact nI_1' q) k0 (Or.inr (Or.inl ⟨_, rfl⟩)) k2 k3
      · refine az_er 2 rfl ?_
        exact ih (q + 1) _ _ _ _ _ (by omega) (by omega) (by rw [hkd]; exact nI_1' q) k0 (Or.inr (Or.inr ⟨_, _, _, _, rfl⟩)) k2 k3
set_option maxRecDepth 100000 in
theorem op_which {x : Int32} : rt_op az_m_X7_which az_m_X8_which [.int x] := by
  intro sc σ h hC hW
  rcases rt_cas (x := x) (lo := 1) (hi := 60) with hx | hx | hx
  · refine ⟨-4, sp_ref σ 4, hW, ?_, ?_⟩
    · refine az_er 3 rfl ?_
      refine az_ecallF rfl rfl rfl rfl (ct_outB hx) ?_
      refine az_er 2 rfl ?_
      refine az_if_eq rfl rfl (fun c9 => absurd c9 (by decide)) (fun c9 => ?_)
      refine az_er 2 rfl ?_
      refine az_ecall rfl rfl rfl rfl (ct_refuse hC (k := 4) (by decide) (by decide)) ?_
      rintro _ hh ⟨rfl, hh2, hh3⟩
      refine az_eret rfl rfl rfl ?_
      exact ⟨rfl, hh2, hh3⟩
    · intro h1 hR
      refine az_er 3 rfl ?_
      refine az_ecallF rfl rfl rfl rfl (cm_isWrong.eq (by rw [az_outB hx]) rfl) ?_
      refine az_if_eq rfl rfl (fun c7 => absurd c7 (by decide)) (fun c7 => ?_)
      refine az_er 4 rfl ?_
      refine az_ecallF rfl rfl rfl rfl (cm_isWrong.eq (by rw [az_outB hx]) rfl) ?_
      refine az_ecall rfl rfl rfl rfl (cm_no hR (k := 4) (by decide) (by decide)) ?_
      rintro _ hh ⟨rfl, hh2, hh3⟩
      refine az_eret rfl rfl rfl ?_
      exact ⟨rfl, hh2, hh3⟩
  · refine ⟨-6, sp_ref σ 6, hW, ?_, ?_⟩
    · refine az_er 3 rfl ?_
      refine az_ecallF rfl rfl rfl rfl (ct_outR hx.1 hx.2) ?_
      refine az_er 2 rfl ?_
      refine az_if_eq rfl rfl (fun c9 => absurd c9 (by decide)) (fun c9 => ?_)
      refine az_er 2 rfl ?_
      refine az_ecall rfl rfl rfl rfl (ct_refuse hC (k := 6) (by decide) (by decide)) ?_
      rintro _ hh ⟨rfl, hh2, hh3⟩
      refine az_eret rfl rfl rfl ?_
      exact ⟨rfl, hh2, hh3⟩
    · intro h1 hR
      refine az_er 3 rfl ?_
      refine az_ecallF rfl rfl rfl rfl ((cm_isWrong (y := 60)).eq (by rw [az_outR hx]) rfl) ?_
      refine az_if_eq rfl rfl (fun c7 => absurd c7 (by decide)) (fun c7 => ?_)
      refine az_er 4 rfl ?_
      refine az_ecallF rfl rfl rfl rfl ((cm_isWrong (y := 60)).eq (by rw [az_outR hx]) rfl) ?_
      refine az_ecall rfl rfl rfl rfl (cm_no hR (k := 6) (by decide) (by decide)) ?_
      rintro _ hh ⟨rfl, hh2, hh3⟩
      refine az_eret rfl rfl rfl ?_
      exact ⟨rfl, hh2, hh3⟩
  · obtain ⟨n, hn, rfl⟩ := rt_nat (x := x) (m := 60) (Int32.le_trans (by decide) hx.1) hx.2 (by decide)
    have hn1 : 1 ≤ n := (nI_leI (a := 1) (by omega) (by omega)).mp hx.1
    refine ⟨nI (sq_code (sq_am (fun k => sq_rc σ.1 k n) 35)), σ, hW, ?_, ?_⟩
    · refine az_er 3 rfl ?_
      refine az_ecallF rfl rfl rfl rfl (ct_out0 hx.1 hx.2) ?_
      refine az_er 2 rfl ?_
      refine az_if_eq rfl rfl (fun c9 => ?_) (fun c9 => absurd rfl c9)
      refine az_er 2 rfl ?_
      refine az_ecall rfl rfl rfl rfl (ct_tally hC.1 hW.1 rfl hn) ?_
      rintro _ h2 ⟨rfl, l1, l3⟩
      refine az_er 4 rfl ?_
      refine az_E.mono (lp_which (g := (fun k => sq_rc σ.1 k n)) (fun k => Nat.lt_of_le_of_lt (sq_rc_le n) (by omega)) (fun k hk => l1 k hk) 35 0 0 1 (by decide) rfl rfl rfl) ?_
      rintro _ h3 ⟨rfl, rfl⟩
      exact ⟨rfl, rt_C_F hC (rt_Fs_n l3), fun a ha => l3 a (by omega) (by omega)⟩
    · intro h1 hR
      refine az_er 3 rfl ?_
      refine az_ecallF rfl rfl rfl rfl ((cm_isWrong (y := 60)).eq (by rw [az_out0 hx]) rfl) ?_
      refine az_if_eq rfl rfl (fun c7 => ?_) (fun c7 => absurd rfl c7)
      refine az_er 6 rfl ?_
      refine az_E.mono (lm_kind (τ := σ.1) (g := (fun k => sq_rc σ.1 k n)) hW.1 rfl ⟨hn1, hn⟩ (fun _ => rfl) (fun k => Nat.lt_of_le_of_lt (sq_rc_le n) (by omega)) 6 0 _ _ 0 [] h1 (by decide) rfl rfl (Or.inl ⟨rfl, rfl, rfl⟩) (Or.inl rfl) hR.1 (fun _ _ _ _ => rfl)) ?_
      rintro _ h3 ⟨rfl, l1, l3⟩
      have u : ∀ a, a ≠ 61 → a ≠ 63 → (a < 68 ∨ 73 < a) → h3 a = h1 a := fun a p q r => l3 a p (by omega) (by omega)
      exact ⟨rfl, rt_R_B hR l1 u, fun a ha => u a (by omega) (by omega) (by omega)⟩
