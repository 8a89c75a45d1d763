/-! what a Town's cells are behind a write -/
theorem rt_T_cong {b : Nat} {τ τ2 : Nat → Nat} {h : az_H} (hT : rt_T b τ h) (e : ∀ j, j < 70 → τ2 j = τ j) : rt_T b τ2 h := by
  obtain ⟨⟨t1, t2, t3, t4, t5, t6⟩, ts, tr, tw⟩ := hT
  refine ⟨⟨by rw [e _ (by omega)]; exact t1, by rw [e _ (by omega)]; exact t2, by rw [e _ (by omega)]; exact t3, by rw [e _ (by omega)]; exact t4, by rw [e _ (by omega)]; exact t5, by rw [e _ (by omega)]; exact t6⟩, fun i hi => ?_, fun i hi => ?_, fun i hi => ?_⟩
  · rw [e _ (by omega), e _ (by omega), e _ (by omega), e _ (by omega), e _ (by omega), e _ (by omega)]; exact ts i hi
  · rw [e _ (by omega), e _ (by omega), e _ (by omega)]; exact tr i hi
  · rw [e _ (by omega)]; exact tw i hi
theorem rt_T_h {b : Nat} {τ : Nat → Nat} {h h' : az_H} (hT : rt_T b τ h) (e : ∀ k, k ≤ 13 → h' (b + k) = h (b + k)) : rt_T b τ h' := by
  obtain ⟨⟨t1, t2, t3, t4, t5, t6⟩, ts, tr, tw⟩ := hT
  have e0 : h' b = h b := e 0 (by omega)
  refine ⟨⟨by rw [e0]; exact t1, by rw [e0]; exact t2, by rw [e0]; exact t3, by rw [e 1 (by omega)]; exact t4, by rw [e 8 (by omega)]; exact t5, by rw [e 12 (by omega)]; exact t6⟩, fun i hi => ?_, fun i hi => ?_, fun i hi => ?_⟩
  · rw [e 2 (by omega), e 3 (by omega), e 4 (by omega), e 5 (by omega), e 6 (by omega), e 7 (by omega)]; exact ts i hi
  · rw [e 9 (by omega), e 10 (by omega), e 11 (by omega)]; exact tr i hi
  · rw [e 13 (by omega)]; exact tw i hi
theorem rt_T_right {b i : Nat} {τ τ2 : Nat → Nat} {h : az_H} {v : Int32} (hT : rt_T b τ h) (hi : i < 6) (e : ∀ j, j ≠ 42 + 3 * i → τ2 j = τ j) (hv : v = nI (τ2 (42 + 3 * i))) : rt_T b τ2 (az_up h (b + 11) i v) := by
  obtain ⟨⟨t1, t2, t3, t4, t5, t6⟩, ts, tr, tw⟩ := hT
  have o9 : ∀ k, k ≠ 11 → az_up h (b + 11) i v (b + k) = h (b + k) := fun k hk => az_up_o (by omega)
  have o0 : az_up h (b + 11) i v b = h b := az_up_o (by omega)
  refine ⟨⟨by rw [o0, e _ (by omega)]; exact t1, by rw [o0, e _ (by omega)]; exact t2, by rw [o0, e _ (by omega)]; exact t3, by rw [o9 1 (by omega), e _ (by omega)]; exact t4, by rw [o9 8 (by omega), e _ (by omega)]; exact t5, by rw [o9 12 (by omega), e _ (by omega)]; exact t6⟩, fun s hs => ?_, fun r hr => ?_, fun w hw => ?_⟩
  · rw [o9 2 (by omega), o9 3 (by omega), o9 4 (by omega), o9 5 (by omega), o9 6 (by omega), o9 7 (by omega), e _ (by omega), e _ (by omega), e _ (by omega), e _ (by omega), e _ (by omega), e _ (by omega)]; exact ts s hs
  · rw [o9 9 (by omega), o9 10 (by omega), e (40 + 3 * r) (by omega), e (41 + 3 * r) (by omega)]
    refine ⟨(tr r hr).1, (tr r hr).2.1, ?_⟩
    by_cases h9 : r = i
    · subst h9
      rw [az_up_s, hv]
    · rw [az_up_n h9, e _ (by omega)]
      exact (tr r hr).2.2
  · rw [o9 13 (by omega), e _ (by omega)]; exact tw w hw
theorem az_sh_o {h : az_H} {k k' i : Nat} (hk : k' ≠ k) : az_sh h k i k' = h k' := by simp [az_sh, hk]
theorem rt_T_mem {b p : Nat} {τ : Nat → Nat} {h : az_H} (hT : rt_T b τ h) : rt_T b (sq_mem τ p) (az_up (az_up (az_sh h (b + 13) 0) (b + 13) 0 (nI p)) (b + 12) 1 (nI (min (τ 4 + 1) 8))) := by
  obtain ⟨⟨t1, t2, t3, t4, t5, t6⟩, ts, tr, tw⟩ := hT
  have o9 : ∀ k, k < 12 → az_up (az_up (az_sh h (b + 13) 0) (b + 13) 0 (nI p)) (b + 12) 1 (nI (min (τ 4 + 1) 8)) (b + k) = h (b + k) := fun k hk => by
    rw [az_up_o (by omega), az_up_o (by omega), az_sh_o (by omega)]
  have o0 : az_up (az_up (az_sh h (b + 13) 0) (b + 13) 0 (nI p)) (b + 12) 1 (nI (min (τ 4 + 1) 8)) b = h b := by
    rw [az_up_o (by omega), az_up_o (by omega), az_sh_o (by omega)]
  have e : ∀ j, j ≠ 4 → j < 60 → sq_mem τ p j = τ j := fun j h1 h2 => by rw [sq_mem, if_neg h1, if_neg (by omega), if_neg (by omega)]
  refine ⟨⟨by rw [o0, e _ (by omega) (by omega)]; exact t1, by rw [o0, e _ (by omega) (by omega)]; exact t2, by rw [o0, e _ (by omega) (by omega)]; exact t3, by rw [o9 1 (by omega), e _ (by omega) (by omega)]; exact t4, by rw [o9 8 (by omega), e _ (by omega) (by omega)]; exact t5, by rw [az_up_s, sq_mem, if_pos rfl]⟩, fun s hs => ?_, fun r hr => ?_, fun w hw => ?_⟩
  · rw [o9 2 (by omega), o9 3 (by omega), o9 4 (by omega), o9 5 (by omega), o9 6 (by omega), o9 7 (by omega), e _ (by omega) (by omega), e _ (by omega) (by omega), e _ (by omega) (by omega), e _ (by omega) (by omega), e _ (by omega) (by omega), e _ (by omega) (by omega)]; exact ts s hs
  · rw [o9 9 (by omega), o9 10 (by omega), o9 11 (by omega), e _ (by omega) (by omega), e _ (by omega) (by omega), e _ (by omega) (by omega)]; exact tr r hr
  · rw [az_up_o (by omega)]
    by_cases h9 : w = 0
    · subst h9
      rw [az_up_s, sq_mem, if_neg (by omega), if_pos rfl]
    · rw [az_up_n h9, sq_mem, if_neg (by omega), if_neg (by omega), if_pos (by omega)]
      have h1 := tw (w - 1) (by omega)
      simp only [az_sh, if_true]
      rw [if_pos (by omega), h1, show 60 + w - 1 = 60 + (w - 1) by omega]
theorem rt_T_num {b : Nat} {τ τ2 : Nat → Nat} {h : az_H} {v : Int32} (hT : rt_T b τ h) (e : ∀ j, j ≠ 3 → τ2 j = τ j) (hv : v = nI (τ2 3)) : rt_T b τ2 (az_up h b 5 v) := by
  obtain ⟨⟨t1, t2, t3, t4, t5, t6⟩, ts, tr, tw⟩ := hT
  have o9 : ∀ k, k ≠ 0 → az_up h b 5 v (b + k) = h (b + k) := fun k hk => az_up_o (by omega)
  refine ⟨⟨by rw [az_up_n (by omega), e _ (by omega)]; exact t1, by rw [az_up_n (by omega), e _ (by omega)]; exact t2, by rw [az_up_s, hv], by rw [o9 1 (by omega), e _ (by omega)]; exact t4, by rw [o9 8 (by omega), e _ (by omega)]; exact t5, by rw [o9 12 (by omega), e _ (by omega)]; exact t6⟩, fun s hs => ?_, fun r hr => ?_, fun w hw => ?_⟩
  · rw [o9 2 (by omega), o9 3 (by omega), o9 4 (by omega), o9 5 (by omega), o9 6 (by omega), o9 7 (by omega), e _ (by omega), e _ (by omega), e _ (by omega), e _ (by omega), e _ (by omega), e _ (by omega)]; exact ts s hs
  · rw [o9 9 (by omega), o9 10 (by omega), o9 11 (by omega), e _ (by omega), e _ (by omega), e _ (by omega)]; exact tr r hr
  · rw [o9 13 (by omega), e _ (by omega)]; exact tw w hw
theorem nI_m8 {s : Nat} (hs : s ≤ 8) : (if (8 : Int32) < nI s + Int32.ofInt 1 then (8 : Int32) else nI s + Int32.ofInt 1) = nI (min (s + 1) 8) := by
  rw [nI_1', show (8 : Int32) = nI 8 from rfl]
  by_cases h : 8 < s + 1
  · rw [if_pos ((nI_ltI (by omega) (by omega)).mpr h), Nat.min_eq_right (by omega)]
  · rw [if_neg (fun q => h ((nI_ltI (by omega) (by omega)).mp q)), Nat.min_eq_left (by omega)]
/-- behind a week -/
def rt_G (b : Nat) (τ : Nat → Nat) (h h' : az_H) : Prop := rt_T b (sq_st τ) h' ∧ h' b 8 = nI (sq_pr τ) ∧ (∀ s, s < τ 0 → h' (b + 14) s = sq_b (sq_go τ s)) ∧ ∀ a, a < b ∨ b + 14 < a → h' a = h a
set_option maxRecDepth 100000 in
theorem lp_madd_1 {sc : az_S} {h : az_H} {s : Nat} {p : Int32} (h8 : s ≤ 8) (hs : h 13 1 = nI s) : ∀ (d : Nat) (x : Int32), d ≤ 7 → x = nI d → az_E sc az_m_X1_add 8 [.ref 13, .int p, .int x] [] (az_sh h 14 d) (fun v h' => v = none ∧ h' = az_up (az_up (az_sh h 14 0) 14 0 p) 13 1 (nI (min (s + 1) 8))) := by
  intro d
  induction d with
  | zero =>
    intro x hd hx
    refine az_er 1 rfl ?_
    refine az_if_le rfl rfl (fun c9 => ?_) (fun c9 => absurd (show (x : Int32) ≤ 0 by rw [hx]; exact Int32.le_refl _) c9)
    refine az_er 4 rfl ?_
    refine az_ecallF rfl rfl rfl rfl (ct_putI (j := 0) rfl rfl (by decide) (by decide)) ?_
    refine az_er 6 rfl ?_
    refine az_er 2 rfl ?_
    refine az_eret rfl rfl rfl ?_
    exact ⟨rfl, by rw [az_up_o (by decide), show az_sh h 14 0 13 1 = h 13 1 from rfl, hs, show Int8.toInt32 (Int8.ofInt 8) = (8 : Int32) from rfl, nI_m8 h8]⟩
  | succ d ih =>
    intro x hd hx
    refine az_er 1 rfl ?_
    refine az_if_le rfl rfl (fun c9 => absurd c9 (by rw [hx]; exact nI_nle (by omega) (by omega))) (fun c9 => ?_)
    refine az_er 8 rfl ?_
    refine az_ecallF rfl rfl rfl rfl (ct_atI (v := az_sh h 14 (d + 1) 14 d) rfl (show x - Int32.ofInt 1 = nI d by rw [hx]; exact nI_pred d) (by omega) (by decide) rfl) ?_
    refine az_ecallF rfl rfl rfl rfl (ct_putI rfl hx (by omega) (by decide)) ?_
    refine az_er 2 rfl ?_
    rw [az_sh_s (by omega)]
    exact ih _ (by omega) (by rw [hx]; exact pk_m1 d)
set_option maxRecDepth 100000 in
theorem ct_madd_1 {sc : az_S} {h : az_H} {s : Nat} {p : Int32} (h8 : s ≤ 8) (hs : h 13 1 = nI s) : az_F sc az_m_X1_add [.ref 13, .int p] h none (az_up (az_up (az_sh h 14 0) 14 0 p) 13 1 (nI (min (s + 1) 8))) := by
  refine az_F.of ?_
  refine az_er 6 rfl ?_
  have := lp_madd_1 (sc := sc) (p := p) h8 hs 7 7 (Nat.le_refl 7) rfl
  rw [az_sh_7] at this
  exact this
set_option maxRecDepth 100000 in
theorem rt_T_st_1 {τ : Nat → Nat} {hh : az_H} {v : Int32} (hV : rt_V τ) (hT2 : rt_T 1 (sq_rt τ (τ 1)) hh) (hv : v = nI (τ 3)) : rt_T 1 (sq_st τ) (az_up (az_up (az_up (az_sh hh 14 0) 14 0 (nI (sq_pr τ))) 13 1 (nI (min (τ 4 + 1) 8))) 1 5 (v + Int32.ofInt 1)) := by
  have h4t : sq_rt τ (τ 1) 4 = τ 4 := sq_rt_of (by omega) hV.2.1
  have h3t : sq_rt τ (τ 1) 3 = τ 3 := sq_rt_of (by omega) hV.2.1
  have := rt_T_mem (p := sq_pr τ) hT2
  rw [h4t] at this
  refine rt_T_num this (fun j hj => by rw [sq_st, if_neg hj]) ?_
  rw [sq_st, if_pos rfl, hv]
  exact nI_1' _
set_option maxRecDepth 100000 in
theorem lp_goBy_1 {sc : az_S} {τ : Nat → Nat} {h : az_H} (hT : rt_T 1 τ h) (hV : rt_V τ) : ∀ (d i : Nat) (x : Int32) (hh : az_H), i ≤ τ 1 → τ 1 - i = d → x = nI i → rt_T 1 (sq_rt τ i) hh → hh 1 8 = nI (sq_pr τ) → (∀ s, s < τ 0 → hh 15 s = sq_b (sq_go τ s)) → (∀ a, a < 1 ∨ 15 < a → hh a = h a) → rt_U 1 τ hh → az_E sc az_m_X6_goBy 10 [.ref 1, .int x] [] hh (fun v h' => v = some (.int (nI (sq_pr τ))) ∧ rt_G 1 τ h h') := by
  have b0 : τ 0 ≤ 4 := hV.1
  have b1 : τ 1 ≤ 6 := hV.2.1
  have b2 : τ 2 ≤ 60 := hV.2.2.1
  have b4 : τ 4 ≤ 8 := hV.2.2.2.1
  intro d
  induction d with
  | zero =>
    intro i x hh hi hd hx hT2 hp hg ha9 hU
    have he : i = τ 1 := by omega
    have h1t : sq_rt τ i 1 = τ 1 := sq_rt_of (by omega) (by omega)
    have e1 : hh 9 3 = nI (τ 1) := by rw [← h1t]; exact hT2.1.2.2.2.2.1
    refine az_er 4 rfl ?_
    refine az_ic_ge rfl rfl (fun c18 => ?_) (fun c18 => absurd (by rw [e1, hx, he]; exact nI_le (Nat.le_refl _) (by omega)) c18)
    refine az_er 4 rfl ?_
    rw [hp]
    refine az_ecallF rfl rfl rfl rfl (ct_madd_1 (s := τ 4) b4 (by rw [← show sq_rt τ i 4 = τ 4 from sq_rt_of (by omega) (by omega)]; exact hT2.1.2.2.2.2.2)) ?_
    refine az_er 8 rfl ?_
    refine az_eret rfl rfl rfl ?_
    exact ⟨by rw [az_up_n (by decide), az_up_o (by decide), az_up_o (by decide), show az_sh hh 14 0 1 8 = hh 1 8 from rfl, hp], rt_T_st_1 hV (he ▸ hT2) (by rw [az_up_o (by decide), az_up_o (by decide)]; exact hT2.1.2.2.1.trans (congrArg nI (sq_rt_of (by omega) (by omega)))), by rw [az_up_n (by decide), az_up_o (by decide), az_up_o (by decide)]; exact hp, fun s hs => by rw [az_up_o (by decide), az_up_o (by decide), az_up_o (by decide)]; exact hg s hs, fun a ha => by rw [az_up_o (by omega), az_up_o (by omega), az_up_o (by omega)]; exact (if_neg (by omega)).trans (ha9 a ha)⟩
  | succ d ih =>
    intro i x hh hi hd hx hT2 hp hg ha9 hU
    have hlt : i < τ 1 := by omega
    have h1t : sq_rt τ i 1 = τ 1 := sq_rt_of (by omega) (by omega)
    have e1 : hh 9 3 = nI (τ 1) := by rw [← h1t]; exact hT2.1.2.2.2.2.1
    refine az_er 4 rfl ?_
    refine az_ic_ge rfl rfl (fun c18 => absurd c18 (by rw [e1, hx]; exact nI_ge hlt (by omega))) (fun c18 => ?_)
    refine az_er 4 rfl ?_
    refine az_ecallF rfl rfl rfl rfl (ct_atV rfl hx (by omega) (by decide) (show hh 1 (100 + i) = sq_fb τ i from hU i hlt)) ?_
    refine az_ecallF rfl rfl rfl rfl (ct_isRight_1 hT2 (rt_V_rt hV (by omega)) hp) ?_
    rw [show sq_rt τ i 2 = τ 2 from sq_rt_of (by omega) (by omega)]
    refine az_if_eq rfl rfl (fun c33 => ?_) (fun c33 => ?_)
    · refine az_er 2 rfl ?_
      have hri : sq_ri τ i = false := by
        rw [sq_ri]
        refine decide_eq_false (fun q => ?_)
        rw [if_pos q] at c33
        exact absurd c33 (by decide)
      refine ih (i + 1) _ hh (by omega) (by omega) (by rw [hx]; exact nI_1' i) (rt_T_cong hT2 (fun j hj => ?_)) hp hg ha9 hU
      unfold sq_rt
      by_cases hc : 42 ≤ j ∧ j < 42 + 3 * i ∧ j % 3 = 0 ∧ sq_ri τ ((j - 42) / 3) = true
      · rw [if_pos hc, if_pos ⟨hc.1, by omega, hc.2.2⟩]
      · rw [if_neg hc, if_neg]
        rintro ⟨q1, q2, q3, q4⟩
        refine hc ⟨q1, ?_, q3, q4⟩
        rcases (show j < 42 + 3 * i ∨ j = 42 + 3 * i by omega) with q | rfl
        · exact q
        · rw [show (42 + 3 * i - 42) / 3 = i by omega, hri] at q4
          cases q4
    · refine az_er 8 rfl ?_
      refine az_ecallF rfl rfl rfl rfl (ct_atI rfl hx (by omega) (by decide) (hT2.2.2.1 i (by omega)).2.2) ?_
      refine az_er 2 rfl ?_
      refine az_ecallF rfl rfl rfl rfl (ct_putI rfl hx (by omega) (by decide)) ?_
      refine az_er 2 rfl ?_
      have hri : sq_ri τ i = true := by
        rw [sq_ri]
        refine decide_eq_true (Classical.byContradiction fun q => ?_)
        rw [if_neg q] at c33
        exact c33 rfl
      refine ih (i + 1) _ _ (by omega) (by omega) (by rw [hx]; exact nI_1' i) (rt_T_right hT2 (by omega) (fun j hj => ?_) ?_) (by rw [az_up_o (by decide)]; exact hp) (fun s hs => by rw [az_up_o (by decide)]; exact hg s hs) (fun a ha => by rw [az_up_o (by omega)]; exact ha9 a ha) (fun r hr => by rw [az_up_o (by decide)]; exact hU r hr)
      · unfold sq_rt
        by_cases hc : 42 ≤ j ∧ j < 42 + 3 * i ∧ j % 3 = 0 ∧ sq_ri τ ((j - 42) / 3) = true
        · rw [if_pos hc, if_pos ⟨hc.1, by omega, hc.2.2⟩]
        · rw [if_neg hc, if_neg (fun q => hc ⟨q.1, by omega, q.2.2⟩)]
      · rw [sq_rt_s, sq_rt_s, if_neg (fun q => Nat.lt_irrefl i q.1), if_pos ⟨by omega, hri⟩]
        exact nI_1' _
set_option maxRecDepth 100000 in
theorem ct_goBy_1 {sc : az_S} {τ : Nat → Nat} {h : az_H} (hT : rt_T 1 τ h) (hV : rt_V τ) : az_E sc az_m_X6_goBy 0 [.ref 1] [] h (fun v h' => v = some (.int (nI (sq_pr τ))) ∧ rt_G 1 τ h h') := by
  refine cx_goBy_1 hT hV (fun h2 hD hU => ?_)
  obtain ⟨hF, hp, hg⟩ := hD
  refine az_er 2 rfl ?_
  exact lp_goBy_1 hT hV (τ 1) 0 0 h2 (Nat.zero_le _) (by omega) rfl (rt_T_cong (rt_T_F hT hF) (fun j _ => by unfold sq_rt; rw [if_neg (by omega)])) hp hg (fun a ha => hF.1 a (by omega) (by omega)) hU
set_option maxRecDepth 100000 in
theorem ct_worthOne_1 {sc : az_S} {τ : Nat → Nat} {h : az_H} (hT : rt_T 1 τ h) {x : Int32} {j p : Nat} {g : Bool} (hj : j < 4) (hx : x = nI j) (hg : h 15 j = sq_b g) (hp : h 1 8 = nI p) : az_F sc az_m_X6_worthToOne [.ref 1, .int x] h (some (.int (sq_w τ g p j))) h := by
  have e2 : h 1 3 = nI (τ 2) := hT.1.1
  have e5 : h 1 4 = nI (τ 5) := hT.1.2.1
  refine az_F.of ?_
  cases g
  · refine az_er 3 rfl ?_
    refine az_ecallF rfl rfl rfl rfl (ct_atI rfl hx hj (by decide) hg) ?_
    refine az_if_ne rfl rfl (fun c8 => absurd rfl c8) (fun c8 => ?_)
    refine az_er 4 rfl ?_
    refine az_ecallF rfl rfl rfl rfl (ct_atI rfl hx hj (by decide) (hT.2.1 j hj).2.2.2.2.2) ?_
    refine az_eret rfl rfl rfl ?_
    exact ⟨rfl, rfl⟩
  · refine az_er 3 rfl ?_
    refine az_ecallF rfl rfl rfl rfl (ct_atI rfl hx hj (by decide) hg) ?_
    refine az_if_ne rfl rfl (fun c8 => ?_) (fun c8 => absurd c8 (show ¬ sq_b true = 0 by decide))
    refine az_er 4 rfl ?_
    rw [hp, e2]
    refine az_ic_gt rfl rfl (fun c31 => ?_) (fun c31 => ?_)
    · refine az_er 4 rfl ?_
      refine az_ecallF rfl rfl rfl rfl (ct_atI rfl hx hj (by decide) (hT.2.1 j hj).2.2.2.2.1) ?_
      refine az_er 3 rfl ?_
      refine az_eret rfl rfl rfl ?_
      exact ⟨by rw [e5, sq_w, if_pos rfl, sq_wg, if_neg (Int32.not_le.mpr c31)], rfl⟩
    · refine az_er 4 rfl ?_
      refine az_ecallF rfl rfl rfl rfl (ct_atI rfl hx hj (by decide) (hT.2.1 j hj).2.2.2.1) ?_
      refine az_er 4 rfl ?_
      refine az_eret rfl rfl rfl ?_
      exact ⟨by rw [e5, sq_w, if_pos rfl, sq_wg, if_pos (Int32.not_lt.mp c31)], rfl⟩
set_option maxRecDepth 100000 in
theorem lp_madd_16 {sc : az_S} {h : az_H} {s : Nat} {p : Int32} (h8 : s ≤ 8) (hs : h 28 1 = nI s) : ∀ (d : Nat) (x : Int32), d ≤ 7 → x = nI d → az_E sc az_m_X1_add 8 [.ref 28, .int p, .int x] [] (az_sh h 29 d) (fun v h' => v = none ∧ h' = az_up (az_up (az_sh h 29 0) 29 0 p) 28 1 (nI (min (s + 1) 8))) := by
  intro d
  induction d with
  | zero =>
    intro x hd hx
    refine az_er 1 rfl ?_
    refine az_if_le rfl rfl (fun c9 => ?_) (fun c9 => absurd (show (x : Int32) ≤ 0 by rw [hx]; exact Int32.le_refl _) c9)
    refine az_er 4 rfl ?_
    refine az_ecallF rfl rfl rfl rfl (ct_putI (j := 0) rfl rfl (by decide) (by decide)) ?_
    refine az_er 6 rfl ?_
    refine az_er 2 rfl ?_
    refine az_eret rfl rfl rfl ?_
    exact ⟨rfl, by rw [az_up_o (by decide), show az_sh h 29 0 28 1 = h 28 1 from rfl, hs, show Int8.toInt32 (Int8.ofInt 8) = (8 : Int32) from rfl, nI_m8 h8]⟩
  | succ d ih =>
    intro x hd hx
    refine az_er 1 rfl ?_
    refine az_if_le rfl rfl (fun c9 => absurd c9 (by rw [hx]; exact nI_nle (by omega) (by omega))) (fun c9 => ?_)
    refine az_er 8 rfl ?_
    refine az_ecallF rfl rfl rfl rfl (ct_atI (v := az_sh h 29 (d + 1) 29 d) rfl (show x - Int32.ofInt 1 = nI d by rw [hx]; exact nI_pred d) (by omega) (by decide) rfl) ?_
    refine az_ecallF rfl rfl rfl rfl (ct_putI rfl hx (by omega) (by decide)) ?_
    refine az_er 2 rfl ?_
    rw [az_sh_s (by omega)]
    exact ih _ (by omega) (by rw [hx]; exact pk_m1 d)
set_option maxRecDepth 100000 in
theorem ct_madd_16 {sc : az_S} {h : az_H} {s : Nat} {p : Int32} (h8 : s ≤ 8) (hs : h 28 1 = nI s) : az_F sc az_m_X1_add [.ref 28, .int p] h none (az_up (az_up (az_sh h 29 0) 29 0 p) 28 1 (nI (min (s + 1) 8))) := by
  refine az_F.of ?_
  refine az_er 6 rfl ?_
  have := lp_madd_16 (sc := sc) (p := p) h8 hs 7 7 (Nat.le_refl 7) rfl
  rw [az_sh_7] at this
  exact this
set_option maxRecDepth 100000 in
theorem rt_T_st_16 {τ : Nat → Nat} {hh : az_H} {v : Int32} (hV : rt_V τ) (hT2 : rt_T 16 (sq_rt τ (τ 1)) hh) (hv : v = nI (τ 3)) : rt_T 16 (sq_st τ) (az_up (az_up (az_up (az_sh hh 29 0) 29 0 (nI (sq_pr τ))) 28 1 (nI (min (τ 4 + 1) 8))) 16 5 (v + Int32.ofInt 1)) := by
  have h4t : sq_rt τ (τ 1) 4 = τ 4 := sq_rt_of (by omega) hV.2.1
  have h3t : sq_rt τ (τ 1) 3 = τ 3 := sq_rt_of (by omega) hV.2.1
  have := rt_T_mem (p := sq_pr τ) hT2
  rw [h4t] at this
  refine rt_T_num this (fun j hj => by rw [sq_st, if_neg hj]) ?_
  rw [sq_st, if_pos rfl, hv]
  exact nI_1' _
set_option maxRecDepth 100000 in
theorem lp_goBy_16 {sc : az_S} {τ : Nat → Nat} {h : az_H} (hT : rt_T 16 τ h) (hV : rt_V τ) : ∀ (d i : Nat) (x : Int32) (hh : az_H), i ≤ τ 1 → τ 1 - i = d → x = nI i → rt_T 16 (sq_rt τ i) hh → hh 16 8 = nI (sq_pr τ) → (∀ s, s < τ 0 → hh 30 s = sq_b (sq_go τ s)) → (∀ a, a < 16 ∨ 30 < a → hh a = h a) → rt_U 16 τ hh → az_E sc az_m_X6_goBy 10 [.ref 16, .int x] [] hh (fun v h' => v = some (.int (nI (sq_pr τ))) ∧ rt_G 16 τ h h') := by
  have b0 : τ 0 ≤ 4 := hV.1
  have b1 : τ 1 ≤ 6 := hV.2.1
  have b2 : τ 2 ≤ 60 := hV.2.2.1
  have b4 : τ 4 ≤ 8 := hV.2.2.2.1
  intro d
  induction d with
  | zero =>
    intro i x hh hi hd hx hT2 hp hg ha9 hU
    have he : i = τ 1 := by omega
    have h1t : sq_rt τ i 1 = τ 1 := sq_rt_of (by omega) (by omega)
    have e1 : hh 24 3 = nI (τ 1) := by rw [← h1t]; exact hT2.1.2.2.2.2.1
    refine az_er 4 rfl ?_
    refine az_ic_ge rfl rfl (fun c18 => ?_) (fun c18 => absurd (by rw [e1, hx, he]; exact nI_le (Nat.le_refl _) (by omega)) c18)
    refine az_er 4 rfl ?_
    rw [hp]
    refine az_ecallF rfl rfl rfl rfl (ct_madd_16 (s := τ 4) b4 (by rw [← show sq_rt τ i 4 = τ 4 from sq_rt_of (by omega) (by omega)]; exact hT2.1.2.2.2.2.2)) ?_
    refine az_er 8 rfl ?_
    refine az_eret rfl rfl rfl ?_
    exact ⟨by rw [az_up_n (by decide), az_up_o (by decide), az_up_o (by decide), show az_sh hh 29 0 16 8 = hh 16 8 from rfl, hp], rt_T_st_16 hV (he ▸ hT2) (by rw [az_up_o (by decide), az_up_o (by decide)]; exact hT2.1.2.2.1.trans (congrArg nI (sq_rt_of (by omega) (by omega)))), by rw [az_up_n (by decide), az_up_o (by decide), az_up_o (by decide)]; exact hp, fun s hs => by rw [az_up_o (by decide), az_up_o (by decide), az_up_o (by decide)]; exact hg s hs, fun a ha => by rw [az_up_o (by omega), az_up_o (by omega), az_up_o (by omega)]; exact (if_neg (by omega)).trans (ha9 a ha)⟩
  | succ d ih =>
    intro i x hh hi hd hx hT2 hp hg ha9 hU
    have hlt : i < τ 1 := by omega
    have h1t : sq_rt τ i 1 = τ 1 := sq_rt_of (by omega) (by omega)
    have e1 : hh 24 3 = nI (τ 1) := by rw [← h1t]; exact hT2.1.2.2.2.2.1
    refine az_er 4 rfl ?_
    refine az_ic_ge rfl rfl (fun c18 => absurd c18 (by rw [e1, hx]; exact nI_ge hlt (by omega))) (fun c18 => ?_)
    refine az_er 4 rfl ?_
    refine az_ecallF rfl rfl rfl rfl (ct_atV rfl hx (by omega) (by decide) (show hh 16 (100 + i) = sq_fb τ i from hU i hlt)) ?_
    refine az_ecallF rfl rfl rfl rfl (ct_isRight_16 hT2 (rt_V_rt hV (by omega)) hp) ?_
    rw [show sq_rt τ i 2 = τ 2 from sq_rt_of (by omega) (by omega)]
    refine az_if_eq rfl rfl (fun c33 => ?_) (fun c33 => ?_)
    · refine az_er 2 rfl ?_
      have hri : sq_ri τ i = false := by
        rw [sq_ri]
        refine decide_eq_false (fun q => ?_)
        rw [if_pos q] at c33
        exact absurd c33 (by decide)
      refine ih (i + 1) _ hh (by omega) (by omega) (by rw [hx]; exact nI_1' i) (rt_T_cong hT2 (fun j hj => ?_)) hp hg ha9 hU
      unfold sq_rt
      by_cases hc : 42 ≤ j ∧ j < 42 + 3 * i ∧ j % 3 = 0 ∧ sq_ri τ ((j - 42) / 3) = true
      · rw [if_pos hc, if_pos ⟨hc.1, by omega, hc.2.2⟩]
      · rw [if_neg hc, if_neg]
        rintro ⟨q1, q2, q3, q4⟩
        refine hc ⟨q1, ?_, q3, q4⟩
        rcases (show j < 42 + 3 * i ∨ j = 42 + 3 * i by omega) with q | rfl
        · exact q
        · rw [show (42 + 3 * i - 42) / 3 = i by omega, hri] at q4
          cases q4
    · refine az_er 8 rfl ?_
      refine az_ecallF rfl rfl rfl rfl (ct_atI rfl hx (by omega) (by decide) (hT2.2.2.1 i (by omega)).2.2) ?_
      refine az_er 2 rfl ?_
      refine az_ecallF rfl rfl rfl rfl (ct_putI rfl hx (by omega) (by decide)) ?_
      refine az_er 2 rfl ?_
      have hri : sq_ri τ i = true := by
        rw [sq_ri]
        refine decide_eq_true (Classical.byContradiction fun q => ?_)
        rw [if_neg q] at c33
        exact c33 rfl
      refine ih (i + 1) _ _ (by omega) (by omega) (by rw [hx]; exact nI_1' i) (rt_T_right hT2 (by omega) (fun j hj => ?_) ?_) (by rw [az_up_o (by decide)]; exact hp) (fun s hs => by rw [az_up_o (by decide)]; exact hg s hs) (fun a ha => by rw [az_up_o (by omega)]; exact ha9 a ha) (fun r hr => by rw [az_up_o (by decide)]; exact hU r hr)
      · unfold sq_rt
        by_cases hc : 42 ≤ j ∧ j < 42 + 3 * i ∧ j % 3 = 0 ∧ sq_ri τ ((j - 42) / 3) = true
        · rw [if_pos hc, if_pos ⟨hc.1, by omega, hc.2.2⟩]
        · rw [if_neg hc, if_neg (fun q => hc ⟨q.1, by omega, q.2.2⟩)]
      · rw [sq_rt_s, sq_rt_s, if_neg (fun q => Nat.lt_irrefl i q.1), if_pos ⟨by omega, hri⟩]
        exact nI_1' _
set_option maxRecDepth 100000 in
theorem ct_goBy_16 {sc : az_S} {τ : Nat → Nat} {h : az_H} (hT : rt_T 16 τ h) (hV : rt_V τ) : az_E sc az_m_X6_goBy 0 [.ref 16] [] h (fun v h' => v = some (.int (nI (sq_pr τ))) ∧ rt_G 16 τ h h') := by
  refine cx_goBy_16 hT hV (fun h2 hD hU => ?_)
  obtain ⟨hF, hp, hg⟩ := hD
  refine az_er 2 rfl ?_
  exact lp_goBy_16 hT hV (τ 1) 0 0 h2 (Nat.zero_le _) (by omega) rfl (rt_T_cong (rt_T_F hT hF) (fun j _ => by unfold sq_rt; rw [if_neg (by omega)])) hp hg (fun a ha => hF.1 a (by omega) (by omega)) hU
set_option maxRecDepth 100000 in
theorem ct_worthOne_16 {sc : az_S} {τ : Nat → Nat} {h : az_H} (hT : rt_T 16 τ h) {x : Int32} {j p : Nat} {g : Bool} (hj : j < 4) (hx : x = nI j) (hg : h 30 j = sq_b g) (hp : h 16 8 = nI p) : az_F sc az_m_X6_worthToOne [.ref 16, .int x] h (some (.int (sq_w τ g p j))) h := by
  have e2 : h 16 3 = nI (τ 2) := hT.1.1
  have e5 : h 16 4 = nI (τ 5) := hT.1.2.1
  refine az_F.of ?_
  cases g
  · refine az_er 3 rfl ?_
    refine az_ecallF rfl rfl rfl rfl (ct_atI rfl hx hj (by decide) hg) ?_
    refine az_if_ne rfl rfl (fun c8 => absurd rfl c8) (fun c8 => ?_)
    refine az_er 4 rfl ?_
    refine az_ecallF rfl rfl rfl rfl (ct_atI rfl hx hj (by decide) (hT.2.1 j hj).2.2.2.2.2) ?_
    refine az_eret rfl rfl rfl ?_
    exact ⟨rfl, rfl⟩
  · refine az_er 3 rfl ?_
    refine az_ecallF rfl rfl rfl rfl (ct_atI rfl hx hj (by decide) hg) ?_
    refine az_if_ne rfl rfl (fun c8 => ?_) (fun c8 => absurd c8 (show ¬ sq_b true = 0 by decide))
    refine az_er 4 rfl ?_
    rw [hp, e2]
    refine az_ic_gt rfl rfl (fun c31 => ?_) (fun c31 => ?_)
    · refine az_er 4 rfl ?_
      refine az_ecallF rfl rfl rfl rfl (ct_atI rfl hx hj (by decide) (hT.2.1 j hj).2.2.2.2.1) ?_
      refine az_er 3 rfl ?_
      refine az_eret rfl rfl rfl ?_
      exact ⟨by rw [e5, sq_w, if_pos rfl, sq_wg, if_neg (Int32.not_le.mpr c31)], rfl⟩
    · refine az_er 4 rfl ?_
      refine az_ecallF rfl rfl rfl rfl (ct_atI rfl hx hj (by decide) (hT.2.1 j hj).2.2.2.1) ?_
      refine az_er 4 rfl ?_
      refine az_eret rfl rfl rfl ?_
      exact ⟨by rw [e5, sq_w, if_pos rfl, sq_wg, if_pos (Int32.not_lt.mp c31)], rfl⟩
set_option maxRecDepth 100000 in
theorem lp_worthAll {sc : az_S} {τ : Nat → Nat} {h : az_H} (hT : rt_T 1 τ h) (hV : rt_V τ) (hp : h 1 8 = nI (sq_pr τ)) (hg : ∀ s, s < τ 0 → h 15 s = sq_b (sq_go τ s)) : ∀ (d i : Nat) (x y : Int32), i ≤ τ 0 → τ 0 - i = d → x = sq_wa τ i → y = nI i → az_E sc az_m_X6_worthToAll 4 [.ref 1, .int x, .int y] [] h (fun v h' => v = some (.int (sq_wa τ (τ 0))) ∧ h' = h) := by
  have e0 : h 2 6 = nI (τ 0) := hT.1.2.2.2.1
  have b0 : τ 0 ≤ 4 := hV.1
  intro d
  induction d with
  | zero =>
    intro i x y hi hd hx hy
    have he : i = τ 0 := by omega
    refine az_er 4 rfl ?_
    refine az_ic_ge rfl rfl (fun c12 => ?_) (fun c12 => absurd (by rw [e0, hy, he]; exact nI_le (Nat.le_refl _) (by omega)) c12)
    refine az_er 1 rfl ?_
    refine az_eret rfl rfl rfl ?_
    exact ⟨by rw [hx, he], rfl⟩
  | succ d ih =>
    intro i x y hi hd hx hy
    have hlt : i < τ 0 := by omega
    refine az_er 4 rfl ?_
    refine az_ic_ge rfl rfl (fun c12 => absurd c12 (by rw [e0, hy]; exact nI_ge hlt (by omega))) (fun c12 => ?_)
    refine az_er 5 rfl ?_
    refine az_ecallF rfl rfl rfl rfl (ct_atI rfl hy (by omega) (by decide) (hT.2.1 i (by omega)).1) ?_
    refine az_er 2 rfl ?_
    refine az_ecallF rfl rfl rfl rfl (ct_worthOne_1 hT (by omega) hy (hg i hlt) hp) ?_
    refine az_er 5 rfl ?_
    exact ih (i + 1) _ _ (by omega) (by omega) (by rw [hx]; rfl) (by rw [hy]; exact nI_1' i)
set_option maxRecDepth 100000 in
theorem ct_worthAll {sc : az_S} {τ : Nat → Nat} {h : az_H} (hT : rt_T 1 τ h) (hV : rt_V τ) (hp : h 1 8 = nI (sq_pr τ)) (hg : ∀ s, s < τ 0 → h 15 s = sq_b (sq_go τ s)) : az_F sc az_m_X6_worthToAll [.ref 1] h (some (.int (sq_wa τ (τ 0)))) h := by
  refine az_F.of ?_
  refine az_er 4 rfl ?_
  exact lp_worthAll hT hV hp hg (τ 0) 0 0 0 (Nat.zero_le _) (by omega) rfl rfl
