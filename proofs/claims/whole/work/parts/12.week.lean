/-! A WEEK, in values -/
def sq_gs (τ : Nat → Nat) (s : Nat) : Bool := match τ (11 + 6 * s) with
  | 0 => true
  | 2 => sq_ok τ (τ (12 + 6 * s))
  | 3 => sq_ok τ (sq_hat τ (τ (12 + 6 * s)))
  | 4 => decide (nI (τ 3) - nI (τ 3) / nI (τ (12 + 6 * s) + 1) * nI (τ (12 + 6 * s) + 1) = 0)
  | _ => false
def sq_n1 (τ : Nat → Nat) : Nat → Nat
  | 0 => 0
  | s + 1 => sq_n1 τ s + (if sq_gs τ s then τ (10 + 6 * s) else 0)
def sq_n2 (τ : Nat → Nat) : Nat → Nat
  | 0 => sq_n1 τ (τ 0)
  | s + 1 => if τ (11 + 6 * s) = 5 then (if nI (sq_n2 τ s + τ (10 + 6 * s)) ≤ nI (τ 2) then sq_n2 τ s + τ (10 + 6 * s) else sq_n2 τ s) else sq_n2 τ s
def sq_go (τ : Nat → Nat) (s : Nat) : Bool := if τ (11 + 6 * s) = 5 then decide (nI (sq_n2 τ s + τ (10 + 6 * s)) ≤ nI (τ 2)) else sq_gs τ s
def sq_pr (τ : Nat → Nat) : Nat := sq_n2 τ (τ 0)
def sq_b (g : Bool) : Int32 := if g then 1 else 0
def sq_ri (τ : Nat → Nat) (r : Nat) : Bool := decide (decide (sq_fb τ r ≤ nI (τ 2)) = decide (nI (sq_pr τ) ≤ nI (τ 2)))
def sq_rt (τ : Nat → Nat) (i : Nat) : Nat → Nat := fun j => if 42 ≤ j ∧ j < 42 + 3 * i ∧ j % 3 = 0 ∧ sq_ri τ ((j - 42) / 3) = true then τ j + 1 else τ j
def sq_mem (τ : Nat → Nat) (p : Nat) : Nat → Nat := fun j => if j = 4 then min (τ 4 + 1) 8 else if j = 60 then p else if 61 ≤ j ∧ j < 68 then τ (j - 1) else τ j
def sq_st (τ : Nat → Nat) : Nat → Nat := fun j => if j = 3 then τ 3 + 1 else sq_mem (sq_rt τ (τ 1)) (sq_pr τ) j
def sq_wg (τ : Nat → Nat) (p s : Nat) : Int32 := (if nI p ≤ nI (τ 2) then nI (τ (13 + 6 * s)) else nI (τ (14 + 6 * s))) - nI (τ 5)
def sq_w (τ : Nat → Nat) (g : Bool) (p s : Nat) : Int32 := if g then sq_wg τ p s else nI (τ (15 + 6 * s))
def sq_wa (τ : Nat → Nat) : Nat → Int32
  | 0 => 0
  | n + 1 => sq_wa τ n + nI (τ (10 + 6 * n)) * sq_w τ (sq_go τ n) (sq_pr τ) n
theorem sq_ht_lt {τ : Nat → Nat} : ∀ (n best r : Nat), best < τ 1 → r + n ≤ τ 1 → sq_ht τ n best r < τ 1
  | 0, best, r, h, _ => h
  | n + 1, best, r, h, h2 => by
    rw [sq_ht]
    refine sq_ht_lt n _ (r + 1) ?_ (by omega)
    split
    · omega
    · exact h
theorem sq_hat_lt {τ : Nat → Nat} {j : Nat} (h : j < τ 1) : sq_hat τ j < τ 1 := sq_ht_lt _ _ _ h (by omega)
theorem sq_gs2 {τ : Nat → Nat} {s : Nat} (h : τ (11 + 6 * s) = 2) : sq_gs τ s = sq_ok τ (τ (12 + 6 * s)) := by simp [sq_gs, h]
theorem sq_gs3 {τ : Nat → Nat} {s : Nat} (h : τ (11 + 6 * s) = 3) : sq_gs τ s = sq_ok τ (sq_hat τ (τ (12 + 6 * s))) := by simp [sq_gs, h]
theorem sq_bt {c : Prop} [Decidable c] (h : c) : sq_b (decide c) = 1 := by simp [sq_b, h]
theorem sq_bf {c : Prop} [Decidable c] (h : ¬ c) : sq_b (decide c) = 0 := by simp [sq_b, h]
theorem sq_gs5 {τ : Nat → Nat} {s : Nat} (h : τ (11 + 6 * s) = 5) : sq_gs τ s = false := by simp [sq_gs, h]
theorem sq_n1_le {τ : Nat → Nat} (hV : rt_V τ) : ∀ s, s ≤ 4 → sq_n1 τ s ≤ 9 * s
  | 0, _ => Nat.le_refl 0
  | s + 1, h => by
    have h1 := sq_n1_le hV s (by omega)
    have h2 := (hV.2.2.2.2.2.1 s (by omega)).1
    rw [sq_n1]
    split <;> omega
theorem sq_n2_le {τ : Nat → Nat} (hV : rt_V τ) : ∀ s, s ≤ 4 → sq_n2 τ s ≤ 60
  | 0, _ => by
    have h1 := sq_n1_le hV (τ 0) hV.1
    have h0 := hV.1
    rw [sq_n2]
    omega
  | s + 1, h => by
    have h1 := sq_n2_le hV s (by omega)
    have h2 := (hV.2.2.2.2.2.1 s (by omega)).1
    have h3 := hV.2.2.1
    rw [sq_n2]
    split
    · split
      · rename_i h4
        rw [nI_leI (by omega) (by omega)] at h4
        omega
      · exact h1
    · exact h1
theorem sq_pr_le {τ : Nat → Nat} (hV : rt_V τ) : sq_pr τ ≤ 60 := sq_n2_le hV _ hV.1
theorem sq_rt_of {τ : Nat → Nat} {i j : Nat} (h : j < 42 ∨ 60 ≤ j ∨ j % 3 ≠ 0) (hi : i ≤ 6) : sq_rt τ i j = τ j := by
  unfold sq_rt
  rw [if_neg]
  rintro ⟨h1, h2, h3, -⟩
  omega
theorem sq_rt_s {τ : Nat → Nat} {i r : Nat} : sq_rt τ i (42 + 3 * r) = if r < i ∧ sq_ri τ r = true then τ (42 + 3 * r) + 1 else τ (42 + 3 * r) := by
  unfold sq_rt
  by_cases h : r < i ∧ sq_ri τ r = true
  · rw [if_pos h, if_pos ⟨by omega, by omega, by omega, by rw [show (42 + 3 * r - 42) / 3 = r by omega]; exact h.2⟩]
  · rw [if_neg h, if_neg]
    rintro ⟨h1, h2, h3, h4⟩
    rw [show (42 + 3 * r - 42) / 3 = r by omega] at h4
    exact h ⟨by omega, h4⟩
theorem sq_ag_rt {τ : Nat → Nat} {i k : Nat} (hi : i ≤ 6) (hk : 1 ≤ k) : sq_ag (sq_rt τ i) k = sq_ag τ k := by
  unfold sq_ag
  rw [sq_rt_of (j := 4) (Or.inl (by omega)) hi, sq_rt_of (j := 59 + k) (Or.inr (Or.inl (by omega))) hi, sq_rt_of (j := 2) (Or.inl (by omega)) hi]
theorem sq_pp_rt {τ : Nat → Nat} {i : Nat} (hi : i ≤ 6) : ∀ n, n ≤ 4 → sq_pp (sq_rt τ i) n = sq_pp τ n
  | 0, _ => rfl
  | n + 1, h => by rw [sq_pp, sq_pp, sq_pp_rt hi n (by omega), sq_rt_of (Or.inl (by omega)) hi]
theorem sq_sm_rt {τ : Nat → Nat} {i : Nat} (hi : i ≤ 6) : ∀ n, sq_sm (sq_rt τ i) n = sq_sm τ n
  | 0 => rfl
  | n + 1 => by rw [sq_sm, sq_sm, sq_sm_rt hi n, sq_ag_rt hi (by omega)]
theorem sq_fo_rt {τ : Nat → Nat} {i k n : Nat} (hi : i ≤ 6) (h0 : τ 0 ≤ 4) (hn : 1 ≤ n) : sq_fo (sq_rt τ i) k n = sq_fo τ k n := by
  unfold sq_fo
  rw [sq_ag_rt hi hn, sq_sm_rt hi, sq_rt_of (j := 0) (Or.inl (by omega)) hi, sq_pp_rt hi _ h0, sq_ag_rt hi (Nat.le_refl 1)]
theorem sq_fb_rt {τ : Nat → Nat} (hV : rt_V τ) {i r : Nat} (hi : i ≤ 6) (hr : r < τ 1) : sq_fb (sq_rt τ i) r = sq_fb τ r := by
  unfold sq_fb
  rw [sq_rt_of (j := 40 + 3 * r) (Or.inr (Or.inr (by omega))) hi, sq_rt_of (j := 41 + 3 * r) (Or.inr (Or.inr (by omega))) hi, sq_fo_rt hi hV.1 (hV.2.2.2.2.2.2.2.2.1 r hr)]
theorem rt_V_rt {τ : Nat → Nat} (hV : rt_V τ) {i : Nat} (hi : i ≤ 6) : rt_V (sq_rt τ i) := by
  obtain ⟨h0, h1, h2, h4, h5, hs, hs2, hr, hr2, hw⟩ := hV
  have e : ∀ j, (j < 42 ∨ 60 ≤ j ∨ j % 3 ≠ 0) → sq_rt τ i j = τ j := fun j h => sq_rt_of h hi
  refine ⟨by rw [e _ (by omega)]; exact h0, by rw [e _ (by omega)]; exact h1, by rw [e _ (by omega)]; exact h2, by rw [e _ (by omega)]; exact h4, by rw [e _ (by omega)]; exact h5, fun s hs9 => ?_, fun s hs9 => ?_, fun r hr9 => ?_, fun r hr9 => ?_, fun w hw9 => ?_⟩
  · rw [e _ (by omega), e _ (by omega), e _ (by omega), e _ (by omega), e _ (by omega), e _ (by omega)]; exact hs s hs9
  · rw [e 0 (by omega)] at hs9
    rw [e _ (by omega), e _ (by omega), e _ (by omega), e _ (by omega)]; exact hs2 s hs9
  · rw [e _ (by omega), e _ (by omega)]; exact hr r hr9
  · rw [e 1 (by omega)] at hr9
    rw [e _ (by omega)]; exact hr2 r hr9
  · rw [e _ (by omega)]; exact hw w hw9
theorem rt_V_st {τ : Nat → Nat} (hV : rt_V τ) : rt_V (sq_st τ) := by
  have hp : sq_pr τ ≤ 60 := sq_pr_le hV
  have hV2 := rt_V_rt hV (i := τ 1) hV.2.1
  obtain ⟨h0, h1, h2, h4, h5, hs, hs2, hr, hr2, hw⟩ := hV2
  have e : ∀ j, j ≠ 3 → j ≠ 4 → j < 60 → sq_st τ j = sq_rt τ (τ 1) j := fun j h1 h2 h3 => by
    rw [sq_st, if_neg h1, sq_mem, if_neg h2, if_neg (by omega), if_neg (by omega)]
  refine ⟨by rw [e _ (by omega) (by omega) (by omega)]; exact h0, by rw [e _ (by omega) (by omega) (by omega)]; exact h1, by rw [e _ (by omega) (by omega) (by omega)]; exact h2, by rw [sq_st, if_neg (by omega), sq_mem, if_pos rfl]; omega, by rw [e _ (by omega) (by omega) (by omega)]; exact h5, fun s hs9 => ?_, fun s hs9 => ?_, fun r hr9 => ?_, fun r hr9 => ?_, fun w hw9 => ?_⟩
  · rw [e _ (by omega) (by omega) (by omega), e _ (by omega) (by omega) (by omega), e _ (by omega) (by omega) (by omega), e _ (by omega) (by omega) (by omega), e _ (by omega) (by omega) (by omega), e _ (by omega) (by omega) (by omega)]; exact hs s hs9
  · rw [e 0 (by omega) (by omega) (by omega)] at hs9
    have : s < 4 := by omega
    rw [e _ (by omega) (by omega) (by omega), e _ (by omega) (by omega) (by omega), e _ (by omega) (by omega) (by omega), e _ (by omega) (by omega) (by omega)]; exact hs2 s hs9
  · rw [e _ (by omega) (by omega) (by omega), e _ (by omega) (by omega) (by omega)]; exact hr r hr9
  · rw [e 1 (by omega) (by omega) (by omega)] at hr9
    have : r < 6 := by omega
    rw [e _ (by omega) (by omega) (by omega)]; exact hr2 r hr9
  · rw [sq_st, if_neg (by omega), sq_mem, if_neg (by omega)]
    split
    · exact hp
    · split
      · rw [show 60 + w - 1 = 60 + (w - 1) by omega]; exact hw (w - 1) (by omega)
      · exact hw w hw9
/-! frames -/
def rt_F (b : Nat) (h h' : az_H) : Prop := (∀ a, a ≠ b → a ≠ b + 14 → h' a = h a) ∧ ∀ j, j ≠ 8 → j < 100 → h' b j = h b j
theorem rt_F.rf {b : Nat} {h : az_H} : rt_F b h h := ⟨fun _ _ _ => rfl, fun _ _ _ => rfl⟩
theorem rt_F.tr {b : Nat} {h h1 h2 : az_H} (x : rt_F b h h1) (y : rt_F b h1 h2) : rt_F b h h2 := ⟨fun a p q => (y.1 a p q).trans (x.1 a p q), fun j p q => (y.2 j p q).trans (x.2 j p q)⟩
/-- as long as what the rules foretell (places 100 on of the town's own cell) is kept too -/
def rt_I (b : Nat) (h h' : az_H) : Prop := (∀ a, a ≠ b → a ≠ b + 14 → h' a = h a) ∧ ∀ j, j ≠ 8 → h' b j = h b j
theorem rt_I.rf {b : Nat} {h : az_H} : rt_I b h h := ⟨fun _ _ _ => rfl, fun _ _ => rfl⟩
theorem rt_I.tr {b : Nat} {h h1 h2 : az_H} (x : rt_I b h h1) (y : rt_I b h1 h2) : rt_I b h h2 := ⟨fun a p q => (y.1 a p q).trans (x.1 a p q), fun j p => (y.2 j p).trans (x.2 j p)⟩
theorem rt_I.F {b : Nat} {h h1 : az_H} (x : rt_I b h h1) : rt_F b h h1 := ⟨x.1, fun j p _ => x.2 j p⟩
/-- the rules were asked -/
def rt_U (b : Nat) (τ : Nat → Nat) (h : az_H) : Prop := ∀ r, r < τ 1 → h b (100 + r) = sq_fb τ r
theorem rt_U.I {b : Nat} {τ : Nat → Nat} {h h1 : az_H} (x : rt_U b τ h) (y : rt_I b h h1) : rt_U b τ h1 := fun r hr => (y.2 (100 + r) (by omega)).trans (x r hr)
theorem rt_T_F {b : Nat} {τ : Nat → Nat} {h h' : az_H} (hT : rt_T b τ h) (hF : rt_F b h h') : rt_T b τ h' := by
  obtain ⟨⟨t1, t2, t3, t4, t5, t6⟩, ts, tr, tw⟩ := hT
  have e : ∀ k, 1 ≤ k → k ≤ 13 → h' (b + k) = h (b + k) := fun k h1 h2 => hF.1 _ (by omega) (by omega)
  refine ⟨⟨?_, ?_, ?_, ?_, ?_, ?_⟩, fun i hi => ?_, fun i hi => ?_, fun i hi => ?_⟩
  · rw [hF.2 3 (by omega) (by omega)]; exact t1
  · rw [hF.2 4 (by omega) (by omega)]; exact t2
  · rw [hF.2 5 (by omega) (by omega)]; exact t3
  · rw [e 1 (by omega) (by omega)]; exact t4
  · rw [e 8 (by omega) (by omega)]; exact t5
  · rw [e 12 (by omega) (by omega)]; exact t6
  · rw [e 2 (by omega) (by omega), e 3 (by omega) (by omega), e 4 (by omega) (by omega), e 5 (by omega) (by omega), e 6 (by omega) (by omega), e 7 (by omega) (by omega)]; exact ts i hi
  · rw [e 9 (by omega) (by omega), e 10 (by omega) (by omega), e 11 (by omega) (by omega)]; exact tr i hi
  · rw [e 13 (by omega) (by omega)]; exact tw i hi
/-- what is decided -/
def rt_D (b : Nat) (τ : Nat → Nat) (h h' : az_H) : Prop := rt_F b h h' ∧ h' b 8 = nI (sq_pr τ) ∧ ∀ s, s < τ 0 → h' (b + 14) s = sq_b (sq_go τ s)
def rt_DI (b : Nat) (τ : Nat → Nat) (h h' : az_H) : Prop := rt_I b h h' ∧ h' b 8 = nI (sq_pr τ) ∧ ∀ s, s < τ 0 → h' (b + 14) s = sq_b (sq_go τ s)
/-- the weeks, moved on from place i -/
def az_sh (h : az_H) (k i : Nat) : az_H := fun a => if a = k then (fun j => if i < j ∧ j < 8 then h k (j - 1) else h k j) else h a
theorem az_sh_7 {h : az_H} {k : Nat} : az_sh h k 7 = h := by
  funext a
  by_cases ha : a = k
  · subst ha
    funext j
    simp [az_sh, show ¬ (7 < j ∧ j < 8) by omega]
  · simp [az_sh, ha]
theorem az_sh_s {h : az_H} {k i : Nat} (hi : i < 7) : az_up (az_sh h k (i + 1)) k (i + 1) (az_sh h k (i + 1) k i) = az_sh h k i := by
  funext a
  by_cases ha : a = k
  · subst ha
    funext j
    by_cases hj : j = i + 1
    · subst hj
      simp [az_up, upd, az_sh, show i < i + 1 ∧ i + 1 < 8 by omega, show ¬ (i + 1 < i) by omega]
    · by_cases h1 : i < j ∧ j < 8
      · have h2 : i + 1 < j ∧ j < 8 := by omega
        simp [az_up, upd, az_sh, hj, h1, h2]
      · have h2 : ¬ (i + 1 < j ∧ j < 8) := by omega
        simp [az_up, upd, az_sh, hj, h1, h2]
  · simp [az_up, az_sh, ha]
set_option maxRecDepth 100000 in
theorem ct_wants_1 {sc : az_S} {τ : Nat → Nat} {h : az_H} (hT : rt_T 1 τ h) (hV : rt_V τ) (hU : rt_U 1 τ h) {x : Int32} {j : Nat} (hj : j < τ 0) (hx : x = nI j) : az_F sc az_m_X6_wantsToGo [.ref 1, .int x] h (some (.int (sq_b (sq_gs τ j)))) h := by
  have e0 : h 2 6 = nI (τ 0) := hT.1.2.2.2.1
  have e1 : h 9 3 = nI (τ 1) := hT.1.2.2.2.2.1
  have e2 : h 1 3 = nI (τ 2) := hT.1.1
  have e3 : h 1 5 = nI (τ 3) := hT.1.2.2.1
  have e4 : h 13 1 = nI (τ 4) := hT.1.2.2.2.2.2
  have e5 : h 1 4 = nI (τ 5) := hT.1.2.1
  have b0 : τ 0 ≤ 4 := hV.1
  have b1 : τ 1 ≤ 6 := hV.2.1
  have b2 : τ 2 ≤ 60 := hV.2.2.1
  have b4 : τ 4 ≤ 8 := hV.2.2.2.1
  have hk := (hV.2.2.2.2.2.1 j (by omega)).2.1
  have hf9 := (hV.2.2.2.2.2.1 j (by omega)).2.2.1
  refine az_F.of ?_
  rcases (show τ (11 + 6 * j) = 0 ∨ τ (11 + 6 * j) = 1 ∨ τ (11 + 6 * j) = 2 ∨ τ (11 + 6 * j) = 3 ∨ τ (11 + 6 * j) = 4 ∨ τ (11 + 6 * j) = 5 by omega) with hk | hk | hk | hk | hk | hk
  · refine az_er 4 rfl ?_
    refine az_ecallF rfl rfl rfl rfl (ct_atI rfl hx (by omega) (by decide) (hT.2.1 j (by omega)).2.2.1) ?_
    refine az_er 5 rfl ?_
    refine az_ecallF rfl rfl rfl rfl (ct_atI rfl hx (by omega) (by decide) (show h 4 j = nI 0 from ((hT.2.1 j (by omega)).2.1).trans (congrArg nI hk))) ?_
    refine az_er 2 rfl ?_
    refine az_eret rfl rfl rfl ?_
    exact ⟨by simp [sq_gs, hk, sq_b], rfl⟩
  · refine az_er 4 rfl ?_
    refine az_ecallF rfl rfl rfl rfl (ct_atI rfl hx (by omega) (by decide) (hT.2.1 j (by omega)).2.2.1) ?_
    refine az_er 5 rfl ?_
    refine az_ecallF rfl rfl rfl rfl (ct_atI rfl hx (by omega) (by decide) (show h 4 j = nI 1 from ((hT.2.1 j (by omega)).2.1).trans (congrArg nI hk))) ?_
    refine az_er 2 rfl ?_
    refine az_eret rfl rfl rfl ?_
    exact ⟨by simp [sq_gs, hk, sq_b], rfl⟩
  · refine az_er 4 rfl ?_
    refine az_ecallF rfl rfl rfl rfl (ct_atI rfl hx (by omega) (by decide) (hT.2.1 j (by omega)).2.2.1) ?_
    refine az_er 5 rfl ?_
    refine az_ecallF rfl rfl rfl rfl (ct_atI rfl hx (by omega) (by decide) (show h 4 j = nI 2 from ((hT.2.1 j (by omega)).2.1).trans (congrArg nI hk))) ?_
    refine az_er 4 rfl ?_
    refine az_ecallF rfl rfl rfl rfl (ct_atV rfl rfl (show (τ (12 + 6 * j)) < 6 by have := (hV.2.2.2.2.2.2.1 j hj).2 (Or.inl hk); omega) (by decide) (show h 1 (100 + (τ (12 + 6 * j))) = sq_fb τ ((τ (12 + 6 * j))) from hU _ ((hV.2.2.2.2.2.2.1 j hj).2 (Or.inl hk)))) ?_
    refine az_er 2 rfl ?_
    rw [e2]
    refine az_ic_gt rfl rfl (fun c70 => ?_) (fun c70 => ?_)
    · refine az_er 1 rfl ?_
      refine az_eret rfl rfl rfl ?_
      first | exact ⟨by rw [sq_gs2 hk, sq_ok, sq_bf (Int32.not_le.mpr c70)]; rfl, rfl⟩ | exact ⟨by rw [sq_gs2 hk, sq_ok, sq_bt (Int32.not_lt.mp c70)]; rfl, rfl⟩
    · refine az_er 2 rfl ?_
      refine az_eret rfl rfl rfl ?_
      first | exact ⟨by rw [sq_gs2 hk, sq_ok, sq_bf (Int32.not_le.mpr c70)]; rfl, rfl⟩ | exact ⟨by rw [sq_gs2 hk, sq_ok, sq_bt (Int32.not_lt.mp c70)]; rfl, rfl⟩
  · refine az_er 4 rfl ?_
    refine az_ecallF rfl rfl rfl rfl (ct_atI rfl hx (by omega) (by decide) (hT.2.1 j (by omega)).2.2.1) ?_
    refine az_er 5 rfl ?_
    refine az_ecallF rfl rfl rfl rfl (ct_atI rfl hx (by omega) (by decide) (show h 4 j = nI 3 from ((hT.2.1 j (by omega)).2.1).trans (congrArg nI hk))) ?_
    refine az_er 6 rfl ?_
    refine az_ecallF rfl rfl rfl rfl (ct_mostRight_1 hT hV (show τ (12 + 6 * j) < 6 by have := (hV.2.2.2.2.2.2.1 j hj).2 (Or.inr hk); omega) rfl) ?_
    refine az_ecallF rfl rfl rfl rfl (ct_atV rfl rfl (show (sq_hat τ (τ (12 + 6 * j))) < 6 by have := sq_hat_lt ((hV.2.2.2.2.2.2.1 j hj).2 (Or.inr hk)); omega) (by decide) (show h 1 (100 + (sq_hat τ (τ (12 + 6 * j)))) = sq_fb τ ((sq_hat τ (τ (12 + 6 * j)))) from hU _ (sq_hat_lt ((hV.2.2.2.2.2.2.1 j hj).2 (Or.inr hk))))) ?_
    refine az_er 2 rfl ?_
    rw [e2]
    refine az_ic_gt rfl rfl (fun c98 => ?_) (fun c98 => ?_)
    · refine az_er 1 rfl ?_
      refine az_eret rfl rfl rfl ?_
      first | exact ⟨by rw [sq_gs3 hk, sq_ok, sq_bf (Int32.not_le.mpr c98)]; rfl, rfl⟩ | exact ⟨by rw [sq_gs3 hk, sq_ok, sq_bt (Int32.not_lt.mp c98)]; rfl, rfl⟩
    · refine az_er 2 rfl ?_
      refine az_eret rfl rfl rfl ?_
      first | exact ⟨by rw [sq_gs3 hk, sq_ok, sq_bf (Int32.not_le.mpr c98)]; rfl, rfl⟩ | exact ⟨by rw [sq_gs3 hk, sq_ok, sq_bt (Int32.not_lt.mp c98)]; rfl, rfl⟩
  · refine az_er 4 rfl ?_
    refine az_ecallF rfl rfl rfl rfl (ct_atI rfl hx (by omega) (by decide) (hT.2.1 j (by omega)).2.2.1) ?_
    refine az_er 5 rfl ?_
    refine az_ecallF rfl rfl rfl rfl (ct_atI rfl hx (by omega) (by decide) (show h 4 j = nI 4 from ((hT.2.1 j (by omega)).2.1).trans (congrArg nI hk))) ?_
    refine az_er 6 rfl ?_
    rw [e3, show nI (τ (12 + 6 * j)) + Int32.ofInt 1 = nI (τ (12 + 6 * j) + 1) from nI_1' _]
    refine az_ecallF rfl rfl rfl rfl (ct_remainder) ?_
    rw [if_neg (nI_nle (by omega) (by omega))]
    refine az_if_ne rfl rfl (fun c117 => ?_) (fun c117 => ?_)
    · refine az_er 1 rfl ?_
      refine az_eret rfl rfl rfl ?_
      exact ⟨by simp [sq_gs, hk, sq_b, c117], rfl⟩
    · refine az_er 2 rfl ?_
      refine az_eret rfl rfl rfl ?_
      exact ⟨by simp [sq_gs, hk, sq_b, c117], rfl⟩
  · refine az_er 4 rfl ?_
    refine az_ecallF rfl rfl rfl rfl (ct_atI rfl hx (by omega) (by decide) (hT.2.1 j (by omega)).2.2.1) ?_
    refine az_er 5 rfl ?_
    refine az_ecallF rfl rfl rfl rfl (ct_atI rfl hx (by omega) (by decide) (show h 4 j = nI 5 from ((hT.2.1 j (by omega)).2.1).trans (congrArg nI hk))) ?_
    refine az_er 2 rfl ?_
    refine az_eret rfl rfl rfl ?_
    exact ⟨by simp [sq_gs, hk, sq_b], rfl⟩
set_option maxRecDepth 100000 in
theorem ct_settle_1 {sc : az_S} {τ : Nat → Nat} {h : az_H} (hT : rt_T 1 τ h) (hV : rt_V τ) {x : Int32} {j : Nat} {g : Bool} (hj : j < 4) (hx : x = nI j) : az_F sc az_m_X6_settle [.ref 1, .int x, .int (sq_b g)] h none (bif g then az_up (az_up h 15 j 1) 1 8 (az_up h 15 j 1 1 8 + nI (τ (10 + 6 * j))) else az_up h 15 j 0) := by
  have e0 : h 2 6 = nI (τ 0) := hT.1.2.2.2.1
  have e1 : h 9 3 = nI (τ 1) := hT.1.2.2.2.2.1
  have e2 : h 1 3 = nI (τ 2) := hT.1.1
  have e3 : h 1 5 = nI (τ 3) := hT.1.2.2.1
  have e4 : h 13 1 = nI (τ 4) := hT.1.2.2.2.2.2
  have e5 : h 1 4 = nI (τ 5) := hT.1.2.1
  have b0 : τ 0 ≤ 4 := hV.1
  have b1 : τ 1 ≤ 6 := hV.2.1
  have b2 : τ 2 ≤ 60 := hV.2.2.1
  have b4 : τ 4 ≤ 8 := hV.2.2.2.1
  refine az_F.of ?_
  cases g
  · refine az_er 4 rfl ?_
    refine az_if_eq rfl rfl (fun c6 => ?_) (fun c6 => absurd (show sq_b false = 0 from rfl) c6)
    refine az_er 1 rfl ?_
    refine az_ecallF rfl rfl rfl rfl (ct_putI rfl hx hj (by decide)) ?_
    refine az_er 1 rfl ?_
    refine az_if_eq rfl rfl (fun c18 => ?_) (fun c18 => absurd (show sq_b false = 0 from rfl) c18)
    refine az_eret rfl rfl rfl ?_
    exact ⟨rfl, rfl⟩
  · refine az_er 4 rfl ?_
    refine az_if_eq rfl rfl (fun c6 => absurd c6 (show ¬ sq_b true = 0 by decide)) (fun c6 => ?_)
    refine az_er 2 rfl ?_
    refine az_ecallF rfl rfl rfl rfl (ct_putI rfl hx hj (by decide)) ?_
    refine az_er 1 rfl ?_
    refine az_if_eq rfl rfl (fun c18 => absurd c18 (show ¬ sq_b true = 0 by decide)) (fun c18 => ?_)
    refine az_er 7 rfl ?_
    refine az_ecallF rfl rfl rfl rfl (ct_atI (v := nI (τ (10 + 6 * j))) rfl hx hj (by decide) (by rw [az_up_o (by decide)]; exact (hT.2.1 j hj).1)) ?_
    refine az_er 2 rfl ?_
    refine az_eret rfl rfl rfl ?_
    exact ⟨rfl, rfl⟩
set_option maxRecDepth 100000 in
theorem ct_wants_16 {sc : az_S} {τ : Nat → Nat} {h : az_H} (hT : rt_T 16 τ h) (hV : rt_V τ) (hU : rt_U 16 τ h) {x : Int32} {j : Nat} (hj : j < τ 0) (hx : x = nI j) : az_F sc az_m_X6_wantsToGo [.ref 16, .int x] h (some (.int (sq_b (sq_gs τ j)))) h := by
  have e0 : h 17 6 = nI (τ 0) := hT.1.2.2.2.1
  have e1 : h 24 3 = nI (τ 1) := hT.1.2.2.2.2.1
  have e2 : h 16 3 = nI (τ 2) := hT.1.1
  have e3 : h 16 5 = nI (τ 3) := hT.1.2.2.1
  have e4 : h 28 1 = nI (τ 4) := hT.1.2.2.2.2.2
  have e5 : h 16 4 = nI (τ 5) := hT.1.2.1
  have b0 : τ 0 ≤ 4 := hV.1
  have b1 : τ 1 ≤ 6 := hV.2.1
  have b2 : τ 2 ≤ 60 := hV.2.2.1
  have b4 : τ 4 ≤ 8 := hV.2.2.2.1
  have hk := (hV.2.2.2.2.2.1 j (by omega)).2.1
  have hf9 := (hV.2.2.2.2.2.1 j (by omega)).2.2.1
  refine az_F.of ?_
  rcases (show τ (11 + 6 * j) = 0 ∨ τ (11 + 6 * j) = 1 ∨ τ (11 + 6 * j) = 2 ∨ τ (11 + 6 * j) = 3 ∨ τ (11 + 6 * j) = 4 ∨ τ (11 + 6 * j) = 5 by omega) with hk | hk | hk | hk | hk | hk
  · refine az_er 4 rfl ?_
    refine az_ecallF rfl rfl rfl rfl (ct_atI rfl hx (by omega) (by decide) (hT.2.1 j (by omega)).2.2.1) ?_
    refine az_er 5 rfl ?_
    refine az_ecallF rfl rfl rfl rfl (ct_atI rfl hx (by omega) (by decide) (show h 19 j = nI 0 from ((hT.2.1 j (by omega)).2.1).trans (congrArg nI hk))) ?_
    refine az_er 2 rfl ?_
    refine az_eret rfl rfl rfl ?_
    exact ⟨by simp [sq_gs, hk, sq_b], rfl⟩
  · refine az_er 4 rfl ?_
    refine az_ecallF rfl rfl rfl rfl (ct_atI rfl hx (by omega) (by decide) (hT.2.1 j (by omega)).2.2.1) ?_
    refine az_er 5 rfl ?_
    refine az_ecallF rfl rfl rfl rfl (ct_atI rfl hx (by omega) (by decide) (show h 19 j = nI 1 from ((hT.2.1 j (by omega)).2.1).trans (congrArg nI hk))) ?_
    refine az_er 2 rfl ?_
    refine az_eret rfl rfl rfl ?_
    exact ⟨by simp [sq_gs, hk, sq_b], rfl⟩
  · refine az_er 4 rfl ?_
    refine az_ecallF rfl rfl rfl rfl (ct_atI rfl hx (by omega) (by decide) (hT.2.1 j (by omega)).2.2.1) ?_
    refine az_er 5 rfl ?_
    refine az_ecallF rfl rfl rfl rfl (ct_atI rfl hx (by omega) (by decide) (show h 19 j = nI 2 from ((hT.2.1 j (by omega)).2.1).trans (congrArg nI hk))) ?_
    refine az_er 4 rfl ?_
    refine az_ecallF rfl rfl rfl rfl (ct_atV rfl rfl (show (τ (12 + 6 * j)) < 6 by have := (hV.2.2.2.2.2.2.1 j hj).2 (Or.inl hk); omega) (by decide) (show h 16 (100 + (τ (12 + 6 * j))) = sq_fb τ ((τ (12 + 6 * j))) from hU _ ((hV.2.2.2.2.2.2.1 j hj).2 (Or.inl hk)))) ?_
    refine az_er 2 rfl ?_
    rw [e2]
    refine az_ic_gt rfl rfl (fun c70 => ?_) (fun c70 => ?_)
    · refine az_er 1 rfl ?_
      refine az_eret rfl rfl rfl ?_
      first | exact ⟨by rw [sq_gs2 hk, sq_ok, sq_bf (Int32.not_le.mpr c70)]; rfl, rfl⟩ | exact ⟨by rw [sq_gs2 hk, sq_ok, sq_bt (Int32.not_lt.mp c70)]; rfl, rfl⟩
    · refine az_er 2 rfl ?_
      refine az_eret rfl rfl rfl ?_
      first | exact ⟨by rw [sq_gs2 hk, sq_ok, sq_bf (Int32.not_le.mpr c70)]; rfl, rfl⟩ | exact ⟨by rw [sq_gs2 hk, sq_ok, sq_bt (Int32.not_lt.mp c70)]; rfl, rfl⟩
  · refine az_er 4 rfl ?_
    refine az_ecallF rfl rfl rfl rfl (ct_atI rfl hx (by omega) (by decide) (hT.2.1 j (by omega)).2.2.1) ?_
    refine az_er 5 rfl ?_
    refine az_ecallF rfl rfl rfl rfl (ct_atI rfl hx (by omega) (by decide) (show h 19 j = nI 3 from ((hT.2.1 j (by omega)).2.1).trans (congrArg nI hk))) ?_
    refine az_er 6 rfl ?_
    refine az_ecallF rfl rfl rfl rfl (ct_mostRight_16 hT hV (show τ (12 + 6 * j) < 6 by have := (hV.2.2.2.2.2.2.1 j hj).2 (Or.inr hk); omega) rfl) ?_
    refine az_ecallF rfl rfl rfl rfl (ct_atV rfl rfl (show (sq_hat τ (τ (12 + 6 * j))) < 6 by have := sq_hat_lt ((hV.2.2.2.2.2.2.1 j hj).2 (Or.inr hk)); omega) (by decide) (show h 16 (100 + (sq_hat τ (τ (12 + 6 * j)))) = sq_fb τ ((sq_hat τ (τ (12 + 6 * j)))) from hU _ (sq_hat_lt ((hV.2.2.2.2.2.2.1 j hj).2 (Or.inr hk))))) ?_
    refine az_er 2 rfl ?_
    rw [e2]
    refine az_ic_gt rfl rfl (fun c98 => ?_) (fun c98 => ?_)
    · refine az_er 1 rfl ?_
      refine az_eret rfl rfl rfl ?_
      first | exact ⟨by rw [sq_gs3 hk, sq_ok, sq_bf (Int32.not_le.mpr c98)]; rfl, rfl⟩ | exact ⟨by rw [sq_gs3 hk, sq_ok, sq_bt (Int32.not_lt.mp c98)]; rfl, rfl⟩
    · refine az_er 2 rfl ?_
      refine az_eret rfl rfl rfl ?_
      first | exact ⟨by rw [sq_gs3 hk, sq_ok, sq_bf (Int32.not_le.mpr c98)]; rfl, rfl⟩ | exact ⟨by rw [sq_gs3 hk, sq_ok, sq_bt (Int32.not_lt.mp c98)]; rfl, rfl⟩
  · refine az_er 4 rfl ?_
    refine az_ecallF rfl rfl rfl rfl (ct_atI rfl hx (by omega) (by decide) (hT.2.1 j (by omega)).2.2.1) ?_
    refine az_er 5 rfl ?_
    refine az_ecallF rfl rfl rfl rfl (ct_atI rfl hx (by omega) (by decide) (show h 19 j = nI 4 from ((hT.2.1 j (by omega)).2.1).trans (congrArg nI hk))) ?_
    refine az_er 6 rfl ?_
    rw [e3, show nI (τ (12 + 6 * j)) + Int32.ofInt 1 = nI (τ (12 + 6 * j) + 1) from nI_1' _]
    refine az_ecallF rfl rfl rfl rfl (ct_remainder) ?_
    rw [if_neg (nI_nle (by omega) (by omega))]
    refine az_if_ne rfl rfl (fun c117 => ?_) (fun c117 => ?_)
    · refine az_er 1 rfl ?_
      refine az_eret rfl rfl rfl ?_
      exact ⟨by simp [sq_gs, hk, sq_b, c117], rfl⟩
    · refine az_er 2 rfl ?_
      refine az_eret rfl rfl rfl ?_
      exact ⟨by simp [sq_gs, hk, sq_b, c117], rfl⟩
  · refine az_er 4 rfl ?_
    refine az_ecallF rfl rfl rfl rfl (ct_atI rfl hx (by omega) (by decide) (hT.2.1 j (by omega)).2.2.1) ?_
    refine az_er 5 rfl ?_
    refine az_ecallF rfl rfl rfl rfl (ct_atI rfl hx (by omega) (by decide) (show h 19 j = nI 5 from ((hT.2.1 j (by omega)).2.1).trans (congrArg nI hk))) ?_
    refine az_er 2 rfl ?_
    refine az_eret rfl rfl rfl ?_
    exact ⟨by simp [sq_gs, hk, sq_b], rfl⟩
set_option maxRecDepth 100000 in
theorem ct_settle_16 {sc : az_S} {τ : Nat → Nat} {h : az_H} (hT : rt_T 16 τ h) (hV : rt_V τ) {x : Int32} {j : Nat} {g : Bool} (hj : j < 4) (hx : x = nI j) : az_F sc az_m_X6_settle [.ref 16, .int x, .int (sq_b g)] h none (bif g then az_up (az_up h 30 j 1) 16 8 (az_up h 30 j 1 16 8 + nI (τ (10 + 6 * j))) else az_up h 30 j 0) := by
  have e0 : h 17 6 = nI (τ 0) := hT.1.2.2.2.1
  have e1 : h 24 3 = nI (τ 1) := hT.1.2.2.2.2.1
  have e2 : h 16 3 = nI (τ 2) := hT.1.1
  have e3 : h 16 5 = nI (τ 3) := hT.1.2.2.1
  have e4 : h 28 1 = nI (τ 4) := hT.1.2.2.2.2.2
  have e5 : h 16 4 = nI (τ 5) := hT.1.2.1
  have b0 : τ 0 ≤ 4 := hV.1
  have b1 : τ 1 ≤ 6 := hV.2.1
  have b2 : τ 2 ≤ 60 := hV.2.2.1
  have b4 : τ 4 ≤ 8 := hV.2.2.2.1
  refine az_F.of ?_
  cases g
  · refine az_er 4 rfl ?_
    refine az_if_eq rfl rfl (fun c6 => ?_) (fun c6 => absurd (show sq_b false = 0 from rfl) c6)
    refine az_er 1 rfl ?_
    refine az_ecallF rfl rfl rfl rfl (ct_putI rfl hx hj (by decide)) ?_
    refine az_er 1 rfl ?_
    refine az_if_eq rfl rfl (fun c18 => ?_) (fun c18 => absurd (show sq_b false = 0 from rfl) c18)
    refine az_eret rfl rfl rfl ?_
    exact ⟨rfl, rfl⟩
  · refine az_er 4 rfl ?_
    refine az_if_eq rfl rfl (fun c6 => absurd c6 (show ¬ sq_b true = 0 by decide)) (fun c6 => ?_)
    refine az_er 2 rfl ?_
    refine az_ecallF rfl rfl rfl rfl (ct_putI rfl hx hj (by decide)) ?_
    refine az_er 1 rfl ?_
    refine az_if_eq rfl rfl (fun c18 => absurd c18 (show ¬ sq_b true = 0 by decide)) (fun c18 => ?_)
    refine az_er 7 rfl ?_
    refine az_ecallF rfl rfl rfl rfl (ct_atI (v := nI (τ (10 + 6 * j))) rfl hx hj (by decide) (by rw [az_up_o (by decide)]; exact (hT.2.1 j hj).1)) ?_
    refine az_er 2 rfl ?_
    refine az_eret rfl rfl rfl ?_
    exact ⟨rfl, rfl⟩
set_option maxRecDepth 100000 in
theorem lp_decide2_1 {sc : az_S} {τ : Nat → Nat} {h : az_H} (hT : rt_T 1 τ h) (hV : rt_V τ) (hU : rt_U 1 τ h) : ∀ (d i : Nat) (x : Int32) (hh : az_H), i ≤ τ 0 → τ 0 - i = d → x = nI i → rt_I 1 h hh → hh 1 8 = nI (sq_n2 τ i) → (∀ s, s < τ 0 → s < i ∨ τ (11 + 6 * s) ≠ 5 → hh 15 s = sq_b (sq_go τ s)) → az_E sc az_m_X6_askSorts 51 [.ref 1, .int x] [] hh (fun v h' => v = none ∧ rt_DI 1 τ h h') := by
  have e0 : h 2 6 = nI (τ 0) := hT.1.2.2.2.1
  have b0 : τ 0 ≤ 4 := hV.1
  have b1 : τ 1 ≤ 6 := hV.2.1
  have b2 : τ 2 ≤ 60 := hV.2.2.1
  have b4 : τ 4 ≤ 8 := hV.2.2.2.1
  intro d
  induction d with
  | zero =>
    intro i x hh hi hd hx hF hp hg
    have he : i = τ 0 := by omega
    have hT2 := rt_T_F hT hF.F
    have hU2 := hU.I hF
    have e0 : hh 2 6 = nI (τ 0) := hT2.1.2.2.2.1
    have e2 : hh 1 3 = nI (τ 2) := hT2.1.1
    refine az_er 4 rfl ?_
    refine az_ic_ge rfl rfl (fun c59 => ?_) (fun c59 => absurd (by rw [e0, hx, he]; exact nI_le (Nat.le_refl _) (by omega)) c59)
    refine az_eret rfl rfl rfl ?_
    exact ⟨rfl, hF, by rw [hp, he]; rfl, fun s hs => hg s hs (Or.inl (by omega))⟩
  | succ d ih =>
    intro i x hh hi hd hx hF hp hg
    have hlt : i < τ 0 := by omega
    have hk := (hV.2.2.2.2.2.1 i (by omega)).2.1
    have hm9 := (hV.2.2.2.2.2.1 i (by omega)).1
    have hn9 := sq_n2_le hV i (by omega)
    have hT2 := rt_T_F hT hF.F
    have hU2 := hU.I hF
    have e0 : hh 2 6 = nI (τ 0) := hT2.1.2.2.2.1
    have e2 : hh 1 3 = nI (τ 2) := hT2.1.1
    refine az_er 4 rfl ?_
    refine az_ic_ge rfl rfl (fun c59 => absurd c59 (by rw [e0, hx]; exact nI_ge hlt (by omega))) (fun c59 => ?_)
    refine az_er 4 rfl ?_
    refine az_ecallF rfl rfl rfl rfl (ct_atI (v := nI (τ (11 + 6 * i))) rfl hx (by omega) (by decide) (hT2.2.1 i (by omega)).2.1) ?_
    refine az_er 1 rfl ?_
    refine az_ic_ne rfl rfl (fun c74 => ?_) (fun c74 => ?_)
    · refine az_er 2 rfl ?_
      have hk5 : τ (11 + 6 * i) ≠ 5 := fun q => c74 (by rw [q]; rfl)
      refine ih (i + 1) _ hh (by omega) (by omega) (by rw [hx]; exact nI_1' i) hF (by rw [hp, sq_n2, if_neg hk5]) (fun s hs hs2 => hg s hs ?_)
      rcases hs2 with hs2 | hs2
      · rcases (show s < i ∨ s = i by omega) with h9 | rfl
        · exact Or.inl h9
        · exact Or.inr hk5
      · exact Or.inr hs2
    · refine az_er 8 rfl ?_
      refine az_ecallF rfl rfl rfl rfl (ct_atI (v := nI (τ (10 + 6 * i))) rfl hx (by omega) (by decide) (hT2.2.1 i (by omega)).1) ?_
      refine az_er 3 rfl ?_
      rw [hp, e2]
      refine az_ic_gt rfl rfl (fun c99 => ?_) (fun c99 => ?_)
      · refine az_er 1 rfl ?_
        refine az_ecallF rfl rfl rfl rfl (ct_settle_1 (g := false) hT2 hV (by omega) hx) ?_
        refine az_er 2 rfl ?_
        have hk5 : τ (11 + 6 * i) = 5 := (nI_eq (by omega) (by omega)).mp (show nI (τ (11 + 6 * i)) = nI 5 from c74)
        have hle : ¬ nI (sq_n2 τ i + τ (10 + 6 * i)) ≤ nI (τ 2) := by rw [← nI_add]; exact Int32.not_le.mpr c99
        have hgo : sq_go τ i = false := by rw [sq_go, if_pos hk5]; exact decide_eq_false hle
        refine ih (i + 1) _ _ (by omega) (by omega) (by rw [hx]; exact nI_1' i) (hF.tr ⟨fun a p q => by rw [cond_false, az_up_o q], fun j hj => by rw [cond_false, az_up_o (by decide)]⟩) (by rw [cond_false, az_up_o (by decide), hp, sq_n2, if_pos hk5, if_neg hle]) (fun s hs hs2 => ?_)
        rw [cond_false]
        by_cases h9 : s = i
        · subst h9
          rw [az_up_s, hgo]
          rfl
        · rw [az_up_n h9]
          exact hg s hs (by rcases hs2 with q | q; exact Or.inl (by omega); exact Or.inr q)
      · refine az_er 2 rfl ?_
        refine az_ecallF rfl rfl rfl rfl (ct_settle_1 (g := true) hT2 hV (by omega) hx) ?_
        refine az_er 2 rfl ?_
        have hk5 : τ (11 + 6 * i) = 5 := (nI_eq (by omega) (by omega)).mp (show nI (τ (11 + 6 * i)) = nI 5 from c74)
        have hle : nI (sq_n2 τ i + τ (10 + 6 * i)) ≤ nI (τ 2) := by rw [← nI_add]; exact Int32.not_lt.mp c99
        have hgo : sq_go τ i = true := by rw [sq_go, if_pos hk5]; exact decide_eq_true hle
        refine ih (i + 1) _ _ (by omega) (by omega) (by rw [hx]; exact nI_1' i) (hF.tr ⟨fun a p q => by rw [cond_true, az_up_o p, az_up_o q], fun j hj => by rw [cond_true, az_up_n hj, az_up_o (by decide)]⟩) (by rw [cond_true, az_up_s, az_up_o (by decide), hp, nI_add, sq_n2, if_pos hk5, if_pos hle]) (fun s hs hs2 => ?_)
        rw [cond_true, az_up_o (by decide)]
        by_cases h9 : s = i
        · subst h9
          rw [az_up_s, hgo]
          rfl
        · rw [az_up_n h9]
          exact hg s hs (by rcases hs2 with q | q; exact Or.inl (by omega); exact Or.inr q)
set_option maxRecDepth 100000 in
theorem lp_decide1_1 {sc : az_S} {τ : Nat → Nat} {h : az_H} (hT : rt_T 1 τ h) (hV : rt_V τ) (hU : rt_U 1 τ h) : ∀ (d i : Nat) (x : Int32) (hh : az_H), i ≤ τ 0 → τ 0 - i = d → x = nI i → rt_I 1 h hh → hh 1 8 = nI (sq_n1 τ i) → (∀ s, s < i → τ (11 + 6 * s) ≠ 5 → hh 15 s = sq_b (sq_go τ s)) → az_E sc az_m_X6_askSorts 7 [.ref 1, .int x] [] hh (fun v h' => v = none ∧ rt_DI 1 τ h h') := by
  have e0 : h 2 6 = nI (τ 0) := hT.1.2.2.2.1
  have b0 : τ 0 ≤ 4 := hV.1
  have b1 : τ 1 ≤ 6 := hV.2.1
  have b2 : τ 2 ≤ 60 := hV.2.2.1
  have b4 : τ 4 ≤ 8 := hV.2.2.2.1
  intro d
  induction d with
  | zero =>
    intro i x hh hi hd hx hF hp hg
    have he : i = τ 0 := by omega
    have hT2 := rt_T_F hT hF.F
    have hU2 := hU.I hF
    have e0 : hh 2 6 = nI (τ 0) := hT2.1.2.2.2.1
    have e2 : hh 1 3 = nI (τ 2) := hT2.1.1
    refine az_er 4 rfl ?_
    refine az_ic_ge rfl rfl (fun c15 => ?_) (fun c15 => absurd (by rw [e0, hx, he]; exact nI_le (Nat.le_refl _) (by omega)) c15)
    refine az_er 2 rfl ?_
    exact lp_decide2_1 hT hV hU (τ 0) 0 0 hh (Nat.zero_le _) (by omega) rfl hF (by rw [hp, he]; rfl) (fun s hs hs2 => hg s (by omega) (by rcases hs2 with q | q; omega; exact q))
  | succ d ih =>
    intro i x hh hi hd hx hF hp hg
    have hlt : i < τ 0 := by omega
    have hk := (hV.2.2.2.2.2.1 i (by omega)).2.1
    have hT2 := rt_T_F hT hF.F
    have hU2 := hU.I hF
    have e0 : hh 2 6 = nI (τ 0) := hT2.1.2.2.2.1
    have e2 : hh 1 3 = nI (τ 2) := hT2.1.1
    refine az_er 4 rfl ?_
    refine az_ic_ge rfl rfl (fun c15 => absurd c15 (by rw [e0, hx]; exact nI_ge hlt (by omega))) (fun c15 => ?_)
    refine az_er 4 rfl ?_
    refine az_ecallF rfl rfl rfl rfl (ct_atI (v := nI (τ (11 + 6 * i))) rfl hx (by omega) (by decide) (hT2.2.1 i (by omega)).2.1) ?_
    refine az_er 1 rfl ?_
    refine az_ic_eq rfl rfl (fun c30 => ?_) (fun c30 => ?_)
    · refine az_er 2 rfl ?_
      have hk5 : τ (11 + 6 * i) = 5 := (nI_eq (by omega) (by omega)).mp (show nI (τ (11 + 6 * i)) = nI 5 from c30)
      refine ih (i + 1) _ hh (by omega) (by omega) (by rw [hx]; exact nI_1' i) hF (by rw [hp, sq_n1, sq_gs5 hk5]; rfl) (fun s hs hs2 => ?_)
      rcases (show s < i ∨ s = i by omega) with h9 | rfl
      · exact hg s h9 hs2
      · exact absurd hk5 hs2
    · refine az_er 4 rfl ?_
      refine az_ecallF rfl rfl rfl rfl (ct_wants_1 hT2 hV hU2 hlt hx) ?_
      refine az_ecallF rfl rfl rfl rfl (ct_settle_1 hT2 hV (by omega) hx) ?_
      refine az_er 2 rfl ?_
      have hk5 : τ (11 + 6 * i) ≠ 5 := fun q => c30 (by rw [q]; rfl)
      have hgo : sq_go τ i = sq_gs τ i := by rw [sq_go, if_neg hk5]
      cases hgs : sq_gs τ i
      · refine ih (i + 1) _ _ (by omega) (by omega) (by rw [hx]; exact nI_1' i) (hF.tr ⟨fun a p q => by rw [cond_false, az_up_o q], fun j hj => by rw [cond_false, az_up_o (by decide)]⟩) (by rw [cond_false, az_up_o (by decide), hp, sq_n1, hgs]; rfl) (fun s hs hs2 => ?_)
        rw [cond_false]
        by_cases h9 : s = i
        · subst h9
          rw [az_up_s, hgo, hgs]
          rfl
        · rw [az_up_n h9]
          exact hg s (by omega) hs2
      · refine ih (i + 1) _ _ (by omega) (by omega) (by rw [hx]; exact nI_1' i) (hF.tr ⟨fun a p q => by rw [cond_true, az_up_o p, az_up_o q], fun j hj => by rw [cond_true, az_up_n hj, az_up_o (by decide)]⟩) (by rw [cond_true, az_up_s, az_up_o (by decide), hp, nI_add, sq_n1, hgs]; rfl) (fun s hs hs2 => ?_)
        rw [cond_true, az_up_o (by decide)]
        by_cases h9 : s = i
        · subst h9
          rw [az_up_s, hgo, hgs]
          rfl
        · rw [az_up_n h9]
          exact hg s (by omega) hs2
set_option maxRecDepth 100000 in
theorem ct_askSorts_1 {sc : az_S} {τ : Nat → Nat} {h : az_H} (hT : rt_T 1 τ h) (hV : rt_V τ) (hU : rt_U 1 τ h) : az_E sc az_m_X6_askSorts 0 [.ref 1] [] h (fun v h' => v = none ∧ rt_DI 1 τ h h') := by
  refine az_er 5 rfl ?_
  exact lp_decide1_1 hT hV hU (τ 0) 0 0 _ (Nat.zero_le _) (by omega) rfl ⟨fun a p q => az_up_o p, fun j hj => az_up_n hj⟩ az_up_s (fun s hs => absurd hs (Nat.not_lt_zero s))
set_option maxRecDepth 100000 in
theorem lp_askRules_1 {sc : az_S} {τ : Nat → Nat} {h : az_H} (hT : rt_T 1 τ h) (hV : rt_V τ) : ∀ (d i : Nat) (x : Int32) (hh : az_H), i ≤ τ 1 → τ 1 - i = d → x = nI i → (∀ r, r < i → hh 1 (100 + r) = sq_fb τ r) → (∀ a, a ≠ 1 → hh a = h a) → (∀ j, j < 100 → hh 1 j = h 1 j) → az_E sc az_m_X6_askRules 2 [.ref 1, .int x] [] hh (fun v h' => v = none ∧ rt_U 1 τ h' ∧ (∀ a, a ≠ 1 → h' a = h a) ∧ ∀ j, j < 100 → h' 1 j = h 1 j) := by
  have b0 : τ 0 ≤ 4 := hV.1
  have b1 : τ 1 ≤ 6 := hV.2.1
  have b2 : τ 2 ≤ 60 := hV.2.2.1
  have b4 : τ 4 ≤ 8 := hV.2.2.2.1
  intro d
  induction d with
  | zero =>
    intro i x hh hi hd hx hu hF hF2
    have he : i = τ 1 := by omega
    have hT2 : rt_T 1 τ hh := rt_T_F hT ⟨fun a p _ => hF a p, fun j _ p => hF2 j p⟩
    have e1 : hh 9 3 = nI (τ 1) := hT2.1.2.2.2.2.1
    refine az_er 4 rfl ?_
    refine az_ic_ge rfl rfl (fun c10 => ?_) (fun c10 => absurd (by rw [e1, hx, he]; exact nI_le (Nat.le_refl _) (by omega)) c10)
    refine az_eret rfl rfl rfl ?_
    exact ⟨rfl, fun r hr => hu r (by omega), hF, hF2⟩
  | succ d ih =>
    intro i x hh hi hd hx hu hF hF2
    have hlt : i < τ 1 := by omega
    have hT2 : rt_T 1 τ hh := rt_T_F hT ⟨fun a p _ => hF a p, fun j _ p => hF2 j p⟩
    have e1 : hh 9 3 = nI (τ 1) := hT2.1.2.2.2.2.1
    refine az_er 4 rfl ?_
    refine az_ic_ge rfl rfl (fun c10 => absurd c10 (by rw [e1, hx]; exact nI_ge hlt (by omega))) (fun c10 => ?_)
    refine az_er 8 rfl ?_
    refine az_ecallF rfl rfl rfl rfl (ct_atI rfl hx (by omega) (by decide) (hT2.2.2.1 i (by omega)).1) ?_
    refine az_er 4 rfl ?_
    refine az_ecallF rfl rfl rfl rfl (ct_atI rfl hx (by omega) (by decide) (hT2.2.2.1 i (by omega)).2.1) ?_
    refine az_ecallF rfl rfl rfl rfl (ct_foretells_1 hT2 hV ⟨hV.2.2.2.2.2.2.2.2.1 i hlt, (hV.2.2.2.2.2.2.2.1 i (by omega)).2⟩ rfl (hV.2.2.2.2.2.2.2.1 i (by omega)).1) ?_
    refine az_ecallF rfl rfl rfl rfl (ct_putV rfl hx (by omega) (by decide)) ?_
    refine az_er 2 rfl ?_
    refine ih (i + 1) _ _ (by omega) (by omega) (by rw [hx]; exact nI_1' i) (fun r hr => ?_) (fun a ha => (az_up_o ha).trans (hF a ha)) (fun j hj => (az_up_at (Or.inr (show j ≠ 100 + i by omega))).trans (hF2 j hj))
    show az_up hh 1 (100 + i) _ 1 (100 + r) = _
    by_cases h9 : r = i
    · subst h9
      rw [az_up_s]
      rfl
    · rw [az_up_n (by omega)]
      exact hu r (by omega)
set_option maxRecDepth 100000 in
theorem ct_askRules_1 {sc : az_S} {τ : Nat → Nat} {h : az_H} (hT : rt_T 1 τ h) (hV : rt_V τ) : az_E sc az_m_X6_askRules 0 [.ref 1] [] h (fun v h' => v = none ∧ rt_U 1 τ h' ∧ (∀ a, a ≠ 1 → h' a = h a) ∧ ∀ j, j < 100 → h' 1 j = h 1 j) := by
  refine az_er 2 rfl ?_
  exact lp_askRules_1 hT hV (τ 1) 0 0 h (Nat.zero_le _) (by omega) rfl (fun r hr => absurd hr (Nat.not_lt_zero r)) (fun _ _ => rfl) (fun _ _ => rfl)
set_option maxRecDepth 100000 in
theorem ct_decide_1 {sc : az_S} {τ : Nat → Nat} {h : az_H} (hT : rt_T 1 τ h) (hV : rt_V τ) : az_E sc az_m_X6_decide 0 [.ref 1] [] h (fun v h' => v = none ∧ rt_D 1 τ h h') := by
  refine az_er 1 rfl ?_
  refine az_ecall rfl rfl rfl rfl (ct_askRules_1 hT hV) ?_
  rintro _ hh ⟨rfl, hU, hF, hF2⟩
  have hA : rt_F 1 h hh := ⟨fun a p _ => hF a p, fun j _ p => hF2 j p⟩
  refine az_er 1 rfl ?_
  refine az_ecall rfl rfl rfl rfl (ct_askSorts_1 (rt_T_F hT hA) hV hU) ?_
  rintro _ h2 ⟨rfl, hI, hp, hg⟩
  refine az_eret rfl rfl rfl ?_
  exact ⟨rfl, hA.tr hI.F, hp, hg⟩
set_option maxRecDepth 100000 in
theorem cx_goBy_1 {sc : az_S} {τ : Nat → Nat} {h : az_H} (hT : rt_T 1 τ h) (hV : rt_V τ) {Q : Option Value → az_H → Prop} (K : ∀ h2, rt_D 1 τ h h2 → rt_U 1 τ h2 → az_E sc az_m_X6_goBy 8 [.ref 1] [] h2 Q) : az_E sc az_m_X6_goBy 0 [.ref 1] [] h Q := by
  refine az_er 1 rfl ?_
  refine az_ecall rfl rfl rfl rfl (ct_askRules_1 hT hV) ?_
  rintro _ hh ⟨rfl, hU, hF, hF2⟩
  have hA : rt_F 1 h hh := ⟨fun a p _ => hF a p, fun j _ p => hF2 j p⟩
  refine az_er 1 rfl ?_
  refine az_ecall rfl rfl rfl rfl (ct_askSorts_1 (rt_T_F hT hA) hV hU) ?_
  rintro _ h2 ⟨rfl, hI, hp, hg⟩
  exact K h2 ⟨hA.tr hI.F, hp, hg⟩ (hU.I hI)
set_option maxRecDepth 100000 in
theorem lp_decide2_16 {sc : az_S} {τ : Nat → Nat} {h : az_H} (hT : rt_T 16 τ h) (hV : rt_V τ) (hU : rt_U 16 τ h) : ∀ (d i : Nat) (x : Int32) (hh : az_H), i ≤ τ 0 → τ 0 - i = d → x = nI i → rt_I 16 h hh → hh 16 8 = nI (sq_n2 τ i) → (∀ s, s < τ 0 → s < i ∨ τ (11 + 6 * s) ≠ 5 → hh 30 s = sq_b (sq_go τ s)) → az_E sc az_m_X6_askSorts 51 [.ref 16, .int x] [] hh (fun v h' => v = none ∧ rt_DI 16 τ h h') := by
  have e0 : h 17 6 = nI (τ 0) := hT.1.2.2.2.1
  have b0 : τ 0 ≤ 4 := hV.1
  have b1 : τ 1 ≤ 6 := hV.2.1
  have b2 : τ 2 ≤ 60 := hV.2.2.1
  have b4 : τ 4 ≤ 8 := hV.2.2.2.1
  intro d
  induction d with
  | zero =>
    intro i x hh hi hd hx hF hp hg
    have he : i = τ 0 := by omega
    have hT2 := rt_T_F hT hF.F
    have hU2 := hU.I hF
    have e0 : hh 17 6 = nI (τ 0) := hT2.1.2.2.2.1
    have e2 : hh 16 3 = nI (τ 2) := hT2.1.1
    refine az_er 4 rfl ?_
    refine az_ic_ge rfl rfl (fun c59 => ?_) (fun c59 => absurd (by rw [e0, hx, he]; exact nI_le (Nat.le_refl _) (by omega)) c59)
    refine az_eret rfl rfl rfl ?_
    exact ⟨rfl, hF, by rw [hp, he]; rfl, fun s hs => hg s hs (Or.inl (by omega))⟩
  | succ d ih =>
    intro i x hh hi hd hx hF hp hg
    have hlt : i < τ 0 := by omega
    have hk := (hV.2.2.2.2.2.1 i (by omega)).2.1
    have hm9 := (hV.2.2.2.2.2.1 i (by omega)).1
    have hn9 := sq_n2_le hV i (by omega)
    have hT2 := rt_T_F hT hF.F
    have hU2 := hU.I hF
    have e0 : hh 17 6 = nI (τ 0) := hT2.1.2.2.2.1
    have e2 : hh 16 3 = nI (τ 2) := hT2.1.1
    refine az_er 4 rfl ?_
    refine az_ic_ge rfl rfl (fun c59 => absurd c59 (by rw [e0, hx]; exact nI_ge hlt (by omega))) (fun c59 => ?_)
    refine az_er 4 rfl ?_
    refine az_ecallF rfl rfl rfl rfl (ct_atI (v := nI (τ (11 + 6 * i))) rfl hx (by omega) (by decide) (hT2.2.1 i (by omega)).2.1) ?_
    refine az_er 1 rfl ?_
    refine az_ic_ne rfl rfl (fun c74 => ?_) (fun c74 => ?_)
    · refine az_er 2 rfl ?_
      have hk5 : τ (11 + 6 * i) ≠ 5 := fun q => c74 (by rw [q]; rfl)
      refine ih (i + 1) _ hh (by omega) (by omega) (by rw [hx]; exact nI_1' i) hF (by rw [hp, sq_n2, if_neg hk5]) (fun s hs hs2 => hg s hs ?_)
      rcases hs2 with hs2 | hs2
      · rcases (show s < i ∨ s = i by omega) with h9 | rfl
        · exact Or.inl h9
        · exact Or.inr hk5
      · exact Or.inr hs2
    · refine az_er 8 rfl ?_
      refine az_ecallF rfl rfl rfl rfl (ct_atI (v := nI (τ (10 + 6 * i))) rfl hx (by omega) (by decide) (hT2.2.1 i (by omega)).1) ?_
      refine az_er 3 rfl ?_
      rw [hp, e2]
      refine az_ic_gt rfl rfl (fun c99 => ?_) (fun c99 => ?_)
      · refine az_er 1 rfl ?_
        refine az_ecallF rfl rfl rfl rfl (ct_settle_16 (g := false) hT2 hV (by omega) hx) ?_
        refine az_er 2 rfl ?_
        have hk5 : τ (11 + 6 * i) = 5 := (nI_eq (by omega) (by omega)).mp (show nI (τ (11 + 6 * i)) = nI 5 from c74)
        have hle : ¬ nI (sq_n2 τ i + τ (10 + 6 * i)) ≤ nI (τ 2) := by rw [← nI_add]; exact Int32.not_le.mpr c99
        have hgo : sq_go τ i = false := by rw [sq_go, if_pos hk5]; exact decide_eq_false hle
        refine ih (i + 1) _ _ (by omega) (by omega) (by rw [hx]; exact nI_1' i) (hF.tr ⟨fun a p q => by rw [cond_false, az_up_o q], fun j hj => by rw [cond_false, az_up_o (by decide)]⟩) (by rw [cond_false, az_up_o (by decide), hp, sq_n2, if_pos hk5, if_neg hle]) (fun s hs hs2 => ?_)
        rw [cond_false]
        by_cases h9 : s = i
        · subst h9
          rw [az_up_s, hgo]
          rfl
        · rw [az_up_n h9]
          exact hg s hs (by rcases hs2 with q | q; exact Or.inl (by omega); exact Or.inr q)
      · refine az_er 2 rfl ?_
        refine az_ecallF rfl rfl rfl rfl (ct_settle_16 (g := true) hT2 hV (by omega) hx) ?_
        refine az_er 2 rfl ?_
        have hk5 : τ (11 + 6 * i) = 5 := (nI_eq (by omega) (by omega)).mp (show nI (τ (11 + 6 * i)) = nI 5 from c74)
        have hle : nI (sq_n2 τ i + τ (10 + 6 * i)) ≤ nI (τ 2) := by rw [← nI_add]; exact Int32.not_lt.mp c99
        have hgo : sq_go τ i = true := by rw [sq_go, if_pos hk5]; exact decide_eq_true hle
        refine ih (i + 1) _ _ (by omega) (by omega) (by rw [hx]; exact nI_1' i) (hF.tr ⟨fun a p q => by rw [cond_true, az_up_o p, az_up_o q], fun j hj => by rw [cond_true, az_up_n hj, az_up_o (by decide)]⟩) (by rw [cond_true, az_up_s, az_up_o (by decide), hp, nI_add, sq_n2, if_pos hk5, if_pos hle]) (fun s hs hs2 => ?_)
        rw [cond_true, az_up_o (by decide)]
        by_cases h9 : s = i
        · subst h9
          rw [az_up_s, hgo]
          rfl
        · rw [az_up_n h9]
          exact hg s hs (by rcases hs2 with q | q; exact Or.inl (by omega); exact Or.inr q)
set_option maxRecDepth 100000 in
theorem lp_decide1_16 {sc : az_S} {τ : Nat → Nat} {h : az_H} (hT : rt_T 16 τ h) (hV : rt_V τ) (hU : rt_U 16 τ h) : ∀ (d i : Nat) (x : Int32) (hh : az_H), i ≤ τ 0 → τ 0 - i = d → x = nI i → rt_I 16 h hh → hh 16 8 = nI (sq_n1 τ i) → (∀ s, s < i → τ (11 + 6 * s) ≠ 5 → hh 30 s = sq_b (sq_go τ s)) → az_E sc az_m_X6_askSorts 7 [.ref 16, .int x] [] hh (fun v h' => v = none ∧ rt_DI 16 τ h h') := by
  have e0 : h 17 6 = nI (τ 0) := hT.1.2.2.2.1
  have b0 : τ 0 ≤ 4 := hV.1
  have b1 : τ 1 ≤ 6 := hV.2.1
  have b2 : τ 2 ≤ 60 := hV.2.2.1
  have b4 : τ 4 ≤ 8 := hV.2.2.2.1
  intro d
  induction d with
  | zero =>
    intro i x hh hi hd hx hF hp hg
    have he : i = τ 0 := by omega
    have hT2 := rt_T_F hT hF.F
    have hU2 := hU.I hF
    have e0 : hh 17 6 = nI (τ 0) := hT2.1.2.2.2.1
    have e2 : hh 16 3 = nI (τ 2) := hT2.1.1
    refine az_er 4 rfl ?_
    refine az_ic_ge rfl rfl (fun c15 => ?_) (fun c15 => absurd (by rw [e0, hx, he]; exact nI_le (Nat.le_refl _) (by omega)) c15)
    refine az_er 2 rfl ?_
    exact lp_decide2_16 hT hV hU (τ 0) 0 0 hh (Nat.zero_le _) (by omega) rfl hF (by rw [hp, he]; rfl) (fun s hs hs2 => hg s (by omega) (by rcases hs2 with q | q; omega; exact q))
  | succ d ih =>
    intro i x hh hi hd hx hF hp hg
    have hlt : i < τ 0 := by omega
    have hk := (hV.2.2.2.2.2.1 i (by omega)).2.1
    have hT2 := rt_T_F hT hF.F
    have hU2 := hU.I hF
    have e0 : hh 17 6 = nI (τ 0) := hT2.1.2.2.2.1
    have e2 : hh 16 3 = nI (τ 2) := hT2.1.1
    refine az_er 4 rfl ?_
    refine az_ic_ge rfl rfl (fun c15 => absurd c15 (by rw [e0, hx]; exact nI_ge hlt (by omega))) (fun c15 => ?_)
    refine az_er 4 rfl ?_
    refine az_ecallF rfl rfl rfl rfl (ct_atI (v := nI (τ (11 + 6 * i))) rfl hx (by omega) (by decide) (hT2.2.1 i (by omega)).2.1) ?_
    refine az_er 1 rfl ?_
    refine az_ic_eq rfl rfl (fun c30 => ?_) (fun c30 => ?_)
    · refine az_er 2 rfl ?_
      have hk5 : τ (11 + 6 * i) = 5 := (nI_eq (by omega) (by omega)).mp (show nI (τ (11 + 6 * i)) = nI 5 from c30)
      refine ih (i + 1) _ hh (by omega) (by omega) (by rw [hx]; exact nI_1' i) hF (by rw [hp, sq_n1, sq_gs5 hk5]; rfl) (fun s hs hs2 => ?_)
      rcases (show s < i ∨ s = i by omega) with h9 | rfl
      · exact hg s h9 hs2
      · exact absurd hk5 hs2
    · refine az_er 4 rfl ?_
      refine az_ecallF rfl rfl rfl rfl (ct_wants_16 hT2 hV hU2 hlt hx) ?_
      refine az_ecallF rfl rfl rfl rfl (ct_settle_16 hT2 hV (by omega) hx) ?_
      refine az_er 2 rfl ?_
      have hk5 : τ (11 + 6 * i) ≠ 5 := fun q => c30 (by rw [q]; rfl)
      have hgo : sq_go τ i = sq_gs τ i := by rw [sq_go, if_neg hk5]
      cases hgs : sq_gs τ i
      · refine ih (i + 1) _ _ (by omega) (by omega) (by rw [hx]; exact nI_1' i) (hF.tr ⟨fun a p q => by rw [cond_false, az_up_o q], fun j hj => by rw [cond_false, az_up_o (by decide)]⟩) (by rw [cond_false, az_up_o (by decide), hp, sq_n1, hgs]; rfl) (fun s hs hs2 => ?_)
        rw [cond_false]
        by_cases h9 : s = i
        · subst h9
          rw [az_up_s, hgo, hgs]
          rfl
        · rw [az_up_n h9]
          exact hg s (by omega) hs2
      · refine ih (i + 1) _ _ (by omega) (by omega) (by rw [hx]; exact nI_1' i) (hF.tr ⟨fun a p q => by rw [cond_true, az_up_o p, az_up_o q], fun j hj => by rw [cond_true, az_up_n hj, az_up_o (by decide)]⟩) (by rw [cond_true, az_up_s, az_up_o (by decide), hp, nI_add, sq_n1, hgs]; rfl) (fun s hs hs2 => ?_)
        rw [cond_true, az_up_o (by decide)]
        by_cases h9 : s = i
        · subst h9
          rw [az_up_s, hgo, hgs]
          rfl
        · rw [az_up_n h9]
          exact hg s (by omega) hs2
set_option maxRecDepth 100000 in
theorem ct_askSorts_16 {sc : az_S} {τ : Nat → Nat} {h : az_H} (hT : rt_T 16 τ h) (hV : rt_V τ) (hU : rt_U 16 τ h) : az_E sc az_m_X6_askSorts 0 [.ref 16] [] h (fun v h' => v = none ∧ rt_DI 16 τ h h') := by
  refine az_er 5 rfl ?_
  exact lp_decide1_16 hT hV hU (τ 0) 0 0 _ (Nat.zero_le _) (by omega) rfl ⟨fun a p q => az_up_o p, fun j hj => az_up_n hj⟩ az_up_s (fun s hs => absurd hs (Nat.not_lt_zero s))
set_option maxRecDepth 100000 in
theorem lp_askRules_16 {sc : az_S} {τ : Nat → Nat} {h : az_H} (hT : rt_T 16 τ h) (hV : rt_V τ) : ∀ (d i : Nat) (x : Int32) (hh : az_H), i ≤ τ 1 → τ 1 - i = d → x = nI i → (∀ r, r < i → hh 16 (100 + r) = sq_fb τ r) → (∀ a, a ≠ 16 → hh a = h a) → (∀ j, j < 100 → hh 16 j = h 16 j) → az_E sc az_m_X6_askRules 2 [.ref 16, .int x] [] hh (fun v h' => v = none ∧ rt_U 16 τ h' ∧ (∀ a, a ≠ 16 → h' a = h a) ∧ ∀ j, j < 100 → h' 16 j = h 16 j) := by
  have b0 : τ 0 ≤ 4 := hV.1
  have b1 : τ 1 ≤ 6 := hV.2.1
  have b2 : τ 2 ≤ 60 := hV.2.2.1
  have b4 : τ 4 ≤ 8 := hV.2.2.2.1
  intro d
  induction d with
  | zero =>
    intro i x hh hi hd hx hu hF hF2
    have he : i = τ 1 := by omega
    have hT2 : rt_T 16 τ hh := rt_T_F hT ⟨fun a p _ => hF a p, fun j _ p => hF2 j p⟩
    have e1 : hh 24 3 = nI (τ 1) := hT2.1.2.2.2.2.1
    refine az_er 4 rfl ?_
    refine az_ic_ge rfl rfl (fun c10 => ?_) (fun c10 => absurd (by rw [e1, hx, he]; exact nI_le (Nat.le_refl _) (by omega)) c10)
    refine az_eret rfl rfl rfl ?_
    exact ⟨rfl, fun r hr => hu r (by omega), hF, hF2⟩
  | succ d ih =>
    intro i x hh hi hd hx hu hF hF2
    have hlt : i < τ 1 := by omega
    have hT2 : rt_T 16 τ hh := rt_T_F hT ⟨fun a p _ => hF a p, fun j _ p => hF2 j p⟩
    have e1 : hh 24 3 = nI (τ 1) := hT2.1.2.2.2.2.1
    refine az_er 4 rfl ?_
    refine az_ic_ge rfl rfl (fun c10 => absurd c10 (by rw [e1, hx]; exact nI_ge hlt (by omega))) (fun c10 => ?_)
    refine az_er 8 rfl ?_
    refine az_ecallF rfl rfl rfl rfl (ct_atI rfl hx (by omega) (by decide) (hT2.2.2.1 i (by omega)).1) ?_
    refine az_er 4 rfl ?_
    refine az_ecallF rfl rfl rfl rfl (ct_atI rfl hx (by omega) (by decide) (hT2.2.2.1 i (by omega)).2.1) ?_
    refine az_ecallF rfl rfl rfl rfl (ct_foretells_16 hT2 hV ⟨hV.2.2.2.2.2.2.2.2.1 i hlt, (hV.2.2.2.2.2.2.2.1 i (by omega)).2⟩ rfl (hV.2.2.2.2.2.2.2.1 i (by omega)).1) ?_
    refine az_ecallF rfl rfl rfl rfl (ct_putV rfl hx (by omega) (by decide)) ?_
    refine az_er 2 rfl ?_
    refine ih (i + 1) _ _ (by omega) (by omega) (by rw [hx]; exact nI_1' i) (fun r hr => ?_) (fun a ha => (az_up_o ha).trans (hF a ha)) (fun j hj => (az_up_at (Or.inr (show j ≠ 100 + i by omega))).trans (hF2 j hj))
    show az_up hh 16 (100 + i) _ 16 (100 + r) = _
    by_cases h9 : r = i
    · subst h9
      rw [az_up_s]
      rfl
    · rw [az_up_n (by omega)]
      exact hu r (by omega)
set_option maxRecDepth 100000 in
theorem ct_askRules_16 {sc : az_S} {τ : Nat → Nat} {h : az_H} (hT : rt_T 16 τ h) (hV : rt_V τ) : az_E sc az_m_X6_askRules 0 [.ref 16] [] h (fun v h' => v = none ∧ rt_U 16 τ h' ∧ (∀ a, a ≠ 16 → h' a = h a) ∧ ∀ j, j < 100 → h' 16 j = h 16 j) := by
  refine az_er 2 rfl ?_
  exact lp_askRules_16 hT hV (τ 1) 0 0 h (Nat.zero_le _) (by omega) rfl (fun r hr => absurd hr (Nat.not_lt_zero r)) (fun _ _ => rfl) (fun _ _ => rfl)
set_option maxRecDepth 100000 in
theorem ct_decide_16 {sc : az_S} {τ : Nat → Nat} {h : az_H} (hT : rt_T 16 τ h) (hV : rt_V τ) : az_E sc az_m_X6_decide 0 [.ref 16] [] h (fun v h' => v = none ∧ rt_D 16 τ h h') := by
  refine az_er 1 rfl ?_
  refine az_ecall rfl rfl rfl rfl (ct_askRules_16 hT hV) ?_
  rintro _ hh ⟨rfl, hU, hF, hF2⟩
  have hA : rt_F 16 h hh := ⟨fun a p _ => hF a p, fun j _ p => hF2 j p⟩
  refine az_er 1 rfl ?_
  refine az_ecall rfl rfl rfl rfl (ct_askSorts_16 (rt_T_F hT hA) hV hU) ?_
  rintro _ h2 ⟨rfl, hI, hp, hg⟩
  refine az_eret rfl rfl rfl ?_
  exact ⟨rfl, hA.tr hI.F, hp, hg⟩
set_option maxRecDepth 100000 in
theorem cx_goBy_16 {sc : az_S} {τ : Nat → Nat} {h : az_H} (hT : rt_T 16 τ h) (hV : rt_V τ) {Q : Option Value → az_H → Prop} (K : ∀ h2, rt_D 16 τ h h2 → rt_U 16 τ h2 → az_E sc az_m_X6_goBy 8 [.ref 16] [] h2 Q) : az_E sc az_m_X6_goBy 0 [.ref 16] [] h Q := by
  refine az_er 1 rfl ?_
  refine az_ecall rfl rfl rfl rfl (ct_askRules_16 hT hV) ?_
  rintro _ hh ⟨rfl, hU, hF, hF2⟩
  have hA : rt_F 16 h hh := ⟨fun a p _ => hF a p, fun j _ p => hF2 j p⟩
  refine az_er 1 rfl ?_
  refine az_ecall rfl rfl rfl rfl (ct_askSorts_16 (rt_T_F hT hA) hV hU) ?_
  rintro _ h2 ⟨rfl, hI, hp, hg⟩
  exact K h2 ⟨hA.tr hI.F, hp, hg⟩ (hU.I hI)
