/-! towns by seeds -/
def sq_lc (s : Int32) : Int32 := s * 1664525 + 1013904223
def sq_sd : Nat → Int32 → Int32
  | 0, s => s
  | i + 1, s => sq_lc (sq_sd i s)
def sq_dv (s : Int32) (m : Nat) : Nat := s.toBitVec.toNat % 2 ^ 31 / 256 % (m + 1)
theorem sq_dv_le (s : Int32) (m : Nat) : sq_dv s m ≤ m := Nat.le_of_lt_succ (Nat.mod_lt _ (Nat.succ_pos m))
theorem dv_q (s : Int32) : (s &&& 2147483647) / 256 = nI (s.toBitVec.toNat % 2 ^ 31 / 256) := by
  rw [pk_and s (m := 2147483647) 31 (by decide), show (256 : Int32) = nI 256 from rfl, pk_div (Nat.mod_lt _ (by decide)) (by decide) (by decide)]
theorem dv_r (s : Int32) {m : Nat} (hm : m ≤ 100) : (s &&& 2147483647) / 256 - (s &&& 2147483647) / 256 / nI (m + 1) * nI (m + 1) = nI (sq_dv s m) := by
  have h1 : s.toBitVec.toNat % 2 ^ 31 < 2 ^ 31 := Nat.mod_lt _ (by decide)
  rw [dv_q, pk_rem (by omega) (by omega) (by omega)]
  rfl
theorem dv_c (s : Int32) {m : Nat} (hm : m ≤ 100) : (if nI (m + 1) ≤ 0 then 0 else (s &&& 2147483647) / 256 - (s &&& 2147483647) / 256 / nI (m + 1) * nI (m + 1)) = nI (sq_dv s m) := by
  rw [if_neg (nI_nle (by omega) (by omega)), dv_r s hm]
/-- the first i weeks drawn -/
def sq_dw (τ : Nat → Nat) (z : Int32) (i : Nat) : Nat → Nat := fun j => if 60 ≤ j ∧ j < 60 + i then sq_dv (sq_sd (j - 59) z) (sq_pp τ (τ 0)) else τ j
theorem sq_dw_o {τ : Nat → Nat} {z : Int32} {i j : Nat} (h : j < 60) : sq_dw τ z i j = τ j := by unfold sq_dw; rw [if_neg (by omega)]
theorem sq_dw_s {τ : Nat → Nat} {z : Int32} {i j : Nat} (h : j ≠ 60 + i) : sq_dw τ z (i + 1) j = sq_dw τ z i j := by
  unfold sq_dw
  by_cases h1 : 60 ≤ j ∧ j < 60 + i
  · rw [if_pos h1, if_pos (by omega)]
  · rw [if_neg h1, if_neg (by omega)]
theorem sq_dw_k {τ : Nat → Nat} {z : Int32} {i : Nat} : sq_dw τ z (i + 1) (60 + i) = sq_dv (sq_sd (i + 1) z) (sq_pp τ (τ 0)) := by
  unfold sq_dw
  rw [if_pos (by omega), show 60 + i - 59 = i + 1 by omega]
theorem sq_pp_c {τ τ2 : Nat → Nat} : ∀ n, (∀ s, s < n → τ2 (10 + 6 * s) = τ (10 + 6 * s)) → sq_pp τ2 n = sq_pp τ n
  | 0, _ => rfl
  | n + 1, e => by rw [sq_pp, sq_pp, sq_pp_c n (fun s hs => e s (by omega)), e n (by omega)]
theorem sq_pp_dw {τ : Nat → Nat} {z : Int32} {i : Nat} (h0 : τ 0 ≤ 4) : sq_pp (sq_dw τ z i) (sq_dw τ z i 0) = sq_pp τ (τ 0) := by
  rw [sq_dw_o (by omega), sq_pp_c _ (fun s hs => sq_dw_o (by omega))]
theorem rt_V_dw {τ : Nat → Nat} {z : Int32} (hV : rt_V τ) {i : Nat} : rt_V (sq_dw τ z i) := by
  have hp := rt_pp hV (τ 0) hV.1
  obtain ⟨h0, h1, h2, h4, h5, hs, hs2, hr, hr2, hw⟩ := hV
  have e : ∀ j, j < 60 → sq_dw τ z i j = τ j := fun j a => sq_dw_o a
  refine ⟨by rw [e _ (by omega)]; exact h0, by rw [e _ (by omega)]; exact h1, by rw [e _ (by omega)]; exact h2, by rw [e _ (by omega)]; exact h4, by rw [e _ (by omega)]; exact h5, fun s h9 => ?_, fun s h9 => ?_, fun r h9 => ?_, fun r h9 => ?_, fun w h9 => ?_⟩
  · rw [e _ (by omega), e _ (by omega), e _ (by omega), e _ (by omega), e _ (by omega), e _ (by omega)]; exact hs s h9
  · rw [e 0 (by omega)] at h9
    have : s < 4 := by omega
    rw [e _ (by omega), e _ (by omega), e _ (by omega), e _ (by omega)]; exact hs2 s h9
  · rw [e _ (by omega), e _ (by omega)]; exact hr r h9
  · rw [e 1 (by omega)] at h9
    have : r < 6 := by omega
    rw [e _ (by omega)]; exact hr2 r h9
  · have := hw w h9
    have h6 := sq_dv_le (sq_sd (60 + w - 59) z) (sq_pp τ (τ 0))
    unfold sq_dw
    split <;> omega
def sq_sz (τ : Nat → Nat) (z : Int32) : Nat → (Nat → Nat) × Int32
  | 0 => (τ, z)
  | t + 1 => (sq_dw (sq_sz τ z t).1 (sq_sz τ z t).2 ((sq_sz τ z t).1 4), sq_sd ((sq_sz τ z t).1 4) (sq_sz τ z t).2)
def sq_ss (τ : Nat → Nat) (z : Int32) : Nat → Nat
  | 0 => 0
  | t + 1 => sq_ss τ z t + sq_pr (sq_sz τ z (t + 1)).1
theorem rt_V_sz {τ : Nat → Nat} {z : Int32} (hV : rt_V τ) : ∀ t, rt_V (sq_sz τ z t).1
  | 0 => hV
  | t + 1 => rt_V_dw (rt_V_sz hV t)
set_option maxRecDepth 100000 in
theorem lp_draw {sc : az_S} {τ : Nat → Nat} {h : az_H} {z b : Int32} (hV : rt_V τ) (hb : b = nI (sq_pp τ (τ 0) + 1)) : ∀ (d i : Nat) (s y : Int32) (hh : az_H), i ≤ τ 4 → τ 4 - i = d → s = sq_sd i z → y = nI i → rt_T 16 (sq_dw τ z i) hh → (∀ a, a ≠ 29 → hh a = h a) → az_E sc az_m_X6_drawMemory 15 [.ref 16, .int z, .int s, .int b, .int y] [] hh (fun v h1 => v = some (.int (sq_sd (τ 4) z)) ∧ rt_T 16 (sq_dw τ z (τ 4)) h1 ∧ ∀ a, a ≠ 29 → h1 a = h a) := by
  have b4 : τ 4 ≤ 8 := hV.2.2.2.1
  have b0 := hV.1
  have bp := rt_pp hV (τ 0) hV.1
  have n4 : ∀ {i : Nat} (hh : az_H), rt_T 16 (sq_dw τ z i) hh → hh 28 1 = nI (τ 4) := fun hh hT => hT.1.2.2.2.2.2.trans (congrArg nI (sq_dw_o (by omega)))
  intro d
  induction d with
  | zero =>
    intro i s y hh hi hd hs hy hT2 hF
    have he : i = τ 4 := by omega
    refine az_er 4 rfl ?_
    rw [n4 hh hT2]
    refine az_ic_ge rfl rfl (fun c24 => ?_) (fun c24 => absurd (by rw [hy, he]; exact nI_le (Nat.le_refl _) (by omega)) c24)
    refine az_er 1 rfl ?_
    refine az_eret rfl rfl rfl ?_
    exact ⟨by rw [hs, he], he ▸ hT2, hF⟩
  | succ d ih =>
    intro i s y hh hi hd hs hy hT2 hF
    refine az_er 4 rfl ?_
    rw [n4 hh hT2]
    refine az_ic_ge rfl rfl (fun c24 => absurd c24 (by rw [hy]; exact nI_ge (by omega) (by omega))) (fun c24 => ?_)
    refine az_er 16 rfl ?_
    refine az_ecallF rfl rfl rfl rfl (ct_remainder.eq (show _ = some (Value.int (nI (sq_dv (sq_sd (i + 1) z) (sq_pp τ (τ 0))))) by rw [hs, hb]; exact congrArg (fun q => some (Value.int q)) (dv_c (sq_sd (i + 1) z) (by omega))) rfl) ?_
    refine az_ecallF rfl rfl rfl rfl (ct_putI rfl hy (show i < 8 by omega) (by decide)) ?_
    refine az_er 2 rfl ?_
    refine ih (i + 1) _ _ _ (by omega) (by omega) (by rw [hs]; rfl) (by rw [hy]; exact nI_1' i) (rt_T_wk hT2 (show i < 8 by omega) (fun j hj => sq_dw_s hj) (congrArg nI sq_dw_k.symm)) (fun a ha => by rw [az_up_o ha]; exact hF a ha)
set_option maxRecDepth 100000 in
theorem ct_draw {sc : az_S} {τ : Nat → Nat} {h : az_H} {z : Int32} (hV : rt_V τ) (hT : rt_T 16 τ h) : az_E sc az_m_X6_drawMemory 0 [.ref 16, .int z] [] h (fun v h1 => v = some (.int (sq_sd (τ 4) z)) ∧ rt_T 16 (sq_dw τ z (τ 4)) h1 ∧ ∀ a, a ≠ 29 → h1 a = h a) := by
  refine az_er 4 rfl ?_
  refine az_ecallF rfl rfl rfl rfl (ct_people_16 hT hV) ?_
  refine az_er 5 rfl ?_
  exact lp_draw hV (nI_1' _) (τ 4) 0 _ 0 h (Nat.zero_le _) (Nat.sub_zero _) rfl rfl (rt_T_cong hT (fun j _ => if_neg (by omega))) (fun _ _ => rfl)
set_option maxRecDepth 100000 in
theorem lp_seeds {sc : az_S} {τ : Nat → Nat} {h : az_H} {x z w9 : Int32} {n : Nat} (hV : rt_V τ) (hx : x = nI n) (hn : n ≤ 20) : ∀ (d i : Nat) (s q y : Int32) (hh : az_H), i ≤ n → n - i = d → s = (sq_sz τ z i).2 → q = nI (sq_ss τ z i) → y = nI i → rt_T 16 (sq_sz τ z i).1 hh → rt_Fm h hh → az_E sc az_m_X7_seeds 38 [.ref 0, .int x, .int z, .int w9, .int s, .int q, .int y] [] hh (fun v h1 => v = some (.int (nI (sq_ss τ z n))) ∧ rt_Fm h h1) := by
  intro d
  induction d with
  | zero =>
    intro i s q y hh hi hd hs hq hy hT2 hF
    have he : i = n := by omega
    refine az_er 2 rfl ?_
    refine az_ic_ge rfl rfl (fun c41 => ?_) (fun c41 => absurd (by rw [hy, hx, he]; exact nI_le (Nat.le_refl _) (by omega)) c41)
    refine az_er 1 rfl ?_
    refine az_eret rfl rfl rfl ?_
    exact ⟨by rw [hq, he], hF⟩
  | succ d ih =>
    intro i s q y hh hi hd hs hq hy hT2 hF
    subst hs
    refine az_er 2 rfl ?_
    refine az_ic_ge rfl rfl (fun c41 => absurd c41 (by rw [hy, hx]; exact nI_ge (by omega) (by omega))) (fun c41 => ?_)
    refine az_er 3 rfl ?_
    refine az_ecall rfl rfl rfl rfl (ct_draw (rt_V_sz hV i) hT2) ?_
    rintro _ h2 ⟨rfl, g1, g2⟩
    refine az_er 3 rfl ?_
    refine az_ecall rfl rfl rfl rfl (ct_decide_16 g1 (rt_V_sz hV (i + 1))) ?_
    rintro _ h3 ⟨rfl, kF, kp, kg⟩
    refine az_er 8 rfl ?_
    refine ih (i + 1) _ _ _ _ (by omega) (by omega) rfl (by rw [hq, kp, nI_add]; rfl) (by rw [hy]; exact nI_1' i) (rt_T_F g1 kF) (fun a p q => by rw [kF.1 a (by omega) (by omega), g2 a (by omega)]; exact hF a p q)
set_option maxRecDepth 100000 in
theorem lm_draw {sc : az_S} {τ : Nat → Nat} {h : az_H} {Q : Option Value → az_H → Prop} {x z zz q t : Int32} (hV : rt_V τ) (K : ∀ s y hh, s = sq_sd (τ 4) z → rt_M 61 (sq_dw τ z (τ 4)) hh → (∀ a, a ≠ 61 → hh a = h a) → az_E sc az_m_X8_seeds 100 [.ref 59, .int x, .int zz, .int s, .int q, .int t, .int y] [] hh Q) : ∀ (d i : Nat) (s y : Int32) (hh : az_H), i ≤ τ 4 → τ 4 - i = d → s = sq_sd i z → y = nI i → rt_M 61 (sq_dw τ z i) hh → (∀ a, a ≠ 61 → hh a = h a) → az_E sc az_m_X8_seeds 50 [.ref 59, .int x, .int zz, .int s, .int q, .int t, .int y] [] hh Q := by
  have b4 : τ 4 ≤ 8 := hV.2.2.2.1
  have b0 := hV.1
  have bp := rt_pp hV (τ 0) hV.1
  intro d
  induction d with
  | zero =>
    intro i s y hh hi hd hs hy hM hF
    have he : i = τ 4 := by omega
    refine az_er 4 rfl ?_
    refine az_iaI rfl rfl (j := 4) rfl (by decide) (by decide) ((hM 4 (by decide)).trans (congrArg nI (sq_dw_o (by omega)))) ?_
    refine az_ic_ge rfl rfl (fun c58 => ?_) (fun c58 => absurd (by rw [hy, he]; exact nI_le (Nat.le_refl _) (by omega)) c58)
    exact K s y hh (by rw [hs, he]) (he ▸ hM) hF
  | succ d ih =>
    intro i s y hh hi hd hs hy hM hF
    refine az_er 4 rfl ?_
    refine az_iaI rfl rfl (j := 4) rfl (by decide) (by decide) ((hM 4 (by decide)).trans (congrArg nI (sq_dw_o (by omega)))) ?_
    refine az_ic_ge rfl rfl (fun c58 => absurd c58 (by rw [hy]; exact nI_ge (by omega) (by omega))) (fun c58 => ?_)
    refine az_er 17 rfl ?_
    refine az_ecallF rfl rfl rfl rfl ((cm_people hM (rt_V_dw hV)).eq (by rw [sq_pp_dw b0]) rfl) ?_
    refine az_er 2 rfl ?_
    refine az_rem rfl ((fun q => absurd ((nI_1' (sq_pp τ (τ 0))).symm.trans q) (nI_ne0 (by omega) (by omega)))) ?_
    refine az_iasI rfl rfl (ix_w hy) (show 60 + i < 70 by omega) (by decide) ?_
    refine az_er 2 rfl ?_
    refine ih (i + 1) _ _ _ (by omega) (by omega) (by rw [hs]; rfl) (by rw [hy]; exact nI_1' i) (rt_M_up hM (fun j _ hj => sq_dw_s hj) ?_) (fun a ha => by rw [az_up_o ha]; exact hF a ha)
    rw [sq_dw_k, hs, ← dv_r (sq_sd (i + 1) z) (m := sq_pp τ (τ 0)) (by omega), ← nI_1']
    rfl
set_option maxRecDepth 100000 in
theorem lm_seeds {sc : az_S} {τ : Nat → Nat} {h : az_H} {x z : Int32} {n : Nat} (hV : rt_V τ) (h73 : rt_M 73 τ h) (hx : x = nI n) (hn : n ≤ 20) : ∀ (d i : Nat) (s q y : Int32) (tl : List Value) (hh : az_H), i ≤ n → n - i = d → s = (sq_sz τ z i).2 → q = nI (sq_ss τ z i) → y = nI i → (tl = [] ∨ ∃ k, tl = [.int k]) → rt_M 61 (sq_sz τ z i).1 hh → (∀ a, a ≠ 61 → a ≠ 69 → hh a = h a) → az_E sc az_m_X8_seeds 41 (.ref 59 :: .int x :: .int z :: .int s :: .int q :: .int y :: tl) [] hh (fun v h1 => v = some (.int (nI (sq_ss τ z n))) ∧ rt_M 61 τ h1 ∧ ∀ a, a ≠ 61 → a ≠ 69 → h1 a = h a) := by
  intro d
  induction d with
  | zero =>
    intro i s q y tl hh hi hd hs hq hy htl hM hF
    have he : i = n := by omega
    refine az_er 2 rfl ?_
    refine az_ic_ge rfl rfl (fun c44 => ?_) (fun c44 => absurd (by rw [hy, hx, he]; exact nI_le (Nat.le_refl _) (by omega)) c44)
    refine az_er 4 rfl ?_
    refine az_ecallF rfl rfl rfl rfl (cm_move rfl rfl (by decide)) ?_
    refine az_er 1 rfl ?_
    refine az_eret rfl rfl rfl ?_
    exact ⟨by rw [hq, he], rt_M_cp (a := 73) (fun j hj => by rw [hF 73 (by decide) (by decide)]; exact h73 j hj), fun a p q => by rw [az_cp_o p]; exact hF a p q⟩
  | succ d ih =>
    intro i s q y tl hh hi hd hs hq hy htl hM hF
    rcases htl with rfl | ⟨k9, rfl⟩
    · skip
      refine az_er 2 rfl ?_
      refine az_ic_ge rfl rfl (fun c44 => absurd c44 (by rw [hy, hx]; exact nI_ge (by omega) (by omega))) (fun c44 => ?_)
      refine az_er 2 rfl ?_
      refine lm_draw (rt_V_sz hV i) (fun s2 y2 h2 k0 k1 k2 => ?_) ((sq_sz τ z i).1 4) 0 _ 0 hh (Nat.zero_le _) (Nat.sub_zero _) hs rfl (rt_M_cong hM (fun j _ => if_neg (by omega))) (fun _ _ => rfl)
      refine az_er 2 rfl ?_
      refine az_ecall rfl rfl rfl rfl (cm_present k1 (rt_V_sz hV (i + 1))) ?_
      rintro _ h3 ⟨rfl, p1, p2⟩
      refine az_er 4 rfl ?_
      refine ih (i + 1) _ _ _ _ _ (by omega) (by omega) k0 (by rw [hq, nI_add]; rfl) (by rw [hy]; exact nI_1' i) (Or.inr ⟨_, rfl⟩) (rt_M_h k1 (p1 61 (by decide))) (fun a p q => by rw [p1 a q, k2 a p]; exact hF a p q)
    · skip
      refine az_er 2 rfl ?_
      refine az_ic_ge rfl rfl (fun c44 => absurd c44 (by rw [hy, hx]; exact nI_ge (by omega) (by omega))) (fun c44 => ?_)
      refine az_er 2 rfl ?_
      refine lm_draw (rt_V_sz hV i) (fun s2 y2 h2 k0 k1 k2 => ?_) ((sq_sz τ z i).1 4) 0 _ 0 hh (Nat.zero_le _) (Nat.sub_zero _) hs rfl (rt_M_cong hM (fun j _ => if_neg (by omega))) (fun _ _ => rfl)
      refine az_er 2 rfl ?_
      refine az_ecall rfl rfl rfl rfl (cm_present k1 (rt_V_sz hV (i + 1))) ?_
      rintro _ h3 ⟨rfl, p1, p2⟩
      refine az_er 4 rfl ?_
      refine ih (i + 1) _ _ _ _ _ (by omega) (by omega) k0 (by rw [hq, nI_add]; rfl) (by rw [hy]; exact nI_1' i) (Or.inr ⟨_, rfl⟩) (rt_M_h k1 (p1 61 (by decide))) (fun a p q => by rw [p1 a q, k2 a p]; exact hF a p q)
set_option maxRecDepth 100000 in
theorem op_seeds {x z : Int32} : rt_op az_m_X7_seeds az_m_X8_seeds [.int x, .int z] := by
  intro sc σ h hC hW
  rcases rt_cas (x := x) (lo := 1) (hi := 20) with hx | hx | hx
  · refine ⟨-4, sp_ref σ 4, hW, ?_, ?_⟩
    · refine az_er 3 rfl ?_
      refine az_ecallF rfl rfl rfl rfl (ct_outB hx) ?_
      refine az_er 2 rfl ?_
      refine az_if_eq rfl rfl (fun c9 => absurd c9 (by decide)) (fun c9 => ?_)
      refine az_er 2 rfl ?_
      refine az_ecall rfl rfl rfl rfl (ct_refuse hC (k := 4) (by decide) (by decide)) ?_
      rintro _ hh ⟨rfl, hh2, hh3⟩
      refine az_eret rfl rfl rfl ?_
      exact ⟨rfl, hh2, hh3⟩
    · intro h1 hR
      refine az_er 3 rfl ?_
      refine az_ecallF rfl rfl rfl rfl (cm_isWrong.eq (by rw [az_outB hx]) rfl) ?_
      refine az_if_eq rfl rfl (fun c7 => absurd c7 (by decide)) (fun c7 => ?_)
      refine az_er 4 rfl ?_
      refine az_ecallF rfl rfl rfl rfl (cm_isWrong.eq (by rw [az_outB hx]) rfl) ?_
      refine az_ecall rfl rfl rfl rfl (cm_no hR (k := 4) (by decide) (by decide)) ?_
      rintro _ hh ⟨rfl, hh2, hh3⟩
      refine az_eret rfl rfl rfl ?_
      exact ⟨rfl, hh2, hh3⟩
  · refine ⟨-6, sp_ref σ 6, hW, ?_, ?_⟩
    · refine az_er 3 rfl ?_
      refine az_ecallF rfl rfl rfl rfl (ct_outR hx.1 hx.2) ?_
      refine az_er 2 rfl ?_
      refine az_if_eq rfl rfl (fun c9 => absurd c9 (by decide)) (fun c9 => ?_)
      refine az_er 2 rfl ?_
      refine az_ecall rfl rfl rfl rfl (ct_refuse hC (k := 6) (by decide) (by decide)) ?_
      rintro _ hh ⟨rfl, hh2, hh3⟩
      refine az_eret rfl rfl rfl ?_
      exact ⟨rfl, hh2, hh3⟩
    · intro h1 hR
      refine az_er 3 rfl ?_
      refine az_ecallF rfl rfl rfl rfl ((cm_isWrong (y := 20)).eq (by rw [az_outR hx]) rfl) ?_
      refine az_if_eq rfl rfl (fun c7 => absurd c7 (by decide)) (fun c7 => ?_)
      refine az_er 4 rfl ?_
      refine az_ecallF rfl rfl rfl rfl ((cm_isWrong (y := 20)).eq (by rw [az_outR hx]) rfl) ?_
      refine az_ecall rfl rfl rfl rfl (cm_no hR (k := 6) (by decide) (by decide)) ?_
      rintro _ hh ⟨rfl, hh2, hh3⟩
      refine az_eret rfl rfl rfl ?_
      exact ⟨rfl, hh2, hh3⟩
  · obtain ⟨n, hn, rfl⟩ := rt_nat (x := x) (m := 20) (Int32.le_trans (by decide) hx.1) hx.2 (by decide)
    refine ⟨nI (sq_ss σ.1 z n), σ, hW, ?_, ?_⟩
    · refine az_er 3 rfl ?_
      refine az_ecallF rfl rfl rfl rfl (ct_out0 hx.1 hx.2) ?_
      refine az_er 2 rfl ?_
      refine az_if_eq rfl rfl (fun c9 => ?_) (fun c9 => absurd rfl c9)
      refine az_er 4 rfl ?_
      refine az_ecall rfl rfl rfl rfl (ct_copy_16_1 hC.1) ?_
      rintro _ h2 ⟨rfl, g1, g2⟩
      refine az_er 6 rfl ?_
      refine az_E.mono (lp_seeds (z := z) hW.1 rfl hn n 0 _ 0 0 h2 (Nat.zero_le _) (Nat.sub_zero _) rfl rfl rfl g1 (fun _ _ _ => rfl)) ?_
      rintro _ h3 ⟨rfl, l3⟩
      have l4 : rt_Fm h h3 := fun a p q => (l3 a p q).trans (g2 a (by omega))
      exact ⟨rfl, rt_C_F hC (rt_Fs_m l4), fun a ha => l4 a (by omega) (by omega)⟩
    · intro h1 hR
      refine az_er 3 rfl ?_
      refine az_ecallF rfl rfl rfl rfl ((cm_isWrong (y := 20)).eq (by rw [az_out0 hx]) rfl) ?_
      refine az_if_eq rfl rfl (fun c7 => ?_) (fun c7 => absurd rfl c7)
      refine az_er 4 rfl ?_
      refine az_ecallF rfl rfl rfl rfl (cm_move rfl rfl (by decide)) ?_
      refine az_er 6 rfl ?_
      refine az_E.mono (lm_seeds (z := z) (τ := σ.1) hW.1 (rt_M_cp hR.1) rfl hn n 0 _ 0 0 [] _ (Nat.zero_le _) (Nat.sub_zero _) rfl rfl rfl (Or.inl rfl) (rt_M_h hR.1 (az_cp_o (by decide))) (fun _ _ _ => rfl)) ?_
      rintro _ h3 ⟨rfl, l1, l3⟩
      have u : ∀ a, a ≠ 61 → a ≠ 63 → (a < 68 ∨ 73 < a) → h3 a = h1 a := fun a p q r => by rw [l3 a p (by omega), az_cp_o (by omega)]
      exact ⟨rfl, rt_R_B hR l1 u, fun a ha => u a (by omega) (by omega) (by omega)⟩
