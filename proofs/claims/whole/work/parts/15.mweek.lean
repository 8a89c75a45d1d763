/-! a week in the reference -/
theorem sq_ri_eq {τ : Nat → Nat} {r : Nat} : sq_ri τ r = decide (sq_ok τ r = decide (nI (sq_pr τ) ≤ nI (τ 2))) := rfl
theorem sq_ok_rt {τ : Nat → Nat} (hV : rt_V τ) {i r : Nat} (hi : i ≤ 6) (hr : r < τ 1) : sq_ok (sq_rt τ i) r = sq_ok τ r := by
  rw [sq_ok, sq_ok, sq_fb_rt hV hi hr, show sq_rt τ i 2 = τ 2 from sq_rt_of (by omega) hi]
theorem cm_ofv {sc : az_S} {τ : Nat → Nat} {h : az_H} (hT : rt_M 61 τ h) {x y : Int32} {s k v : Nat} (hx : x = nI s) (hy : y = nI k) (hk : 10 + 6 * s + k < 70) (hv : τ (10 + 6 * s + k) = v) : az_F sc az_m_X8_of [.ref 59, .int x, .int y] h (some (.int (nI v))) h := by
  subst hv
  exact cm_of hT hx hy hk
set_option maxRecDepth 100000 in
theorem lm_pr2 {sc : az_S} {τ : Nat → Nat} {h : az_H} (hT : rt_M 61 τ h) (hV : rt_V τ) : ∀ (d i : Nat) (x y : Int32) (tl : List Value) (hh : az_H), i ≤ τ 0 → τ 0 - i = d → x = nI (sq_n2 τ i) → y = nI i → (∀ a, a ≠ 69 → hh a = h a) → (∀ s, s < τ 0 → s < i ∨ τ (11 + 6 * s) ≠ 5 → hh 69 s = sq_b (sq_go τ s)) → az_E sc az_m_X8_present 166 (.ref 59 :: .int x :: .int y :: tl) [] hh (fun v h' => v = some (.int (nI (sq_pr τ))) ∧ (∀ a, a ≠ 69 → h' a = h a) ∧ ∀ s, s < τ 0 → h' 69 s = sq_b (sq_go τ s)) := by
  have b0 : τ 0 ≤ 4 := hV.1
  have b1 : τ 1 ≤ 6 := hV.2.1
  have b2 : τ 2 ≤ 60 := hV.2.2.1
  have b4 : τ 4 ≤ 8 := hV.2.2.2.1
  intro d
  induction d with
  | zero =>
    intro i x y tl hh hi hd hx hy ha hg
    have he : i = τ 0 := by omega
    have hT2 : rt_M 61 τ hh := rt_M_h hT (ha 61 (by decide))
    refine az_er 4 rfl ?_
    refine az_iaI rfl rfl (j := 0) (show Int32.ofInt 0 = nI 0 from rfl) (by decide) (by decide) (hT2 0 (by decide)) ?_
    refine az_ic_ge rfl rfl (fun c173 => ?_) (fun c173 => absurd (by rw [hy, he]; exact nI_le (Nat.le_refl _) (by omega)) c173)
    refine az_er 1 rfl ?_
    refine az_eret rfl rfl rfl ?_
    exact ⟨by rw [hx, he]; rfl, ha, fun s hs => hg s hs (Or.inl (by omega))⟩
  | succ d ih =>
    intro i x y tl hh hi hd hx hy ha hg
    have hlt : i < τ 0 := by omega
    have hk := (hV.2.2.2.2.2.1 i (by omega)).2.1
    have hm9 := (hV.2.2.2.2.2.1 i (by omega)).1
    have hn9 := sq_n2_le hV i (by omega)
    have hT2 : rt_M 61 τ hh := rt_M_h hT (ha 61 (by decide))
    refine az_er 4 rfl ?_
    refine az_iaI rfl rfl (j := 0) (show Int32.ofInt 0 = nI 0 from rfl) (by decide) (by decide) (hT2 0 (by decide)) ?_
    refine az_ic_ge rfl rfl (fun c173 => absurd c173 (by rw [hy]; exact nI_ge hlt (by omega))) (fun c173 => ?_)
    refine az_er 3 rfl ?_
    refine az_ecallF rfl rfl rfl rfl (cm_ofv hT2 (s := i) (k := 1) hy rfl (by omega) (show τ (10 + 6 * i + 1) = τ (11 + 6 * i) by rw [show 10 + 6 * i + 1 = 11 + 6 * i by omega])) ?_
    refine az_er 1 rfl ?_
    refine az_ic_ne rfl rfl (fun c183 => ?_) (fun c183 => ?_)
    · have hk5 : τ (11 + 6 * i) ≠ 5 := fun q => c183 (by rw [q]; rfl)
      refine az_er 2 rfl ?_
      refine ih (i + 1) _ _ tl hh (by omega) (by omega) (by rw [hx, sq_n2, if_neg hk5]) (by rw [hy]; exact nI_1' i) ha (fun s hs hs2 => hg s hs ?_)
      rcases hs2 with hs2 | hs2
      · rcases (show s < i ∨ s = i by omega) with h9 | rfl
        · exact Or.inl h9
        · exact Or.inr hk5
      · exact Or.inr hs2
    · refine az_er 7 rfl ?_
      refine az_ecallF rfl rfl rfl rfl (cm_ofv hT2 (s := i) (k := 0) hy rfl (by omega) (show τ (10 + 6 * i + 0) = τ (10 + 6 * i) by rw [show 10 + 6 * i + 0 = 10 + 6 * i by omega])) ?_
      refine az_er 4 rfl ?_
      refine az_iaI rfl rfl (j := 2) (show Int32.ofInt 2 = nI 2 from rfl) (by decide) (by decide) (hT2 2 (by decide)) ?_
      rw [hx, nI_add]
      refine az_ic_gt rfl rfl (fun c205 => ?_) (fun c205 => ?_)
      · refine az_er 1 rfl ?_
        refine az_basI rfl rfl hy (show i < 4 by omega) (by decide) (show _ = sq_b false from rfl) ?_
        refine az_er 4 rfl ?_
        refine az_baI rfl rfl hy (show i < 4 by omega) (by decide) az_up_s ?_
        refine az_if_eq rfl rfl (fun c221 => ?_) (fun c221 => ?_)
        · refine az_er 3 rfl ?_
          have hk5 : τ (11 + 6 * i) = 5 := (nI_eq (by omega) (by omega)).mp (show nI (τ (11 + 6 * i)) = nI 5 from c183)
          have hle : ¬ nI (sq_n2 τ i + τ (10 + 6 * i)) ≤ nI (τ 2) := Int32.not_le.mpr c205
          have hgo : sq_go τ i = false := by rw [sq_go, if_pos hk5]; exact decide_eq_false hle
          refine az_er 2 rfl ?_
          refine ih (i + 1) _ _ tl _ (by omega) (by omega) (by rw [sq_n2, if_pos hk5, if_neg hle]; exact Int32.add_zero _) (by rw [hy]; exact nI_1' i) (fun a q => by rw [az_up_o q]; exact ha a q) (fun s hs hs2 => ?_)
          by_cases h9 : s = i
          · subst h9
            rw [az_up_s, hgo]
          · rw [az_up_n h9]
            exact hg s hs (by rcases hs2 with q | q; exact Or.inl (by omega); exact Or.inr q)
        · refine az_er 3 rfl ?_
          refine az_ecallF rfl rfl rfl rfl (cm_ofv (rt_M_h hT2 (az_up_o (by decide))) (s := i) (k := 0) hy rfl (by omega) (show τ (10 + 6 * i + 0) = τ (10 + 6 * i) from rfl)) ?_
          refine az_er 3 rfl ?_
          exact absurd rfl c221
      · refine az_er 2 rfl ?_
        refine az_basI rfl rfl hy (show i < 4 by omega) (by decide) (show _ = sq_b true from rfl) ?_
        refine az_er 4 rfl ?_
        refine az_baI rfl rfl hy (show i < 4 by omega) (by decide) az_up_s ?_
        refine az_if_eq rfl rfl (fun c221 => ?_) (fun c221 => ?_)
        · refine az_er 3 rfl ?_
          exact absurd c221 (by decide)
        · refine az_er 3 rfl ?_
          refine az_ecallF rfl rfl rfl rfl (cm_ofv (rt_M_h hT2 (az_up_o (by decide))) (s := i) (k := 0) hy rfl (by omega) (show τ (10 + 6 * i + 0) = τ (10 + 6 * i) from rfl)) ?_
          refine az_er 3 rfl ?_
          have hk5 : τ (11 + 6 * i) = 5 := (nI_eq (by omega) (by omega)).mp (show nI (τ (11 + 6 * i)) = nI 5 from c183)
          have hle : nI (sq_n2 τ i + τ (10 + 6 * i)) ≤ nI (τ 2) := Int32.not_lt.mp c205
          have hgo : sq_go τ i = true := by rw [sq_go, if_pos hk5]; exact decide_eq_true hle
          refine az_er 2 rfl ?_
          refine ih (i + 1) _ _ tl _ (by omega) (by omega) (by rw [sq_n2, if_pos hk5, if_pos hle, ← nI_add]) (by rw [hy]; exact nI_1' i) (fun a q => by rw [az_up_o q]; exact ha a q) (fun s hs hs2 => ?_)
          by_cases h9 : s = i
          · subst h9
            rw [az_up_s, hgo]
          · rw [az_up_n h9]
            exact hg s hs (by rcases hs2 with q | q; exact Or.inl (by omega); exact Or.inr q)
set_option maxRecDepth 100000 in
theorem lm_pr1 {sc : az_S} {τ : Nat → Nat} {h : az_H} (hT : rt_M 61 τ h) (hV : rt_V τ) : ∀ (d i : Nat) (x y : Int32) (tl : List Value) (hh : az_H), i ≤ τ 0 → τ 0 - i = d → x = nI (sq_n1 τ i) → y = nI i → (tl = [] ∨ ∃ z, tl = [.int z]) → (∀ a, a ≠ 69 → hh a = h a) → (∀ s, s < i → τ (11 + 6 * s) ≠ 5 → hh 69 s = sq_b (sq_go τ s)) → az_E sc az_m_X8_present 4 (.ref 59 :: .int x :: .int y :: tl) [] hh (fun v h' => v = some (.int (nI (sq_pr τ))) ∧ (∀ a, a ≠ 69 → h' a = h a) ∧ ∀ s, s < τ 0 → h' 69 s = sq_b (sq_go τ s)) := by
  have b0 : τ 0 ≤ 4 := hV.1
  have b1 : τ 1 ≤ 6 := hV.2.1
  have b2 : τ 2 ≤ 60 := hV.2.2.1
  have b4 : τ 4 ≤ 8 := hV.2.2.2.1
  intro d
  induction d with
  | zero =>
    intro i x y tl hh hi hd hx hy htl ha hg
    have he : i = τ 0 := by omega
    have hT2 : rt_M 61 τ hh := rt_M_h hT (ha 61 (by decide))
    refine az_er 4 rfl ?_
    refine az_iaI rfl rfl (j := 0) (show Int32.ofInt 0 = nI 0 from rfl) (by decide) (by decide) (hT2 0 (by decide)) ?_
    refine az_ic_ge rfl rfl (fun c11 => ?_) (fun c11 => absurd (by rw [hy, he]; exact nI_le (Nat.le_refl _) (by omega)) c11)
    refine az_er 2 rfl ?_
    exact lm_pr2 hT hV (τ 0) 0 _ 0 _ hh (Nat.zero_le _) (by omega) (by rw [hx, he]; rfl) rfl ha (fun s hs hs2 => hg s (by omega) (by rcases hs2 with q | q; omega; exact q))
  | succ d ih =>
    intro i x y tl hh hi hd hx hy htl ha hg
    have hlt : i < τ 0 := by omega
    have hk := (hV.2.2.2.2.2.1 i (by omega)).2.1
    have hm9 := (hV.2.2.2.2.2.1 i (by omega)).1
    have hf9 := (hV.2.2.2.2.2.1 i (by omega)).2.2.1
    have hT2 : rt_M 61 τ hh := rt_M_h hT (ha 61 (by decide))
    have tail : ∀ (hh2 : az_H) (z : Int32), (∀ a, a ≠ 69 → hh2 a = h a) → hh2 69 i = sq_b (sq_gs τ i) → (∀ s, s < i + 1 → τ (11 + 6 * s) ≠ 5 → hh2 69 s = sq_b (sq_go τ s)) → az_E sc az_m_X8_present 136 [.ref 59, .int x, .int y, .int z] [] hh2 (fun v h' => v = some (.int (nI (sq_pr τ))) ∧ (∀ a, a ≠ 69 → h' a = h a) ∧ ∀ s, s < τ 0 → h' 69 s = sq_b (sq_go τ s)) := by
      intro hh2 z h2a h2i h2g
      refine az_er 4 rfl ?_
      refine az_baI rfl rfl hy (show i < 4 by omega) (by decide) h2i ?_
      refine az_if_eq rfl rfl (fun c143 => ?_) (fun c143 => ?_)
      · refine az_er 5 rfl ?_
        have hgs : sq_gs τ i = false := by cases hc : sq_gs τ i; rfl; rw [hc] at c143; exact absurd c143 (by decide)
        refine ih (i + 1) _ _ _ hh2 (by omega) (by omega) (by rw [hx, sq_n1, hgs]; exact Int32.add_zero _) (by rw [hy]; exact nI_1' i) (Or.inr ⟨_, rfl⟩) h2a h2g
      · refine az_er 3 rfl ?_
        refine az_ecallF rfl rfl rfl rfl (cm_ofv (rt_M_h hT (h2a 61 (by decide))) (s := i) (k := 0) hy rfl (by omega) (show τ (10 + 6 * i + 0) = τ (10 + 6 * i) from rfl)) ?_
        refine az_er 5 rfl ?_
        have hgs : sq_gs τ i = true := by cases hc : sq_gs τ i; rw [hc] at c143; exact absurd rfl c143; rfl
        refine ih (i + 1) _ _ _ hh2 (by omega) (by omega) (by rw [hx, sq_n1, hgs]; exact nI_add _ _) (by rw [hy]; exact nI_1' i) (Or.inr ⟨_, rfl⟩) h2a h2g
    rcases htl with rfl | ⟨z, rfl⟩
    · skip
      rcases (show τ (11 + 6 * i) = 0 ∨ τ (11 + 6 * i) = 1 ∨ τ (11 + 6 * i) = 2 ∨ τ (11 + 6 * i) = 3 ∨ τ (11 + 6 * i) = 4 ∨ τ (11 + 6 * i) = 5 by omega) with hk | hk | hk | hk | hk | hk
      · refine az_er 4 rfl ?_
        refine az_iaI rfl rfl (j := 0) (show Int32.ofInt 0 = nI 0 from rfl) (by decide) (by decide) (hT2 0 (by decide)) ?_
        refine az_ic_ge rfl rfl (fun c11 => absurd c11 (by rw [hy]; exact nI_ge hlt (by omega))) (fun c11 => ?_)
        refine az_er 3 rfl ?_
        refine az_ecallF rfl rfl rfl rfl (cm_ofv hT2 (s := i) (k := 2) hy rfl (by omega) (show τ (10 + 6 * i + 2) = τ (12 + 6 * i) by rw [show 10 + 6 * i + 2 = 12 + 6 * i by omega])) ?_
        refine az_er 4 rfl ?_
        refine az_ecallF rfl rfl rfl rfl (cm_ofv hT2 (s := i) (k := 1) hy rfl (by omega) (show τ (10 + 6 * i + 1) = 0 by rw [show 10 + 6 * i + 1 = 11 + 6 * i by omega]; exact hk)) ?_
        refine az_er 5 rfl ?_
        refine az_basI rfl rfl hy (show i < 4 by omega) (by decide) (g := sq_gs τ i) (by simp [sq_gs, hk, sq_b]) ?_
        refine az_er 1 rfl ?_
        refine tail _ _ (fun a q => by rw [az_up_o q]; exact ha a q) az_up_s (fun s hs hs2 => ?_)
        by_cases h9 : s = i
        · subst h9
          rw [az_up_s, sq_go, if_neg hs2]
        · rw [az_up_n h9]
          exact hg s (by omega) hs2
      · refine az_er 4 rfl ?_
        refine az_iaI rfl rfl (j := 0) (show Int32.ofInt 0 = nI 0 from rfl) (by decide) (by decide) (hT2 0 (by decide)) ?_
        refine az_ic_ge rfl rfl (fun c11 => absurd c11 (by rw [hy]; exact nI_ge hlt (by omega))) (fun c11 => ?_)
        refine az_er 3 rfl ?_
        refine az_ecallF rfl rfl rfl rfl (cm_ofv hT2 (s := i) (k := 2) hy rfl (by omega) (show τ (10 + 6 * i + 2) = τ (12 + 6 * i) by rw [show 10 + 6 * i + 2 = 12 + 6 * i by omega])) ?_
        refine az_er 4 rfl ?_
        refine az_ecallF rfl rfl rfl rfl (cm_ofv hT2 (s := i) (k := 1) hy rfl (by omega) (show τ (10 + 6 * i + 1) = 1 by rw [show 10 + 6 * i + 1 = 11 + 6 * i by omega]; exact hk)) ?_
        refine az_er 5 rfl ?_
        refine az_basI rfl rfl hy (show i < 4 by omega) (by decide) (g := sq_gs τ i) (by simp [sq_gs, hk, sq_b]) ?_
        refine tail _ _ (fun a q => by rw [az_up_o q]; exact ha a q) az_up_s (fun s hs hs2 => ?_)
        by_cases h9 : s = i
        · subst h9
          rw [az_up_s, sq_go, if_neg hs2]
        · rw [az_up_n h9]
          exact hg s (by omega) hs2
      · refine az_er 4 rfl ?_
        refine az_iaI rfl rfl (j := 0) (show Int32.ofInt 0 = nI 0 from rfl) (by decide) (by decide) (hT2 0 (by decide)) ?_
        refine az_ic_ge rfl rfl (fun c11 => absurd c11 (by rw [hy]; exact nI_ge hlt (by omega))) (fun c11 => ?_)
        refine az_er 3 rfl ?_
        refine az_ecallF rfl rfl rfl rfl (cm_ofv hT2 (s := i) (k := 2) hy rfl (by omega) (show τ (10 + 6 * i + 2) = τ (12 + 6 * i) by rw [show 10 + 6 * i + 2 = 12 + 6 * i by omega])) ?_
        refine az_er 4 rfl ?_
        refine az_ecallF rfl rfl rfl rfl (cm_ofv hT2 (s := i) (k := 1) hy rfl (by omega) (show τ (10 + 6 * i + 1) = 2 by rw [show 10 + 6 * i + 1 = 11 + 6 * i by omega]; exact hk)) ?_
        refine az_er 6 rfl ?_
        refine az_ecallF rfl rfl rfl rfl (cm_isRoom hT2 hV ((hV.2.2.2.2.2.2.1 i hlt).2 (Or.inl hk)) rfl) ?_
        refine az_basI rfl rfl hy (show i < 4 by omega) (by decide) (g := sq_gs τ i) (by rw [sq_gs2 hk]) ?_
        refine az_er 1 rfl ?_
        refine tail _ _ (fun a q => by rw [az_up_o q]; exact ha a q) az_up_s (fun s hs hs2 => ?_)
        by_cases h9 : s = i
        · subst h9
          rw [az_up_s, sq_go, if_neg hs2]
        · rw [az_up_n h9]
          exact hg s (by omega) hs2
      · refine az_er 4 rfl ?_
        refine az_iaI rfl rfl (j := 0) (show Int32.ofInt 0 = nI 0 from rfl) (by decide) (by decide) (hT2 0 (by decide)) ?_
        refine az_ic_ge rfl rfl (fun c11 => absurd c11 (by rw [hy]; exact nI_ge hlt (by omega))) (fun c11 => ?_)
        refine az_er 3 rfl ?_
        refine az_ecallF rfl rfl rfl rfl (cm_ofv hT2 (s := i) (k := 2) hy rfl (by omega) (show τ (10 + 6 * i + 2) = τ (12 + 6 * i) by rw [show 10 + 6 * i + 2 = 12 + 6 * i by omega])) ?_
        refine az_er 4 rfl ?_
        refine az_ecallF rfl rfl rfl rfl (cm_ofv hT2 (s := i) (k := 1) hy rfl (by omega) (show τ (10 + 6 * i + 1) = 3 by rw [show 10 + 6 * i + 1 = 11 + 6 * i by omega]; exact hk)) ?_
        refine az_er 7 rfl ?_
        refine az_ecallF rfl rfl rfl rfl (cm_hat hT2 hV (show τ (12 + 6 * i) < 6 by have := (hV.2.2.2.2.2.2.1 i hlt).2 (Or.inr hk); omega) rfl) ?_
        refine az_ecallF rfl rfl rfl rfl (cm_isRoom hT2 hV (sq_hat_lt ((hV.2.2.2.2.2.2.1 i hlt).2 (Or.inr hk))) rfl) ?_
        refine az_basI rfl rfl hy (show i < 4 by omega) (by decide) (g := sq_gs τ i) (by rw [sq_gs3 hk]) ?_
        refine az_er 1 rfl ?_
        refine tail _ _ (fun a q => by rw [az_up_o q]; exact ha a q) az_up_s (fun s hs hs2 => ?_)
        by_cases h9 : s = i
        · subst h9
          rw [az_up_s, sq_go, if_neg hs2]
        · rw [az_up_n h9]
          exact hg s (by omega) hs2
      · refine az_er 4 rfl ?_
        refine az_iaI rfl rfl (j := 0) (show Int32.ofInt 0 = nI 0 from rfl) (by decide) (by decide) (hT2 0 (by decide)) ?_
        refine az_ic_ge rfl rfl (fun c11 => absurd c11 (by rw [hy]; exact nI_ge hlt (by omega))) (fun c11 => ?_)
        refine az_er 3 rfl ?_
        refine az_ecallF rfl rfl rfl rfl (cm_ofv hT2 (s := i) (k := 2) hy rfl (by omega) (show τ (10 + 6 * i + 2) = τ (12 + 6 * i) by rw [show 10 + 6 * i + 2 = 12 + 6 * i by omega])) ?_
        refine az_er 4 rfl ?_
        refine az_ecallF rfl rfl rfl rfl (cm_ofv hT2 (s := i) (k := 1) hy rfl (by omega) (show τ (10 + 6 * i + 1) = 4 by rw [show 10 + 6 * i + 1 = 11 + 6 * i by omega]; exact hk)) ?_
        refine az_er 7 rfl ?_
        refine az_iaI rfl rfl (j := 3) (show Int32.ofInt 3 = nI 3 from rfl) (by decide) (by decide) (hT2 3 (by decide)) ?_
        refine az_er 3 rfl ?_
        refine az_rem rfl (by rw [show nI (τ (12 + 6 * i)) + Int32.ofInt 1 = nI (τ (12 + 6 * i) + 1) from nI_1' _]; exact nI_ne0 (by omega) (by omega)) ?_
        rw [show nI (τ (12 + 6 * i)) + Int32.ofInt 1 = nI (τ (12 + 6 * i) + 1) from nI_1' _]
        refine az_if_ne rfl rfl (fun c117 => ?_) (fun c117 => ?_)
        · refine az_er 1 rfl ?_
          refine az_basI rfl rfl hy (show i < 4 by omega) (by decide) (g := sq_gs τ i) (by simp [sq_gs, hk, sq_b, c117]) ?_
          refine az_er 1 rfl ?_
          refine tail _ _ (fun a q => by rw [az_up_o q]; exact ha a q) az_up_s (fun s hs hs2 => ?_)
          by_cases h9 : s = i
          · subst h9
            rw [az_up_s, sq_go, if_neg hs2]
          · rw [az_up_n h9]
            exact hg s (by omega) hs2
        · refine az_er 2 rfl ?_
          refine az_basI rfl rfl hy (show i < 4 by omega) (by decide) (g := sq_gs τ i) (by simp [sq_gs, hk, sq_b, c117]) ?_
          refine az_er 1 rfl ?_
          refine tail _ _ (fun a q => by rw [az_up_o q]; exact ha a q) az_up_s (fun s hs hs2 => ?_)
          by_cases h9 : s = i
          · subst h9
            rw [az_up_s, sq_go, if_neg hs2]
          · rw [az_up_n h9]
            exact hg s (by omega) hs2
      · refine az_er 4 rfl ?_
        refine az_iaI rfl rfl (j := 0) (show Int32.ofInt 0 = nI 0 from rfl) (by decide) (by decide) (hT2 0 (by decide)) ?_
        refine az_ic_ge rfl rfl (fun c11 => absurd c11 (by rw [hy]; exact nI_ge hlt (by omega))) (fun c11 => ?_)
        refine az_er 3 rfl ?_
        refine az_ecallF rfl rfl rfl rfl (cm_ofv hT2 (s := i) (k := 2) hy rfl (by omega) (show τ (10 + 6 * i + 2) = τ (12 + 6 * i) by rw [show 10 + 6 * i + 2 = 12 + 6 * i by omega])) ?_
        refine az_er 4 rfl ?_
        refine az_ecallF rfl rfl rfl rfl (cm_ofv hT2 (s := i) (k := 1) hy rfl (by omega) (show τ (10 + 6 * i + 1) = 5 by rw [show 10 + 6 * i + 1 = 11 + 6 * i by omega]; exact hk)) ?_
        refine az_er 5 rfl ?_
        refine az_basI rfl rfl hy (show i < 4 by omega) (by decide) (g := sq_gs τ i) (by simp [sq_gs, hk, sq_b]) ?_
        refine tail _ _ (fun a q => by rw [az_up_o q]; exact ha a q) az_up_s (fun s hs hs2 => ?_)
        by_cases h9 : s = i
        · subst h9
          rw [az_up_s, sq_go, if_neg hs2]
        · rw [az_up_n h9]
          exact hg s (by omega) hs2
    · skip
      rcases (show τ (11 + 6 * i) = 0 ∨ τ (11 + 6 * i) = 1 ∨ τ (11 + 6 * i) = 2 ∨ τ (11 + 6 * i) = 3 ∨ τ (11 + 6 * i) = 4 ∨ τ (11 + 6 * i) = 5 by omega) with hk | hk | hk | hk | hk | hk
      · refine az_er 4 rfl ?_
        refine az_iaI rfl rfl (j := 0) (show Int32.ofInt 0 = nI 0 from rfl) (by decide) (by decide) (hT2 0 (by decide)) ?_
        refine az_ic_ge rfl rfl (fun c11 => absurd c11 (by rw [hy]; exact nI_ge hlt (by omega))) (fun c11 => ?_)
        refine az_er 3 rfl ?_
        refine az_ecallF rfl rfl rfl rfl (cm_ofv hT2 (s := i) (k := 2) hy rfl (by omega) (show τ (10 + 6 * i + 2) = τ (12 + 6 * i) by rw [show 10 + 6 * i + 2 = 12 + 6 * i by omega])) ?_
        refine az_er 4 rfl ?_
        refine az_ecallF rfl rfl rfl rfl (cm_ofv hT2 (s := i) (k := 1) hy rfl (by omega) (show τ (10 + 6 * i + 1) = 0 by rw [show 10 + 6 * i + 1 = 11 + 6 * i by omega]; exact hk)) ?_
        refine az_er 5 rfl ?_
        refine az_basI rfl rfl hy (show i < 4 by omega) (by decide) (g := sq_gs τ i) (by simp [sq_gs, hk, sq_b]) ?_
        refine az_er 1 rfl ?_
        refine tail _ _ (fun a q => by rw [az_up_o q]; exact ha a q) az_up_s (fun s hs hs2 => ?_)
        by_cases h9 : s = i
        · subst h9
          rw [az_up_s, sq_go, if_neg hs2]
        · rw [az_up_n h9]
          exact hg s (by omega) hs2
      · refine az_er 4 rfl ?_
        refine az_iaI rfl rfl (j := 0) (show Int32.ofInt 0 = nI 0 from rfl) (by decide) (by decide) (hT2 0 (by decide)) ?_
        refine az_ic_ge rfl rfl (fun c11 => absurd c11 (by rw [hy]; exact nI_ge hlt (by omega))) (fun c11 => ?_)
        refine az_er 3 rfl ?_
        refine az_ecallF rfl rfl rfl rfl (cm_ofv hT2 (s := i) (k := 2) hy rfl (by omega) (show τ (10 + 6 * i + 2) = τ (12 + 6 * i) by rw [show 10 + 6 * i + 2 = 12 + 6 * i by omega])) ?_
        refine az_er 4 rfl ?_
        refine az_ecallF rfl rfl rfl rfl (cm_ofv hT2 (s := i) (k := 1) hy rfl (by omega) (show τ (10 + 6 * i + 1) = 1 by rw [show 10 + 6 * i + 1 = 11 + 6 * i by omega]; exact hk)) ?_
        refine az_er 5 rfl ?_
        refine az_basI rfl rfl hy (show i < 4 by omega) (by decide) (g := sq_gs τ i) (by simp [sq_gs, hk, sq_b]) ?_
        refine tail _ _ (fun a q => by rw [az_up_o q]; exact ha a q) az_up_s (fun s hs hs2 => ?_)
        by_cases h9 : s = i
        · subst h9
          rw [az_up_s, sq_go, if_neg hs2]
        · rw [az_up_n h9]
          exact hg s (by omega) hs2
      · refine az_er 4 rfl ?_
        refine az_iaI rfl rfl (j := 0) (show Int32.ofInt 0 = nI 0 from rfl) (by decide) (by decide) (hT2 0 (by decide)) ?_
        refine az_ic_ge rfl rfl (fun c11 => absurd c11 (by rw [hy]; exact nI_ge hlt (by omega))) (fun c11 => ?_)
        refine az_er 3 rfl ?_
        refine az_ecallF rfl rfl rfl rfl (cm_ofv hT2 (s := i) (k := 2) hy rfl (by omega) (show τ (10 + 6 * i + 2) = τ (12 + 6 * i) by rw [show 10 + 6 * i + 2 = 12 + 6 * i by omega])) ?_
        refine az_er 4 rfl ?_
        refine az_ecallF rfl rfl rfl rfl (cm_ofv hT2 (s := i) (k := 1) hy rfl (by omega) (show τ (10 + 6 * i + 1) = 2 by rw [show 10 + 6 * i + 1 = 11 + 6 * i by omega]; exact hk)) ?_
        refine az_er 6 rfl ?_
        refine az_ecallF rfl rfl rfl rfl (cm_isRoom hT2 hV ((hV.2.2.2.2.2.2.1 i hlt).2 (Or.inl hk)) rfl) ?_
        refine az_basI rfl rfl hy (show i < 4 by omega) (by decide) (g := sq_gs τ i) (by rw [sq_gs2 hk]) ?_
        refine az_er 1 rfl ?_
        refine tail _ _ (fun a q => by rw [az_up_o q]; exact ha a q) az_up_s (fun s hs hs2 => ?_)
        by_cases h9 : s = i
        · subst h9
          rw [az_up_s, sq_go, if_neg hs2]
        · rw [az_up_n h9]
          exact hg s (by omega) hs2
      · refine az_er 4 rfl ?_
        refine az_iaI rfl rfl (j := 0) (show Int32.ofInt 0 = nI 0 from rfl) (by decide) (by decide) (hT2 0 (by decide)) ?_
        refine az_ic_ge rfl rfl (fun c11 => absurd c11 (by rw [hy]; exact nI_ge hlt (by omega))) (fun c11 => ?_)
        refine az_er 3 rfl ?_
        refine az_ecallF rfl rfl rfl rfl (cm_ofv hT2 (s := i) (k := 2) hy rfl (by omega) (show τ (10 + 6 * i + 2) = τ (12 + 6 * i) by rw [show 10 + 6 * i + 2 = 12 + 6 * i by omega])) ?_
        refine az_er 4 rfl ?_
        refine az_ecallF rfl rfl rfl rfl (cm_ofv hT2 (s := i) (k := 1) hy rfl (by omega) (show τ (10 + 6 * i + 1) = 3 by rw [show 10 + 6 * i + 1 = 11 + 6 * i by omega]; exact hk)) ?_
        refine az_er 7 rfl ?_
        refine az_ecallF rfl rfl rfl rfl (cm_hat hT2 hV (show τ (12 + 6 * i) < 6 by have := (hV.2.2.2.2.2.2.1 i hlt).2 (Or.inr hk); omega) rfl) ?_
        refine az_ecallF rfl rfl rfl rfl (cm_isRoom hT2 hV (sq_hat_lt ((hV.2.2.2.2.2.2.1 i hlt).2 (Or.inr hk))) rfl) ?_
        refine az_basI rfl rfl hy (show i < 4 by omega) (by decide) (g := sq_gs τ i) (by rw [sq_gs3 hk]) ?_
        refine az_er 1 rfl ?_
        refine tail _ _ (fun a q => by rw [az_up_o q]; exact ha a q) az_up_s (fun s hs hs2 => ?_)
        by_cases h9 : s = i
        · subst h9
          rw [az_up_s, sq_go, if_neg hs2]
        · rw [az_up_n h9]
          exact hg s (by omega) hs2
      · refine az_er 4 rfl ?_
        refine az_iaI rfl rfl (j := 0) (show Int32.ofInt 0 = nI 0 from rfl) (by decide) (by decide) (hT2 0 (by decide)) ?_
        refine az_ic_ge rfl rfl (fun c11 => absurd c11 (by rw [hy]; exact nI_ge hlt (by omega))) (fun c11 => ?_)
        refine az_er 3 rfl ?_
        refine az_ecallF rfl rfl rfl rfl (cm_ofv hT2 (s := i) (k := 2) hy rfl (by omega) (show τ (10 + 6 * i + 2) = τ (12 + 6 * i) by rw [show 10 + 6 * i + 2 = 12 + 6 * i by omega])) ?_
        refine az_er 4 rfl ?_
        refine az_ecallF rfl rfl rfl rfl (cm_ofv hT2 (s := i) (k := 1) hy rfl (by omega) (show τ (10 + 6 * i + 1) = 4 by rw [show 10 + 6 * i + 1 = 11 + 6 * i by omega]; exact hk)) ?_
        refine az_er 7 rfl ?_
        refine az_iaI rfl rfl (j := 3) (show Int32.ofInt 3 = nI 3 from rfl) (by decide) (by decide) (hT2 3 (by decide)) ?_
        refine az_er 3 rfl ?_
        refine az_rem rfl (by rw [show nI (τ (12 + 6 * i)) + Int32.ofInt 1 = nI (τ (12 + 6 * i) + 1) from nI_1' _]; exact nI_ne0 (by omega) (by omega)) ?_
        rw [show nI (τ (12 + 6 * i)) + Int32.ofInt 1 = nI (τ (12 + 6 * i) + 1) from nI_1' _]
        refine az_if_ne rfl rfl (fun c117 => ?_) (fun c117 => ?_)
        · refine az_er 1 rfl ?_
          refine az_basI rfl rfl hy (show i < 4 by omega) (by decide) (g := sq_gs τ i) (by simp [sq_gs, hk, sq_b, c117]) ?_
          refine az_er 1 rfl ?_
          refine tail _ _ (fun a q => by rw [az_up_o q]; exact ha a q) az_up_s (fun s hs hs2 => ?_)
          by_cases h9 : s = i
          · subst h9
            rw [az_up_s, sq_go, if_neg hs2]
          · rw [az_up_n h9]
            exact hg s (by omega) hs2
        · refine az_er 2 rfl ?_
          refine az_basI rfl rfl hy (show i < 4 by omega) (by decide) (g := sq_gs τ i) (by simp [sq_gs, hk, sq_b, c117]) ?_
          refine az_er 1 rfl ?_
          refine tail _ _ (fun a q => by rw [az_up_o q]; exact ha a q) az_up_s (fun s hs hs2 => ?_)
          by_cases h9 : s = i
          · subst h9
            rw [az_up_s, sq_go, if_neg hs2]
          · rw [az_up_n h9]
            exact hg s (by omega) hs2
      · refine az_er 4 rfl ?_
        refine az_iaI rfl rfl (j := 0) (show Int32.ofInt 0 = nI 0 from rfl) (by decide) (by decide) (hT2 0 (by decide)) ?_
        refine az_ic_ge rfl rfl (fun c11 => absurd c11 (by rw [hy]; exact nI_ge hlt (by omega))) (fun c11 => ?_)
        refine az_er 3 rfl ?_
        refine az_ecallF rfl rfl rfl rfl (cm_ofv hT2 (s := i) (k := 2) hy rfl (by omega) (show τ (10 + 6 * i + 2) = τ (12 + 6 * i) by rw [show 10 + 6 * i + 2 = 12 + 6 * i by omega])) ?_
        refine az_er 4 rfl ?_
        refine az_ecallF rfl rfl rfl rfl (cm_ofv hT2 (s := i) (k := 1) hy rfl (by omega) (show τ (10 + 6 * i + 1) = 5 by rw [show 10 + 6 * i + 1 = 11 + 6 * i by omega]; exact hk)) ?_
        refine az_er 5 rfl ?_
        refine az_basI rfl rfl hy (show i < 4 by omega) (by decide) (g := sq_gs τ i) (by simp [sq_gs, hk, sq_b]) ?_
        refine tail _ _ (fun a q => by rw [az_up_o q]; exact ha a q) az_up_s (fun s hs hs2 => ?_)
        by_cases h9 : s = i
        · subst h9
          rw [az_up_s, sq_go, if_neg hs2]
        · rw [az_up_n h9]
          exact hg s (by omega) hs2
set_option maxRecDepth 100000 in
theorem cm_present {sc : az_S} {τ : Nat → Nat} {h : az_H} (hT : rt_M 61 τ h) (hV : rt_V τ) : az_E sc az_m_X8_present 0 [.ref 59] [] h (fun v h' => v = some (.int (nI (sq_pr τ))) ∧ (∀ a, a ≠ 69 → h' a = h a) ∧ ∀ s, s < τ 0 → h' 69 s = sq_b (sq_go τ s)) := by
  refine az_er 4 rfl ?_
  exact lm_pr1 hT hV (τ 0) 0 0 0 [] h (Nat.zero_le _) (by omega) rfl rfl (Or.inl rfl) (fun _ _ => rfl) (fun s hs => absurd hs (Nat.not_lt_zero s))
set_option maxRecDepth 100000 in
theorem cm_wg {sc : az_S} {τ : Nat → Nat} {h : az_H} (hT : rt_M 61 τ h) {x y : Int32} {s p : Nat} (hx : x = nI s) (hs : s < 4) (hy : y = nI p) : az_F sc az_m_X8_worthGone [.ref 59, .int x, .int y] h (some (.int (sq_wg τ p s))) h := by
  refine az_F.of ?_
  refine az_er 4 rfl ?_
  refine az_iaI rfl rfl (j := 2) (show Int32.ofInt 2 = nI 2 from rfl) (by decide) (by decide) (hT 2 (by decide)) ?_
  rw [hy]
  refine az_ic_gt rfl rfl (fun c7 => ?_) (fun c7 => ?_)
  · refine az_er 3 rfl ?_
    refine az_ecallF rfl rfl rfl rfl (cm_ofv hT (s := s) (k := 4) hx rfl (by omega) (show τ (10 + 6 * s + 4) = τ (14 + 6 * s) by rw [show 10 + 6 * s + 4 = 14 + 6 * s by omega])) ?_
    refine az_er 3 rfl ?_
    refine az_iaI rfl rfl (j := 5) (show Int32.ofInt 5 = nI 5 from rfl) (by decide) (by decide) (hT 5 (by decide)) ?_
    refine az_er 1 rfl ?_
    refine az_eret rfl rfl rfl ?_
    exact ⟨by rw [sq_wg, if_neg (Int32.not_le.mpr c7)], rfl⟩
  · refine az_er 3 rfl ?_
    refine az_ecallF rfl rfl rfl rfl (cm_ofv hT (s := s) (k := 3) hx rfl (by omega) (show τ (10 + 6 * s + 3) = τ (13 + 6 * s) by rw [show 10 + 6 * s + 3 = 13 + 6 * s by omega])) ?_
    refine az_er 4 rfl ?_
    refine az_iaI rfl rfl (j := 5) (show Int32.ofInt 5 = nI 5 from rfl) (by decide) (by decide) (hT 5 (by decide)) ?_
    refine az_er 1 rfl ?_
    refine az_eret rfl rfl rfl ?_
    exact ⟨by rw [sq_wg, if_pos (Int32.not_lt.mp c7)], rfl⟩
set_option maxRecDepth 100000 in
theorem cm_worthNext {sc : az_S} {τ : Nat → Nat} {h : az_H} (hT : rt_M 61 τ h) {x y : Int32} {s p : Nat} {g : Bool} (hx : x = nI s) (hs : s < 4) (hy : y = nI p) (hg : h 69 s = sq_b g) : az_F sc az_m_X8_worthNext [.ref 59, .int x, .int y] h (some (.int (sq_w τ g p s))) h := by
  refine az_F.of ?_
  cases g
  · refine az_er 3 rfl ?_
    refine az_baI rfl rfl hx hs (by decide) hg ?_
    refine az_if_eq rfl rfl (fun c6 => ?_) (fun c6 => absurd rfl c6)
    refine az_er 3 rfl ?_
    refine az_ecallF rfl rfl rfl rfl (cm_ofv hT (s := s) (k := 5) hx rfl (by omega) (show τ (10 + 6 * s + 5) = τ (15 + 6 * s) by rw [show 10 + 6 * s + 5 = 15 + 6 * s by omega])) ?_
    refine az_eret rfl rfl rfl ?_
    exact ⟨rfl, rfl⟩
  · refine az_er 3 rfl ?_
    refine az_baI rfl rfl hx hs (by decide) hg ?_
    refine az_if_eq rfl rfl (fun c6 => absurd c6 (show ¬ sq_b true = 0 by decide)) (fun c6 => ?_)
    refine az_er 3 rfl ?_
    refine az_ecallF rfl rfl rfl rfl (cm_wg hT hx hs hy) ?_
    refine az_er 1 rfl ?_
    refine az_eret rfl rfl rfl ?_
    exact ⟨rfl, rfl⟩
def sq_sh (τ : Nat → Nat) (k : Nat) : Nat → Nat := fun j => if 60 + k < j ∧ j < 68 then τ (j - 1) else τ j
set_option maxRecDepth 100000 in
theorem lm_rem {sc : az_S} {τ : Nat → Nat} {h : az_H} {v : Int32} {p : Nat} (hp : v = nI p) (h8 : τ 4 ≤ 8) : ∀ (d : Nat) (x : Int32) (hh : az_H), d ≤ 7 → x = nI d → rt_M 61 (sq_sh τ d) hh → (∀ a, a ≠ 61 → hh a = h a) → az_E sc az_m_X8_remember 3 [.ref 59, .int v, .int x] [] hh (fun v9 h' => v9 = none ∧ rt_M 61 (sq_mem τ p) h' ∧ ∀ a, a ≠ 61 → h' a = h a) := by
  intro d
  induction d with
  | zero =>
    intro x hh hd hx hT2 ha
    refine az_er 1 rfl ?_
    refine az_if_le rfl rfl (fun c4 => ?_) (fun c4 => absurd (show (x : Int32) ≤ 0 by rw [hx]; exact Int32.le_refl _) c4)
    refine az_er 4 rfl ?_
    refine az_iasI rfl rfl (j := 60) rfl (by decide) (by decide) ?_
    refine az_er 4 rfl ?_
    refine az_iaI rfl rfl (j := 4) rfl (by decide) (by decide) (show _ = nI (τ 4) by rw [az_up_n (by decide), hT2 4 (by decide), sq_sh, if_neg (by omega)]) ?_
    refine az_er 3 rfl ?_
    refine az_iaI rfl rfl (j := 4) rfl (by decide) (by decide) (show _ = nI (τ 4) by rw [az_up_n (by decide), hT2 4 (by decide), sq_sh, if_neg (by omega)]) ?_
    refine az_er 1 rfl ?_
    refine az_ic_ge rfl rfl (fun c56 => ?_) (fun c56 => ?_)
    · refine az_er 2 rfl ?_
      refine az_iasI rfl rfl (j := 4) rfl (by decide) (by decide) ?_
      refine az_eret rfl rfl rfl ?_
      refine ⟨rfl, rt_M_up (τ := fun j => if j = 60 then p else sq_sh τ 0 j) (rt_M_up (τ := sq_sh τ 0) hT2 (fun i hi hi2 => if_neg hi2) (by rw [if_pos rfl, hp])) (fun i hi hi2 => ?_) ?_, fun a ha9 => by rw [az_up_o ha9, az_up_o ha9]; exact ha a ha9⟩
      · rw [sq_mem, if_neg hi2]
        by_cases h60 : i = 60
        · rw [if_pos h60, if_pos h60]
        · rw [if_neg h60, if_neg h60, sq_sh]
          by_cases h61 : 61 ≤ i ∧ i < 68
          · rw [if_pos h61, if_pos ⟨by omega, h61.2⟩]
          · rw [if_neg h61, if_neg (fun q => h61 ⟨by omega, q.2⟩)]
      · rw [sq_mem, if_pos rfl]
        rw [Nat.min_eq_right (by rw [show Int8.toInt32 (Int8.ofInt 8) = nI 8 from rfl, nI_leI (by omega) (by omega)] at c56; omega), show τ 4 = 8 by rw [show Int8.toInt32 (Int8.ofInt 8) = nI 8 from rfl, nI_leI (by omega) (by omega)] at c56; omega]
        rfl
    · refine az_er 3 rfl ?_
      refine az_iasI rfl rfl (j := 4) rfl (by decide) (by decide) ?_
      refine az_eret rfl rfl rfl ?_
      refine ⟨rfl, rt_M_up (τ := fun j => if j = 60 then p else sq_sh τ 0 j) (rt_M_up (τ := sq_sh τ 0) hT2 (fun i hi hi2 => if_neg hi2) (by rw [if_pos rfl, hp])) (fun i hi hi2 => ?_) ?_, fun a ha9 => by rw [az_up_o ha9, az_up_o ha9]; exact ha a ha9⟩
      · rw [sq_mem, if_neg hi2]
        by_cases h60 : i = 60
        · rw [if_pos h60, if_pos h60]
        · rw [if_neg h60, if_neg h60, sq_sh]
          by_cases h61 : 61 ≤ i ∧ i < 68
          · rw [if_pos h61, if_pos ⟨by omega, h61.2⟩]
          · rw [if_neg h61, if_neg (fun q => h61 ⟨by omega, q.2⟩)]
      · rw [sq_mem, if_pos rfl]
        rw [Nat.min_eq_left (by rw [show Int8.toInt32 (Int8.ofInt 8) = nI 8 from rfl, nI_leI (by omega) (by omega)] at c56; omega)]
        exact nI_1' _
  | succ d ih =>
    intro x hh hd hx hT2 ha
    refine az_er 1 rfl ?_
    refine az_if_le rfl rfl (fun c4 => absurd c4 (by rw [hx]; exact nI_nle (by omega) (by omega))) (fun c4 => ?_)
    refine az_er 12 rfl ?_
    refine az_iaI rfl rfl (ix_w1 hx) (show 60 + d < 70 by omega) (by decide) (show _ = nI (τ (60 + d)) by rw [hT2 _ (by omega), sq_sh, if_neg (by omega)]) ?_
    refine az_iasI rfl rfl (ix_w hx) (show 60 + (d + 1) < 70 by omega) (by decide) ?_
    refine az_er 2 rfl ?_
    refine ih _ _ (by omega) (by rw [hx]; exact pk_m1 d) (rt_M_up hT2 (fun i hi hi2 => ?_) ?_) (fun a ha9 => by rw [az_up_o ha9]; exact ha a ha9)
    · unfold sq_sh
      by_cases hc : 60 + (d + 1) < i ∧ i < 68
      · rw [if_pos hc, if_pos ⟨by omega, hc.2⟩]
      · rw [if_neg hc, if_neg (fun q => hc ⟨by omega, q.2⟩)]
    · rw [sq_sh, if_pos ⟨by omega, by omega⟩, show 60 + (d + 1) - 1 = 60 + d by omega]
set_option maxRecDepth 100000 in
theorem cm_remember {sc : az_S} {τ : Nat → Nat} {h : az_H} (hT : rt_M 61 τ h) {v : Int32} {p : Nat} (hp : v = nI p) (h8 : τ 4 ≤ 8) : az_E sc az_m_X8_remember 0 [.ref 59, .int v] [] h (fun v9 h' => v9 = none ∧ rt_M 61 (sq_mem τ p) h' ∧ ∀ a, a ≠ 61 → h' a = h a) := by
  refine az_er 2 rfl ?_
  exact lm_rem hp h8 7 7 h (Nat.le_refl 7) rfl (rt_M_cong hT (fun i hi => by rw [sq_sh, if_neg (by omega)])) (fun _ _ => rfl)
set_option maxRecDepth 100000 in
theorem lm_goOn {sc : az_S} {τ : Nat → Nat} {h : az_H} (hT : rt_M 61 τ h) (hV : rt_V τ) : ∀ (d i : Nat) (x y : Int32) (hh : az_H), i ≤ τ 1 → τ 1 - i = d → x = nI (sq_pr τ) → y = nI i → rt_M 61 (sq_rt τ i) hh → (∀ s, s < τ 0 → hh 69 s = sq_b (sq_go τ s)) → (∀ a, a ≠ 61 → a ≠ 69 → hh a = h a) → az_E sc az_m_X8_goOn 7 [.ref 59, .int x, .int y] [] hh (fun v h' => v = some (.int (nI (sq_pr τ))) ∧ rt_M 61 (sq_st τ) h' ∧ (∀ s, s < τ 0 → h' 69 s = sq_b (sq_go τ s)) ∧ ∀ a, a ≠ 61 → a ≠ 69 → h' a = h a) := by
  have b0 : τ 0 ≤ 4 := hV.1
  have b1 : τ 1 ≤ 6 := hV.2.1
  have b2 : τ 2 ≤ 60 := hV.2.2.1
  have b4 : τ 4 ≤ 8 := hV.2.2.2.1
  intro d
  induction d with
  | zero =>
    intro i x y hh hi hd hx hy hT2 hg ha
    have he : i = τ 1 := by omega
    have h1t : sq_rt τ i 1 = τ 1 := sq_rt_of (by omega) (by omega)
    have h2t : sq_rt τ i 2 = τ 2 := sq_rt_of (by omega) (by omega)
    refine az_er 4 rfl ?_
    refine az_iaI rfl rfl (j := 1) (show Int32.ofInt 1 = nI 1 from rfl) (by decide) (by decide) (show _ = nI (τ 1) by rw [hT2 1 (by decide), h1t]) ?_
    refine az_ic_ge rfl rfl (fun c14 => ?_) (fun c14 => absurd (by rw [hy, he]; exact nI_le (Nat.le_refl _) (by omega)) c14)
    refine az_er 2 rfl ?_
    refine az_ecall rfl rfl rfl rfl (cm_remember hT2 hx (show sq_rt τ i 4 ≤ 8 by rw [show sq_rt τ i 4 = τ 4 from sq_rt_of (by omega) (by omega)]; exact b4)) ?_
    rintro _ h3 ⟨rfl, hT3, ha3⟩
    refine az_er 4 rfl ?_
    refine az_iaI rfl rfl (j := 3) rfl (by decide) (by decide) (show _ = nI (τ 3) by rw [hT3 3 (by decide), sq_mem, if_neg (by omega), if_neg (by omega), if_neg (by omega), sq_rt_of (by omega) (by omega)]) ?_
    refine az_er 2 rfl ?_
    refine az_iasI rfl rfl (j := 3) rfl (by decide) (by decide) ?_
    refine az_er 1 rfl ?_
    refine az_eret rfl rfl rfl ?_
    refine ⟨by rw [hx], rt_M_up hT3 (fun j hj hj2 => by rw [sq_st, if_neg hj2, he]) (by rw [sq_st, if_pos rfl]; exact nI_1' _), fun s hs => by rw [az_up_o (by decide), ha3 _ (by decide)]; exact hg s hs, fun a q1 q2 => by rw [az_up_o q1, ha3 a q1]; exact ha a q1 q2⟩
  | succ d ih =>
    intro i x y hh hi hd hx hy hT2 hg ha
    have hlt : i < τ 1 := by omega
    have h1t : sq_rt τ i 1 = τ 1 := sq_rt_of (by omega) (by omega)
    have h2t : sq_rt τ i 2 = τ 2 := sq_rt_of (by omega) (by omega)
    refine az_er 4 rfl ?_
    refine az_iaI rfl rfl (j := 1) (show Int32.ofInt 1 = nI 1 from rfl) (by decide) (by decide) (show _ = nI (τ 1) by rw [hT2 1 (by decide), h1t]) ?_
    refine az_ic_ge rfl rfl (fun c14 => absurd c14 (by rw [hy]; exact nI_ge hlt (by omega))) (fun c14 => ?_)
    refine az_er 10 rfl ?_
    refine az_iaI rfl rfl (ix_rk (k := 2) hy rfl) (show 40 + 3 * i + 2 < 70 by omega) (by decide) (show _ = nI (τ (42 + 3 * i)) by rw [hT2 _ (by omega), show 40 + 3 * i + 2 = 42 + 3 * i by omega, sq_rt_s, if_neg (fun q => Nat.lt_irrefl i q.1)]) ?_
    refine az_er 2 rfl ?_
    refine az_ecallF rfl rfl rfl rfl (cm_isRoom hT2 (rt_V_rt hV (by omega)) (j := i) (by rw [h1t]; exact hlt) hy) ?_
    rw [sq_ok_rt hV (by omega) hlt]
    refine az_er 4 rfl ?_
    refine az_iaI rfl rfl (j := 2) (show Int32.ofInt 2 = nI 2 from rfl) (by decide) (by decide) (show _ = nI (τ 2) by rw [hT2 2 (by decide), h2t]) ?_
    rw [hx]
    refine az_ic_gt rfl rfl (fun c43 => ?_) (fun c43 => ?_)
    · refine az_er 1 rfl ?_
      refine az_ic_ne rfl rfl (fun c51 => ?_) (fun c51 => ?_)
      · refine az_er 2 rfl ?_
        refine az_iasI rfl rfl (ix_rk (k := 2) hy rfl) (show 40 + 3 * i + 2 < 70 by omega) (by decide) ?_
        refine az_er 2 rfl ?_
        have hpp : decide (nI (sq_pr τ) ≤ nI (τ 2)) = false := decide_eq_false (Int32.not_le.mpr c43)
        have hri : sq_ri τ i = false := by
          rw [sq_ri_eq, hpp]
          cases hok : sq_ok τ i <;> first | rfl | (rw [hok] at c51; exact absurd c51 (by decide)) | (rw [hok] at c51; exact absurd rfl c51)
        refine ih (i + 1) _ _ _ (by omega) (by omega) rfl (by rw [hy]; exact nI_1' i) (rt_M_up hT2 (fun j hj hj2 => ?_) ?_) (fun s hs => by rw [az_up_o (by decide)]; exact hg s hs) (fun a q1 q2 => by rw [az_up_o q1]; exact ha a q1 q2)
        · unfold sq_rt
          by_cases hc : 42 ≤ j ∧ j < 42 + 3 * i ∧ j % 3 = 0 ∧ sq_ri τ ((j - 42) / 3) = true
          · rw [if_pos hc, if_pos ⟨hc.1, by omega, hc.2.2⟩]
          · rw [if_neg hc, if_neg (fun q => hc ⟨q.1, by omega, q.2.2⟩)]
        · rw [show 40 + 3 * i + 2 = 42 + 3 * i by omega, sq_rt_s, if_neg (fun q => by rw [hri] at q; cases q.2)]
          exact Int32.add_zero _
      · refine az_er 3 rfl ?_
        refine az_iasI rfl rfl (ix_rk (k := 2) hy rfl) (show 40 + 3 * i + 2 < 70 by omega) (by decide) ?_
        refine az_er 2 rfl ?_
        have hpp : decide (nI (sq_pr τ) ≤ nI (τ 2)) = false := decide_eq_false (Int32.not_le.mpr c43)
        have hri : sq_ri τ i = true := by
          rw [sq_ri_eq, hpp]
          cases hok : sq_ok τ i <;> first | rfl | (rw [hok] at c51; exact absurd c51 (by decide)) | (rw [hok] at c51; exact absurd rfl c51)
        refine ih (i + 1) _ _ _ (by omega) (by omega) rfl (by rw [hy]; exact nI_1' i) (rt_M_up hT2 (fun j hj hj2 => ?_) ?_) (fun s hs => by rw [az_up_o (by decide)]; exact hg s hs) (fun a q1 q2 => by rw [az_up_o q1]; exact ha a q1 q2)
        · unfold sq_rt
          by_cases hc : 42 ≤ j ∧ j < 42 + 3 * i ∧ j % 3 = 0 ∧ sq_ri τ ((j - 42) / 3) = true
          · rw [if_pos hc, if_pos ⟨hc.1, by omega, hc.2.2⟩]
          · rw [if_neg hc, if_neg (fun q => hc ⟨q.1, by omega, q.2.2⟩)]
        · rw [show 40 + 3 * i + 2 = 42 + 3 * i by omega, sq_rt_s, if_pos ⟨by omega, hri⟩]
          exact nI_1' _
    · refine az_er 2 rfl ?_
      refine az_ic_ne rfl rfl (fun c51 => ?_) (fun c51 => ?_)
      · refine az_er 2 rfl ?_
        refine az_iasI rfl rfl (ix_rk (k := 2) hy rfl) (show 40 + 3 * i + 2 < 70 by omega) (by decide) ?_
        refine az_er 2 rfl ?_
        have hpp : decide (nI (sq_pr τ) ≤ nI (τ 2)) = true := decide_eq_true (Int32.not_lt.mp c43)
        have hri : sq_ri τ i = false := by
          rw [sq_ri_eq, hpp]
          cases hok : sq_ok τ i <;> first | rfl | (rw [hok] at c51; exact absurd c51 (by decide)) | (rw [hok] at c51; exact absurd rfl c51)
        refine ih (i + 1) _ _ _ (by omega) (by omega) rfl (by rw [hy]; exact nI_1' i) (rt_M_up hT2 (fun j hj hj2 => ?_) ?_) (fun s hs => by rw [az_up_o (by decide)]; exact hg s hs) (fun a q1 q2 => by rw [az_up_o q1]; exact ha a q1 q2)
        · unfold sq_rt
          by_cases hc : 42 ≤ j ∧ j < 42 + 3 * i ∧ j % 3 = 0 ∧ sq_ri τ ((j - 42) / 3) = true
          · rw [if_pos hc, if_pos ⟨hc.1, by omega, hc.2.2⟩]
          · rw [if_neg hc, if_neg (fun q => hc ⟨q.1, by omega, q.2.2⟩)]
        · rw [show 40 + 3 * i + 2 = 42 + 3 * i by omega, sq_rt_s, if_neg (fun q => by rw [hri] at q; cases q.2)]
          exact Int32.add_zero _
      · refine az_er 3 rfl ?_
        refine az_iasI rfl rfl (ix_rk (k := 2) hy rfl) (show 40 + 3 * i + 2 < 70 by omega) (by decide) ?_
        refine az_er 2 rfl ?_
        have hpp : decide (nI (sq_pr τ) ≤ nI (τ 2)) = true := decide_eq_true (Int32.not_lt.mp c43)
        have hri : sq_ri τ i = true := by
          rw [sq_ri_eq, hpp]
          cases hok : sq_ok τ i <;> first | rfl | (rw [hok] at c51; exact absurd c51 (by decide)) | (rw [hok] at c51; exact absurd rfl c51)
        refine ih (i + 1) _ _ _ (by omega) (by omega) rfl (by rw [hy]; exact nI_1' i) (rt_M_up hT2 (fun j hj hj2 => ?_) ?_) (fun s hs => by rw [az_up_o (by decide)]; exact hg s hs) (fun a q1 q2 => by rw [az_up_o q1]; exact ha a q1 q2)
        · unfold sq_rt
          by_cases hc : 42 ≤ j ∧ j < 42 + 3 * i ∧ j % 3 = 0 ∧ sq_ri τ ((j - 42) / 3) = true
          · rw [if_pos hc, if_pos ⟨hc.1, by omega, hc.2.2⟩]
          · rw [if_neg hc, if_neg (fun q => hc ⟨q.1, by omega, q.2.2⟩)]
        · rw [show 40 + 3 * i + 2 = 42 + 3 * i by omega, sq_rt_s, if_pos ⟨by omega, hri⟩]
          exact nI_1' _
set_option maxRecDepth 100000 in
theorem cm_goOn {sc : az_S} {τ : Nat → Nat} {h : az_H} (hT : rt_M 61 τ h) (hV : rt_V τ) : az_E sc az_m_X8_goOn 0 [.ref 59] [] h (fun v h' => v = some (.int (nI (sq_pr τ))) ∧ rt_M 61 (sq_st τ) h' ∧ (∀ s, s < τ 0 → h' 69 s = sq_b (sq_go τ s)) ∧ ∀ a, a ≠ 61 → a ≠ 69 → h' a = h a) := by
  refine az_er 1 rfl ?_
  refine az_ecall rfl rfl rfl rfl (cm_present hT hV) ?_
  rintro _ hh ⟨rfl, ha, hg⟩
  refine az_er 3 rfl ?_
  exact lm_goOn hT hV (τ 1) 0 _ 0 hh (Nat.zero_le _) (by omega) rfl rfl (rt_M_cong (rt_M_h hT (ha 61 (by decide))) (fun j _ => by unfold sq_rt; rw [if_neg (by omega)])) hg (fun a _ q => ha a q)
