/-! more short calls -/
theorem rt_T_pen {b p : Nat} {τ : Nat → Nat} {h : az_H} {v : Int32} (hT : rt_T b τ h) (hv : v = nI p) : rt_T b (fun i => if i = 5 then p else τ i) (az_up h b 4 v) := by
  obtain ⟨⟨t1, t2, t3, t4, t5, t6⟩, ts, tr, tw⟩ := hT
  have o9 : ∀ k, k ≠ 0 → az_up h b 4 v (b + k) = h (b + k) := fun k hk => az_up_o (by omega)
  refine ⟨⟨by rw [az_up_n (by omega)]; exact t1, by rw [az_up_s, hv]; rfl, by rw [az_up_n (by omega)]; exact t3, by rw [o9 1 (by omega)]; exact t4, by rw [o9 8 (by omega)]; exact t5, by rw [o9 12 (by omega)]; exact t6⟩, fun s hs => ?_, fun r hr => ?_, fun w hw => ?_⟩
  · simp only [o9 2 (by omega), o9 3 (by omega), o9 4 (by omega), o9 5 (by omega), o9 6 (by omega), o9 7 (by omega), if_neg (show 10 + 6 * s ≠ 5 by omega), if_neg (show 11 + 6 * s ≠ 5 by omega), if_neg (show 12 + 6 * s ≠ 5 by omega), if_neg (show 13 + 6 * s ≠ 5 by omega), if_neg (show 14 + 6 * s ≠ 5 by omega), if_neg (show 15 + 6 * s ≠ 5 by omega)]; exact ts s hs
  · simp only [o9 9 (by omega), o9 10 (by omega), o9 11 (by omega), if_neg (show 40 + 3 * r ≠ 5 by omega), if_neg (show 41 + 3 * r ≠ 5 by omega), if_neg (show 42 + 3 * r ≠ 5 by omega)]; exact tr r hr
  · simp only [o9 13 (by omega), if_neg (show 60 + w ≠ 5 by omega)]; exact tw w hw
theorem rt_V_pen {p : Nat} {τ : Nat → Nat} (hV : rt_V τ) (hp : p ≤ 9) : rt_V (fun i => if i = 5 then p else τ i) := by
  obtain ⟨h0, h1, h2, h4, h5, hs, hs2, hr, hr2, hw⟩ := hV
  refine ⟨h0, h1, h2, h4, hp, fun s h9 => ?_, fun s h9 => ?_, fun r h9 => ?_, fun r h9 => ?_, fun w h9 => ?_⟩
  · simp only [if_neg (show 10 + 6 * s ≠ 5 by omega), if_neg (show 11 + 6 * s ≠ 5 by omega), if_neg (show 12 + 6 * s ≠ 5 by omega), if_neg (show 13 + 6 * s ≠ 5 by omega), if_neg (show 14 + 6 * s ≠ 5 by omega), if_neg (show 15 + 6 * s ≠ 5 by omega)]; exact hs s h9
  · simp only [if_neg (show 10 + 6 * s ≠ 5 by omega), if_neg (show 11 + 6 * s ≠ 5 by omega), if_neg (show 12 + 6 * s ≠ 5 by omega)]; exact hs2 s h9
  · simp only [if_neg (show 40 + 3 * r ≠ 5 by omega), if_neg (show 41 + 3 * r ≠ 5 by omega)]; exact hr r h9
  · simp only [if_neg (show 41 + 3 * r ≠ 5 by omega)]; exact hr2 r h9
  · simp only [if_neg (show 60 + w ≠ 5 by omega)]; exact hw w h9
theorem rt_lt_m1 {x : Int32} (h : x < 0) (h1 : ¬ x = -1) : x < -1 := by
  rw [Int32.lt_iff_toInt_lt] at h ⊢
  have h2 : x.toInt ≠ -1 := fun q => h1 (Int32.toInt_inj.mp q)
  have h3 : (0 : Int32).toInt = 0 := rfl
  have h4 : (-1 : Int32).toInt = -1 := rfl
  omega
set_option maxRecDepth 100000 in
theorem op_rule {x y : Int32} : rt_op az_m_X7_rule az_m_X8_rule [.int x, .int y] := by
  intro sc σ h hC hW
  have b1 := hW.1.2.1
  rcases rt_has (x := x) (n := σ.1 1) (by omega) with hs | ⟨j, hj, rfl⟩
  · refine ⟨-1, sp_ref σ 1, hW, ?_, ?_⟩
    · refine az_er 6 rfl ?_
      refine az_ecallF rfl rfl rfl rfl ((ct_X3has_1 hC.1 hW.1).eq (by rw [rt_hasN hs]) rfl) ?_
      refine az_if_ne rfl rfl (fun c13 => absurd rfl c13) (fun c13 => ?_)
      refine az_er 2 rfl ?_
      refine az_ecall rfl rfl rfl rfl (ct_refuse hC (k := 1) (by decide) (by decide)) ?_
      rintro _ hh ⟨rfl, hh2, hh3⟩
      refine az_eret rfl rfl rfl ?_
      exact ⟨rfl, hh2, hh3⟩
    · intro h1 hR
      refine az_er 1 rfl ?_
      refine az_if_lt rfl rfl (fun c1 => ?_) (fun c1 => ?_)
      · refine az_er 2 rfl ?_
        refine az_ecall rfl rfl rfl rfl (cm_no hR (k := 1) (by decide) (by decide)) ?_
        rintro _ hh ⟨rfl, hh2, hh3⟩
        refine az_eret rfl rfl rfl ?_
        exact ⟨rfl, hh2, hh3⟩
      · refine az_er 4 rfl ?_
        refine az_iaI rfl rfl (j := 1) (show Int32.ofInt 1 = nI 1 from rfl) (by decide) (by decide) (hR.1 1 (by decide)) ?_
        refine az_ic_lt rfl rfl (fun c11 => absurd c11 (Int32.not_lt.mpr (hs.resolve_left c1))) (fun c11 => ?_)
        refine az_er 2 rfl ?_
        refine az_ecall rfl rfl rfl rfl (cm_no hR (k := 1) (by decide) (by decide)) ?_
        rintro _ hh ⟨rfl, hh2, hh3⟩
        refine az_eret rfl rfl rfl ?_
        exact ⟨rfl, hh2, hh3⟩
  · rcases Classical.em (y < 0 ∨ (3 : Int32) < y) with hy | hy
    · refine ⟨-2, sp_ref σ 2, hW, ?_, ?_⟩
      · refine az_er 6 rfl ?_
        refine az_ecallF rfl rfl rfl rfl ((ct_X3has_1 hC.1 hW.1).eq (by rw [rt_hasY hj (by omega)]) rfl) ?_
        refine az_if_ne rfl rfl (fun c13 => ?_) (fun c13 => absurd c13 (by decide))
        refine az_er 1 rfl ?_
        refine az_e1 (pc' := 103) rfl rfl rfl (az_sw_out (L := 0) (U := 3) rfl trivial rfl hy rfl) ?_
        refine az_er 2 rfl ?_
        refine az_ecall rfl rfl rfl rfl (ct_refuse hC (k := 2) (by decide) (by decide)) ?_
        rintro _ hh ⟨rfl, hh2, hh3⟩
        refine az_eret rfl rfl rfl ?_
        exact ⟨rfl, hh2, hh3⟩
      · intro h1 hR
        refine az_er 1 rfl ?_
        refine az_if_lt rfl rfl (fun c1 => absurd c1 (nI_pos (by omega))) (fun c1 => ?_)
        refine az_er 4 rfl ?_
        refine az_iaI rfl rfl (j := 1) (show Int32.ofInt 1 = nI 1 from rfl) (by decide) (by decide) (hR.1 1 (by decide)) ?_
        refine az_ic_lt rfl rfl (fun c11 => ?_) (fun c11 => absurd ((nI_ltI (by omega) (by omega)).mpr hj) c11)
        refine az_er 1 rfl ?_
        refine az_if_lt rfl rfl (fun c21 => ?_) (fun c21 => ?_)
        · refine az_er 2 rfl ?_
          refine az_ecall rfl rfl rfl rfl (cm_no hR (k := 2) (by decide) (by decide)) ?_
          rintro _ hh ⟨rfl, hh2, hh3⟩
          refine az_eret rfl rfl rfl ?_
          exact ⟨rfl, hh2, hh3⟩
        · refine az_er 2 rfl ?_
          refine az_ic_le rfl rfl (fun c26 => (hy.elim (fun q => absurd q c21) (fun q => absurd c26 (Int32.not_le.mpr q)))) (fun c26 => ?_)
          refine az_er 2 rfl ?_
          refine az_ecall rfl rfl rfl rfl (cm_no hR (k := 2) (by decide) (by decide)) ?_
          rintro _ hh ⟨rfl, hh2, hh3⟩
          refine az_eret rfl rfl rfl ?_
          exact ⟨rfl, hh2, hh3⟩
    · obtain ⟨k, hk, rfl⟩ := rt_nat (x := y) (m := 3) (Int32.not_lt.mp (fun q => hy (Or.inl q))) (Int32.not_lt.mp (fun q => hy (Or.inr q))) (by decide)
      rcases (show k = 0 ∨ k = 1 ∨ k = 2 ∨ k = 3 by omega) with rfl | rfl | rfl | rfl
      · refine ⟨nI (σ.1 (40 + 3 * j)), σ, hW, ?_, ?_⟩
        · refine az_er 6 rfl ?_
          refine az_ecallF rfl rfl rfl rfl ((ct_X3has_1 hC.1 hW.1).eq (by rw [rt_hasY hj (by omega)]) rfl) ?_
          refine az_if_ne rfl rfl (fun c13 => ?_) (fun c13 => absurd c13 (by decide))
          refine az_er 5 rfl ?_
          refine az_ecallF rfl rfl rfl rfl (ct_atI rfl rfl (show j < 6 by omega) (by decide) (hC.1.2.2.1 j (by omega)).1) ?_
          refine az_eret rfl rfl rfl ?_
          exact ⟨rfl, hC, fun _ _ => rfl⟩
        · intro h1 hR
          refine az_er 1 rfl ?_
          refine az_if_lt rfl rfl (fun c1 => absurd c1 (nI_pos (by omega))) (fun c1 => ?_)
          refine az_er 4 rfl ?_
          refine az_iaI rfl rfl (j := 1) (show Int32.ofInt 1 = nI 1 from rfl) (by decide) (by decide) (hR.1 1 (by decide)) ?_
          refine az_ic_lt rfl rfl (fun c11 => ?_) (fun c11 => absurd ((nI_ltI (by omega) (by omega)).mpr hj) c11)
          refine az_er 1 rfl ?_
          refine az_if_lt rfl rfl (fun c21 => absurd c21 (by decide)) (fun c21 => ?_)
          refine az_er 2 rfl ?_
          refine az_ic_le rfl rfl (fun c26 => ?_) (fun c26 => absurd (by decide) c26)
          refine az_er 2 rfl ?_
          refine az_ic_ne rfl rfl (fun c38 => ?_) (fun c38 => absurd (show nI 0 = nI 3 from c38) (by decide))
          refine az_er 9 rfl ?_
          refine az_iaI rfl rfl (show _ = nI (40 + 3 * j + 0) by rw [ix_r rfl, nI_add]) (show 40 + 3 * j + 0 < 70 by omega) (by decide) (show _ = nI (σ.1 (40 + 3 * j)) by rw [hR.1 _ (by omega), show 40 + 3 * j + 0 = 40 + 3 * j by omega]) ?_
          refine az_eret rfl rfl rfl ?_
          exact ⟨rfl, hR, fun _ _ => rfl⟩
      · refine ⟨nI (σ.1 (41 + 3 * j)), σ, hW, ?_, ?_⟩
        · refine az_er 6 rfl ?_
          refine az_ecallF rfl rfl rfl rfl ((ct_X3has_1 hC.1 hW.1).eq (by rw [rt_hasY hj (by omega)]) rfl) ?_
          refine az_if_ne rfl rfl (fun c13 => ?_) (fun c13 => absurd c13 (by decide))
          refine az_er 5 rfl ?_
          refine az_ecallF rfl rfl rfl rfl (ct_atI rfl rfl (show j < 6 by omega) (by decide) (hC.1.2.2.1 j (by omega)).2.1) ?_
          refine az_eret rfl rfl rfl ?_
          exact ⟨rfl, hC, fun _ _ => rfl⟩
        · intro h1 hR
          refine az_er 1 rfl ?_
          refine az_if_lt rfl rfl (fun c1 => absurd c1 (nI_pos (by omega))) (fun c1 => ?_)
          refine az_er 4 rfl ?_
          refine az_iaI rfl rfl (j := 1) (show Int32.ofInt 1 = nI 1 from rfl) (by decide) (by decide) (hR.1 1 (by decide)) ?_
          refine az_ic_lt rfl rfl (fun c11 => ?_) (fun c11 => absurd ((nI_ltI (by omega) (by omega)).mpr hj) c11)
          refine az_er 1 rfl ?_
          refine az_if_lt rfl rfl (fun c21 => absurd c21 (by decide)) (fun c21 => ?_)
          refine az_er 2 rfl ?_
          refine az_ic_le rfl rfl (fun c26 => ?_) (fun c26 => absurd (by decide) c26)
          refine az_er 2 rfl ?_
          refine az_ic_ne rfl rfl (fun c38 => ?_) (fun c38 => absurd (show nI 1 = nI 3 from c38) (by decide))
          refine az_er 9 rfl ?_
          refine az_iaI rfl rfl (show _ = nI (40 + 3 * j + 1) by rw [ix_r rfl, nI_add]) (show 40 + 3 * j + 1 < 70 by omega) (by decide) (show _ = nI (σ.1 (41 + 3 * j)) by rw [hR.1 _ (by omega), show 40 + 3 * j + 1 = 41 + 3 * j by omega]) ?_
          refine az_eret rfl rfl rfl ?_
          exact ⟨rfl, hR, fun _ _ => rfl⟩
      · refine ⟨nI (σ.1 (42 + 3 * j)), σ, hW, ?_, ?_⟩
        · refine az_er 6 rfl ?_
          refine az_ecallF rfl rfl rfl rfl ((ct_X3has_1 hC.1 hW.1).eq (by rw [rt_hasY hj (by omega)]) rfl) ?_
          refine az_if_ne rfl rfl (fun c13 => ?_) (fun c13 => absurd c13 (by decide))
          refine az_er 5 rfl ?_
          refine az_ecallF rfl rfl rfl rfl (ct_atI rfl rfl (show j < 6 by omega) (by decide) (hC.1.2.2.1 j (by omega)).2.2) ?_
          refine az_eret rfl rfl rfl ?_
          exact ⟨rfl, hC, fun _ _ => rfl⟩
        · intro h1 hR
          refine az_er 1 rfl ?_
          refine az_if_lt rfl rfl (fun c1 => absurd c1 (nI_pos (by omega))) (fun c1 => ?_)
          refine az_er 4 rfl ?_
          refine az_iaI rfl rfl (j := 1) (show Int32.ofInt 1 = nI 1 from rfl) (by decide) (by decide) (hR.1 1 (by decide)) ?_
          refine az_ic_lt rfl rfl (fun c11 => ?_) (fun c11 => absurd ((nI_ltI (by omega) (by omega)).mpr hj) c11)
          refine az_er 1 rfl ?_
          refine az_if_lt rfl rfl (fun c21 => absurd c21 (by decide)) (fun c21 => ?_)
          refine az_er 2 rfl ?_
          refine az_ic_le rfl rfl (fun c26 => ?_) (fun c26 => absurd (by decide) c26)
          refine az_er 2 rfl ?_
          refine az_ic_ne rfl rfl (fun c38 => ?_) (fun c38 => absurd (show nI 2 = nI 3 from c38) (by decide))
          refine az_er 9 rfl ?_
          refine az_iaI rfl rfl (show _ = nI (40 + 3 * j + 2) by rw [ix_r rfl, nI_add]) (show 40 + 3 * j + 2 < 70 by omega) (by decide) (show _ = nI (σ.1 (42 + 3 * j)) by rw [hR.1 _ (by omega), show 40 + 3 * j + 2 = 42 + 3 * j by omega]) ?_
          refine az_eret rfl rfl rfl ?_
          exact ⟨rfl, hR, fun _ _ => rfl⟩
      · refine ⟨sq_fb σ.1 j, σ, hW, ?_, ?_⟩
        · refine az_er 6 rfl ?_
          refine az_ecallF rfl rfl rfl rfl ((ct_X3has_1 hC.1 hW.1).eq (by rw [rt_hasY hj (by omega)]) rfl) ?_
          refine az_if_ne rfl rfl (fun c13 => ?_) (fun c13 => absurd c13 (by decide))
          refine az_er 7 rfl ?_
          refine az_ecallF rfl rfl rfl rfl (ct_atI rfl rfl (show j < 6 by omega) (by decide) (hC.1.2.2.1 j (by omega)).1) ?_
          refine az_er 3 rfl ?_
          refine az_ecallF rfl rfl rfl rfl (ct_atI rfl rfl (show j < 6 by omega) (by decide) (hC.1.2.2.1 j (by omega)).2.1) ?_
          refine az_ecallF rfl rfl rfl rfl (ct_foretells_1 hC.1 hW.1 ⟨hW.1.2.2.2.2.2.2.2.2.1 j hj, (hW.1.2.2.2.2.2.2.2.1 j (by omega)).2⟩ rfl (hW.1.2.2.2.2.2.2.2.1 j (by omega)).1) ?_
          refine az_eret rfl rfl rfl ?_
          exact ⟨rfl, hC, fun _ _ => rfl⟩
        · intro h1 hR
          refine az_er 1 rfl ?_
          refine az_if_lt rfl rfl (fun c1 => absurd c1 (nI_pos (by omega))) (fun c1 => ?_)
          refine az_er 4 rfl ?_
          refine az_iaI rfl rfl (j := 1) (show Int32.ofInt 1 = nI 1 from rfl) (by decide) (by decide) (hR.1 1 (by decide)) ?_
          refine az_ic_lt rfl rfl (fun c11 => ?_) (fun c11 => absurd ((nI_ltI (by omega) (by omega)).mpr hj) c11)
          refine az_er 1 rfl ?_
          refine az_if_lt rfl rfl (fun c21 => absurd c21 (by decide)) (fun c21 => ?_)
          refine az_er 2 rfl ?_
          refine az_ic_le rfl rfl (fun c26 => ?_) (fun c26 => absurd (by decide) c26)
          refine az_er 2 rfl ?_
          refine az_ic_ne rfl rfl (fun c38 => absurd rfl c38) (fun c38 => ?_)
          refine az_er 8 rfl ?_
          refine az_iaI rfl rfl (ix_r rfl) (show 40 + 3 * j < 70 by omega) (by decide) (hR.1 _ (by omega)) ?_
          refine az_er 9 rfl ?_
          refine az_iaI rfl rfl (ix_rk (k := 1) rfl rfl) (show 40 + 3 * j + 1 < 70 by omega) (by decide) (show _ = nI (σ.1 (41 + 3 * j)) by rw [hR.1 _ (by omega), show 40 + 3 * j + 1 = 41 + 3 * j by omega]) ?_
          refine az_ecallF rfl rfl rfl rfl (cm_foretold hR.1 hW.1 ⟨hW.1.2.2.2.2.2.2.2.2.1 j hj, (hW.1.2.2.2.2.2.2.2.1 j (by omega)).2⟩ rfl (hW.1.2.2.2.2.2.2.2.1 j (by omega)).1) ?_
          refine az_er 1 rfl ?_
          refine az_eret rfl rfl rfl ?_
          exact ⟨rfl, hR, fun _ _ => rfl⟩
set_option maxRecDepth 100000 in
theorem op_remembered {x : Int32} : rt_op az_m_X7_remembered az_m_X8_remembered [.int x] := by
  intro sc σ h hC hW
  rcases rt_cas (x := x) (lo := 1) (hi := 8) with hx | hx | hx
  · refine ⟨-4, sp_ref σ 4, hW, ?_, ?_⟩
    · refine az_er 3 rfl ?_
      refine az_ecallF rfl rfl rfl rfl (ct_outB hx) ?_
      refine az_er 2 rfl ?_
      refine az_if_eq rfl rfl (fun c9 => absurd c9 (by decide)) (fun c9 => ?_)
      refine az_er 2 rfl ?_
      refine az_ecall rfl rfl rfl rfl (ct_refuse hC (k := 4) (by decide) (by decide)) ?_
      rintro _ hh ⟨rfl, hh2, hh3⟩
      refine az_er 1 rfl ?_
      refine az_eret rfl rfl rfl ?_
      exact ⟨rfl, hh2, hh3⟩
    · intro h1 hR
      refine az_er 2 rfl ?_
      refine az_ic_ge rfl rfl (fun c2 => absurd c2 (Int32.not_le.mpr hx)) (fun c2 => ?_)
      refine az_er 2 rfl ?_
      refine az_ecall rfl rfl rfl rfl (cm_no hR (k := 4) (by decide) (by decide)) ?_
      rintro _ hh ⟨rfl, hh2, hh3⟩
      refine az_eret rfl rfl rfl ?_
      exact ⟨rfl, hh2, hh3⟩
  · refine ⟨-6, sp_ref σ 6, hW, ?_, ?_⟩
    · refine az_er 3 rfl ?_
      refine az_ecallF rfl rfl rfl rfl (ct_outR hx.1 hx.2) ?_
      refine az_er 2 rfl ?_
      refine az_if_eq rfl rfl (fun c9 => absurd c9 (by decide)) (fun c9 => ?_)
      refine az_er 2 rfl ?_
      refine az_ecall rfl rfl rfl rfl (ct_refuse hC (k := 6) (by decide) (by decide)) ?_
      rintro _ hh ⟨rfl, hh2, hh3⟩
      refine az_er 1 rfl ?_
      refine az_eret rfl rfl rfl ?_
      exact ⟨rfl, hh2, hh3⟩
    · intro h1 hR
      refine az_er 2 rfl ?_
      refine az_ic_ge rfl rfl (fun c2 => ?_) (fun c2 => absurd hx.1 c2)
      refine az_er 2 rfl ?_
      refine az_ic_le rfl rfl (fun c15 => absurd c15 (Int32.not_le.mpr hx.2)) (fun c15 => ?_)
      refine az_er 2 rfl ?_
      refine az_ecall rfl rfl rfl rfl (cm_no hR (k := 6) (by decide) (by decide)) ?_
      rintro _ hh ⟨rfl, hh2, hh3⟩
      refine az_er 1 rfl ?_
      refine az_eret rfl rfl rfl ?_
      exact ⟨rfl, hh2, hh3⟩
  · obtain ⟨j, hj, rfl⟩ := rt_nat (x := x) (m := 8) (Int32.le_trans (by decide) hx.1) hx.2 (by decide)
    have hj1 : 1 ≤ j := (nI_leI (a := 1) (by omega) (by omega)).mp hx.1
    have ej : j - 1 + 1 = j := by omega
    refine ⟨nI (sq_ag σ.1 j), σ, hW, ?_, ?_⟩
    · refine az_er 3 rfl ?_
      refine az_ecallF rfl rfl rfl rfl (ct_out0 hx.1 hx.2) ?_
      refine az_er 2 rfl ?_
      refine az_if_eq rfl rfl (fun c9 => ?_) (fun c9 => absurd rfl c9)
      refine az_er 3 rfl ?_
      refine az_ecallF rfl rfl rfl rfl (ct_presentAgo_1 hC.1 hW.1 (k := j - 1) (by omega) (by rw [ej])) ?_
      refine az_eret rfl rfl rfl ?_
      exact ⟨by rw [ej], hC, fun _ _ => rfl⟩
    · intro h1 hR
      refine az_er 2 rfl ?_
      refine az_ic_ge rfl rfl (fun c2 => ?_) (fun c2 => absurd hx.1 c2)
      refine az_er 2 rfl ?_
      refine az_ic_le rfl rfl (fun c15 => ?_) (fun c15 => absurd hx.2 c15)
      refine az_er 2 rfl ?_
      refine az_ecallF rfl rfl rfl rfl (cm_ago hR.1 hW.1 (k := j - 1) (by omega) (by rw [ej])) ?_
      refine az_eret rfl rfl rfl ?_
      exact ⟨by rw [ej], hR, fun _ _ => rfl⟩
set_option maxRecDepth 100000 in
theorem op_penny {x : Int32} : rt_op az_m_X7_penny az_m_X8_penny [.int x] := by
  intro sc σ h hC hW
  rcases rt_cas (x := x) (lo := 0) (hi := 9) with hx | hx | hx
  · refine ⟨-4, sp_ref σ 4, hW, ?_, ?_⟩
    · refine az_er 3 rfl ?_
      refine az_ecallF rfl rfl rfl rfl (ct_outB hx) ?_
      refine az_er 2 rfl ?_
      refine az_if_eq rfl rfl (fun c9 => absurd c9 (by decide)) (fun c9 => ?_)
      refine az_er 2 rfl ?_
      refine az_ecall rfl rfl rfl rfl (ct_refuse hC (k := 4) (by decide) (by decide)) ?_
      rintro _ hh ⟨rfl, hh2, hh3⟩
      refine az_eret rfl rfl rfl ?_
      exact ⟨rfl, hh2, hh3⟩
    · intro h1 hR
      refine az_er 1 rfl ?_
      refine az_if_ge rfl rfl (fun c1 => absurd c1 (Int32.not_le.mpr hx)) (fun c1 => ?_)
      refine az_er 2 rfl ?_
      refine az_ecall rfl rfl rfl rfl (cm_no hR (k := 4) (by decide) (by decide)) ?_
      rintro _ hh ⟨rfl, hh2, hh3⟩
      refine az_eret rfl rfl rfl ?_
      exact ⟨rfl, hh2, hh3⟩
  · refine ⟨-6, sp_ref σ 6, hW, ?_, ?_⟩
    · refine az_er 3 rfl ?_
      refine az_ecallF rfl rfl rfl rfl (ct_outR hx.1 hx.2) ?_
      refine az_er 2 rfl ?_
      refine az_if_eq rfl rfl (fun c9 => absurd c9 (by decide)) (fun c9 => ?_)
      refine az_er 2 rfl ?_
      refine az_ecall rfl rfl rfl rfl (ct_refuse hC (k := 6) (by decide) (by decide)) ?_
      rintro _ hh ⟨rfl, hh2, hh3⟩
      refine az_eret rfl rfl rfl ?_
      exact ⟨rfl, hh2, hh3⟩
    · intro h1 hR
      refine az_er 1 rfl ?_
      refine az_if_ge rfl rfl (fun c1 => ?_) (fun c1 => absurd hx.1 c1)
      refine az_er 2 rfl ?_
      refine az_ic_le rfl rfl (fun c14 => absurd c14 (Int32.not_le.mpr hx.2)) (fun c14 => ?_)
      refine az_er 2 rfl ?_
      refine az_ecall rfl rfl rfl rfl (cm_no hR (k := 6) (by decide) (by decide)) ?_
      rintro _ hh ⟨rfl, hh2, hh3⟩
      refine az_eret rfl rfl rfl ?_
      exact ⟨rfl, hh2, hh3⟩
  · obtain ⟨j, hj, rfl⟩ := rt_nat (x := x) (m := 9) hx.1 hx.2 (by decide)
    refine ⟨nI (σ.1 5), (fun i => if i = 5 then j else σ.1 i, σ.2), ⟨rt_V_pen hW.1 hj, hW.2⟩, ?_, ?_⟩
    · refine az_er 3 rfl ?_
      refine az_ecallF rfl rfl rfl rfl (ct_out0 hx.1 hx.2) ?_
      refine az_er 2 rfl ?_
      refine az_if_eq rfl rfl (fun c9 => ?_) (fun c9 => absurd rfl c9)
      refine az_er 9 rfl ?_
      refine az_eret rfl rfl rfl ?_
      exact ⟨by rw [hC.1.1.2.1], ⟨rt_T_pen hC.1 rfl, by rw [az_up_o (by decide)]; exact hC.2.1, fun q => rt_T_h (hC.2.2.1 q) (fun k hk => az_up_o (by omega)), by rw [az_up_o (by decide), az_up_o (by decide)]; exact hC.2.2.2.1, by rw [az_up_o (by decide), az_up_o (by decide)]; exact hC.2.2.2.2.1, by rw [az_up_o (by decide)]; exact hC.2.2.2.2.2⟩, fun a ha => az_up_o (by omega)⟩
    · intro h1 hR
      refine az_er 1 rfl ?_
      refine az_if_ge rfl rfl (fun c1 => ?_) (fun c1 => absurd hx.1 c1)
      refine az_er 2 rfl ?_
      refine az_ic_le rfl rfl (fun c14 => ?_) (fun c14 => absurd hx.2 c14)
      refine az_er 3 rfl ?_
      refine az_iaI rfl rfl (j := 5) (show Int32.ofInt 5 = nI 5 from rfl) (by decide) (by decide) (hR.1 5 (by decide)) ?_
      refine az_er 5 rfl ?_
      refine az_iasI rfl rfl (j := 5) rfl (by decide) (by decide) ?_
      refine az_er 1 rfl ?_
      refine az_eret rfl rfl rfl ?_
      exact ⟨rfl, ⟨rt_M_up hR.1 (fun i hi hi2 => if_neg hi2) rfl, by rw [az_up_o (by decide)]; exact hR.2.1, fun q => rt_M_h (hR.2.2.1 q) (az_up_o (by decide)), by rw [az_up_o (by decide), az_up_o (by decide)]; exact hR.2.2.2.1, by rw [az_up_o (by decide), az_up_o (by decide)]; exact hR.2.2.2.2.1, by rw [az_up_o (by decide)]; exact hR.2.2.2.2.2⟩, fun a ha => az_up_o (by omega)⟩
set_option maxRecDepth 100000 in
theorem ct_tadd {sc : az_S} {h : az_H} {n : Nat} {c : Int32} (hs : h 46 1 = nI n) (hn : n < 80) : az_F sc az_m_X5_add [.ref 46, .int c] h (some (.int (nI (n + 1)))) (az_up (az_up h 47 n c) 46 1 (nI (n + 1))) := by
  refine az_F.of ?_
  refine az_er 5 rfl ?_
  refine az_ecallF rfl rfl rfl rfl (ct_putI rfl hs hn (by decide)) ?_
  refine az_er 6 rfl ?_
  refine az_er 4 rfl ?_
  refine az_eret rfl rfl rfl ?_
  have e9 : (if (80 : Int32) < az_up h 47 n c 46 1 + Int32.ofInt 1 then (80 : Int32) else az_up h 47 n c 46 1 + Int32.ofInt 1) = nI (n + 1) := by
    rw [az_up_o (by decide), hs, nI_1', if_neg (fun q => by rw [show (80 : Int32) = nI 80 from rfl, nI_ltI (by omega) (by omega)] at q; omega)]
  exact ⟨by rw [az_up_s]; exact congrArg some (congrArg Value.int e9), congrArg (az_up (az_up h 47 n c) 46 1) e9⟩
set_option maxRecDepth 100000 in
theorem op_letter {x : Int32} : rt_op az_m_X7_letter az_m_X8_letter [.int x] := by
  intro sc σ h hC hW
  have hn80 := hW.2.2.1.1
  rcases rt_cas (x := x) (lo := 0) (hi := 255) with hx | hx | hx
  · refine ⟨-4, sp_ref σ 4, hW, ?_, ?_⟩
    · refine az_er 3 rfl ?_
      refine az_ecallF rfl rfl rfl rfl (ct_outB hx) ?_
      refine az_er 2 rfl ?_
      refine az_if_ne rfl rfl (fun c10 => ?_) (fun c10 => absurd c10 (by decide))
      refine az_er 1 rfl ?_
      refine az_if_eq rfl rfl (fun c29 => absurd c29 (by decide)) (fun c29 => ?_)
      refine az_er 2 rfl ?_
      refine az_ecall rfl rfl rfl rfl (ct_refuse hC (k := 4) (by decide) (by decide)) ?_
      rintro _ hh ⟨rfl, hh2, hh3⟩
      refine az_er 1 rfl ?_
      refine az_eret rfl rfl rfl ?_
      exact ⟨rfl, hh2, hh3⟩
    · intro h1 hR
      refine az_er 1 rfl ?_
      refine az_if_ge rfl rfl (fun c1 => absurd c1 (Int32.not_le.mpr hx)) (fun c1 => ?_)
      refine az_er 2 rfl ?_
      refine az_ecall rfl rfl rfl rfl (cm_no hR (k := 4) (by decide) (by decide)) ?_
      rintro _ hh ⟨rfl, hh2, hh3⟩
      refine az_eret rfl rfl rfl ?_
      exact ⟨rfl, hh2, hh3⟩
  · refine ⟨-6, sp_ref σ 6, hW, ?_, ?_⟩
    · refine az_er 3 rfl ?_
      refine az_ecallF rfl rfl rfl rfl (ct_outR hx.1 hx.2) ?_
      refine az_er 2 rfl ?_
      refine az_if_ne rfl rfl (fun c10 => ?_) (fun c10 => absurd c10 (by decide))
      refine az_er 1 rfl ?_
      refine az_if_eq rfl rfl (fun c29 => absurd c29 (by decide)) (fun c29 => ?_)
      refine az_er 2 rfl ?_
      refine az_ecall rfl rfl rfl rfl (ct_refuse hC (k := 6) (by decide) (by decide)) ?_
      rintro _ hh ⟨rfl, hh2, hh3⟩
      refine az_er 1 rfl ?_
      refine az_eret rfl rfl rfl ?_
      exact ⟨rfl, hh2, hh3⟩
    · intro h1 hR
      refine az_er 1 rfl ?_
      refine az_if_ge rfl rfl (fun c1 => ?_) (fun c1 => absurd hx.1 c1)
      refine az_er 2 rfl ?_
      refine az_ic_gt rfl rfl (fun c15 => ?_) (fun c15 => absurd hx.2 c15)
      refine az_er 2 rfl ?_
      refine az_ecall rfl rfl rfl rfl (cm_no hR (k := 6) (by decide) (by decide)) ?_
      rintro _ hh ⟨rfl, hh2, hh3⟩
      refine az_eret rfl rfl rfl ?_
      exact ⟨rfl, hh2, hh3⟩
  · obtain ⟨j, hj, rfl⟩ := rt_nat (x := x) (m := 255) hx.1 hx.2 (by decide)
    rcases Classical.em (σ.2.2.2.1.1 = 80) with hn | hn
    · refine ⟨-6, sp_ref σ 6, hW, ?_, ?_⟩
      · refine az_er 3 rfl ?_
        refine az_ecallF rfl rfl rfl rfl (ct_out0 hx.1 hx.2) ?_
        refine az_er 2 rfl ?_
        refine az_if_ne rfl rfl (fun c10 => absurd rfl c10) (fun c10 => ?_)
        refine az_er 4 rfl ?_
        refine az_ic_lt rfl rfl (fun c22 => absurd c22 (by rw [hC.2.2.2.1.1, hn]; decide)) (fun c22 => ?_)
        refine az_er 3 rfl ?_
        refine az_if_eq rfl rfl (fun c29 => absurd c29 (by decide)) (fun c29 => ?_)
        refine az_er 2 rfl ?_
        refine az_ecall rfl rfl rfl rfl (ct_refuse hC (k := 6) (by decide) (by decide)) ?_
        rintro _ hh ⟨rfl, hh2, hh3⟩
        refine az_er 1 rfl ?_
        refine az_eret rfl rfl rfl ?_
        exact ⟨rfl, hh2, hh3⟩
      · intro h1 hR
        refine az_er 1 rfl ?_
        refine az_if_ge rfl rfl (fun c1 => ?_) (fun c1 => absurd hx.1 c1)
        refine az_er 2 rfl ?_
        refine az_ic_gt rfl rfl (fun c15 => absurd c15 (Int32.not_lt.mpr hx.2)) (fun c15 => ?_)
        refine az_er 3 rfl ?_
        refine az_ic_ne rfl rfl (fun c24 => absurd (by rw [hR.2.2.2.1.1, hn]; rfl) c24) (fun c24 => ?_)
        refine az_er 2 rfl ?_
        refine az_ecall rfl rfl rfl rfl (cm_no hR (k := 6) (by decide) (by decide)) ?_
        rintro _ hh ⟨rfl, hh2, hh3⟩
        refine az_eret rfl rfl rfl ?_
        exact ⟨rfl, hh2, hh3⟩
    · refine ⟨nI (σ.2.2.2.1.1 + 1), (σ.1, σ.2.1, σ.2.2.1, (σ.2.2.2.1.1 + 1, fun i => if i = σ.2.2.2.1.1 then j else σ.2.2.2.1.2 i), σ.2.2.2.2), ⟨hW.1, hW.2.1, ⟨show σ.2.2.2.1.1 + 1 ≤ 80 by omega, fun i hi => by show (if i = σ.2.2.2.1.1 then j else σ.2.2.2.1.2 i) ≤ 255; split; exact hj; exact hW.2.2.1.2 i (by have : i < σ.2.2.2.1.1 + 1 := hi; omega)⟩, hW.2.2.2⟩, ?_, ?_⟩
      · refine az_er 3 rfl ?_
        refine az_ecallF rfl rfl rfl rfl (ct_out0 hx.1 hx.2) ?_
        refine az_er 2 rfl ?_
        refine az_if_ne rfl rfl (fun c10 => absurd rfl c10) (fun c10 => ?_)
        refine az_er 4 rfl ?_
        refine az_ic_lt rfl rfl (fun c22 => ?_) (fun c22 => absurd (by rw [hC.2.2.2.1.1]; exact (nI_ltI (b := 80) (by omega) (by omega)).mpr (by omega)) c22)
        refine az_er 1 rfl ?_
        refine az_if_eq rfl rfl (fun c29 => ?_) (fun c29 => absurd rfl c29)
        refine az_er 3 rfl ?_
        refine az_ecallF rfl rfl rfl rfl (ct_tadd hC.2.2.2.1.1 (by omega)) ?_
        refine az_eret rfl rfl rfl ?_
        have hC1 : rt_C σ (az_up h 47 σ.2.2.2.1.1 (nI j)) := rt_C_u hC (by omega) rfl rfl rfl rfl (by rw [az_up_o (by decide)]; exact hC.2.1) ⟨by rw [az_up_o (by decide)]; exact hC.2.2.2.1.1, fun i hi => by rw [az_up_n (by omega)]; exact hC.2.2.2.1.2 i hi⟩ (by rw [az_up_o (by decide), az_up_o (by decide)]; exact hC.2.2.2.2.1)
        refine ⟨rfl, rt_C_u hC1 (by omega) rfl rfl rfl rfl (by rw [az_up_o (by decide)]; exact hC1.2.1) ⟨az_up_s, fun i hi => ?_⟩ (by rw [az_up_o (by decide), az_up_o (by decide)]; exact hC1.2.2.2.2.1), fun a ha => by rw [az_up_o (by omega), az_up_o (by omega)]⟩
        show _ = nI (if i = σ.2.2.2.1.1 then j else σ.2.2.2.1.2 i)
        rw [az_up_o (by decide)]
        by_cases h9 : i = σ.2.2.2.1.1
        · subst h9
          rw [az_up_s, if_pos rfl]
        · rw [az_up_n h9, if_neg h9]
          exact hC.2.2.2.1.2 i (by have : i < σ.2.2.2.1.1 + 1 := hi; omega)
      · intro h1 hR
        refine az_er 1 rfl ?_
        refine az_if_ge rfl rfl (fun c1 => ?_) (fun c1 => absurd hx.1 c1)
        refine az_er 2 rfl ?_
        refine az_ic_gt rfl rfl (fun c15 => absurd c15 (Int32.not_lt.mpr hx.2)) (fun c15 => ?_)
        refine az_er 3 rfl ?_
        refine az_ic_ne rfl rfl (fun c24 => ?_) (fun c24 => absurd (show nI σ.2.2.2.1.1 = nI 80 by rw [← hR.2.2.2.1.1]; exact c24) (fun q => by rw [nI_eq (by omega) (by omega)] at q; omega))
        refine az_er 5 rfl ?_
        refine az_iasI rfl rfl hR.2.2.2.1.1 (show σ.2.2.2.1.1 < 80 by omega) (by decide) ?_
        refine az_er 8 rfl ?_
        refine az_eret rfl rfl rfl ?_
        have u : ∀ a, a ≠ 59 → a ≠ 64 → az_up (az_up h1 64 σ.2.2.2.1.1 (nI j)) 59 6 (nI (σ.2.2.2.1.1 + 1)) a = h1 a := fun a p q => by rw [az_up_o p, az_up_o q]
        have e9 : az_up h1 64 σ.2.2.2.1.1 (nI j) 59 6 + Int32.ofInt 1 = nI (σ.2.2.2.1.1 + 1) := by rw [az_up_o (by decide), hR.2.2.2.1.1]; exact nI_1' _
        refine ⟨by rw [az_up_s, e9], ?_, fun a ha => by rw [az_up_o (by omega), az_up_o (by omega)]⟩
        rw [e9]
        refine ⟨rt_M_h hR.1 (u 61 (by decide) (by decide)), by rw [az_up_n (by decide), az_up_o (by decide)]; exact hR.2.1, fun q => rt_M_h (hR.2.2.1 q) (u 62 (by decide) (by decide)), ⟨az_up_s, fun i hi => ?_⟩, ⟨by rw [az_up_n (by decide), az_up_o (by decide)]; exact hR.2.2.2.2.1.1, by rw [u 74 (by decide) (by decide)]; exact hR.2.2.2.2.1.2⟩, by rw [u 60 (by decide) (by decide)]; exact hR.2.2.2.2.2⟩
        show _ = nI (if i = σ.2.2.2.1.1 then j else σ.2.2.2.1.2 i)
        rw [az_up_o (by decide)]
        by_cases h9 : i = σ.2.2.2.1.1
        · subst h9
          rw [az_up_s, if_pos rfl]
        · rw [az_up_n h9, if_neg h9]
          exact hR.2.2.2.1.2 i (by have : i < σ.2.2.2.1.1 + 1 := hi; omega)
set_option maxRecDepth 100000 in
theorem op_row {x : Int32} : rt_op az_m_X7_row az_m_X8_row [.int x] := by
  intro sc σ h hC hW
  have hn12 := hW.2.2.2.1
  rcases rt_cas (x := x) (lo := 0) (hi := 99) with hx | hx | hx
  · refine ⟨-4, sp_ref σ 4, hW, ?_, ?_⟩
    · refine az_er 3 rfl ?_
      refine az_ecallF rfl rfl rfl rfl (ct_outB hx) ?_
      refine az_er 2 rfl ?_
      refine az_if_ne rfl rfl (fun c9 => ?_) (fun c9 => absurd c9 (by decide))
      refine az_er 1 rfl ?_
      refine az_if_eq rfl rfl (fun c25 => absurd c25 (by decide)) (fun c25 => ?_)
      refine az_er 2 rfl ?_
      refine az_ecall rfl rfl rfl rfl (ct_refuse hC (k := 4) (by decide) (by decide)) ?_
      rintro _ hh ⟨rfl, hh2, hh3⟩
      refine az_eret rfl rfl rfl ?_
      exact ⟨rfl, hh2, hh3⟩
    · intro h1 hR
      refine az_er 1 rfl ?_
      refine az_if_ge rfl rfl (fun c1 => absurd c1 (Int32.not_le.mpr hx)) (fun c1 => ?_)
      refine az_er 2 rfl ?_
      refine az_ecall rfl rfl rfl rfl (cm_no hR (k := 4) (by decide) (by decide)) ?_
      rintro _ hh ⟨rfl, hh2, hh3⟩
      refine az_eret rfl rfl rfl ?_
      exact ⟨rfl, hh2, hh3⟩
  · refine ⟨-6, sp_ref σ 6, hW, ?_, ?_⟩
    · refine az_er 3 rfl ?_
      refine az_ecallF rfl rfl rfl rfl (ct_outR hx.1 hx.2) ?_
      refine az_er 2 rfl ?_
      refine az_if_ne rfl rfl (fun c9 => ?_) (fun c9 => absurd c9 (by decide))
      refine az_er 1 rfl ?_
      refine az_if_eq rfl rfl (fun c25 => absurd c25 (by decide)) (fun c25 => ?_)
      refine az_er 2 rfl ?_
      refine az_ecall rfl rfl rfl rfl (ct_refuse hC (k := 6) (by decide) (by decide)) ?_
      rintro _ hh ⟨rfl, hh2, hh3⟩
      refine az_eret rfl rfl rfl ?_
      exact ⟨rfl, hh2, hh3⟩
    · intro h1 hR
      refine az_er 1 rfl ?_
      refine az_if_ge rfl rfl (fun c1 => ?_) (fun c1 => absurd hx.1 c1)
      refine az_er 2 rfl ?_
      refine az_ic_gt rfl rfl (fun c14 => ?_) (fun c14 => absurd hx.2 c14)
      refine az_er 2 rfl ?_
      refine az_ecall rfl rfl rfl rfl (cm_no hR (k := 6) (by decide) (by decide)) ?_
      rintro _ hh ⟨rfl, hh2, hh3⟩
      refine az_eret rfl rfl rfl ?_
      exact ⟨rfl, hh2, hh3⟩
  · obtain ⟨j, hj, rfl⟩ := rt_nat (x := x) (m := 99) hx.1 hx.2 (by decide)
    rcases Classical.em (σ.2.2.2.2.1.1 = 12) with hn | hn
    · refine ⟨-6, sp_ref σ 6, hW, ?_, ?_⟩
      · refine az_er 3 rfl ?_
        refine az_ecallF rfl rfl rfl rfl (ct_out0 hx.1 hx.2) ?_
        refine az_er 2 rfl ?_
        refine az_if_ne rfl rfl (fun c9 => absurd rfl c9) (fun c9 => ?_)
        refine az_er 3 rfl ?_
        refine az_ic_lt rfl rfl (fun c18 => absurd c18 (by rw [hC.2.2.2.2.1.1, hn]; decide)) (fun c18 => ?_)
        refine az_er 3 rfl ?_
        refine az_if_eq rfl rfl (fun c25 => absurd c25 (by decide)) (fun c25 => ?_)
        refine az_er 2 rfl ?_
        refine az_ecall rfl rfl rfl rfl (ct_refuse hC (k := 6) (by decide) (by decide)) ?_
        rintro _ hh ⟨rfl, hh2, hh3⟩
        refine az_eret rfl rfl rfl ?_
        exact ⟨rfl, hh2, hh3⟩
      · intro h1 hR
        refine az_er 1 rfl ?_
        refine az_if_ge rfl rfl (fun c1 => ?_) (fun c1 => absurd hx.1 c1)
        refine az_er 2 rfl ?_
        refine az_ic_gt rfl rfl (fun c14 => absurd c14 (Int32.not_lt.mpr hx.2)) (fun c14 => ?_)
        refine az_er 3 rfl ?_
        refine az_ic_ne rfl rfl (fun c23 => absurd (by rw [hR.2.2.2.2.1.1, hn]; rfl) c23) (fun c23 => ?_)
        refine az_er 2 rfl ?_
        refine az_ecall rfl rfl rfl rfl (cm_no hR (k := 6) (by decide) (by decide)) ?_
        rintro _ hh ⟨rfl, hh2, hh3⟩
        refine az_eret rfl rfl rfl ?_
        exact ⟨rfl, hh2, hh3⟩
    · refine ⟨nI (σ.2.2.2.2.1.1 + 1), (σ.1, σ.2.1, σ.2.2.1, σ.2.2.2.1, (σ.2.2.2.2.1.1 + 1, fun i => if i = σ.2.2.2.2.1.1 then j else σ.2.2.2.2.1.2 i), σ.2.2.2.2.2), ⟨hW.1, hW.2.1, hW.2.2.1, ⟨show σ.2.2.2.2.1.1 + 1 ≤ 12 by omega, fun i hi => by show (if i = σ.2.2.2.2.1.1 then j else σ.2.2.2.2.1.2 i) ≤ 99; split; exact hj; exact hW.2.2.2.2 i (by have : i < σ.2.2.2.2.1.1 + 1 := hi; omega)⟩⟩, ?_, ?_⟩
      · refine az_er 3 rfl ?_
        refine az_ecallF rfl rfl rfl rfl (ct_out0 hx.1 hx.2) ?_
        refine az_er 2 rfl ?_
        refine az_if_ne rfl rfl (fun c9 => absurd rfl c9) (fun c9 => ?_)
        refine az_er 3 rfl ?_
        refine az_ic_lt rfl rfl (fun c18 => ?_) (fun c18 => absurd (by rw [hC.2.2.2.2.1.1]; exact (nI_ltI (b := 12) (by omega) (by omega)).mpr (by omega)) c18)
        refine az_er 1 rfl ?_
        refine az_if_eq rfl rfl (fun c25 => ?_) (fun c25 => absurd rfl c25)
        refine az_er 5 rfl ?_
        refine az_ecallF rfl rfl rfl rfl (ct_putI rfl hC.2.2.2.2.1.1 (show σ.2.2.2.2.1.1 < 12 by omega) (by decide)) ?_
        refine az_er 8 rfl ?_
        refine az_eret rfl rfl rfl ?_
        have hC1 : rt_C σ (az_up h 57 σ.2.2.2.2.1.1 (nI j)) := rt_C_u hC (by omega) rfl rfl rfl rfl (by rw [az_up_o (by decide)]; exact hC.2.1) (by rw [az_up_o (by decide), az_up_o (by decide)]; exact hC.2.2.2.1) ⟨by rw [az_up_o (by decide)]; exact hC.2.2.2.2.1.1, fun i hi => by rw [az_up_n (by omega)]; exact hC.2.2.2.2.1.2 i hi⟩
        have e9 : az_up h 57 σ.2.2.2.2.1.1 (nI j) 0 9 + Int32.ofInt 1 = nI (σ.2.2.2.2.1.1 + 1) := by rw [az_up_o (by decide), hC.2.2.2.2.1.1]; exact nI_1' _
        refine ⟨by rw [az_up_s, e9], rt_C_u hC1 (by omega) rfl rfl rfl rfl (by rw [az_up_n (by decide)]; exact hC1.2.1) (by rw [az_up_o (by decide), az_up_o (by decide)]; exact hC1.2.2.2.1) ⟨by rw [az_up_s, e9], fun i hi => ?_⟩, fun a ha => by rw [az_up_o (by omega), az_up_o (by omega)]⟩
        show _ = nI (if i = σ.2.2.2.2.1.1 then j else σ.2.2.2.2.1.2 i)
        rw [az_up_o (by decide)]
        by_cases h9 : i = σ.2.2.2.2.1.1
        · subst h9
          rw [az_up_s, if_pos rfl]
        · rw [az_up_n h9, if_neg h9]
          exact hC.2.2.2.2.1.2 i (by have : i < σ.2.2.2.2.1.1 + 1 := hi; omega)
      · intro h1 hR
        refine az_er 1 rfl ?_
        refine az_if_ge rfl rfl (fun c1 => ?_) (fun c1 => absurd hx.1 c1)
        refine az_er 2 rfl ?_
        refine az_ic_gt rfl rfl (fun c14 => absurd c14 (Int32.not_lt.mpr hx.2)) (fun c14 => ?_)
        refine az_er 3 rfl ?_
        refine az_ic_ne rfl rfl (fun c23 => ?_) (fun c23 => absurd (show nI σ.2.2.2.2.1.1 = nI 12 by rw [← hR.2.2.2.2.1.1]; exact c23) (fun q => by rw [nI_eq (by omega) (by omega)] at q; omega))
        refine az_er 5 rfl ?_
        refine az_iasI rfl rfl hR.2.2.2.2.1.1 (show σ.2.2.2.2.1.1 < 12 by omega) (by decide) ?_
        refine az_er 8 rfl ?_
        refine az_eret rfl rfl rfl ?_
        have u : ∀ a, a ≠ 59 → a ≠ 74 → az_up (az_up h1 74 σ.2.2.2.2.1.1 (nI j)) 59 26 (nI (σ.2.2.2.2.1.1 + 1)) a = h1 a := fun a p q => by rw [az_up_o p, az_up_o q]
        have e9 : az_up h1 74 σ.2.2.2.2.1.1 (nI j) 59 26 + Int32.ofInt 1 = nI (σ.2.2.2.2.1.1 + 1) := by rw [az_up_o (by decide), hR.2.2.2.2.1.1]; exact nI_1' _
        refine ⟨by rw [az_up_s, e9], ?_, fun a ha => by rw [az_up_o (by omega), az_up_o (by omega)]⟩
        rw [e9]
        refine ⟨rt_M_h hR.1 (u 61 (by decide) (by decide)), by rw [az_up_n (by decide), az_up_o (by decide)]; exact hR.2.1, fun q => rt_M_h (hR.2.2.1 q) (u 62 (by decide) (by decide)), ⟨by rw [az_up_n (by decide), az_up_o (by decide)]; exact hR.2.2.2.1.1, by rw [u 64 (by decide) (by decide)]; exact hR.2.2.2.1.2⟩, ⟨az_up_s, fun i hi => ?_⟩, by rw [u 60 (by decide) (by decide)]; exact hR.2.2.2.2.2⟩
        show _ = nI (if i = σ.2.2.2.2.1.1 then j else σ.2.2.2.2.1.2 i)
        rw [az_up_o (by decide)]
        by_cases h9 : i = σ.2.2.2.2.1.1
        · subst h9
          rw [az_up_s, if_pos rfl]
        · rw [az_up_n h9, if_neg h9]
          exact hR.2.2.2.2.1.2 i (by have : i < σ.2.2.2.2.1.1 + 1 := hi; omega)
set_option maxRecDepth 100000 in
theorem op_image  : rt_op az_m_X7_image az_m_X8_image [] := by
  intro sc σ h hC hW
  refine ⟨nI (σ.1 3), (σ.1, σ.1, true, σ.2.2.2), ⟨hW.1, fun _ => hW.1, hW.2.2⟩, ?_, ?_⟩
  · refine az_er 4 rfl ?_
    refine az_ecall rfl rfl rfl rfl (ct_copy_31_1 hC.1) ?_
    rintro _ h1 ⟨rfl, g1, g2⟩
    refine az_er 6 rfl ?_
    refine az_eret rfl rfl rfl ?_
    have u : ∀ (v : Int32) a, a ≠ 0 → az_up h1 0 3 v a = h1 a := fun v a p => az_up_o p
    exact ⟨by rw [az_up_o (by decide), g2 1 (by omega), hC.1.1.2.2.1], ⟨rt_T_h hC.1 (fun k hk => by rw [u _ _ (by omega), g2 _ (by omega)]), az_up_s, fun _ => rt_T_h g1 (fun k hk => u _ _ (by omega)), by rw [u _ 46 (by decide), u _ 47 (by decide), g2 46 (by omega), g2 47 (by omega)]; exact hC.2.2.2.1, by rw [az_up_n (by decide), u _ 57 (by decide), g2 0 (by omega), g2 57 (by omega)]; exact hC.2.2.2.2.1, by rw [u _ 58 (by decide), g2 58 (by omega)]; exact hC.2.2.2.2.2⟩, fun a ha => by rw [u _ a (by omega), g2 a (by omega)]⟩
  · intro h1 hR
    refine az_er 7 rfl ?_
    refine az_ecallF rfl rfl rfl rfl (cm_move rfl rfl (by decide)) ?_
    refine az_er 3 rfl ?_
    refine az_iaI rfl rfl (j := 3) rfl (by decide) (by decide) (show _ = nI (σ.1 3) by rw [az_cp_o (by decide), az_up_o (by decide)]; exact hR.1 3 (by decide)) ?_
    refine az_eret rfl rfl rfl ?_
    have u : ∀ (v : Int32) a, a ≠ 59 → a ≠ 62 → az_cp (az_up h1 59 4 v) 61 62 70 a = h1 a := fun v a p q => by rw [az_cp_o q, az_up_o p]
    exact ⟨rfl, ⟨rt_M_h hR.1 (u _ 61 (by decide) (by decide)), by rw [az_cp_o (by decide)]; exact az_up_s, fun _ => rt_M_cp (rt_M_h hR.1 (az_up_o (by decide))), by rw [az_cp_o (by decide), az_up_n (by decide), u _ 64 (by decide) (by decide)]; exact hR.2.2.2.1, by rw [az_cp_o (by decide), az_up_n (by decide), u _ 74 (by decide) (by decide)]; exact hR.2.2.2.2.1, by rw [u _ 60 (by decide) (by decide)]; exact hR.2.2.2.2.2⟩, fun a ha => u _ a (by omega) (by omega)⟩
set_option maxRecDepth 100000 in
theorem op_on  : rt_op az_m_X7_on az_m_X8_on [] := by
  intro sc σ h hC hW
  cases hk : σ.2.2.1
  · refine ⟨-3, sp_ref σ 3, hW, ?_, ?_⟩
    · refine az_er 2 rfl ?_
      refine az_if_ne rfl rfl (fun c4 => absurd (by rw [hC.2.1, hk]; rfl) c4) (fun c4 => ?_)
      refine az_er 2 rfl ?_
      refine az_ecall rfl rfl rfl rfl (ct_refuse hC (k := 3) (by decide) (by decide)) ?_
      rintro _ hh ⟨rfl, hh2, hh3⟩
      refine az_eret rfl rfl rfl ?_
      exact ⟨rfl, hh2, hh3⟩
    · intro h1 hR
      refine az_er 2 rfl ?_
      refine az_if_ne rfl rfl (fun c4 => absurd (by rw [hR.2.1, hk]; rfl) c4) (fun c4 => ?_)
      refine az_er 2 rfl ?_
      refine az_ecall rfl rfl rfl rfl (cm_no hR (k := 3) (by decide) (by decide)) ?_
      rintro _ hh ⟨rfl, hh2, hh3⟩
      refine az_eret rfl rfl rfl ?_
      exact ⟨rfl, hh2, hh3⟩
  · refine ⟨nI (σ.2.1 3), (σ.2.1, σ.2), ⟨hW.2.1 hk, hW.2⟩, ?_, ?_⟩
    · refine az_er 2 rfl ?_
      refine az_if_ne rfl rfl (fun c4 => ?_) (fun c4 => absurd c4 (by rw [hC.2.1, hk]; decide))
      refine az_er 4 rfl ?_
      refine az_ecall rfl rfl rfl rfl (ct_copy_1_31 (hC.2.2.1 hk)) ?_
      rintro _ h1 ⟨rfl, g1, g2⟩
      refine az_er 3 rfl ?_
      refine az_eret rfl rfl rfl ?_
      exact ⟨by rw [g1.1.2.2.1], ⟨g1, by rw [g2 0 (by omega)]; exact hC.2.1, fun q => rt_T_h (hC.2.2.1 q) (fun k hk => g2 _ (by omega)), by rw [g2 46 (by omega), g2 47 (by omega)]; exact hC.2.2.2.1, by rw [g2 0 (by omega), g2 57 (by omega)]; exact hC.2.2.2.2.1, by rw [g2 58 (by omega)]; exact hC.2.2.2.2.2⟩, fun a ha => g2 a (by omega)⟩
    · intro h1 hR
      refine az_er 2 rfl ?_
      refine az_if_ne rfl rfl (fun c4 => ?_) (fun c4 => absurd c4 (by rw [hR.2.1, hk]; decide))
      refine az_er 4 rfl ?_
      refine az_ecallF rfl rfl rfl rfl (cm_move rfl rfl (by decide)) ?_
      refine az_er 3 rfl ?_
      refine az_iaI rfl rfl (j := 3) rfl (by decide) (by decide) (show _ = nI (σ.2.1 3) by rw [az_cp_i (by decide)]; exact hR.2.2.1 hk 3 (by decide)) ?_
      refine az_eret rfl rfl rfl ?_
      have u : ∀ a, a ≠ 61 → az_cp h1 62 61 70 a = h1 a := fun a q => az_cp_o q
      exact ⟨rfl, ⟨rt_M_cp (hR.2.2.1 hk), by rw [u 59 (by decide)]; exact hR.2.1, fun q => rt_M_h (hR.2.2.1 q) (u 62 (by decide)), by rw [u 59 (by decide), u 64 (by decide)]; exact hR.2.2.2.1, by rw [u 59 (by decide), u 74 (by decide)]; exact hR.2.2.2.2.1, by rw [u 60 (by decide)]; exact hR.2.2.2.2.2⟩, fun a ha => u a (by omega)⟩
