/-! count, worth, sees -/
theorem rt_R_B {σ : rt_S} {h h1 : az_H} (hR : rt_R σ h) (hM : rt_M 61 σ.1 h1) (hF : ∀ a, a ≠ 61 → a ≠ 63 → (a < 68 ∨ 73 < a) → h1 a = h a) : rt_R σ h1 := by
  obtain ⟨t, k, kt, l, r, f⟩ := hR
  exact ⟨hM, by rw [hF 59 (by omega) (by omega) (by omega)]; exact k, fun q => rt_M_h (kt q) (hF 62 (by omega) (by omega) (by omega)), by rw [hF 59 (by omega) (by omega) (by omega), hF 64 (by omega) (by omega) (by omega)]; exact l, by rw [hF 59 (by omega) (by omega) (by omega), hF 74 (by omega) (by omega) (by omega)]; exact r, by rw [hF 60 (by omega) (by omega) (by omega)]; exact f⟩
theorem rt_M_set {c j w : Nat} {τ : Nat → Nat} {h : az_H} {v : Int32} (hT : rt_M c τ h) (hv : v = nI w) : rt_M c (fun i => if i = j then w else τ i) (az_up h c j v) := rt_M_up hT (fun i _ hi => if_neg hi) (by rw [hv]; exact congrArg nI (if_pos rfl).symm)
set_option maxRecDepth 100000 in
theorem op_count {x : Int32} : rt_op az_m_X7_count az_m_X8_count [.int x] := by
  intro sc σ h hC hW
  rcases Classical.em (x < 0 ∨ (8 : Int32) < x) with hy | hy
  · rcases rt_cas (x := x) (lo := 11) (hi := 16) with hz | hz | hz
    · refine ⟨-9, σ, hW, ?_, ?_⟩
      · refine az_er 1 rfl ?_
        refine az_e1 (pc' := 133) rfl rfl rfl (az_sw_out (L := 0) (U := 8) rfl trivial rfl hy rfl) ?_
        refine az_er 2 rfl ?_
        refine az_ic_lt rfl rfl (fun c136 => ?_) (fun c136 => absurd hz c136)
        refine az_er 1 rfl ?_
        refine az_eret rfl rfl rfl ?_
        exact ⟨rfl, hC, fun _ _ => rfl⟩
      · intro h1 hR
        refine az_er 1 rfl ?_
        refine az_e1 (pc' := 109) rfl rfl rfl (az_sw_out (L := 0) (U := 8) rfl trivial rfl hy rfl) ?_
        refine az_er 2 rfl ?_
        refine az_ic_lt rfl rfl (fun c112 => ?_) (fun c112 => absurd hz c112)
        refine az_er 1 rfl ?_
        refine az_eret rfl rfl rfl ?_
        exact ⟨rfl, hR, fun _ _ => rfl⟩
    · refine ⟨-9, σ, hW, ?_, ?_⟩
      · refine az_er 1 rfl ?_
        refine az_e1 (pc' := 133) rfl rfl rfl (az_sw_out (L := 0) (U := 8) rfl trivial rfl hy rfl) ?_
        refine az_er 2 rfl ?_
        refine az_ic_lt rfl rfl (fun c136 => absurd c136 (Int32.not_lt.mpr hz.1)) (fun c136 => ?_)
        refine az_er 2 rfl ?_
        refine az_ic_gt rfl rfl (fun c142 => ?_) (fun c142 => absurd hz.2 c142)
        refine az_er 1 rfl ?_
        refine az_eret rfl rfl rfl ?_
        exact ⟨rfl, hC, fun _ _ => rfl⟩
      · intro h1 hR
        refine az_er 1 rfl ?_
        refine az_e1 (pc' := 109) rfl rfl rfl (az_sw_out (L := 0) (U := 8) rfl trivial rfl hy rfl) ?_
        refine az_er 2 rfl ?_
        refine az_ic_lt rfl rfl (fun c112 => absurd c112 (Int32.not_lt.mpr hz.1)) (fun c112 => ?_)
        refine az_er 2 rfl ?_
        refine az_ic_gt rfl rfl (fun c118 => ?_) (fun c118 => absurd hz.2 c118)
        refine az_er 1 rfl ?_
        refine az_eret rfl rfl rfl ?_
        exact ⟨rfl, hR, fun _ _ => rfl⟩
    · obtain ⟨j, hj, rfl⟩ := rt_nat (x := x) (m := 16) (Int32.le_trans (by decide) hz.1) hz.2 (by decide)
      have hj1 : 11 ≤ j := (nI_leI (a := 11) (by omega) (by omega)).mp hz.1
      refine ⟨σ.2.2.2.2.2 (j - 10), σ, hW, ?_, ?_⟩
      · refine az_er 1 rfl ?_
        refine az_e1 (pc' := 133) rfl rfl rfl (az_sw_out (L := 0) (U := 8) rfl trivial rfl hy rfl) ?_
        refine az_er 2 rfl ?_
        refine az_ic_lt rfl rfl (fun c136 => absurd c136 (Int32.not_lt.mpr hz.1)) (fun c136 => ?_)
        refine az_er 2 rfl ?_
        refine az_ic_gt rfl rfl (fun c142 => absurd c142 (Int32.not_lt.mpr hz.2)) (fun c142 => ?_)
        refine az_er 5 rfl ?_
        refine az_ecallF rfl rfl rfl rfl (ct_atI rfl (show _ = nI (j - 10) from nI_sb (b := 10) (by omega)) (show j - 10 < 7 by omega) (by decide) (hC.2.2.2.2.2 (j - 10) (by omega))) ?_
        refine az_er 1 rfl ?_
        refine az_eret rfl rfl rfl ?_
        exact ⟨rfl, hC, fun _ _ => rfl⟩
      · intro h1 hR
        refine az_er 1 rfl ?_
        refine az_e1 (pc' := 109) rfl rfl rfl (az_sw_out (L := 0) (U := 8) rfl trivial rfl hy rfl) ?_
        refine az_er 2 rfl ?_
        refine az_ic_lt rfl rfl (fun c112 => absurd c112 (Int32.not_lt.mpr hz.1)) (fun c112 => ?_)
        refine az_er 2 rfl ?_
        refine az_ic_gt rfl rfl (fun c118 => absurd c118 (Int32.not_lt.mpr hz.2)) (fun c118 => ?_)
        refine az_er 5 rfl ?_
        refine az_iaI rfl rfl (show _ = nI (j - 10) from nI_sb (b := 10) (by omega)) (show j - 10 < 7 by omega) (by decide) (hR.2.2.2.2.2 (j - 10) (by omega)) ?_
        refine az_er 1 rfl ?_
        refine az_eret rfl rfl rfl ?_
        exact ⟨rfl, hR, fun _ _ => rfl⟩
  · obtain ⟨k, hk, rfl⟩ := rt_nat (x := x) (m := 8) (Int32.not_lt.mp (fun q => hy (Or.inl q))) (Int32.not_lt.mp (fun q => hy (Or.inr q))) (by decide)
    rcases (show k = 0 ∨ k = 1 ∨ k = 2 ∨ k = 3 ∨ k = 4 ∨ k = 5 ∨ k = 6 ∨ k = 7 ∨ k = 8 by omega) with rfl | rfl | rfl | rfl | rfl | rfl | rfl | rfl | rfl
    · refine ⟨nI (σ.1 0), σ, hW, ?_, ?_⟩
      · refine az_er 6 rfl ?_
        refine az_eret rfl rfl rfl ?_
        exact ⟨by rw [hC.1.1.2.2.2.1], hC, fun _ _ => rfl⟩
      · intro h1 hR
        refine az_er 5 rfl ?_
        refine az_iaI rfl rfl (j := 0) rfl (by decide) (by decide) (hR.1 0 (by decide)) ?_
        refine az_eret rfl rfl rfl ?_
        exact ⟨rfl, hR, fun _ _ => rfl⟩
    · refine ⟨nI (σ.1 1), σ, hW, ?_, ?_⟩
      · refine az_er 6 rfl ?_
        refine az_eret rfl rfl rfl ?_
        exact ⟨by rw [hC.1.1.2.2.2.2.1], hC, fun _ _ => rfl⟩
      · intro h1 hR
        refine az_er 5 rfl ?_
        refine az_iaI rfl rfl (j := 1) rfl (by decide) (by decide) (hR.1 1 (by decide)) ?_
        refine az_eret rfl rfl rfl ?_
        exact ⟨rfl, hR, fun _ _ => rfl⟩
    · refine ⟨nI (sq_pp σ.1 (σ.1 0)), σ, hW, ?_, ?_⟩
      · refine az_er 5 rfl ?_
        refine az_ecallF rfl rfl rfl rfl (ct_people_1 hC.1 hW.1) ?_
        refine az_eret rfl rfl rfl ?_
        exact ⟨rfl, hC, fun _ _ => rfl⟩
      · intro h1 hR
        refine az_er 3 rfl ?_
        refine az_ecallF rfl rfl rfl rfl (cm_people hR.1 hW.1) ?_
        refine az_eret rfl rfl rfl ?_
        exact ⟨rfl, hR, fun _ _ => rfl⟩
    · refine ⟨nI (σ.1 2), σ, hW, ?_, ?_⟩
      · refine az_er 5 rfl ?_
        refine az_eret rfl rfl rfl ?_
        exact ⟨by rw [hC.1.1.1], hC, fun _ _ => rfl⟩
      · intro h1 hR
        refine az_er 5 rfl ?_
        refine az_iaI rfl rfl (j := 2) rfl (by decide) (by decide) (hR.1 2 (by decide)) ?_
        refine az_eret rfl rfl rfl ?_
        exact ⟨rfl, hR, fun _ _ => rfl⟩
    · refine ⟨nI (σ.1 3), σ, hW, ?_, ?_⟩
      · refine az_er 5 rfl ?_
        refine az_eret rfl rfl rfl ?_
        exact ⟨by rw [hC.1.1.2.2.1], hC, fun _ _ => rfl⟩
      · intro h1 hR
        refine az_er 5 rfl ?_
        refine az_iaI rfl rfl (j := 3) rfl (by decide) (by decide) (hR.1 3 (by decide)) ?_
        refine az_eret rfl rfl rfl ?_
        exact ⟨rfl, hR, fun _ _ => rfl⟩
    · refine ⟨nI (σ.1 4), σ, hW, ?_, ?_⟩
      · refine az_er 6 rfl ?_
        refine az_eret rfl rfl rfl ?_
        exact ⟨by rw [hC.1.1.2.2.2.2.2], hC, fun _ _ => rfl⟩
      · intro h1 hR
        refine az_er 5 rfl ?_
        refine az_iaI rfl rfl (j := 4) rfl (by decide) (by decide) (hR.1 4 (by decide)) ?_
        refine az_eret rfl rfl rfl ?_
        exact ⟨rfl, hR, fun _ _ => rfl⟩
    · refine ⟨nI (σ.1 5), σ, hW, ?_, ?_⟩
      · refine az_er 5 rfl ?_
        refine az_eret rfl rfl rfl ?_
        exact ⟨by rw [hC.1.1.2.1], hC, fun _ _ => rfl⟩
      · intro h1 hR
        refine az_er 5 rfl ?_
        refine az_iaI rfl rfl (j := 5) rfl (by decide) (by decide) (hR.1 5 (by decide)) ?_
        refine az_eret rfl rfl rfl ?_
        exact ⟨rfl, hR, fun _ _ => rfl⟩
    · refine ⟨nI σ.2.2.2.2.1.1, σ, hW, ?_, ?_⟩
      · refine az_er 4 rfl ?_
        refine az_eret rfl rfl rfl ?_
        exact ⟨by rw [hC.2.2.2.2.1.1], hC, fun _ _ => rfl⟩
      · intro h1 hR
        refine az_er 4 rfl ?_
        refine az_eret rfl rfl rfl ?_
        exact ⟨by rw [hR.2.2.2.2.1.1], hR, fun _ _ => rfl⟩
    · refine ⟨nI σ.2.2.2.1.1, σ, hW, ?_, ?_⟩
      · refine az_er 5 rfl ?_
        refine az_eret rfl rfl rfl ?_
        exact ⟨by rw [hC.2.2.2.1.1], hC, fun _ _ => rfl⟩
      · intro h1 hR
        refine az_er 4 rfl ?_
        refine az_eret rfl rfl rfl ?_
        exact ⟨by rw [hR.2.2.2.1.1], hR, fun _ _ => rfl⟩
set_option maxRecDepth 100000 in
theorem lm_wa {sc : az_S} {τ : Nat → Nat} {h : az_H} (hT : rt_M 61 τ h) (hV : rt_V τ) {x p : Int32} (hp : p = nI (sq_pr τ)) (hg : ∀ s, s < τ 0 → h 69 s = sq_b (sq_go τ s)) : ∀ (d i : Nat) (z y : Int32), i ≤ τ 0 → τ 0 - i = d → z = sq_wa τ i → y = nI i → az_E sc az_m_X8_worth 45 [.ref 59, .int x, .int p, .int z, .int y] [] h (fun v h1 => v = some (.int (sq_wa τ (τ 0))) ∧ h1 = h) := by
  have b0 : τ 0 ≤ 4 := hV.1
  intro d
  induction d with
  | zero =>
    intro i z y hi hd hz hy
    have he : i = τ 0 := by omega
    refine az_er 4 rfl ?_
    refine az_iaI rfl rfl (j := 0) (show Int32.ofInt 0 = nI 0 from rfl) (by decide) (by decide) (hT 0 (by decide)) ?_
    refine az_ic_ge rfl rfl (fun c53 => ?_) (fun c53 => absurd (by rw [hy, he]; exact nI_le (Nat.le_refl _) (by omega)) c53)
    refine az_er 1 rfl ?_
    refine az_eret rfl rfl rfl ?_
    exact ⟨by rw [hz, he], rfl⟩
  | succ d ih =>
    intro i z y hi hd hz hy
    refine az_er 4 rfl ?_
    refine az_iaI rfl rfl (j := 0) (show Int32.ofInt 0 = nI 0 from rfl) (by decide) (by decide) (hT 0 (by decide)) ?_
    refine az_ic_ge rfl rfl (fun c53 => absurd c53 (by rw [hy]; exact nI_ge (by omega) (by omega))) (fun c53 => ?_)
    refine az_er 4 rfl ?_
    refine az_ecallF rfl rfl rfl rfl (cm_ofv hT (s := i) (k := 0) hy rfl (by omega) (v := τ (10 + 6 * i)) rfl) ?_
    refine az_er 3 rfl ?_
    refine az_ecallF rfl rfl rfl rfl (cm_worthNext hT hy (show i < 4 by omega) hp (hg i (by omega))) ?_
    refine az_er 5 rfl ?_
    exact ih (i + 1) _ _ (by omega) (by omega) (by rw [hz]; rfl) (by rw [hy]; exact nI_1' i)
set_option maxRecDepth 100000 in
theorem op_worth {x : Int32} : rt_op az_m_X7_worth az_m_X8_worth [.int x] := by
  intro sc σ h hC hW
  have b0 := hW.1.1
  rcases Classical.em (x = -1) with hm | hm
  · subst hm
    refine ⟨sq_wa σ.1 (σ.1 0), σ, hW, ?_, ?_⟩
    · refine az_er 2 rfl ?_
      refine az_ic_eq rfl rfl (fun c2 => ?_) (fun c2 => absurd rfl c2)
      refine az_er 2 rfl ?_
      refine az_ecall rfl rfl rfl rfl (ct_decide_1 hC.1 hW.1) ?_
      rintro _ h1 ⟨rfl, hF, hp, hg⟩
      have hC1 := rt_C_F hC (rt_Fs_F1 hF)
      refine az_er 2 rfl ?_
      refine az_ic_ne rfl rfl (fun c34 => absurd rfl c34) (fun c34 => ?_)
      refine az_er 2 rfl ?_
      refine az_ecallF rfl rfl rfl rfl (ct_worthAll hC1.1 hW.1 hp hg) ?_
      refine az_er 1 rfl ?_
      refine az_eret rfl rfl rfl ?_
      exact ⟨rfl, hC1, fun a ha => hF.1 a (by omega) (by omega)⟩
    · intro h1 hR
      refine az_er 2 rfl ?_
      refine az_ic_lt rfl rfl (fun c2 => absurd c2 (by decide)) (fun c2 => ?_)
      refine az_er 4 rfl ?_
      refine az_iaI rfl rfl (j := 0) (show Int32.ofInt 0 = nI 0 from rfl) (by decide) (by decide) (hR.1 0 (by decide)) ?_
      refine az_ic_lt rfl rfl (fun c12 => ?_) (fun c12 => absurd (by rw [Int32.lt_iff_toInt_lt, nI_toInt (by omega)]; show (-1 : Int) < _; omega) c12)
      refine az_er 1 rfl ?_
      refine az_ecall rfl rfl rfl rfl (cm_present hR.1 hW.1) ?_
      rintro _ h2 ⟨rfl, ha, hg⟩
      have hR1 : rt_R σ h2 := rt_R_G hR ⟨fun a p q r => ha a (by omega), fun j hj => by rw [ha 59 (by decide)]⟩
      refine az_er 2 rfl ?_
      refine az_if_lt rfl rfl (fun c30 => ?_) (fun c30 => absurd (by decide) c30)
      refine az_er 4 rfl ?_
      refine az_E.mono (lm_wa hR1.1 hW.1 rfl hg (σ.1 0) 0 0 0 (Nat.zero_le _) (Nat.sub_zero _) rfl rfl) ?_
      rintro _ h3 ⟨rfl, rfl⟩
      exact ⟨rfl, hR1, fun a h9 => ha a (by omega)⟩
  · rcases rt_has (x := x) (n := σ.1 0) (by omega) with hs | ⟨j, hj, rfl⟩
    · refine ⟨1000000000 - -1, sp_ref σ 1, hW, ?_, ?_⟩
      · refine az_er 2 rfl ?_
        refine az_ic_eq rfl rfl (fun c2 => absurd c2 hm) (fun c2 => ?_)
        refine az_er 4 rfl ?_
        refine az_ecallF rfl rfl rfl rfl ((ct_X4has_1 hC.1 hW.1).eq (by rw [rt_hasN hs]) rfl) ?_
        refine az_if_ne rfl rfl (fun c16 => absurd rfl c16) (fun c16 => ?_)
        refine az_er 2 rfl ?_
        refine az_ecall rfl rfl rfl rfl (ct_refuseW hC (k := 1) (by decide) (by decide)) ?_
        rintro _ hh ⟨rfl, hh2, hh3⟩
        refine az_eret rfl rfl rfl ?_
        exact ⟨rfl, hh2, hh3⟩
      · intro h1 hR
        refine az_er 2 rfl ?_
        refine az_ic_lt rfl rfl (fun c2 => ?_) (fun c2 => ?_)
        · refine az_er 3 rfl ?_
          refine az_ecall rfl rfl rfl rfl (cm_no hR (k := 1) (by decide) (by decide)) ?_
          rintro _ hh ⟨rfl, hh2, hh3⟩
          refine az_er 1 rfl ?_
          refine az_eret rfl rfl rfl ?_
          exact ⟨rfl, hh2, hh3⟩
        · refine az_er 4 rfl ?_
          refine az_iaI rfl rfl (j := 0) (show Int32.ofInt 0 = nI 0 from rfl) (by decide) (by decide) (hR.1 0 (by decide)) ?_
          refine az_ic_lt rfl rfl (fun c12 => absurd c12 (Int32.not_lt.mpr (hs.resolve_left (fun q => absurd (rt_lt_m1 q hm) c2)))) (fun c12 => ?_)
          refine az_er 3 rfl ?_
          refine az_ecall rfl rfl rfl rfl (cm_no hR (k := 1) (by decide) (by decide)) ?_
          rintro _ hh ⟨rfl, hh2, hh3⟩
          refine az_er 1 rfl ?_
          refine az_eret rfl rfl rfl ?_
          exact ⟨rfl, hh2, hh3⟩
    · refine ⟨sq_w σ.1 (sq_go σ.1 j) (sq_pr σ.1) j, σ, hW, ?_, ?_⟩
      · refine az_er 2 rfl ?_
        refine az_ic_eq rfl rfl (fun c2 => absurd c2 hm) (fun c2 => ?_)
        refine az_er 4 rfl ?_
        refine az_ecallF rfl rfl rfl rfl ((ct_X4has_1 hC.1 hW.1).eq (by rw [rt_hasY hj (by have := hW.1.1; omega)]) rfl) ?_
        refine az_if_ne rfl rfl (fun c16 => ?_) (fun c16 => absurd c16 (by decide))
        refine az_er 2 rfl ?_
        refine az_ecall rfl rfl rfl rfl (ct_decide_1 hC.1 hW.1) ?_
        rintro _ h1 ⟨rfl, hF, hp, hg⟩
        have hC1 := rt_C_F hC (rt_Fs_F1 hF)
        refine az_er 2 rfl ?_
        refine az_ic_ne rfl rfl (fun c34 => ?_) (fun c34 => absurd c34 hm)
        refine az_er 3 rfl ?_
        refine az_ecallF rfl rfl rfl rfl (ct_worthOne_1 hC1.1 (show j < 4 by omega) rfl (hg j hj) hp) ?_
        refine az_eret rfl rfl rfl ?_
        exact ⟨rfl, hC1, fun a ha => hF.1 a (by omega) (by omega)⟩
      · intro h1 hR
        refine az_er 2 rfl ?_
        refine az_ic_lt rfl rfl (fun c2 => absurd (Int32.lt_trans c2 (by decide)) (nI_pos (by omega))) (fun c2 => ?_)
        refine az_er 4 rfl ?_
        refine az_iaI rfl rfl (j := 0) (show Int32.ofInt 0 = nI 0 from rfl) (by decide) (by decide) (hR.1 0 (by decide)) ?_
        refine az_ic_lt rfl rfl (fun c12 => ?_) (fun c12 => absurd ((nI_ltI (by omega) (by omega)).mpr hj) c12)
        refine az_er 1 rfl ?_
        refine az_ecall rfl rfl rfl rfl (cm_present hR.1 hW.1) ?_
        rintro _ h2 ⟨rfl, ha, hg⟩
        have hR1 : rt_R σ h2 := rt_R_G hR ⟨fun a p q r => ha a (by omega), fun j hj => by rw [ha 59 (by decide)]⟩
        refine az_er 2 rfl ?_
        refine az_if_lt rfl rfl (fun c30 => absurd c30 (nI_pos (by omega))) (fun c30 => ?_)
        refine az_er 3 rfl ?_
        refine az_ecallF rfl rfl rfl rfl (cm_worthNext hR1.1 rfl (show j < 4 by omega) rfl (hg j hj)) ?_
        refine az_eret rfl rfl rfl ?_
        exact ⟨rfl, hR1, fun a h9 => ha a (by omega)⟩
