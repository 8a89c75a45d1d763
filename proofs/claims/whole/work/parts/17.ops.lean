/-! THE CALLS, BOTH SIDES: each answers the same, and leaves the same state -/
def rt_op (cM mM : az_M) (a : List Value) : Prop := ∀ (sc : az_S) (σ : rt_S) (h : az_H), rt_C σ h → rt_W σ → ∃ (A : Int32) (σ2 : rt_S), rt_W σ2 ∧ az_E sc cM 0 (.ref 0 :: a) [] h (rt_oc A σ2 h) ∧ ∀ h1, rt_R σ h1 → az_E sc mM 0 (.ref 59 :: a) [] h1 (rt_or A σ2 h1)
theorem ct_outB {sc : az_S} {x y z : Int32} {h : az_H} (hx : x < y) : az_F sc az_m_X7_outside [.int x, .int y, .int z] h (some (.int (-4))) h := ct_outside.eq (by rw [if_neg (Int32.not_le.mpr hx)]) rfl
theorem ct_outR {sc : az_S} {x y z : Int32} {h : az_H} (h0 : y ≤ x) (hx : z < x) : az_F sc az_m_X7_outside [.int x, .int y, .int z] h (some (.int (-6))) h := ct_outside.eq (by rw [if_pos h0, if_neg (Int32.not_le.mpr hx)]) rfl
theorem ct_out0 {sc : az_S} {x y z : Int32} {h : az_H} (h0 : y ≤ x) (hx : x ≤ z) : az_F sc az_m_X7_outside [.int x, .int y, .int z] h (some (.int 0)) h := ct_outside.eq (by rw [if_pos h0, if_pos hx]) rfl
theorem rt_cas {x lo hi : Int32} : x < lo ∨ (lo ≤ x ∧ hi < x) ∨ (lo ≤ x ∧ x ≤ hi) := by
  rcases Classical.em (lo ≤ x) with h | h
  · rcases Classical.em (x ≤ hi) with h2 | h2
    · exact Or.inr (Or.inr ⟨h, h2⟩)
    · exact Or.inr (Or.inl ⟨h, Int32.not_le.mp h2⟩)
  · exact Or.inl (Int32.not_le.mp h)
theorem rt_nat {x : Int32} {m : Nat} (h0 : 0 ≤ x) (h1 : x ≤ nI m) (hm : m < 2 ^ 31) : ∃ j, j ≤ m ∧ x = nI j := by
  obtain ⟨j, hj, rfl⟩ := nI_of (Int32.not_lt.mpr h0)
  exact ⟨j, (nI_leI hj hm).mp h1, rfl⟩
theorem rt_has {x : Int32} {n : Nat} (hn : n < 2 ^ 31) : (x < 0 ∨ nI n ≤ x) ∨ ∃ j, j < n ∧ x = nI j := by
  rcases Classical.em (x < 0) with h | h
  · exact Or.inl (Or.inl h)
  · rcases Classical.em (nI n ≤ x) with h2 | h2
    · exact Or.inl (Or.inr h2)
    · obtain ⟨j, hj, rfl⟩ := nI_of h
      exact Or.inr ⟨j, by rw [nI_leI hn hj] at h2; omega, rfl⟩
theorem rt_hasN {x : Int32} {n : Nat} (h : x < 0 ∨ nI n ≤ x) : (if x < 0 then (0 : Int32) else if nI n ≤ x then 0 else 1) = 0 := by
  rcases Classical.em (x < 0) with h0 | h0
  · rw [if_pos h0]
  · rw [if_neg h0, if_pos (h.resolve_left h0)]
theorem rt_hasY {n j : Nat} (h : j < n) (hn : n < 2 ^ 31) : (if nI j < 0 then (0 : Int32) else if nI n ≤ nI j then 0 else 1) = 1 := by
  rw [if_neg (nI_pos (by omega)), if_neg (nI_ge h hn)]
theorem rt_C_u {σ σ2 : rt_S} {h : az_H} {k j : Nat} {v : Int32} (hC : rt_C σ h) (hk : k = 0 ∨ k = 46 ∨ k = 47 ∨ k = 57) (e1 : σ2.1 = σ.1) (e2 : σ2.2.1 = σ.2.1) (e3 : σ2.2.2.1 = σ.2.2.1) (e4 : σ2.2.2.2.2.2 = σ.2.2.2.2.2)
    (q1 : az_up h k j v 0 3 = sq_b σ2.2.2.1) (q2 : az_up h k j v 46 1 = nI σ2.2.2.2.1.1 ∧ ∀ i, i < σ2.2.2.2.1.1 → az_up h k j v 47 i = nI (σ2.2.2.2.1.2 i)) (q3 : az_up h k j v 0 9 = nI σ2.2.2.2.2.1.1 ∧ ∀ i, i < σ2.2.2.2.2.1.1 → az_up h k j v 57 i = nI (σ2.2.2.2.2.1.2 i)) : rt_C σ2 (az_up h k j v) := by
  obtain ⟨t, k0, kt, l, r, f⟩ := hC
  refine ⟨by rw [e1]; exact rt_T_h t (fun a ha => az_up_o (by omega)), q1, fun q => by rw [e2]; rw [e3] at q; exact rt_T_h (kt q) (fun a ha => az_up_o (by omega)), q2, q3, by rw [e4, az_up_o (by omega)]; exact f⟩
set_option maxRecDepth 100000 in
theorem op_week  : rt_op az_m_X7_week az_m_X8_week [] := by
  intro sc σ h hC hW
  refine ⟨nI (sq_pr σ.1), (sq_st σ.1, σ.2), ⟨rt_V_st hW.1, hW.2⟩, ?_, ?_⟩
  · refine az_er 2 rfl ?_
    refine az_ecall rfl rfl rfl rfl (ct_goBy_1 hC.1 hW.1) ?_
    rintro _ h1 ⟨rfl, g1, g2, g3, g4⟩
    refine az_eret rfl rfl rfl ?_
    exact ⟨rfl, ⟨g1, by rw [g4 0 (by omega)]; exact hC.2.1, fun q => rt_T_h (hC.2.2.1 q) (fun k hk => g4 _ (by omega)), by rw [g4 46 (by omega), g4 47 (by omega)]; exact hC.2.2.2.1, by rw [g4 0 (by omega), g4 57 (by omega)]; exact hC.2.2.2.2.1, by rw [g4 58 (by omega)]; exact hC.2.2.2.2.2⟩, fun a ha => g4 a (by omega)⟩
  · intro h1 hR
    refine az_er 1 rfl ?_
    refine az_ecall rfl rfl rfl rfl (cm_goOn hR.1 hW.1) ?_
    rintro _ h2 ⟨rfl, g1, g2, g3⟩
    refine az_eret rfl rfl rfl ?_
    exact ⟨rfl, ⟨g1, by rw [g3 59 (by omega) (by omega)]; exact hR.2.1, fun q => rt_M_h (hR.2.2.1 q) (g3 62 (by omega) (by omega)), by rw [g3 59 (by omega) (by omega), g3 64 (by omega) (by omega)]; exact hR.2.2.2.1, by rw [g3 59 (by omega) (by omega), g3 74 (by omega) (by omega)]; exact hR.2.2.2.2.1, by rw [g3 60 (by omega) (by omega)]; exact hR.2.2.2.2.2⟩, fun a ha => g3 a (by omega) (by omega)⟩
set_option maxRecDepth 100000 in
theorem op_next  : rt_op az_m_X7_next az_m_X8_next [] := by
  intro sc σ h hC hW
  refine ⟨nI (sq_pr σ.1), σ, hW, ?_, ?_⟩
  · refine az_er 2 rfl ?_
    refine az_ecall rfl rfl rfl rfl (ct_decide_1 hC.1 hW.1) ?_
    rintro _ h1 ⟨rfl, hF, hp, hg⟩
    have hC1 := rt_C_F hC (rt_Fs_F1 hF)
    refine az_er 3 rfl ?_
    refine az_eret rfl rfl rfl ?_
    exact ⟨congrArg some (congrArg Value.int hp), hC1, fun a ha => hF.1 a (by omega) (by omega)⟩
  · intro h1 hR
    refine az_er 1 rfl ?_
    refine az_ecall rfl rfl rfl rfl (cm_present hR.1 hW.1) ?_
    rintro _ h2 ⟨rfl, ha, hg⟩
    have hR1 : rt_R σ h2 := rt_R_G hR ⟨fun a p q r => ha a (by omega), fun j hj => by rw [ha 59 (by decide)]⟩
    refine az_eret rfl rfl rfl ?_
    exact ⟨rfl, hR1, fun a h9 => ha a (by omega)⟩
set_option maxRecDepth 100000 in
theorem cm_isNoSort {sc : az_S} {τ : Nat → Nat} {h : az_H} (hT : rt_M 61 τ h) {x : Int32} : az_F sc az_m_X8_isNoSort [.ref 59, .int x] h (some (.int (if x < 0 ∨ nI (τ 0) ≤ x then 1 else 0))) h := by
  refine az_F.of ?_
  refine az_er 1 rfl ?_
  refine az_if_lt rfl rfl (fun c1 => ?_) (fun c1 => ?_)
  · refine az_er 2 rfl ?_
    refine az_eret rfl rfl rfl ?_
    first | exact ⟨by rw [if_pos (Or.inl c1)]; rfl, rfl⟩ | exact ⟨by rw [if_neg (fun q => q.elim c1 (Int32.not_le.mpr c11))]; rfl, rfl⟩ | exact ⟨by rw [if_pos (Or.inr (Int32.not_lt.mp c11))]; rfl, rfl⟩
  · refine az_er 4 rfl ?_
    refine az_iaI rfl rfl (j := 0) (show Int32.ofInt 0 = nI 0 from rfl) (by decide) (by decide) (hT 0 (by decide)) ?_
    refine az_ic_lt rfl rfl (fun c11 => ?_) (fun c11 => ?_)
    · refine az_er 1 rfl ?_
      refine az_eret rfl rfl rfl ?_
      first | exact ⟨by rw [if_pos (Or.inl c1)]; rfl, rfl⟩ | exact ⟨by rw [if_neg (fun q => q.elim c1 (Int32.not_le.mpr c11))]; rfl, rfl⟩ | exact ⟨by rw [if_pos (Or.inr (Int32.not_lt.mp c11))]; rfl, rfl⟩
    · refine az_er 2 rfl ?_
      refine az_eret rfl rfl rfl ?_
      first | exact ⟨by rw [if_pos (Or.inl c1)]; rfl, rfl⟩ | exact ⟨by rw [if_neg (fun q => q.elim c1 (Int32.not_le.mpr c11))]; rfl, rfl⟩ | exact ⟨by rw [if_pos (Or.inr (Int32.not_lt.mp c11))]; rfl, rfl⟩
set_option maxRecDepth 100000 in
theorem op_goes {x : Int32} : rt_op az_m_X7_goes az_m_X8_goes [.int x] := by
  intro sc σ h hC hW
  have b0 := hW.1.1
  rcases rt_has (x := x) (n := σ.1 0) (by omega) with hs | ⟨j, hj, rfl⟩
  · refine ⟨-1, sp_ref σ 1, hW, ?_, ?_⟩
    · refine az_er 4 rfl ?_
      refine az_ecallF rfl rfl rfl rfl ((ct_X4has_1 hC.1 hW.1).eq (by rw [rt_hasN hs]) rfl) ?_
      refine az_if_ne rfl rfl (fun c11 => absurd rfl c11) (fun c11 => ?_)
      refine az_er 2 rfl ?_
      refine az_ecall rfl rfl rfl rfl (ct_refuse hC (k := 1) (by decide) (by decide)) ?_
      rintro _ hh ⟨rfl, hh2, hh3⟩
      refine az_eret rfl rfl rfl ?_
      exact ⟨rfl, hh2, hh3⟩
    · intro h1 hR
      refine az_er 2 rfl ?_
      refine az_ecallF rfl rfl rfl rfl ((cm_isNoSort hR.1).eq (by rw [if_pos hs]) rfl) ?_
      refine az_if_eq rfl rfl (fun c5 => absurd c5 (by decide)) (fun c5 => ?_)
      refine az_er 2 rfl ?_
      refine az_ecall rfl rfl rfl rfl (cm_no hR (k := 1) (by decide) (by decide)) ?_
      rintro _ hh ⟨rfl, hh2, hh3⟩
      refine az_eret rfl rfl rfl ?_
      exact ⟨rfl, hh2, hh3⟩
  · refine ⟨sq_b (sq_go σ.1 j), σ, hW, ?_, ?_⟩
    · refine az_er 4 rfl ?_
      refine az_ecallF rfl rfl rfl rfl ((ct_X4has_1 hC.1 hW.1).eq (by rw [rt_hasY hj (by have := hW.1.1; omega)]) rfl) ?_
      refine az_if_ne rfl rfl (fun c11 => ?_) (fun c11 => absurd c11 (by decide))
      refine az_er 2 rfl ?_
      refine az_ecall rfl rfl rfl rfl (ct_decide_1 hC.1 hW.1) ?_
      rintro _ h1 ⟨rfl, hF, hp, hg⟩
      have hC1 := rt_C_F hC (rt_Fs_F1 hF)
      refine az_er 4 rfl ?_
      refine az_ecallF rfl rfl rfl rfl (ct_atI rfl rfl (show j < 4 by omega) (by decide) (hg j hj)) ?_
      refine az_eret rfl rfl rfl ?_
      exact ⟨rfl, hC1, fun a ha => hF.1 a (by omega) (by omega)⟩
    · intro h1 hR
      refine az_er 2 rfl ?_
      refine az_ecallF rfl rfl rfl rfl ((cm_isNoSort hR.1).eq (by rw [if_neg (fun q => q.elim (nI_pos (by have := hW.1.1; omega)) (nI_ge hj (by have := hW.1.1; omega)))]) rfl) ?_
      refine az_if_eq rfl rfl (fun c5 => ?_) (fun c5 => absurd rfl c5)
      refine az_er 1 rfl ?_
      refine az_ecall rfl rfl rfl rfl (cm_present hR.1 hW.1) ?_
      rintro _ h2 ⟨rfl, ha, hg⟩
      have hR1 : rt_R σ h2 := rt_R_G hR ⟨fun a p q r => ha a (by omega), fun j hj => by rw [ha 59 (by decide)]⟩
      refine az_er 4 rfl ?_
      refine az_baI rfl rfl rfl (show j < 4 by omega) (by decide) (hg j hj) ?_
      refine az_if_eq rfl rfl (fun c25 => ?_) (fun c25 => ?_)
      · refine az_er 1 rfl ?_
        refine az_eret rfl rfl rfl ?_
        exact ⟨by cases hc : sq_go σ.1 j <;> first | rfl | (rw [hc] at c25; exact absurd c25 (by decide)) | (rw [hc] at c25; exact absurd rfl c25), hR1, fun a h9 => ha a (by omega)⟩
      · refine az_er 2 rfl ?_
        refine az_eret rfl rfl rfl ?_
        exact ⟨by cases hc : sq_go σ.1 j <;> first | rfl | (rw [hc] at c25; exact absurd c25 (by decide)) | (rw [hc] at c25; exact absurd rfl c25), hR1, fun a h9 => ha a (by omega)⟩
theorem az_sw_out {sc : az_S} {M : az_M} {d lo hi : Int} {offs : Array Int} {n pc t : Nat} {ls st : List Value} {h : az_H} {x L U : Int32} (hL : L.toInt = lo) (_ : True) (hU : U.toInt = hi) (hx : x < L ∨ U < x) (ht : az_tgt pc d = some t) : az_stp sc M (.tableswitch d lo hi offs) n pc ls (.int x :: st) h = some (t, ls, st, h) := by
  have h1 : x.toInt < lo ∨ hi < x.toInt := by
    rcases hx with q | q
    · exact Or.inl (by rw [← hL]; exact Int32.lt_iff_toInt_lt.mp q)
    · exact Or.inr (by rw [← hU]; exact Int32.lt_iff_toInt_lt.mp q)
  have h2 : (decide (x.toInt < lo) || decide (hi < x.toInt)) = true := by simpa using h1
  simp only [az_stp, h2, cond_true, az_jmp, ht]
set_option maxRecDepth 100000 in
theorem op_sort {x y : Int32} : rt_op az_m_X7_sort az_m_X8_sort [.int x, .int y] := by
  intro sc σ h hC hW
  have b0 := hW.1.1
  rcases rt_has (x := x) (n := σ.1 0) (by omega) with hs | ⟨j, hj, rfl⟩
  · refine ⟨-1, sp_ref σ 1, hW, ?_, ?_⟩
    · refine az_er 6 rfl ?_
      refine az_ecallF rfl rfl rfl rfl ((ct_X4has_1 hC.1 hW.1).eq (by rw [rt_hasN hs]) rfl) ?_
      refine az_if_ne rfl rfl (fun c13 => absurd rfl c13) (fun c13 => ?_)
      refine az_er 2 rfl ?_
      refine az_ecall rfl rfl rfl rfl (ct_refuse hC (k := 1) (by decide) (by decide)) ?_
      rintro _ hh ⟨rfl, hh2, hh3⟩
      refine az_eret rfl rfl rfl ?_
      exact ⟨rfl, hh2, hh3⟩
    · intro h1 hR
      refine az_er 2 rfl ?_
      refine az_ecallF rfl rfl rfl rfl ((cm_isNoSort hR.1).eq (by rw [if_pos hs]) rfl) ?_
      refine az_if_eq rfl rfl (fun c5 => absurd c5 (by decide)) (fun c5 => ?_)
      refine az_er 2 rfl ?_
      refine az_ecall rfl rfl rfl rfl (cm_no hR (k := 1) (by decide) (by decide)) ?_
      rintro _ hh ⟨rfl, hh2, hh3⟩
      refine az_eret rfl rfl rfl ?_
      exact ⟨rfl, hh2, hh3⟩
  · rcases Classical.em (y < 0 ∨ (5 : Int32) < y) with hy | hy
    · refine ⟨-2, sp_ref σ 2, hW, ?_, ?_⟩
      · refine az_er 6 rfl ?_
        refine az_ecallF rfl rfl rfl rfl ((ct_X4has_1 hC.1 hW.1).eq (by rw [rt_hasY hj (by have := hW.1.1; omega)]) rfl) ?_
        refine az_if_ne rfl rfl (fun c13 => ?_) (fun c13 => absurd c13 (by decide))
        refine az_er 1 rfl ?_
        refine az_e1 (pc' := 114) rfl rfl rfl (az_sw_out (L := 0) (U := 5) rfl trivial rfl hy rfl) ?_
        refine az_er 2 rfl ?_
        refine az_ecall rfl rfl rfl rfl (ct_refuse hC (k := 2) (by decide) (by decide)) ?_
        rintro _ hh ⟨rfl, hh2, hh3⟩
        refine az_eret rfl rfl rfl ?_
        exact ⟨rfl, hh2, hh3⟩
      · intro h1 hR
        refine az_er 2 rfl ?_
        refine az_ecallF rfl rfl rfl rfl ((cm_isNoSort hR.1).eq (by rw [if_neg (fun q => q.elim (nI_pos (by have := hW.1.1; omega)) (nI_ge hj (by have := hW.1.1; omega)))]) rfl) ?_
        refine az_if_eq rfl rfl (fun c5 => ?_) (fun c5 => absurd rfl c5)
        refine az_er 1 rfl ?_
        refine az_if_lt rfl rfl (fun c15 => ?_) (fun c15 => ?_)
        · refine az_er 2 rfl ?_
          refine az_ecall rfl rfl rfl rfl (cm_no hR (k := 2) (by decide) (by decide)) ?_
          rintro _ hh ⟨rfl, hh2, hh3⟩
          refine az_er 1 rfl ?_
          refine az_eret rfl rfl rfl ?_
          exact ⟨rfl, hh2, hh3⟩
        · refine az_er 2 rfl ?_
          refine az_ic_le rfl rfl (fun c20 => (hy.elim (fun q => absurd q c15) (fun q => absurd c20 (Int32.not_le.mpr q)))) (fun c20 => ?_)
          refine az_er 2 rfl ?_
          refine az_ecall rfl rfl rfl rfl (cm_no hR (k := 2) (by decide) (by decide)) ?_
          rintro _ hh ⟨rfl, hh2, hh3⟩
          refine az_er 1 rfl ?_
          refine az_eret rfl rfl rfl ?_
          exact ⟨rfl, hh2, hh3⟩
    · obtain ⟨k, hk, rfl⟩ := rt_nat (x := y) (m := 5) (Int32.not_lt.mp (fun q => hy (Or.inl q))) (Int32.not_lt.mp (fun q => hy (Or.inr q))) (by decide)
      rcases (show k = 0 ∨ k = 1 ∨ k = 2 ∨ k = 3 ∨ k = 4 ∨ k = 5 by omega) with rfl | rfl | rfl | rfl | rfl | rfl
      · refine ⟨nI (σ.1 (10 + 6 * j)), σ, hW, ?_, ?_⟩
        · refine az_er 6 rfl ?_
          refine az_ecallF rfl rfl rfl rfl ((ct_X4has_1 hC.1 hW.1).eq (by rw [rt_hasY hj (by have := hW.1.1; omega)]) rfl) ?_
          refine az_if_ne rfl rfl (fun c13 => ?_) (fun c13 => absurd c13 (by decide))
          refine az_er 5 rfl ?_
          refine az_ecallF rfl rfl rfl rfl (ct_atI rfl rfl (show j < 4 by omega) (by decide) (hC.1.2.1 j (by omega)).1) ?_
          refine az_eret rfl rfl rfl ?_
          exact ⟨rfl, hC, fun _ _ => rfl⟩
        · intro h1 hR
          refine az_er 2 rfl ?_
          refine az_ecallF rfl rfl rfl rfl ((cm_isNoSort hR.1).eq (by rw [if_neg (fun q => q.elim (nI_pos (by have := hW.1.1; omega)) (nI_ge hj (by have := hW.1.1; omega)))]) rfl) ?_
          refine az_if_eq rfl rfl (fun c5 => ?_) (fun c5 => absurd rfl c5)
          refine az_er 1 rfl ?_
          refine az_if_lt rfl rfl (fun c15 => absurd c15 (by decide)) (fun c15 => ?_)
          refine az_er 2 rfl ?_
          refine az_ic_le rfl rfl (fun c20 => ?_) (fun c20 => absurd (by decide) c20)
          refine az_er 3 rfl ?_
          refine az_ecallF rfl rfl rfl rfl (cm_ofv hR.1 (s := j) (k := 0) rfl rfl (by omega) (show σ.1 (10 + 6 * j + 0) = σ.1 (10 + 6 * j) by rw [show 10 + 6 * j + 0 = 10 + 6 * j by omega])) ?_
          refine az_eret rfl rfl rfl ?_
          exact ⟨rfl, hR, fun _ _ => rfl⟩
      · refine ⟨nI (σ.1 (11 + 6 * j)), σ, hW, ?_, ?_⟩
        · refine az_er 6 rfl ?_
          refine az_ecallF rfl rfl rfl rfl ((ct_X4has_1 hC.1 hW.1).eq (by rw [rt_hasY hj (by have := hW.1.1; omega)]) rfl) ?_
          refine az_if_ne rfl rfl (fun c13 => ?_) (fun c13 => absurd c13 (by decide))
          refine az_er 5 rfl ?_
          refine az_ecallF rfl rfl rfl rfl (ct_atI rfl rfl (show j < 4 by omega) (by decide) (hC.1.2.1 j (by omega)).2.1) ?_
          refine az_eret rfl rfl rfl ?_
          exact ⟨rfl, hC, fun _ _ => rfl⟩
        · intro h1 hR
          refine az_er 2 rfl ?_
          refine az_ecallF rfl rfl rfl rfl ((cm_isNoSort hR.1).eq (by rw [if_neg (fun q => q.elim (nI_pos (by have := hW.1.1; omega)) (nI_ge hj (by have := hW.1.1; omega)))]) rfl) ?_
          refine az_if_eq rfl rfl (fun c5 => ?_) (fun c5 => absurd rfl c5)
          refine az_er 1 rfl ?_
          refine az_if_lt rfl rfl (fun c15 => absurd c15 (by decide)) (fun c15 => ?_)
          refine az_er 2 rfl ?_
          refine az_ic_le rfl rfl (fun c20 => ?_) (fun c20 => absurd (by decide) c20)
          refine az_er 3 rfl ?_
          refine az_ecallF rfl rfl rfl rfl (cm_ofv hR.1 (s := j) (k := 1) rfl rfl (by omega) (show σ.1 (10 + 6 * j + 1) = σ.1 (11 + 6 * j) by rw [show 10 + 6 * j + 1 = 11 + 6 * j by omega])) ?_
          refine az_eret rfl rfl rfl ?_
          exact ⟨rfl, hR, fun _ _ => rfl⟩
      · refine ⟨nI (σ.1 (12 + 6 * j)), σ, hW, ?_, ?_⟩
        · refine az_er 6 rfl ?_
          refine az_ecallF rfl rfl rfl rfl ((ct_X4has_1 hC.1 hW.1).eq (by rw [rt_hasY hj (by have := hW.1.1; omega)]) rfl) ?_
          refine az_if_ne rfl rfl (fun c13 => ?_) (fun c13 => absurd c13 (by decide))
          refine az_er 5 rfl ?_
          refine az_ecallF rfl rfl rfl rfl (ct_atI rfl rfl (show j < 4 by omega) (by decide) (hC.1.2.1 j (by omega)).2.2.1) ?_
          refine az_eret rfl rfl rfl ?_
          exact ⟨rfl, hC, fun _ _ => rfl⟩
        · intro h1 hR
          refine az_er 2 rfl ?_
          refine az_ecallF rfl rfl rfl rfl ((cm_isNoSort hR.1).eq (by rw [if_neg (fun q => q.elim (nI_pos (by have := hW.1.1; omega)) (nI_ge hj (by have := hW.1.1; omega)))]) rfl) ?_
          refine az_if_eq rfl rfl (fun c5 => ?_) (fun c5 => absurd rfl c5)
          refine az_er 1 rfl ?_
          refine az_if_lt rfl rfl (fun c15 => absurd c15 (by decide)) (fun c15 => ?_)
          refine az_er 2 rfl ?_
          refine az_ic_le rfl rfl (fun c20 => ?_) (fun c20 => absurd (by decide) c20)
          refine az_er 3 rfl ?_
          refine az_ecallF rfl rfl rfl rfl (cm_ofv hR.1 (s := j) (k := 2) rfl rfl (by omega) (show σ.1 (10 + 6 * j + 2) = σ.1 (12 + 6 * j) by rw [show 10 + 6 * j + 2 = 12 + 6 * j by omega])) ?_
          refine az_eret rfl rfl rfl ?_
          exact ⟨rfl, hR, fun _ _ => rfl⟩
      · refine ⟨nI (σ.1 (13 + 6 * j)), σ, hW, ?_, ?_⟩
        · refine az_er 6 rfl ?_
          refine az_ecallF rfl rfl rfl rfl ((ct_X4has_1 hC.1 hW.1).eq (by rw [rt_hasY hj (by have := hW.1.1; omega)]) rfl) ?_
          refine az_if_ne rfl rfl (fun c13 => ?_) (fun c13 => absurd c13 (by decide))
          refine az_er 5 rfl ?_
          refine az_ecallF rfl rfl rfl rfl (ct_atI rfl rfl (show j < 4 by omega) (by decide) (hC.1.2.1 j (by omega)).2.2.2.1) ?_
          refine az_eret rfl rfl rfl ?_
          exact ⟨rfl, hC, fun _ _ => rfl⟩
        · intro h1 hR
          refine az_er 2 rfl ?_
          refine az_ecallF rfl rfl rfl rfl ((cm_isNoSort hR.1).eq (by rw [if_neg (fun q => q.elim (nI_pos (by have := hW.1.1; omega)) (nI_ge hj (by have := hW.1.1; omega)))]) rfl) ?_
          refine az_if_eq rfl rfl (fun c5 => ?_) (fun c5 => absurd rfl c5)
          refine az_er 1 rfl ?_
          refine az_if_lt rfl rfl (fun c15 => absurd c15 (by decide)) (fun c15 => ?_)
          refine az_er 2 rfl ?_
          refine az_ic_le rfl rfl (fun c20 => ?_) (fun c20 => absurd (by decide) c20)
          refine az_er 3 rfl ?_
          refine az_ecallF rfl rfl rfl rfl (cm_ofv hR.1 (s := j) (k := 3) rfl rfl (by omega) (show σ.1 (10 + 6 * j + 3) = σ.1 (13 + 6 * j) by rw [show 10 + 6 * j + 3 = 13 + 6 * j by omega])) ?_
          refine az_eret rfl rfl rfl ?_
          exact ⟨rfl, hR, fun _ _ => rfl⟩
      · refine ⟨nI (σ.1 (14 + 6 * j)), σ, hW, ?_, ?_⟩
        · refine az_er 6 rfl ?_
          refine az_ecallF rfl rfl rfl rfl ((ct_X4has_1 hC.1 hW.1).eq (by rw [rt_hasY hj (by have := hW.1.1; omega)]) rfl) ?_
          refine az_if_ne rfl rfl (fun c13 => ?_) (fun c13 => absurd c13 (by decide))
          refine az_er 5 rfl ?_
          refine az_ecallF rfl rfl rfl rfl (ct_atI rfl rfl (show j < 4 by omega) (by decide) (hC.1.2.1 j (by omega)).2.2.2.2.1) ?_
          refine az_eret rfl rfl rfl ?_
          exact ⟨rfl, hC, fun _ _ => rfl⟩
        · intro h1 hR
          refine az_er 2 rfl ?_
          refine az_ecallF rfl rfl rfl rfl ((cm_isNoSort hR.1).eq (by rw [if_neg (fun q => q.elim (nI_pos (by have := hW.1.1; omega)) (nI_ge hj (by have := hW.1.1; omega)))]) rfl) ?_
          refine az_if_eq rfl rfl (fun c5 => ?_) (fun c5 => absurd rfl c5)
          refine az_er 1 rfl ?_
          refine az_if_lt rfl rfl (fun c15 => absurd c15 (by decide)) (fun c15 => ?_)
          refine az_er 2 rfl ?_
          refine az_ic_le rfl rfl (fun c20 => ?_) (fun c20 => absurd (by decide) c20)
          refine az_er 3 rfl ?_
          refine az_ecallF rfl rfl rfl rfl (cm_ofv hR.1 (s := j) (k := 4) rfl rfl (by omega) (show σ.1 (10 + 6 * j + 4) = σ.1 (14 + 6 * j) by rw [show 10 + 6 * j + 4 = 14 + 6 * j by omega])) ?_
          refine az_eret rfl rfl rfl ?_
          exact ⟨rfl, hR, fun _ _ => rfl⟩
      · refine ⟨nI (σ.1 (15 + 6 * j)), σ, hW, ?_, ?_⟩
        · refine az_er 6 rfl ?_
          refine az_ecallF rfl rfl rfl rfl ((ct_X4has_1 hC.1 hW.1).eq (by rw [rt_hasY hj (by have := hW.1.1; omega)]) rfl) ?_
          refine az_if_ne rfl rfl (fun c13 => ?_) (fun c13 => absurd c13 (by decide))
          refine az_er 5 rfl ?_
          refine az_ecallF rfl rfl rfl rfl (ct_atI rfl rfl (show j < 4 by omega) (by decide) (hC.1.2.1 j (by omega)).2.2.2.2.2) ?_
          refine az_eret rfl rfl rfl ?_
          exact ⟨rfl, hC, fun _ _ => rfl⟩
        · intro h1 hR
          refine az_er 2 rfl ?_
          refine az_ecallF rfl rfl rfl rfl ((cm_isNoSort hR.1).eq (by rw [if_neg (fun q => q.elim (nI_pos (by have := hW.1.1; omega)) (nI_ge hj (by have := hW.1.1; omega)))]) rfl) ?_
          refine az_if_eq rfl rfl (fun c5 => ?_) (fun c5 => absurd rfl c5)
          refine az_er 1 rfl ?_
          refine az_if_lt rfl rfl (fun c15 => absurd c15 (by decide)) (fun c15 => ?_)
          refine az_er 2 rfl ?_
          refine az_ic_le rfl rfl (fun c20 => ?_) (fun c20 => absurd (by decide) c20)
          refine az_er 3 rfl ?_
          refine az_ecallF rfl rfl rfl rfl (cm_ofv hR.1 (s := j) (k := 5) rfl rfl (by omega) (show σ.1 (10 + 6 * j + 5) = σ.1 (15 + 6 * j) by rw [show 10 + 6 * j + 5 = 15 + 6 * j by omega])) ?_
          refine az_eret rfl rfl rfl ?_
          exact ⟨rfl, hR, fun _ _ => rfl⟩
