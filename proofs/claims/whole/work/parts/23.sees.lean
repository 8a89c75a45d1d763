/-! Rules.add, sees, longer, seeds -/
theorem ix_o {x : Int32} {s : Nat} (hx : x = nI s) : Int8.toInt32 (Int8.ofInt 10) + Int8.toInt32 (Int8.ofInt 6) * x = nI (10 + 6 * s) := by
  rw [hx]
  show nI 10 + nI 6 * nI s = _
  rw [pk_mul, nI_add]
theorem ix_ok {x : Int32} {s k : Nat} {c : Int} (hx : x = nI s) (hc : Int32.ofInt c = nI k) : Int8.toInt32 (Int8.ofInt 10) + Int8.toInt32 (Int8.ofInt 6) * x + Int32.ofInt c = nI (10 + 6 * s + k) := by rw [ix_o hx, hc, nI_add]
def sq_se (a b c : Nat) : Nat → Nat
  | 0 => 1
  | 1 => 5
  | 3 => a
  | 4 => b
  | 5 => c
  | _ => 0
theorem rt_M_as {τ f : Nat → Nat} {h : az_H} {c : Nat} {x0 x1 x2 x3 x4 x5 y : Int32} (hM : rt_M c τ h) (h4 : τ 0 < 4) (hx0 : x0 = nI (f 0)) (hx1 : x1 = nI (f 1)) (hx2 : x2 = nI (f 2)) (hx3 : x3 = nI (f 3)) (hx4 : x4 = nI (f 4)) (hx5 : x5 = nI (f 5)) (hy : y = nI (τ 0 + 1)) : rt_M c (sq_as τ f) (az_up (az_up (az_up (az_up (az_up (az_up (az_up h c (10 + 6 * τ 0) x0) c (10 + 6 * τ 0 + 1) x1) c (10 + 6 * τ 0 + 2) x2) c (10 + 6 * τ 0 + 3) x3) c (10 + 6 * τ 0 + 4) x4) c (10 + 6 * τ 0 + 5) x5) c 0 y) := by
  refine rt_M_cong (rt_M_set (rt_M_set (rt_M_set (rt_M_set (rt_M_set (rt_M_set (rt_M_set hM hx0) hx1) hx2) hx3) hx4) hx5) hy) (fun j hj => ?_)
  unfold sq_as
  by_cases h0 : j = 0
  · rw [if_pos h0, if_pos h0]
  · rw [if_neg h0, if_neg h0]
    by_cases h1 : 10 + 6 * τ 0 ≤ j ∧ j < 16 + 6 * τ 0
    · rw [if_pos h1]
      obtain ⟨k, hk, rfl⟩ : ∃ k, k < 6 ∧ j = 10 + 6 * τ 0 + k := ⟨j - (10 + 6 * τ 0), by omega, by omega⟩
      rw [show 10 + 6 * τ 0 + k - (10 + 6 * τ 0) = k by omega]
      rcases (show k = 0 ∨ k = 1 ∨ k = 2 ∨ k = 3 ∨ k = 4 ∨ k = 5 by omega) with rfl | rfl | rfl | rfl | rfl | rfl <;> simp
    · rw [if_neg h1, if_neg (by omega), if_neg (by omega), if_neg (by omega), if_neg (by omega), if_neg (by omega), if_neg (by omega)]
set_option maxRecDepth 100000 in
theorem ct_radd {sc : az_S} {τ : Nat → Nat} {h : az_H} {x y : Int32} {kd sp : Nat} (hT : rt_T 16 τ h) (h6 : τ 1 < 6) (hs : 1 ≤ sp ∧ sp ≤ 6) (hx : x = nI kd) (hy : y = nI sp) : az_E sc az_m_X3_add 0 [.ref 24, .int x, .int y] [] h (fun v h1 => v = some (.int 1) ∧ rt_T 16 (sq_ar τ kd sp) h1 ∧ ∀ a, a < 24 ∨ 27 < a → h1 a = h a) := by
  have n1 : h 24 3 = nI (τ 1) := hT.1.2.2.2.2.1
  refine az_er 2 rfl ?_
  refine az_ic_lt rfl rfl (fun c2 => absurd c2 (by rw [hy]; exact nI_nlt (b := 1) hs.1 (by omega))) (fun c2 => ?_)
  refine az_er 2 rfl ?_
  refine az_ic_gt rfl rfl (fun c8 => absurd c8 (by rw [hy]; exact nI_nlt (a := 6) hs.2 (by omega))) (fun c8 => ?_)
  refine az_er 3 rfl ?_
  refine az_ic_lt rfl rfl (fun c17 => ?_) (fun c17 => absurd (by rw [n1]; exact nI_lt (b := 6) h6 (by omega)) c17)
  refine az_er 5 rfl ?_
  refine az_ecallF rfl rfl rfl rfl (ct_putI (j := τ 1) rfl (by rw [n1]) (show τ 1 < 6 by omega) (by decide)) ?_
  refine az_er 5 rfl ?_
  refine az_ecallF rfl rfl rfl rfl (ct_putI (j := τ 1) rfl (by rw [az_up_o (show (24 : Nat) ≠ 25 by decide)]; rw [n1]) (show τ 1 < 6 by omega) (by decide)) ?_
  refine az_er 5 rfl ?_
  refine az_ecallF rfl rfl rfl rfl (ct_putI (j := τ 1) rfl (by rw [az_up_o (show (24 : Nat) ≠ 26 by decide)]; rw [az_up_o (show (24 : Nat) ≠ 25 by decide)]; rw [n1]) (show τ 1 < 6 by omega) (by decide)) ?_
  refine az_er 7 rfl ?_
  refine az_eret rfl rfl rfl ?_
  refine ⟨rfl, ?_, fun a ha => by rw [az_up_o (by omega), az_up_o (by omega), az_up_o (by omega), az_up_o (by omega)]⟩
  rw [az_up_o (show (24 : Nat) ≠ 27 by decide), az_up_o (show (24 : Nat) ≠ 26 by decide), az_up_o (show (24 : Nat) ≠ 25 by decide),  n1, nI_1']
  have a0 := rt_T_ru0 (i := τ 1) (v := x) (τ2 := fun j => if j = 40 + 3 * τ 1 then kd else τ j) hT h6 (fun j hj => if_neg hj) (by rw [hx]; exact congrArg nI (if_pos rfl).symm)
  have a1 := rt_T_ru1 (i := τ 1) (v := y) (τ2 := fun j => if j = 41 + 3 * τ 1 then sp else if j = 40 + 3 * τ 1 then kd else τ j) a0 h6 (fun j hj => if_neg hj) (by rw [hy]; exact congrArg nI (if_pos rfl).symm)
  have a2 := rt_T_ru2 (i := τ 1) (v := Int32.ofInt 0) (τ2 := fun j => if j = 42 + 3 * τ 1 then 0 else if j = 41 + 3 * τ 1 then sp else if j = 40 + 3 * τ 1 then kd else τ j) a1 h6 (fun j hj => if_neg hj) (congrArg nI (if_pos rfl).symm)
  refine rt_T_nr a2 (fun j hj => ?_) (congrArg nI (by rw [sq_ar, if_pos rfl]))
  rw [sq_ar, if_neg hj]
  by_cases h2 : j = 40 + 3 * τ 1
  · rw [if_pos h2, if_neg (by omega), if_neg (by omega), if_pos h2]
  · by_cases h3 : j = 41 + 3 * τ 1
    · rw [if_neg h2, if_pos h3, if_neg (by omega), if_pos h3]
    · rw [if_neg h2, if_neg h3]
      by_cases h4 : j = 42 + 3 * τ 1
      · rw [if_pos h4, if_pos h4]
      · rw [if_neg h4, if_neg h4, if_neg h3, if_neg h2]
set_option maxRecDepth 100000 in
theorem op_sees {x y z w : Int32} : rt_op az_m_X7_sees az_m_X8_sees [.int x, .int y, .int z, .int w] := by
  intro sc σ h hC hW
  have b0 := hW.1.1
  rcases Classical.em (x < 1 ∨ y < 0 ∨ z < 0 ∨ w < 0) with hB | hB
  · refine ⟨1000000000 - -4, sp_ref σ 4, hW, ?_, ?_⟩
    · refine az_er 2 rfl ?_
      refine az_ic_lt rfl rfl (fun c2 => ?_) (fun c2 => ?_)
      · refine az_er 2 rfl ?_
        refine az_ecall rfl rfl rfl rfl (ct_refuseW hC (k := 4) (by decide) (by decide)) ?_
        rintro _ hh ⟨rfl, hh2, hh3⟩
        refine az_eret rfl rfl rfl ?_
        exact ⟨rfl, hh2, hh3⟩
      · refine az_er 1 rfl ?_
        refine az_if_lt rfl rfl (fun c6 => ?_) (fun c6 => ?_)
        · refine az_er 2 rfl ?_
          refine az_ecall rfl rfl rfl rfl (ct_refuseW hC (k := 4) (by decide) (by decide)) ?_
          rintro _ hh ⟨rfl, hh2, hh3⟩
          refine az_eret rfl rfl rfl ?_
          exact ⟨rfl, hh2, hh3⟩
        · refine az_er 1 rfl ?_
          refine az_if_lt rfl rfl (fun c10 => ?_) (fun c10 => ?_)
          · refine az_er 2 rfl ?_
            refine az_ecall rfl rfl rfl rfl (ct_refuseW hC (k := 4) (by decide) (by decide)) ?_
            rintro _ hh ⟨rfl, hh2, hh3⟩
            refine az_eret rfl rfl rfl ?_
            exact ⟨rfl, hh2, hh3⟩
          · refine az_er 1 rfl ?_
            refine az_if_ge rfl rfl (fun c15 => ?_) (fun c15 => ?_)
            · exact (hB.elim c2 (fun q => q.elim c6 (fun q => q.elim c10 (fun q => absurd c15 (Int32.not_le.mpr q))))).elim
            · refine az_er 2 rfl ?_
              refine az_ecall rfl rfl rfl rfl (ct_refuseW hC (k := 4) (by decide) (by decide)) ?_
              rintro _ hh ⟨rfl, hh2, hh3⟩
              refine az_eret rfl rfl rfl ?_
              exact ⟨rfl, hh2, hh3⟩
    · intro h1 hR
      refine az_er 2 rfl ?_
      refine az_ic_lt rfl rfl (fun c2 => ?_) (fun c2 => ?_)
      · refine az_er 3 rfl ?_
        refine az_ecall rfl rfl rfl rfl (cm_no hR (k := 4) (by decide) (by decide)) ?_
        rintro _ hh ⟨rfl, hh2, hh3⟩
        refine az_er 1 rfl ?_
        refine az_eret rfl rfl rfl ?_
        exact ⟨rfl, hh2, hh3⟩
      · refine az_er 1 rfl ?_
        refine az_if_lt rfl rfl (fun c6 => ?_) (fun c6 => ?_)
        · refine az_er 3 rfl ?_
          refine az_ecall rfl rfl rfl rfl (cm_no hR (k := 4) (by decide) (by decide)) ?_
          rintro _ hh ⟨rfl, hh2, hh3⟩
          refine az_er 1 rfl ?_
          refine az_eret rfl rfl rfl ?_
          exact ⟨rfl, hh2, hh3⟩
        · refine az_er 1 rfl ?_
          refine az_if_lt rfl rfl (fun c10 => ?_) (fun c10 => ?_)
          · refine az_er 3 rfl ?_
            refine az_ecall rfl rfl rfl rfl (cm_no hR (k := 4) (by decide) (by decide)) ?_
            rintro _ hh ⟨rfl, hh2, hh3⟩
            refine az_er 1 rfl ?_
            refine az_eret rfl rfl rfl ?_
            exact ⟨rfl, hh2, hh3⟩
          · refine az_er 1 rfl ?_
            refine az_if_ge rfl rfl (fun c15 => ?_) (fun c15 => ?_)
            · exact (hB.elim c2 (fun q => q.elim c6 (fun q => q.elim c10 (fun q => absurd c15 (Int32.not_le.mpr q))))).elim
            · refine az_er 3 rfl ?_
              refine az_ecall rfl rfl rfl rfl (cm_no hR (k := 4) (by decide) (by decide)) ?_
              rintro _ hh ⟨rfl, hh2, hh3⟩
              refine az_er 1 rfl ?_
              refine az_eret rfl rfl rfl ?_
              exact ⟨rfl, hh2, hh3⟩
  · rcases Classical.em ((60 : Int32) < x ∨ (9 : Int32) < y ∨ (9 : Int32) < z ∨ (9 : Int32) < w ∨ σ.1 0 = 4) with hR6 | hR6
    · refine ⟨1000000000 - -6, sp_ref σ 6, hW, ?_, ?_⟩
      · refine az_er 2 rfl ?_
        refine az_ic_lt rfl rfl (fun c2 => absurd c2 (fun q => hB (Or.inl q))) (fun c2 => ?_)
        refine az_er 1 rfl ?_
        refine az_if_lt rfl rfl (fun c6 => absurd c6 (fun q => hB (Or.inr (Or.inl q)))) (fun c6 => ?_)
        refine az_er 1 rfl ?_
        refine az_if_lt rfl rfl (fun c10 => absurd c10 (fun q => hB (Or.inr (Or.inr (Or.inl q))))) (fun c10 => ?_)
        refine az_er 1 rfl ?_
        refine az_if_ge rfl rfl (fun c15 => ?_) (fun c15 => absurd (Int32.not_lt.mp (fun q => hB (Or.inr (Or.inr (Or.inr q))))) c15)
        refine az_er 2 rfl ?_
        refine az_ic_gt rfl rfl (fun c28 => ?_) (fun c28 => ?_)
        · refine az_er 4 rfl ?_
          refine az_if_ne rfl rfl (fun c59 => ?_) (fun c59 => ?_)
          · refine az_er 2 rfl ?_
            refine az_ecall rfl rfl rfl rfl (ct_refuseW hC (k := 6) (by decide) (by decide)) ?_
            rintro _ hh ⟨rfl, hh2, hh3⟩
            refine az_eret rfl rfl rfl ?_
            exact ⟨rfl, hh2, hh3⟩
          · refine az_er 5 rfl ?_
            rw [hC.1.1.2.2.2.1]
            refine az_ic_lt rfl rfl (fun c73 => ?_) (fun c73 => ?_)
            · first | exact absurd c59 (by decide) | exact absurd rfl c59 | exact (hR6.elim c28 (fun q => q.elim c34 (fun q => q.elim c40 (fun q => q.elim (fun q => absurd c47 (Int32.not_le.mpr q)) (fun q => absurd c73 (by rw [q]; decide)))))).elim
            · refine az_er 2 rfl ?_
              refine az_ecall rfl rfl rfl rfl (ct_refuseW hC (k := 6) (by decide) (by decide)) ?_
              rintro _ hh ⟨rfl, hh2, hh3⟩
              refine az_eret rfl rfl rfl ?_
              exact ⟨rfl, hh2, hh3⟩
        · refine az_er 2 rfl ?_
          refine az_ic_gt rfl rfl (fun c34 => ?_) (fun c34 => ?_)
          · refine az_er 4 rfl ?_
            refine az_if_ne rfl rfl (fun c59 => ?_) (fun c59 => ?_)
            · refine az_er 2 rfl ?_
              refine az_ecall rfl rfl rfl rfl (ct_refuseW hC (k := 6) (by decide) (by decide)) ?_
              rintro _ hh ⟨rfl, hh2, hh3⟩
              refine az_eret rfl rfl rfl ?_
              exact ⟨rfl, hh2, hh3⟩
            · refine az_er 5 rfl ?_
              rw [hC.1.1.2.2.2.1]
              refine az_ic_lt rfl rfl (fun c73 => ?_) (fun c73 => ?_)
              · first | exact absurd c59 (by decide) | exact absurd rfl c59 | exact (hR6.elim c28 (fun q => q.elim c34 (fun q => q.elim c40 (fun q => q.elim (fun q => absurd c47 (Int32.not_le.mpr q)) (fun q => absurd c73 (by rw [q]; decide)))))).elim
              · refine az_er 2 rfl ?_
                refine az_ecall rfl rfl rfl rfl (ct_refuseW hC (k := 6) (by decide) (by decide)) ?_
                rintro _ hh ⟨rfl, hh2, hh3⟩
                refine az_eret rfl rfl rfl ?_
                exact ⟨rfl, hh2, hh3⟩
          · refine az_er 2 rfl ?_
            refine az_ic_gt rfl rfl (fun c40 => ?_) (fun c40 => ?_)
            · refine az_er 4 rfl ?_
              refine az_if_ne rfl rfl (fun c59 => ?_) (fun c59 => ?_)
              · refine az_er 2 rfl ?_
                refine az_ecall rfl rfl rfl rfl (ct_refuseW hC (k := 6) (by decide) (by decide)) ?_
                rintro _ hh ⟨rfl, hh2, hh3⟩
                refine az_eret rfl rfl rfl ?_
                exact ⟨rfl, hh2, hh3⟩
              · refine az_er 5 rfl ?_
                rw [hC.1.1.2.2.2.1]
                refine az_ic_lt rfl rfl (fun c73 => ?_) (fun c73 => ?_)
                · first | exact absurd c59 (by decide) | exact absurd rfl c59 | exact (hR6.elim c28 (fun q => q.elim c34 (fun q => q.elim c40 (fun q => q.elim (fun q => absurd c47 (Int32.not_le.mpr q)) (fun q => absurd c73 (by rw [q]; decide)))))).elim
                · refine az_er 2 rfl ?_
                  refine az_ecall rfl rfl rfl rfl (ct_refuseW hC (k := 6) (by decide) (by decide)) ?_
                  rintro _ hh ⟨rfl, hh2, hh3⟩
                  refine az_eret rfl rfl rfl ?_
                  exact ⟨rfl, hh2, hh3⟩
            · refine az_er 2 rfl ?_
              refine az_ic_le rfl rfl (fun c47 => ?_) (fun c47 => ?_)
              · refine az_er 3 rfl ?_
                refine az_if_ne rfl rfl (fun c59 => ?_) (fun c59 => ?_)
                · refine az_er 2 rfl ?_
                  refine az_ecall rfl rfl rfl rfl (ct_refuseW hC (k := 6) (by decide) (by decide)) ?_
                  rintro _ hh ⟨rfl, hh2, hh3⟩
                  refine az_eret rfl rfl rfl ?_
                  exact ⟨rfl, hh2, hh3⟩
                · refine az_er 5 rfl ?_
                  rw [hC.1.1.2.2.2.1]
                  refine az_ic_lt rfl rfl (fun c73 => ?_) (fun c73 => ?_)
                  · first | exact absurd c59 (by decide) | exact absurd rfl c59 | exact (hR6.elim c28 (fun q => q.elim c34 (fun q => q.elim c40 (fun q => q.elim (fun q => absurd c47 (Int32.not_le.mpr q)) (fun q => absurd c73 (by rw [q]; decide)))))).elim
                  · refine az_er 2 rfl ?_
                    refine az_ecall rfl rfl rfl rfl (ct_refuseW hC (k := 6) (by decide) (by decide)) ?_
                    rintro _ hh ⟨rfl, hh2, hh3⟩
                    refine az_eret rfl rfl rfl ?_
                    exact ⟨rfl, hh2, hh3⟩
              · refine az_er 4 rfl ?_
                refine az_if_ne rfl rfl (fun c59 => ?_) (fun c59 => ?_)
                · refine az_er 2 rfl ?_
                  refine az_ecall rfl rfl rfl rfl (ct_refuseW hC (k := 6) (by decide) (by decide)) ?_
                  rintro _ hh ⟨rfl, hh2, hh3⟩
                  refine az_eret rfl rfl rfl ?_
                  exact ⟨rfl, hh2, hh3⟩
                · refine az_er 5 rfl ?_
                  rw [hC.1.1.2.2.2.1]
                  refine az_ic_lt rfl rfl (fun c73 => ?_) (fun c73 => ?_)
                  · first | exact absurd c59 (by decide) | exact absurd rfl c59 | exact (hR6.elim c28 (fun q => q.elim c34 (fun q => q.elim c40 (fun q => q.elim (fun q => absurd c47 (Int32.not_le.mpr q)) (fun q => absurd c73 (by rw [q]; decide)))))).elim
                  · refine az_er 2 rfl ?_
                    refine az_ecall rfl rfl rfl rfl (ct_refuseW hC (k := 6) (by decide) (by decide)) ?_
                    rintro _ hh ⟨rfl, hh2, hh3⟩
                    refine az_eret rfl rfl rfl ?_
                    exact ⟨rfl, hh2, hh3⟩
      · intro h1 hR
        refine az_er 2 rfl ?_
        refine az_ic_lt rfl rfl (fun c2 => absurd c2 (fun q => hB (Or.inl q))) (fun c2 => ?_)
        refine az_er 1 rfl ?_
        refine az_if_lt rfl rfl (fun c6 => absurd c6 (fun q => hB (Or.inr (Or.inl q)))) (fun c6 => ?_)
        refine az_er 1 rfl ?_
        refine az_if_lt rfl rfl (fun c10 => absurd c10 (fun q => hB (Or.inr (Or.inr (Or.inl q))))) (fun c10 => ?_)
        refine az_er 1 rfl ?_
        refine az_if_ge rfl rfl (fun c15 => ?_) (fun c15 => absurd (Int32.not_lt.mp (fun q => hB (Or.inr (Or.inr (Or.inr q))))) c15)
        refine az_er 2 rfl ?_
        refine az_ic_gt rfl rfl (fun c31 => ?_) (fun c31 => ?_)
        · refine az_er 3 rfl ?_
          refine az_ecall rfl rfl rfl rfl (cm_no hR (k := 6) (by decide) (by decide)) ?_
          rintro _ hh ⟨rfl, hh2, hh3⟩
          refine az_er 1 rfl ?_
          refine az_eret rfl rfl rfl ?_
          exact ⟨rfl, hh2, hh3⟩
        · refine az_er 2 rfl ?_
          refine az_ic_gt rfl rfl (fun c37 => ?_) (fun c37 => ?_)
          · refine az_er 3 rfl ?_
            refine az_ecall rfl rfl rfl rfl (cm_no hR (k := 6) (by decide) (by decide)) ?_
            rintro _ hh ⟨rfl, hh2, hh3⟩
            refine az_er 1 rfl ?_
            refine az_eret rfl rfl rfl ?_
            exact ⟨rfl, hh2, hh3⟩
          · refine az_er 2 rfl ?_
            refine az_ic_gt rfl rfl (fun c43 => ?_) (fun c43 => ?_)
            · refine az_er 3 rfl ?_
              refine az_ecall rfl rfl rfl rfl (cm_no hR (k := 6) (by decide) (by decide)) ?_
              rintro _ hh ⟨rfl, hh2, hh3⟩
              refine az_er 1 rfl ?_
              refine az_eret rfl rfl rfl ?_
              exact ⟨rfl, hh2, hh3⟩
            · refine az_er 2 rfl ?_
              refine az_ic_gt rfl rfl (fun c50 => ?_) (fun c50 => ?_)
              · refine az_er 3 rfl ?_
                refine az_ecall rfl rfl rfl rfl (cm_no hR (k := 6) (by decide) (by decide)) ?_
                rintro _ hh ⟨rfl, hh2, hh3⟩
                refine az_er 1 rfl ?_
                refine az_eret rfl rfl rfl ?_
                exact ⟨rfl, hh2, hh3⟩
              · refine az_er 3 rfl ?_
                refine az_iaI rfl rfl (j := 0) (show Int32.ofInt 0 = nI 0 from rfl) (by decide) (by decide) (hR.1 0 (by decide)) ?_
                refine az_er 1 rfl ?_
                refine az_ic_ne rfl rfl (fun c60 => ?_) (fun c60 => ?_)
                · exact (hR6.elim c31 (fun q => q.elim c37 (fun q => q.elim c43 (fun q => q.elim c50 (fun q => absurd (show nI (σ.1 0) = nI 4 by rw [q]) c60))))).elim
                · refine az_er 3 rfl ?_
                  refine az_ecall rfl rfl rfl rfl (cm_no hR (k := 6) (by decide) (by decide)) ?_
                  rintro _ hh ⟨rfl, hh2, hh3⟩
                  refine az_er 1 rfl ?_
                  refine az_eret rfl rfl rfl ?_
                  exact ⟨rfl, hh2, hh3⟩
    · have h4 : σ.1 0 < 4 := by have : σ.1 0 ≠ 4 := fun q => hR6 (Or.inr (Or.inr (Or.inr (Or.inr q)))); omega
      obtain ⟨n, hn, rfl⟩ := rt_nat (x := x) (m := 60) (Int32.le_trans (show (0 : Int32) ≤ 1 by decide) (Int32.not_lt.mp (fun q => hB (Or.inl q)))) (Int32.not_lt.mp (fun q => hR6 (Or.inl q))) (by decide)
      obtain ⟨a, ha9, rfl⟩ := rt_nat (x := y) (m := 9) (Int32.not_lt.mp (fun q => hB (Or.inr (Or.inl q)))) (Int32.not_lt.mp (fun q => hR6 (Or.inr (Or.inl q)))) (by decide)
      obtain ⟨b, hb9, rfl⟩ := rt_nat (x := z) (m := 9) (Int32.not_lt.mp (fun q => hB (Or.inr (Or.inr (Or.inl q))))) (Int32.not_lt.mp (fun q => hR6 (Or.inr (Or.inr (Or.inl q))))) (by decide)
      obtain ⟨c, hc9, rfl⟩ := rt_nat (x := w) (m := 9) (Int32.not_lt.mp (fun q => hB (Or.inr (Or.inr (Or.inr q))))) (Int32.not_lt.mp (fun q => hR6 (Or.inr (Or.inr (Or.inr (Or.inl q)))))) (by decide)
      have hV2 : rt_V (sq_as σ.1 (sq_se a b c)) := rt_V_as hW.1 h4 (show 1 ≤ 1 ∧ 1 ≤ 9 by decide) (show 5 < 6 by decide) (show 0 ≤ 9 by decide) ha9 hb9 hc9 (fun q => absurd q (show ¬ (5 = 2 ∨ 5 = 3) by decide))
      refine ⟨sq_ga (sq_as σ.1 (sq_se a b c)) (σ.1 0) n, σ, hW, ?_, ?_⟩
      · refine az_er 2 rfl ?_
        refine az_ic_lt rfl rfl (fun c2 => absurd c2 (fun q => hB (Or.inl q))) (fun c2 => ?_)
        refine az_er 1 rfl ?_
        refine az_if_lt rfl rfl (fun c6 => absurd c6 (fun q => hB (Or.inr (Or.inl q)))) (fun c6 => ?_)
        refine az_er 1 rfl ?_
        refine az_if_lt rfl rfl (fun c10 => absurd c10 (fun q => hB (Or.inr (Or.inr (Or.inl q))))) (fun c10 => ?_)
        refine az_er 1 rfl ?_
        refine az_if_ge rfl rfl (fun c15 => ?_) (fun c15 => absurd (Int32.not_lt.mp (fun q => hB (Or.inr (Or.inr (Or.inr q))))) c15)
        refine az_er 2 rfl ?_
        refine az_ic_gt rfl rfl (fun c28 => absurd c28 (fun q => hR6 (Or.inl q))) (fun c28 => ?_)
        refine az_er 2 rfl ?_
        refine az_ic_gt rfl rfl (fun c34 => absurd c34 (fun q => hR6 (Or.inr (Or.inl q)))) (fun c34 => ?_)
        refine az_er 2 rfl ?_
        refine az_ic_gt rfl rfl (fun c40 => absurd c40 (fun q => hR6 (Or.inr (Or.inr (Or.inl q))))) (fun c40 => ?_)
        refine az_er 2 rfl ?_
        refine az_ic_le rfl rfl (fun c47 => ?_) (fun c47 => absurd (Int32.not_lt.mp (fun q => hR6 (Or.inr (Or.inr (Or.inr (Or.inl q)))))) c47)
        refine az_er 3 rfl ?_
        refine az_if_ne rfl rfl (fun c59 => absurd rfl c59) (fun c59 => ?_)
        refine az_er 5 rfl ?_
        refine az_ic_lt rfl rfl (fun c73 => ?_) (fun c73 => absurd (by rw [hC.1.1.2.2.2.1]; exact nI_lt (b := 4) h4 (by omega)) c73)
        refine az_er 4 rfl ?_
        refine az_ecall rfl rfl rfl rfl (ct_copy_16_1 hC.1) ?_
        rintro _ h2 ⟨rfl, g1, g2⟩
        refine az_er 14 rfl ?_
        refine az_ecall rfl rfl rfl rfl (ct_sadd (f := sq_se a b c) g1 h4 (show 1 ≤ 1 ∧ 1 ≤ 9 by decide) rfl rfl rfl rfl rfl rfl) ?_
        rintro _ h3 ⟨rfl, k1, k2⟩
        refine az_er 4 rfl ?_
        refine az_ecall rfl rfl rfl rfl (ct_gim k1 hV2 rfl (by omega) g1.1.2.2.2.1 (show σ.1 0 < sq_as σ.1 (sq_se a b c) 0 by rw [sq_as, if_pos rfl]; omega)) ?_
        rintro _ h4 ⟨rfl, l3⟩
        have l4 : rt_Fm h h4 := fun a p q => (l3 a p q).trans ((k2 a (by omega)).trans (g2 a (by omega)))
        refine az_eret rfl rfl rfl ?_
        exact ⟨rfl, rt_C_F hC (rt_Fs_m l4), fun a ha => l4 a (by omega) (by omega)⟩
      · intro h1 hR
        refine az_er 2 rfl ?_
        refine az_ic_lt rfl rfl (fun c2 => absurd c2 (fun q => hB (Or.inl q))) (fun c2 => ?_)
        refine az_er 1 rfl ?_
        refine az_if_lt rfl rfl (fun c6 => absurd c6 (fun q => hB (Or.inr (Or.inl q)))) (fun c6 => ?_)
        refine az_er 1 rfl ?_
        refine az_if_lt rfl rfl (fun c10 => absurd c10 (fun q => hB (Or.inr (Or.inr (Or.inl q))))) (fun c10 => ?_)
        refine az_er 1 rfl ?_
        refine az_if_ge rfl rfl (fun c15 => ?_) (fun c15 => absurd (Int32.not_lt.mp (fun q => hB (Or.inr (Or.inr (Or.inr q))))) c15)
        refine az_er 2 rfl ?_
        refine az_ic_gt rfl rfl (fun c31 => absurd c31 (fun q => hR6 (Or.inl q))) (fun c31 => ?_)
        refine az_er 2 rfl ?_
        refine az_ic_gt rfl rfl (fun c37 => absurd c37 (fun q => hR6 (Or.inr (Or.inl q)))) (fun c37 => ?_)
        refine az_er 2 rfl ?_
        refine az_ic_gt rfl rfl (fun c43 => absurd c43 (fun q => hR6 (Or.inr (Or.inr (Or.inl q))))) (fun c43 => ?_)
        refine az_er 2 rfl ?_
        refine az_ic_gt rfl rfl (fun c50 => absurd c50 (fun q => hR6 (Or.inr (Or.inr (Or.inr (Or.inl q)))))) (fun c50 => ?_)
        refine az_er 3 rfl ?_
        refine az_iaI rfl rfl (j := 0) (show Int32.ofInt 0 = nI 0 from rfl) (by decide) (by decide) (hR.1 0 (by decide)) ?_
        refine az_er 1 rfl ?_
        refine az_ic_ne rfl rfl (fun c60 => ?_) (fun c60 => absurd c60 (fun q => by rw [show Int32.ofInt 4 = nI 4 from rfl, nI_eq (by omega) (by omega)] at q; omega))
        refine az_er 4 rfl ?_
        refine az_ecallF rfl rfl rfl rfl (cm_move rfl rfl (by decide)) ?_
        refine az_er 5 rfl ?_
        refine az_iaI rfl rfl (j := 0) rfl (by decide) (by decide) (show _ = nI (σ.1 0) by rw [az_cp_o (by decide)]; exact hR.1 0 (by decide)) ?_
        refine az_er 7 rfl ?_
        refine az_iasI rfl rfl (ix_o (s := σ.1 0) rfl) (show 10 + 6 * σ.1 0 < 70 by omega) (by decide) ?_
        refine az_er 6 rfl ?_
        refine az_iasI rfl rfl (ix_ok (s := σ.1 0) (k := 1) rfl rfl) (show 10 + 6 * σ.1 0 + 1 < 70 by omega) (by decide) ?_
        refine az_er 6 rfl ?_
        refine az_iasI rfl rfl (ix_ok (s := σ.1 0) (k := 2) rfl rfl) (show 10 + 6 * σ.1 0 + 2 < 70 by omega) (by decide) ?_
        refine az_er 6 rfl ?_
        refine az_iasI rfl rfl (ix_ok (s := σ.1 0) (k := 3) rfl rfl) (show 10 + 6 * σ.1 0 + 3 < 70 by omega) (by decide) ?_
        refine az_er 6 rfl ?_
        refine az_iasI rfl rfl (ix_ok (s := σ.1 0) (k := 4) rfl rfl) (show 10 + 6 * σ.1 0 + 4 < 70 by omega) (by decide) ?_
        refine az_er 6 rfl ?_
        refine az_iasI rfl rfl (ix_ok (s := σ.1 0) (k := 5) rfl rfl) (show 10 + 6 * σ.1 0 + 5 < 70 by omega) (by decide) ?_
        refine az_er 4 rfl ?_
        refine az_iaI rfl rfl (j := 0) rfl (by decide) (by decide) (show _ = nI (σ.1 0) by rw [az_up_n (by omega), az_up_n (by omega), az_up_n (by omega), az_up_n (by omega), az_up_n (by omega), az_up_n (by omega), az_cp_o (by decide)]; exact hR.1 0 (by decide)) ?_
        refine az_er 2 rfl ?_
        refine az_iasI rfl rfl (j := 0) rfl (by decide) (by decide) ?_
        refine az_er 5 rfl ?_
        refine az_iaI rfl rfl (j := 0) rfl (by decide) (by decide) az_up_s ?_
        refine az_er 2 rfl ?_
        refine az_ecall rfl rfl rfl rfl (cm_gaS (s := σ.1 0) (rt_M_as (f := sq_se a b c) (rt_M_h hR.1 (az_cp_o (by decide))) h4 rfl rfl rfl rfl rfl rfl (nI_1' _)) hV2 rfl (by omega) (by rw [nI_1']; exact nI_pred _) (show σ.1 0 < sq_as σ.1 (sq_se a b c) 0 by rw [sq_as, if_pos rfl]; omega)) ?_
        rintro _ h2 ⟨rfl, l1, l2, l3⟩
        refine az_er 5 rfl ?_
        refine az_ecallF rfl rfl rfl rfl (cm_move rfl rfl (by decide)) ?_
        refine az_er 1 rfl ?_
        refine az_eret rfl rfl rfl ?_
        have u : ∀ a, a ≠ 61 → a ≠ 63 → (a < 68 ∨ 73 < a) → az_cp h2 73 61 70 a = h1 a := fun a p q r => by
          rw [az_cp_o p, l3 a p q (by omega) (by omega), az_up_o p, az_up_o p, az_up_o p, az_up_o p, az_up_o p, az_up_o p, az_up_o p, az_cp_o (by omega)]
        refine ⟨rfl, rt_R_B hR (rt_M_cp (a := 73) ?_) u, fun a ha => u a (by omega) (by omega) (by omega)⟩
        refine rt_M_h (rt_M_cp (a := 61) (b := 73) hR.1) ?_
        rw [l3 73 (by decide) (by decide) (by decide) (by decide), az_up_o (by decide), az_up_o (by decide), az_up_o (by decide), az_up_o (by decide), az_up_o (by decide), az_up_o (by decide), az_up_o (by decide)]
/-- the first i rules foretell from one week more -/
def sq_ln (τ : Nat → Nat) (i : Nat) : Nat → Nat := fun j => if 41 ≤ j ∧ j < 41 + 3 * i ∧ j % 3 = 2 then min (τ j + 1) 6 else τ j
theorem sq_ln_o {τ : Nat → Nat} {i j : Nat} (h : j < 41 ∨ 59 ≤ j ∨ j % 3 ≠ 2) (hi : i ≤ 6) : sq_ln τ i j = τ j := by unfold sq_ln; rw [if_neg (by omega)]
theorem sq_ln_k {τ : Nat → Nat} {i r : Nat} : sq_ln τ i (41 + 3 * r) = if r < i then min (τ (41 + 3 * r) + 1) 6 else τ (41 + 3 * r) := by
  unfold sq_ln
  by_cases h : r < i
  · rw [if_pos h, if_pos (by omega)]
  · rw [if_neg h, if_neg (by omega)]
theorem sq_ln_s {τ : Nat → Nat} {i j : Nat} (h : j ≠ 41 + 3 * i) : sq_ln τ (i + 1) j = sq_ln τ i j := by
  unfold sq_ln
  by_cases h1 : 41 ≤ j ∧ j < 41 + 3 * i ∧ j % 3 = 2
  · rw [if_pos h1, if_pos (by omega)]
  · rw [if_neg h1, if_neg (by omega)]
theorem rt_V_ln {τ : Nat → Nat} (hV : rt_V τ) {i : Nat} (hi : i ≤ 6) : rt_V (sq_ln τ i) := by
  obtain ⟨h0, h1, h2, h4, h5, hs, hs2, hr, hr2, hw⟩ := hV
  have e : ∀ j, (j < 41 ∨ 59 ≤ j ∨ j % 3 ≠ 2) → sq_ln τ i j = τ j := fun j a => sq_ln_o a hi
  refine ⟨by rw [e _ (by omega)]; exact h0, by rw [e _ (by omega)]; exact h1, by rw [e _ (by omega)]; exact h2, by rw [e _ (by omega)]; exact h4, by rw [e _ (by omega)]; exact h5, fun s h9 => ?_, fun s h9 => ?_, fun r h9 => ?_, fun r h9 => ?_, fun w h9 => ?_⟩
  · rw [e _ (by omega), e _ (by omega), e _ (by omega), e _ (by omega), e _ (by omega), e _ (by omega)]; exact hs s h9
  · rw [e 0 (by omega)] at h9; rw [e _ (by omega), e _ (by omega), e _ (by omega), e _ (by omega)]; exact hs2 s h9
  · rw [e (40 + 3 * r) (by omega), sq_ln_k]; have := hr r h9; split <;> omega
  · rw [e 1 (by omega)] at h9; rw [sq_ln_k]; have := hr2 r h9; split <;> omega
  · rw [e _ (by omega)]; exact hw w h9
theorem nI_m6a {s : Nat} (hs : s ≤ 6) : (if (6 : Int32) < nI s + Int32.ofInt 1 then (6 : Int32) else nI s + Int32.ofInt 1) = nI (min (s + 1) 6) := by
  rw [nI_1', show (6 : Int32) = nI 6 from rfl]
  by_cases h : 6 < s + 1
  · rw [if_pos ((nI_ltI (by omega) (by omega)).mpr h), Nat.min_eq_right (by omega)]
  · rw [if_neg (fun q => h ((nI_ltI (by omega) (by omega)).mp q)), Nat.min_eq_left (by omega)]
theorem nI_m6b {s : Nat} (hs : s ≤ 6) : (if nI s + Int32.ofInt 1 < (6 : Int32) then nI s + Int32.ofInt 1 else (6 : Int32)) = nI (min (s + 1) 6) := by
  rw [nI_1', show (6 : Int32) = nI 6 from rfl]
  by_cases h : s + 1 < 6
  · rw [if_pos ((nI_ltI (by omega) (by omega)).mpr h), Nat.min_eq_left (by omega)]
  · rw [if_neg (fun q => h ((nI_ltI (by omega) (by omega)).mp q)), Nat.min_eq_right (by omega)]
set_option maxRecDepth 100000 in
theorem lp_len {sc : az_S} {τ : Nat → Nat} {h : az_H} (hV : rt_V τ) : ∀ (d i : Nat) (y : Int32) (hh : az_H), i ≤ τ 1 → τ 1 - i = d → y = nI i → rt_T 16 (sq_ln τ i) hh → (∀ a, a ≠ 26 → hh a = h a) → az_E sc az_m_X3_lengthen 2 [.ref 24, .int 1, .int y] [] hh (fun v h1 => v = none ∧ rt_T 16 (sq_ln τ (τ 1)) h1 ∧ ∀ a, a ≠ 26 → h1 a = h a) := by
  have b1 : τ 1 ≤ 6 := hV.2.1
  have n1 : ∀ {i : Nat} (hh : az_H), rt_T 16 (sq_ln τ i) hh → hh 24 3 = nI (τ 1) := fun hh hT => hT.1.2.2.2.2.1.trans (congrArg nI (if_neg (by omega)))
  intro d
  induction d with
  | zero =>
    intro i y hh hi hd hy hT2 hF
    have he : i = τ 1 := by omega
    refine az_er 3 rfl ?_
    rw [n1 hh hT2]
    refine az_ic_ge rfl rfl (fun c7 => ?_) (fun c7 => absurd (by rw [hy, he]; exact nI_le (Nat.le_refl _) (by omega)) c7)
    refine az_eret rfl rfl rfl ?_
    exact ⟨rfl, he ▸ hT2, hF⟩
  | succ d ih =>
    intro i y hh hi hd hy hT2 hF
    refine az_er 3 rfl ?_
    rw [n1 hh hT2]
    refine az_ic_ge rfl rfl (fun c7 => absurd c7 (by rw [hy]; exact nI_ge (by omega) (by omega))) (fun c7 => ?_)
    refine az_er 6 rfl ?_
    refine az_ecallF rfl rfl rfl rfl (ct_atI rfl hy (show i < 6 by omega) (by decide) ((hT2.2.2.1 i (by omega)).2.1.trans (congrArg nI (by rw [sq_ln_k, if_neg (Nat.lt_irrefl i)])))) ?_
    refine az_er 3 rfl ?_
    refine az_er 1 rfl ?_
    refine az_ecallF rfl rfl rfl rfl (ct_putI rfl hy (show i < 6 by omega) (by decide)) ?_
    refine az_er 2 rfl ?_
    refine ih (i + 1) _ _ (by omega) (by omega) (by rw [hy]; exact nI_1' i) (rt_T_ru1 hT2 (show i < 6 by omega) (fun j hj => sq_ln_s hj) ?_) (fun a ha => by rw [az_up_o ha]; exact hF a ha)
    rw [sq_ln_k, if_pos (Nat.lt_succ_self i)]
    exact nI_m6a (hV.2.2.2.2.2.2.2.1 i (by omega)).2
set_option maxRecDepth 100000 in
theorem ct_len1 {sc : az_S} {τ : Nat → Nat} (hV : rt_V τ) : rt_Ln sc 1 τ (sq_ln τ (τ 1)) := by
  intro h9 hT
  refine az_er 2 rfl ?_
  exact lp_len hV (τ 1) 0 0 h9 (Nat.zero_le _) (Nat.sub_zero _) rfl (rt_T_cong hT (fun j _ => if_neg (by omega))) (fun _ _ => rfl)
set_option maxRecDepth 100000 in
theorem lm_len {sc : az_S} {τ : Nat → Nat} {h : az_H} {Q : Option Value → az_H → Prop} {x : Int32} (hV : rt_V τ) (K : ∀ y hh, rt_M 61 (sq_ln τ (τ 1)) hh → (∀ a, a ≠ 61 → hh a = h a) → az_E sc az_m_X8_longer 84 [.ref 59, .int x, .int y] [] hh Q) : ∀ (d i : Nat) (y : Int32) (hh : az_H), i ≤ τ 1 → τ 1 - i = d → y = nI i → rt_M 61 (sq_ln τ i) hh → (∀ a, a ≠ 61 → hh a = h a) → az_E sc az_m_X8_longer 35 [.ref 59, .int x, .int y] [] hh Q := by
  have b1 : τ 1 ≤ 6 := hV.2.1
  intro d
  induction d with
  | zero =>
    intro i y hh hi hd hy hM hF
    have he : i = τ 1 := by omega
    refine az_er 4 rfl ?_
    refine az_iaI rfl rfl (j := 1) rfl (by decide) (by decide) ((hM 1 (by decide)).trans (congrArg nI (if_neg (by omega)))) ?_
    refine az_ic_ge rfl rfl (fun c42 => ?_) (fun c42 => absurd (by rw [hy, he]; exact nI_le (Nat.le_refl _) (by omega)) c42)
    exact K y hh (he ▸ hM) hF
  | succ d ih =>
    intro i y hh hi hd hy hM hF
    refine az_er 4 rfl ?_
    refine az_iaI rfl rfl (j := 1) rfl (by decide) (by decide) ((hM 1 (by decide)).trans (congrArg nI (if_neg (by omega)))) ?_
    refine az_ic_ge rfl rfl (fun c42 => absurd c42 (by rw [hy]; exact nI_ge (by omega) (by omega))) (fun c42 => ?_)
    refine az_er 19 rfl ?_
    refine az_iaI rfl rfl (ix_rk (r := i) (k := 1) hy rfl) (show 40 + 3 * i + 1 < 70 by omega) (by decide) ((hM (40 + 3 * i + 1) (by omega)).trans (congrArg nI (show _ = τ (41 + 3 * i) by rw [show 40 + 3 * i + 1 = 41 + 3 * i by omega, sq_ln_k, if_neg (Nat.lt_irrefl i)]))) ?_
    refine az_er 2 rfl ?_
    refine az_er 1 rfl ?_
    refine az_iasI rfl rfl (ix_rk (r := i) (k := 1) hy rfl) (show 40 + 3 * i + 1 < 70 by omega) (by decide) ?_
    refine az_er 2 rfl ?_
    refine ih (i + 1) _ _ (by omega) (by omega) (by rw [hy]; exact nI_1' i) (rt_M_up hM (fun j _ hj => sq_ln_s (by omega)) ?_) (fun a ha => by rw [az_up_o ha]; exact hF a ha)
    rw [show 40 + 3 * i + 1 = 41 + 3 * i by omega, sq_ln_k, if_pos (Nat.lt_succ_self i)]
    exact nI_m6b (hV.2.2.2.2.2.2.2.1 i (by omega)).2
set_option maxRecDepth 100000 in
theorem op_longer {x : Int32} : rt_op az_m_X7_longer az_m_X8_longer [.int x] := by
  intro sc σ h hC hW
  have b1 := hW.1.2.1
  rcases rt_cas (x := x) (lo := 1) (hi := 60) with hx | hx | hx
  · refine ⟨-4, sp_ref σ 4, hW, ?_, ?_⟩
    · refine az_er 3 rfl ?_
      refine az_ecallF rfl rfl rfl rfl (ct_outB hx) ?_
      refine az_er 2 rfl ?_
      refine az_if_eq rfl rfl (fun c9 => absurd c9 (by decide)) (fun c9 => ?_)
      refine az_er 2 rfl ?_
      refine az_ecall rfl rfl rfl rfl (ct_refuse hC (k := 4) (by decide) (by decide)) ?_
      rintro _ hh ⟨rfl, hh2, hh3⟩
      refine az_eret rfl rfl rfl ?_
      exact ⟨rfl, hh2, hh3⟩
    · intro h1 hR
      refine az_er 3 rfl ?_
      refine az_ecallF rfl rfl rfl rfl (cm_isWrong.eq (by rw [az_outB hx]) rfl) ?_
      refine az_if_eq rfl rfl (fun c7 => absurd c7 (by decide)) (fun c7 => ?_)
      refine az_er 4 rfl ?_
      refine az_ecallF rfl rfl rfl rfl (cm_isWrong.eq (by rw [az_outB hx]) rfl) ?_
      refine az_ecall rfl rfl rfl rfl (cm_no hR (k := 4) (by decide) (by decide)) ?_
      rintro _ hh ⟨rfl, hh2, hh3⟩
      refine az_eret rfl rfl rfl ?_
      exact ⟨rfl, hh2, hh3⟩
  · refine ⟨-6, sp_ref σ 6, hW, ?_, ?_⟩
    · refine az_er 3 rfl ?_
      refine az_ecallF rfl rfl rfl rfl (ct_outR hx.1 hx.2) ?_
      refine az_er 2 rfl ?_
      refine az_if_eq rfl rfl (fun c9 => absurd c9 (by decide)) (fun c9 => ?_)
      refine az_er 2 rfl ?_
      refine az_ecall rfl rfl rfl rfl (ct_refuse hC (k := 6) (by decide) (by decide)) ?_
      rintro _ hh ⟨rfl, hh2, hh3⟩
      refine az_eret rfl rfl rfl ?_
      exact ⟨rfl, hh2, hh3⟩
    · intro h1 hR
      refine az_er 3 rfl ?_
      refine az_ecallF rfl rfl rfl rfl ((cm_isWrong (y := 60)).eq (by rw [az_outR hx]) rfl) ?_
      refine az_if_eq rfl rfl (fun c7 => absurd c7 (by decide)) (fun c7 => ?_)
      refine az_er 4 rfl ?_
      refine az_ecallF rfl rfl rfl rfl ((cm_isWrong (y := 60)).eq (by rw [az_outR hx]) rfl) ?_
      refine az_ecall rfl rfl rfl rfl (cm_no hR (k := 6) (by decide) (by decide)) ?_
      rintro _ hh ⟨rfl, hh2, hh3⟩
      refine az_eret rfl rfl rfl ?_
      exact ⟨rfl, hh2, hh3⟩
  · obtain ⟨n, hn, rfl⟩ := rt_nat (x := x) (m := 60) (Int32.le_trans (by decide) hx.1) hx.2 (by decide)
    have hn1 : 1 ≤ n := (nI_leI (a := 1) (by omega) (by omega)).mp hx.1
    refine ⟨sq_sw (sq_ah (sq_ln σ.1 (σ.1 1))) n, σ, hW, ?_, ?_⟩
    · refine az_er 3 rfl ?_
      refine az_ecallF rfl rfl rfl rfl (ct_out0 hx.1 hx.2) ?_
      refine az_er 2 rfl ?_
      refine az_if_eq rfl rfl (fun c9 => ?_) (fun c9 => absurd rfl c9)
      refine az_er 3 rfl ?_
      refine az_ecall rfl rfl rfl rfl (ct_look hC.1 (ct_len1 hW.1) (rt_V_ln hW.1 hW.1.2.1) rfl (by omega)) ?_
      rintro _ h4 ⟨rfl, l1, l2, l4⟩
      refine az_er 2 rfl ?_
      refine az_ecallF rfl rfl rfl rfl (ct_swing rfl ⟨hn1, by omega⟩ l2) ?_
      refine az_eret rfl rfl rfl ?_
      exact ⟨rfl, rt_C_F hC (rt_Fs_m l4), fun a ha => l4 a (by omega) (by omega)⟩
    · intro h1 hR
      refine az_er 3 rfl ?_
      refine az_ecallF rfl rfl rfl rfl ((cm_isWrong (y := 60)).eq (by rw [az_out0 hx]) rfl) ?_
      refine az_if_eq rfl rfl (fun c7 => ?_) (fun c7 => absurd rfl c7)
      refine az_er 4 rfl ?_
      refine az_ecallF rfl rfl rfl rfl (cm_move rfl rfl (by decide)) ?_
      refine az_er 2 rfl ?_
      refine lm_len hW.1 (fun y h2 k1 k2 => ?_) (σ.1 1) 0 0 _ (Nat.zero_le _) (Nat.sub_zero _) rfl (rt_M_cong (rt_M_h hR.1 (az_cp_o (by decide))) (fun j _ => if_neg (by omega))) (fun _ _ => rfl)
      refine az_er 3 rfl ?_
      refine az_ecall rfl rfl rfl rfl (cm_gaN k1 (rt_V_ln hW.1 hW.1.2.1) rfl (by omega) rfl) ?_
      rintro _ h3 ⟨rfl, l1, l2, l3⟩
      refine az_er 5 rfl ?_
      refine az_ecallF rfl rfl rfl rfl (cm_move rfl rfl (by decide)) ?_
      refine az_er 2 rfl ?_
      refine az_ecallF rfl rfl rfl rfl (cm_swing rfl ⟨hn1, by omega⟩ (fun k hk => by rw [az_cp_o (by decide)]; exact l2 k hk)) ?_
      refine az_eret rfl rfl rfl ?_
      have u : ∀ a, a ≠ 61 → a ≠ 63 → (a < 68 ∨ 73 < a) → az_cp h3 73 61 70 a = h1 a := fun a p q r => by
        rw [az_cp_o p, l3 a p q (by omega) (by omega), k2 a p, az_cp_o (by omega)]
      refine ⟨rfl, rt_R_B hR (rt_M_cp (a := 73) ?_) u, fun a ha => u a (by omega) (by omega) (by omega)⟩
      refine rt_M_h (rt_M_cp (a := 61) (b := 73) hR.1) ?_
      rw [l3 73 (by decide) (by decide) (by decide) (by decide), k2 73 (by decide)]
