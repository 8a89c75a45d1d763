/-! STATEMENTS TOLD to a town -/
set_option maxRecDepth 100000 in
theorem ct_mf0 {sc : az_S} {τ : Nat → Nat} {h : az_H} (hT : rt_T 16 τ h) (hV : rt_V τ) {x y : Int32} {k : Nat} (hk : x = nI k) (hk6 : k < 6) (h2 : ¬ k = 2) (h3 : ¬ k = 3) : az_F sc az_m_X6_mayFollow [.ref 16, .int x, .int y] h (some (.int 1)) h := by
  refine az_F.of ?_
  refine az_er 2 rfl ?_
  refine az_ic_eq rfl rfl (fun c2 => absurd ((nI_eq (b := 2) (by omega) (by omega)).mp (hk ▸ c2)) h2) (fun c2 => ?_)
  refine az_er 2 rfl ?_
  refine az_ic_ne rfl rfl (fun c7 => ?_) (fun c7 => absurd ((nI_eq (b := 3) (by omega) (by omega)).mp (hk ▸ c7)) h3)
  refine az_er 3 rfl ?_
  refine az_if_eq rfl rfl (fun c17 => ?_) (fun c17 => absurd rfl c17)
  refine az_er 2 rfl ?_
  refine az_eret rfl rfl rfl ?_
  exact ⟨rfl, rfl⟩
set_option maxRecDepth 100000 in
theorem ct_mf1 {sc : az_S} {τ : Nat → Nat} {h : az_H} (hT : rt_T 16 τ h) (hV : rt_V τ) {x y : Int32} {k j : Nat} (hx : x = nI k) (hk : k = 2 ∨ k = 3) (hy : y = nI j) (hj9 : j ≤ 9) (hj : j < τ 1) : az_F sc az_m_X6_mayFollow [.ref 16, .int x, .int y] h (some (.int 1)) h := by
  subst hx
  subst hy
  refine az_F.of ?_
  rcases hk with rfl | rfl
  · refine az_er 2 rfl ?_
    refine az_ic_eq rfl rfl (fun c2 => ?_) (fun c2 => absurd rfl c2)
    refine az_er 4 rfl ?_
    refine az_if_eq rfl rfl (fun c17 => absurd c17 (by decide)) (fun c17 => ?_)
    refine az_er 3 rfl ?_
    refine az_ecallF rfl rfl rfl rfl ((ct_X3has_16 hT hV).eq (by rw [rt_hasY hj (by have := hV.2.1; omega)]) rfl) ?_
    refine az_if_eq rfl rfl (fun c28 => absurd c28 (by decide)) (fun c28 => ?_)
    refine az_er 2 rfl ?_
    refine az_eret rfl rfl rfl ?_
    exact ⟨rfl, rfl⟩
  · refine az_er 2 rfl ?_
    refine az_ic_eq rfl rfl (fun c2 => absurd c2 (by decide)) (fun c2 => ?_)
    refine az_er 2 rfl ?_
    refine az_ic_ne rfl rfl (fun c7 => absurd rfl c7) (fun c7 => ?_)
    refine az_er 4 rfl ?_
    refine az_if_eq rfl rfl (fun c17 => absurd c17 (by decide)) (fun c17 => ?_)
    refine az_er 3 rfl ?_
    refine az_ecallF rfl rfl rfl rfl ((ct_X3has_16 hT hV).eq (by rw [rt_hasY hj (by have := hV.2.1; omega)]) rfl) ?_
    refine az_if_eq rfl rfl (fun c28 => absurd c28 (by decide)) (fun c28 => ?_)
    refine az_er 2 rfl ?_
    refine az_eret rfl rfl rfl ?_
    exact ⟨rfl, rfl⟩
set_option maxRecDepth 100000 in
theorem ct_mf2 {sc : az_S} {τ : Nat → Nat} {h : az_H} (hT : rt_T 16 τ h) (hV : rt_V τ) {x y : Int32} {k j : Nat} (hx : x = nI k) (hk : k = 2 ∨ k = 3) (hy : y = nI j) (hj9 : j ≤ 9) (hj : τ 1 ≤ j) : az_F sc az_m_X6_mayFollow [.ref 16, .int x, .int y] h (some (.int 0)) h := by
  subst hx
  subst hy
  refine az_F.of ?_
  rcases hk with rfl | rfl
  · refine az_er 2 rfl ?_
    refine az_ic_eq rfl rfl (fun c2 => ?_) (fun c2 => absurd rfl c2)
    refine az_er 4 rfl ?_
    refine az_if_eq rfl rfl (fun c17 => absurd c17 (by decide)) (fun c17 => ?_)
    refine az_er 3 rfl ?_
    refine az_ecallF rfl rfl rfl rfl ((ct_X3has_16 hT hV).eq (by rw [rt_hasN (Or.inr (nI_le hj (by omega)))]) rfl) ?_
    refine az_if_eq rfl rfl (fun c28 => ?_) (fun c28 => absurd rfl c28)
    refine az_er 1 rfl ?_
    refine az_eret rfl rfl rfl ?_
    exact ⟨rfl, rfl⟩
  · refine az_er 2 rfl ?_
    refine az_ic_eq rfl rfl (fun c2 => absurd c2 (by decide)) (fun c2 => ?_)
    refine az_er 2 rfl ?_
    refine az_ic_ne rfl rfl (fun c7 => absurd rfl c7) (fun c7 => ?_)
    refine az_er 4 rfl ?_
    refine az_if_eq rfl rfl (fun c17 => absurd c17 (by decide)) (fun c17 => ?_)
    refine az_er 3 rfl ?_
    refine az_ecallF rfl rfl rfl rfl ((ct_X3has_16 hT hV).eq (by rw [rt_hasN (Or.inr (nI_le hj (by omega)))]) rfl) ?_
    refine az_if_eq rfl rfl (fun c28 => ?_) (fun c28 => absurd rfl c28)
    refine az_er 1 rfl ?_
    refine az_eret rfl rfl rfl ?_
    exact ⟨rfl, rfl⟩
set_option maxRecDepth 100000 in
theorem ct_sadd0 {sc : az_S} {τ : Nat → Nat} {h : az_H} {x0 x1 x2 x3 x4 x5 : Int32} {f0 : Nat} (hT : rt_T 16 τ h) (hV : rt_V τ) (hx0 : x0 = nI f0) (f9 : f0 ≤ 9) (hf : ¬ (1 ≤ f0 ∧ τ 0 < 4)) : az_F sc az_m_X4_add [.ref 17, .int x0, .int x1, .int x2, .int x3, .int x4, .int x5] h (some (.int 0)) h := by
  have n0 : h 17 6 = nI (τ 0) := hT.1.2.2.2.1
  have b0 := hV.1
  refine az_F.of ?_
  refine az_er 2 rfl ?_
  refine az_ic_lt rfl rfl (fun c2 => ?_) (fun c2 => ?_)
  · refine az_er 1 rfl ?_
    refine az_eret rfl rfl rfl ?_
    exact ⟨rfl, rfl⟩
  · refine az_er 2 rfl ?_
    refine az_ic_gt rfl rfl (fun c8 => absurd c8 (by rw [hx0]; exact nI_nlt (a := 9) f9 (by omega))) (fun c8 => ?_)
    refine az_er 3 rfl ?_
    rw [n0]
    refine az_ic_lt rfl rfl (fun c16 => absurd ⟨Nat.le_of_not_lt (fun q => c2 (by rw [hx0]; exact nI_lt (b := 1) q (by omega))), (nI_ltI (b := 4) (by omega) (by omega)).mp c16⟩ hf) (fun c16 => ?_)
    refine az_er 1 rfl ?_
    refine az_eret rfl rfl rfl ?_
    exact ⟨rfl, rfl⟩
set_option maxRecDepth 100000 in
theorem ct_radd0 {sc : az_S} {τ : Nat → Nat} {h : az_H} {x y : Int32} {sp : Nat} (hT : rt_T 16 τ h) (hV : rt_V τ) (hy : y = nI sp) (h9 : sp ≤ 9) (hf : ¬ (1 ≤ sp ∧ sp ≤ 6 ∧ τ 1 < 6)) : az_F sc az_m_X3_add [.ref 24, .int x, .int y] h (some (.int 0)) h := by
  have n1 : h 24 3 = nI (τ 1) := hT.1.2.2.2.2.1
  have b1 := hV.2.1
  refine az_F.of ?_
  refine az_er 2 rfl ?_
  refine az_ic_lt rfl rfl (fun c2 => ?_) (fun c2 => ?_)
  · refine az_er 1 rfl ?_
    refine az_eret rfl rfl rfl ?_
    exact ⟨rfl, rfl⟩
  · refine az_er 2 rfl ?_
    refine az_ic_gt rfl rfl (fun c8 => ?_) (fun c8 => ?_)
    · refine az_er 1 rfl ?_
      refine az_eret rfl rfl rfl ?_
      exact ⟨rfl, rfl⟩
    · refine az_er 3 rfl ?_
      rw [n1]
      refine az_ic_lt rfl rfl (fun c17 => absurd ⟨Nat.le_of_not_lt (fun q => c2 (by rw [hy]; exact nI_lt (b := 1) q (by omega))), Nat.le_of_not_lt (fun q => c8 (by rw [hy]; exact nI_lt (a := 6) q (by omega))), (nI_ltI (b := 6) (by omega) (by omega)).mp c17⟩ hf) (fun c17 => ?_)
      refine az_er 1 rfl ?_
      refine az_eret rfl rfl rfl ?_
      exact ⟨rfl, rfl⟩
set_option maxRecDepth 100000 in
theorem ct_sc0 {sc : az_S} {h : az_H} {x : Int32} {v : Nat} (hx : x = nI v) (hv : 60 < v) (hv9 : v < 1000) : az_F sc az_m_X6_setChairs [.ref 16, .int x] h (some (.int 0)) h := by
  refine az_F.of ?_
  refine az_er 1 rfl ?_
  refine az_if_lt rfl rfl (fun c1 => absurd c1 (by rw [hx]; exact nI_pos (by omega))) (fun c1 => ?_)
  refine az_er 2 rfl ?_
  refine az_ic_le rfl rfl (fun c7 => absurd c7 (by rw [hx]; exact fun q => absurd ((nI_leI (b := 60) (by omega) (by omega)).mp q) (by omega))) (fun c7 => ?_)
  refine az_er 1 rfl ?_
  refine az_eret rfl rfl rfl ?_
  exact ⟨rfl, rfl⟩
set_option maxRecDepth 100000 in
theorem ct_aw0 {sc : az_S} {h : az_H} {x : Int32} {v : Nat} (hx : x = nI v) (hv : 60 < v) (hv9 : v < 1000) : az_F sc az_m_X6_addWeek [.ref 16, .int x] h (some (.int 0)) h := by
  refine az_F.of ?_
  refine az_er 1 rfl ?_
  refine az_if_lt rfl rfl (fun c1 => absurd c1 (by rw [hx]; exact nI_pos (by omega))) (fun c1 => ?_)
  refine az_er 2 rfl ?_
  refine az_ic_le rfl rfl (fun c7 => absurd c7 (by rw [hx]; exact fun q => absurd ((nI_leI (b := 60) (by omega) (by omega)).mp q) (by omega))) (fun c7 => ?_)
  refine az_er 1 rfl ?_
  refine az_eret rfl rfl rfl ?_
  exact ⟨rfl, rfl⟩
set_option maxRecDepth 100000 in
theorem ct_sc1 {sc : az_S} {τ : Nat → Nat} {h : az_H} {x : Int32} {v : Nat} (hT : rt_T 16 τ h) (hx : x = nI v) (hv : v ≤ 60) : az_E sc az_m_X6_setChairs 0 [.ref 16, .int x] [] h (fun w h1 => w = some (.int 1) ∧ rt_T 16 (fun j => if j = 2 then v else τ j) h1 ∧ ∀ a, a < 16 ∨ 30 < a → h1 a = h a) := by
  refine az_er 1 rfl ?_
  refine az_if_lt rfl rfl (fun c1 => absurd c1 (by rw [hx]; exact nI_pos (by omega))) (fun c1 => ?_)
  refine az_er 2 rfl ?_
  refine az_ic_le rfl rfl (fun c7 => ?_) (fun c7 => absurd (by rw [hx]; exact nI_le (b := 60) hv (by omega)) c7)
  refine az_er 4 rfl ?_
  refine az_eret rfl rfl rfl ?_
  exact ⟨rfl, rt_T_ch hT (fun j hj => if_neg hj) (by rw [hx]; exact congrArg nI (if_pos rfl).symm), fun a ha => az_up_o (by omega)⟩
set_option maxRecDepth 100000 in
theorem ct_aw1 {sc : az_S} {τ : Nat → Nat} {h : az_H} (hT : rt_T 16 τ h) (hV : rt_V τ) {x : Int32} {v : Nat} (hx : x = nI v) (hv : v ≤ 60) : az_E sc az_m_X6_addWeek 0 [.ref 16, .int x] [] h (fun w h1 => w = some (.int 1) ∧ rt_T 16 (sq_mem τ v) h1 ∧ ∀ a, a < 16 ∨ 30 < a → h1 a = h a) := by
  refine az_er 1 rfl ?_
  refine az_if_lt rfl rfl (fun c1 => absurd c1 (by rw [hx]; exact nI_pos (by omega))) (fun c1 => ?_)
  refine az_er 2 rfl ?_
  refine az_ic_le rfl rfl (fun c7 => ?_) (fun c7 => absurd (by rw [hx]; exact nI_le (b := 60) hv (by omega)) c7)
  refine az_er 3 rfl ?_
  refine az_ecallF rfl rfl rfl rfl (ct_madd_16 hV.2.2.2.1 hT.1.2.2.2.2.2) ?_
  refine az_er 1 rfl ?_
  refine az_eret rfl rfl rfl ?_
  exact ⟨rfl, by rw [hx]; exact rt_T_mem hT, fun a ha => by rw [az_up_o (by omega), az_up_o (by omega), az_sh_o (by omega)]⟩
set_option maxRecDepth 100000 in
theorem ct_ts99 {sc : az_S} {τ : Nat → Nat} {h : az_H} (hT : rt_T 16 τ h) (hV : rt_V τ) {L : Nat → Nat} {n p : Nat} {x : Int32} (hL : rt_L L n h) (hx : x = nI p) (hpn : p < n) (he : (sq_e L n p).2 = true) (hs : L p = 99) : az_E sc az_m_X5_tellStatement 0 [.ref 46, .ref 16, .int x] [] h (fun v h1 => v = some (.int (sq_b (sq_va (τ 0) (τ 1) (sq_k L p) (sq_f L n p)))) ∧ (sq_va (τ 0) (τ 1) (sq_k L p) (sq_f L n p) = true → rt_T 16 (sq_ap τ (sq_k L p) (sq_f L n p)) h1) ∧ ∀ a, a < 16 ∨ 30 < a → h1 a = h a) := by
  have h80 := hL.1
  have h1 := sq_e_n (Or.inl hs) he
  have hn9 := sq_nm_le h1.1
  have e1 : sq_k L p = 0 := by rw [sq_k, if_pos hs]
  have f0 : sq_f L n p 0 = sq_nm L n (p + 1) := by rw [sq_f, if_neg (by omega), if_neg (by omega)]; rfl
  by_cases hm : sq_nm L n (p + 1) ≤ 60
  · refine az_er 2 rfl ?_
    refine az_ecallF rfl rfl rfl rfl ((ct_lat1 hL hx hpn).eq (by rw [hs]) rfl) ?_
    refine az_er 6 rfl ?_
    refine az_ecallF rfl rfl rfl rfl (ct_num hL (show _ = nI (p + 1) by rw [hx]; exact nI_add p 1) (by omega) h1.1) ?_
    refine az_ecall rfl rfl rfl rfl (ct_sc1 hT rfl hm) ?_
    rintro _ hh ⟨rfl, hh2, hh3⟩
    refine az_eret rfl rfl rfl ?_
    have hv : sq_va (τ 0) (τ 1) (sq_k L p) (sq_f L n p) = true := by rw [e1, sq_va, if_neg (by decide), if_neg (by decide), f0]; exact decide_eq_true hm
    refine ⟨by rw [hv]; rfl, fun _ => ?_, hh3⟩
    rw [e1, sq_ap, if_pos rfl, f0]
    exact hh2
  · refine az_er 2 rfl ?_
    refine az_ecallF rfl rfl rfl rfl ((ct_lat1 hL hx hpn).eq (by rw [hs]) rfl) ?_
    refine az_er 6 rfl ?_
    refine az_ecallF rfl rfl rfl rfl (ct_num hL (show _ = nI (p + 1) by rw [hx]; exact nI_add p 1) (by omega) h1.1) ?_
    refine az_ecallF rfl rfl rfl rfl (ct_sc0 rfl (Nat.lt_of_not_le hm) (by omega)) ?_
    refine az_eret rfl rfl rfl ?_
    have hv : sq_va (τ 0) (τ 1) (sq_k L p) (sq_f L n p) = false := by rw [e1, sq_va, if_neg (by decide), if_neg (by decide), f0]; exact decide_eq_false hm
    exact ⟨by rw [hv]; rfl, fun q => absurd (hv.symm.trans q) (by decide), fun _ _ => rfl⟩
set_option maxRecDepth 100000 in
theorem ct_ts119 {sc : az_S} {τ : Nat → Nat} {h : az_H} (hT : rt_T 16 τ h) (hV : rt_V τ) {L : Nat → Nat} {n p : Nat} {x : Int32} (hL : rt_L L n h) (hx : x = nI p) (hpn : p < n) (he : (sq_e L n p).2 = true) (hs : L p = 119) : az_E sc az_m_X5_tellStatement 0 [.ref 46, .ref 16, .int x] [] h (fun v h1 => v = some (.int (sq_b (sq_va (τ 0) (τ 1) (sq_k L p) (sq_f L n p)))) ∧ (sq_va (τ 0) (τ 1) (sq_k L p) (sq_f L n p) = true → rt_T 16 (sq_ap τ (sq_k L p) (sq_f L n p)) h1) ∧ ∀ a, a < 16 ∨ 30 < a → h1 a = h a) := by
  have h80 := hL.1
  have h1 := sq_e_n (Or.inr hs) he
  have hn9 := sq_nm_le h1.1
  have e1 : sq_k L p = 3 := by rw [sq_k, if_neg (by omega), if_neg (by omega), if_neg (by omega)]
  have f0 : sq_f L n p 0 = sq_nm L n (p + 1) := by rw [sq_f, if_neg (by omega), if_neg (by omega)]; rfl
  by_cases hm : sq_nm L n (p + 1) ≤ 60
  · refine az_er 2 rfl ?_
    refine az_ecallF rfl rfl rfl rfl ((ct_lat1 hL hx hpn).eq (by rw [hs]) rfl) ?_
    refine az_er 6 rfl ?_
    refine az_ecallF rfl rfl rfl rfl (ct_num hL (show _ = nI (p + 1) by rw [hx]; exact nI_add p 1) (by omega) h1.1) ?_
    refine az_ecall rfl rfl rfl rfl (ct_aw1 hT hV rfl hm) ?_
    rintro _ hh ⟨rfl, hh2, hh3⟩
    refine az_eret rfl rfl rfl ?_
    have hv : sq_va (τ 0) (τ 1) (sq_k L p) (sq_f L n p) = true := by rw [e1, sq_va, if_neg (by decide), if_neg (by decide), f0]; exact decide_eq_true hm
    refine ⟨by rw [hv]; rfl, fun _ => ?_, hh3⟩
    rw [e1, sq_ap, if_neg (by decide), if_neg (by decide), if_neg (by decide), f0]
    exact hh2
  · refine az_er 2 rfl ?_
    refine az_ecallF rfl rfl rfl rfl ((ct_lat1 hL hx hpn).eq (by rw [hs]) rfl) ?_
    refine az_er 6 rfl ?_
    refine az_ecallF rfl rfl rfl rfl (ct_num hL (show _ = nI (p + 1) by rw [hx]; exact nI_add p 1) (by omega) h1.1) ?_
    refine az_ecallF rfl rfl rfl rfl (ct_aw0 rfl (Nat.lt_of_not_le hm) (by omega)) ?_
    refine az_eret rfl rfl rfl ?_
    have hv : sq_va (τ 0) (τ 1) (sq_k L p) (sq_f L n p) = false := by rw [e1, sq_va, if_neg (by decide), if_neg (by decide), f0]; exact decide_eq_false hm
    exact ⟨by rw [hv]; rfl, fun q => absurd (hv.symm.trans q) (by decide), fun _ _ => rfl⟩
set_option maxRecDepth 100000 in
theorem ct_ts114 {sc : az_S} {τ : Nat → Nat} {h : az_H} (hT : rt_T 16 τ h) (hV : rt_V τ) {L : Nat → Nat} {n p : Nat} {x : Int32} (hL : rt_L L n h) (hx : x = nI p) (hpn : p < n) (he : (sq_e L n p).2 = true) (hs : L p = 114) : az_E sc az_m_X5_tellStatement 0 [.ref 46, .ref 16, .int x] [] h (fun v h1 => v = some (.int (sq_b (sq_va (τ 0) (τ 1) (sq_k L p) (sq_f L n p)))) ∧ (sq_va (τ 0) (τ 1) (sq_k L p) (sq_f L n p) = true → rt_T 16 (sq_ap τ (sq_k L p) (sq_f L n p)) h1) ∧ ∀ a, a < 16 ∨ 30 < a → h1 a = h a) := by
  have h80 := hL.1
  obtain ⟨b1, b2, b3, b4⟩ := sq_e_r hs he
  have d2 := sq_dgt b2
  have e1 : sq_k L p = 2 := by rw [sq_k, if_neg (by omega), if_neg (by omega), if_pos hs]
  have f0 : sq_f L n p 0 = sq_kj sq_kr (L (p + 1)) 6 0 := by rw [sq_f, if_neg (by omega), if_pos hs]; rfl
  have f1 : sq_f L n p 1 = L (p + 2) - 48 := by rw [sq_f, if_neg (by omega), if_pos hs]; rfl
  by_cases hm : 1 ≤ L (p + 2) - 48 ∧ L (p + 2) - 48 ≤ 6 ∧ τ 1 < 6
  · refine az_er 2 rfl ?_
    refine az_ecallF rfl rfl rfl rfl ((ct_lat1 hL hx hpn).eq (by rw [hs]) rfl) ?_
    refine az_er 8 rfl ?_
    refine az_ecallF rfl rfl rfl rfl ((ct_kat6 hL (show _ = nI (p + 1) by rw [hx]; exact nI_add p 1) (by omega)).eq (by rw [sq_kx_v b1]) rfl) ?_
    refine az_er 4 rfl ?_
    refine az_ecallF rfl rfl rfl rfl (ct_dig hL (show _ = nI (p + 2) by rw [hx]; exact nI_add p 2) b2) ?_
    refine az_ecall rfl rfl rfl rfl (ct_radd hT hm.2.2 ⟨hm.1, hm.2.1⟩ rfl rfl) ?_
    rintro _ hh ⟨rfl, hh2, hh3⟩
    refine az_eret rfl rfl rfl ?_
    have hv : sq_va (τ 0) (τ 1) (sq_k L p) (sq_f L n p) = true := by rw [e1, sq_va, if_neg (by decide), if_pos rfl, f1]; exact decide_eq_true hm
    refine ⟨by rw [hv]; rfl, fun _ => ?_, fun a ha => hh3 a (by omega)⟩
    rw [e1, sq_ap, if_neg (by decide), if_neg (by decide), if_pos rfl, f0, f1]
    exact hh2
  · refine az_er 2 rfl ?_
    refine az_ecallF rfl rfl rfl rfl ((ct_lat1 hL hx hpn).eq (by rw [hs]) rfl) ?_
    refine az_er 8 rfl ?_
    refine az_ecallF rfl rfl rfl rfl ((ct_kat6 hL (show _ = nI (p + 1) by rw [hx]; exact nI_add p 1) (by omega)).eq (by rw [sq_kx_v b1]) rfl) ?_
    refine az_er 4 rfl ?_
    refine az_ecallF rfl rfl rfl rfl (ct_dig hL (show _ = nI (p + 2) by rw [hx]; exact nI_add p 2) b2) ?_
    refine az_ecallF rfl rfl rfl rfl (ct_radd0 hT hV rfl (by omega) hm) ?_
    refine az_eret rfl rfl rfl ?_
    have hv : sq_va (τ 0) (τ 1) (sq_k L p) (sq_f L n p) = false := by rw [e1, sq_va, if_neg (by decide), if_pos rfl, f1]; exact decide_eq_false hm
    exact ⟨by rw [hv]; rfl, fun q => absurd (hv.symm.trans q) (by decide), fun _ _ => rfl⟩
set_option maxRecDepth 100000 in
theorem ct_tsort {sc : az_S} {τ : Nat → Nat} {h : az_H} (hT : rt_T 16 τ h) (hV : rt_V τ) {L : Nat → Nat} {n p : Nat} {x : Int32} (hL : rt_L L n h) (hx : x = nI p) (hpn : p < n) (he : (sq_e L n p).2 = true) (hs : L p = 115) : az_E sc az_m_X5_tellSort 0 [.ref 46, .ref 16, .int x] [] h (fun v h1 => v = some (.int (sq_b (sq_va (τ 0) (τ 1) (sq_k L p) (sq_f L n p)))) ∧ (sq_va (τ 0) (τ 1) (sq_k L p) (sq_f L n p) = true → rt_T 16 (sq_ap τ (sq_k L p) (sq_f L n p)) h1) ∧ ∀ a, a < 16 ∨ 30 < a → h1 a = h a) := by
  have h80 := hL.1
  obtain ⟨b1, b2, b3, b4, b5, b6, b7, b8, b9⟩ := sq_e_s hs he
  have d1 := sq_dgt b1
  have d3 := sq_dgt b3
  have k6 := (sq_knd b2).2
  have e1 : sq_k L p = 1 := by rw [sq_k, if_neg (by omega), if_pos hs]
  have f0 : sq_f L n p 0 = L (p + 1) - 48 := by rw [sq_f, if_pos hs]; rfl
  have f1 : sq_f L n p 1 = sq_kj sq_kg (L (p + 2)) 6 0 := by rw [sq_f, if_pos hs]; rfl
  have f2 : sq_f L n p 2 = L (p + 3) - 48 := by rw [sq_f, if_pos hs]; rfl
  have f3 : sq_f L n p 3 = L (p + 5) - 48 := by rw [sq_f, if_pos hs]; rfl
  have f4 : sq_f L n p 4 = L (p + 6) - 48 := by rw [sq_f, if_pos hs]; rfl
  have f5 : sq_f L n p 5 = L (p + 7) - 48 := by rw [sq_f, if_pos hs]; rfl
  by_cases hk : sq_kj sq_kg (L (p + 2)) 6 0 = 2 ∨ sq_kj sq_kg (L (p + 2)) 6 0 = 3
  · by_cases hj : L (p + 3) - 48 < τ 1
    · skip
      by_cases hq : 1 ≤ L (p + 1) - 48 ∧ τ 0 < 4
      · refine az_er 5 rfl ?_
        refine az_ecallF rfl rfl rfl rfl ((ct_kat5 hL (show _ = nI (p + 2) by rw [hx]; exact nI_add p 2) (by omega)).eq (by rw [sq_kx_v b2]) rfl) ?_
        refine az_er 5 rfl ?_
        refine az_ecallF rfl rfl rfl rfl (ct_dig hL (show _ = nI (p + 3) by rw [hx]; exact nI_add p 3) b3) ?_
        refine az_er 4 rfl ?_
        refine az_ecallF rfl rfl rfl rfl (ct_mf1 hT hV rfl hk rfl (by omega) hj) ?_
        refine az_if_eq rfl rfl (fun c26 => absurd c26 (by decide)) (fun c26 => ?_)
        refine az_er 6 rfl ?_
        refine az_ecallF rfl rfl rfl rfl (ct_dig hL (show _ = nI (p + 1) by rw [hx]; exact nI_add p 1) b1) ?_
        refine az_er 6 rfl ?_
        refine az_ecallF rfl rfl rfl rfl (ct_dig hL (show _ = nI (p + 5) by rw [hx]; exact nI_add p 5) b5) ?_
        refine az_er 4 rfl ?_
        refine az_ecallF rfl rfl rfl rfl (ct_dig hL (show _ = nI (p + 6) by rw [hx]; exact nI_add p 6) b6) ?_
        refine az_er 4 rfl ?_
        refine az_ecallF rfl rfl rfl rfl (ct_dig hL (show _ = nI (p + 7) by rw [hx]; exact nI_add p 7) b7) ?_
        refine az_ecall rfl rfl rfl rfl (ct_sadd (f := sq_f L n p) hT hq.2 ⟨by rw [f0]; exact hq.1, by rw [f0]; omega⟩ (by rw [f0]) (by rw [f1]) (by rw [f2]) (by rw [f3]) (by rw [f4]) (by rw [f5])) ?_
        rintro _ hh ⟨rfl, hh2, hh3⟩
        refine az_if_eq rfl rfl (fun c69 => absurd c69 (by decide)) (fun c69 => ?_)
        refine az_er 2 rfl ?_
        refine az_eret rfl rfl rfl ?_
        have hv : sq_va (τ 0) (τ 1) (sq_k L p) (sq_f L n p) = true := by rw [e1, sq_va, if_pos rfl, f0, f1, f2]; exact decide_eq_true ⟨hq.1, hq.2, fun _ => hj⟩
        refine ⟨by rw [hv]; rfl, fun _ => ?_, fun a ha => hh3 a (by omega)⟩
        rw [e1, sq_ap, if_neg (by decide), if_pos rfl]
        exact hh2
      · refine az_er 5 rfl ?_
        refine az_ecallF rfl rfl rfl rfl ((ct_kat5 hL (show _ = nI (p + 2) by rw [hx]; exact nI_add p 2) (by omega)).eq (by rw [sq_kx_v b2]) rfl) ?_
        refine az_er 5 rfl ?_
        refine az_ecallF rfl rfl rfl rfl (ct_dig hL (show _ = nI (p + 3) by rw [hx]; exact nI_add p 3) b3) ?_
        refine az_er 4 rfl ?_
        refine az_ecallF rfl rfl rfl rfl (ct_mf1 hT hV rfl hk rfl (by omega) hj) ?_
        refine az_if_eq rfl rfl (fun c26 => absurd c26 (by decide)) (fun c26 => ?_)
        refine az_er 6 rfl ?_
        refine az_ecallF rfl rfl rfl rfl (ct_dig hL (show _ = nI (p + 1) by rw [hx]; exact nI_add p 1) b1) ?_
        refine az_er 6 rfl ?_
        refine az_ecallF rfl rfl rfl rfl (ct_dig hL (show _ = nI (p + 5) by rw [hx]; exact nI_add p 5) b5) ?_
        refine az_er 4 rfl ?_
        refine az_ecallF rfl rfl rfl rfl (ct_dig hL (show _ = nI (p + 6) by rw [hx]; exact nI_add p 6) b6) ?_
        refine az_er 4 rfl ?_
        refine az_ecallF rfl rfl rfl rfl (ct_dig hL (show _ = nI (p + 7) by rw [hx]; exact nI_add p 7) b7) ?_
        refine az_ecallF rfl rfl rfl rfl (ct_sadd0 hT hV rfl (by omega) hq) ?_
        refine az_if_eq rfl rfl (fun c69 => ?_) (fun c69 => absurd rfl c69)
        refine az_er 1 rfl ?_
        refine az_eret rfl rfl rfl ?_
        have hv : sq_va (τ 0) (τ 1) (sq_k L p) (sq_f L n p) = false := by rw [e1, sq_va, if_pos rfl, f0, f1, f2]; exact decide_eq_false (fun q => hq ⟨q.1, q.2.1⟩)
        exact ⟨by rw [hv]; rfl, fun q => absurd (hv.symm.trans q) (by decide), fun _ _ => rfl⟩
    · skip
      refine az_er 5 rfl ?_
      refine az_ecallF rfl rfl rfl rfl ((ct_kat5 hL (show _ = nI (p + 2) by rw [hx]; exact nI_add p 2) (by omega)).eq (by rw [sq_kx_v b2]) rfl) ?_
      refine az_er 5 rfl ?_
      refine az_ecallF rfl rfl rfl rfl (ct_dig hL (show _ = nI (p + 3) by rw [hx]; exact nI_add p 3) b3) ?_
      refine az_er 4 rfl ?_
      refine az_ecallF rfl rfl rfl rfl (ct_mf2 hT hV rfl hk rfl (by omega) (by omega)) ?_
      refine az_if_eq rfl rfl (fun c26 => ?_) (fun c26 => absurd rfl c26)
      refine az_er 1 rfl ?_
      refine az_eret rfl rfl rfl ?_
      have hv : sq_va (τ 0) (τ 1) (sq_k L p) (sq_f L n p) = false := by rw [e1, sq_va, if_pos rfl, f0, f1, f2]; exact decide_eq_false (fun q => hj (q.2.2 hk))
      exact ⟨by rw [hv]; rfl, fun q => absurd (hv.symm.trans q) (by decide), fun _ _ => rfl⟩
  · have h2 : ¬ sq_kj sq_kg (L (p + 2)) 6 0 = 2 := fun q => hk (Or.inl q)
    have h3 : ¬ sq_kj sq_kg (L (p + 2)) 6 0 = 3 := fun q => hk (Or.inr q)
    by_cases hq : 1 ≤ L (p + 1) - 48 ∧ τ 0 < 4
    · refine az_er 5 rfl ?_
      refine az_ecallF rfl rfl rfl rfl ((ct_kat5 hL (show _ = nI (p + 2) by rw [hx]; exact nI_add p 2) (by omega)).eq (by rw [sq_kx_v b2]) rfl) ?_
      refine az_er 5 rfl ?_
      refine az_ecallF rfl rfl rfl rfl (ct_dig hL (show _ = nI (p + 3) by rw [hx]; exact nI_add p 3) b3) ?_
      refine az_er 4 rfl ?_
      refine az_ecallF rfl rfl rfl rfl (ct_mf0 hT hV rfl k6 h2 h3) ?_
      refine az_if_eq rfl rfl (fun c26 => absurd c26 (by decide)) (fun c26 => ?_)
      refine az_er 6 rfl ?_
      refine az_ecallF rfl rfl rfl rfl (ct_dig hL (show _ = nI (p + 1) by rw [hx]; exact nI_add p 1) b1) ?_
      refine az_er 6 rfl ?_
      refine az_ecallF rfl rfl rfl rfl (ct_dig hL (show _ = nI (p + 5) by rw [hx]; exact nI_add p 5) b5) ?_
      refine az_er 4 rfl ?_
      refine az_ecallF rfl rfl rfl rfl (ct_dig hL (show _ = nI (p + 6) by rw [hx]; exact nI_add p 6) b6) ?_
      refine az_er 4 rfl ?_
      refine az_ecallF rfl rfl rfl rfl (ct_dig hL (show _ = nI (p + 7) by rw [hx]; exact nI_add p 7) b7) ?_
      refine az_ecall rfl rfl rfl rfl (ct_sadd (f := sq_f L n p) hT hq.2 ⟨by rw [f0]; exact hq.1, by rw [f0]; omega⟩ (by rw [f0]) (by rw [f1]) (by rw [f2]) (by rw [f3]) (by rw [f4]) (by rw [f5])) ?_
      rintro _ hh ⟨rfl, hh2, hh3⟩
      refine az_if_eq rfl rfl (fun c69 => absurd c69 (by decide)) (fun c69 => ?_)
      refine az_er 2 rfl ?_
      refine az_eret rfl rfl rfl ?_
      have hv : sq_va (τ 0) (τ 1) (sq_k L p) (sq_f L n p) = true := by rw [e1, sq_va, if_pos rfl, f0, f1, f2]; exact decide_eq_true ⟨hq.1, hq.2, fun q => absurd q hk⟩
      refine ⟨by rw [hv]; rfl, fun _ => ?_, fun a ha => hh3 a (by omega)⟩
      rw [e1, sq_ap, if_neg (by decide), if_pos rfl]
      exact hh2
    · refine az_er 5 rfl ?_
      refine az_ecallF rfl rfl rfl rfl ((ct_kat5 hL (show _ = nI (p + 2) by rw [hx]; exact nI_add p 2) (by omega)).eq (by rw [sq_kx_v b2]) rfl) ?_
      refine az_er 5 rfl ?_
      refine az_ecallF rfl rfl rfl rfl (ct_dig hL (show _ = nI (p + 3) by rw [hx]; exact nI_add p 3) b3) ?_
      refine az_er 4 rfl ?_
      refine az_ecallF rfl rfl rfl rfl (ct_mf0 hT hV rfl k6 h2 h3) ?_
      refine az_if_eq rfl rfl (fun c26 => absurd c26 (by decide)) (fun c26 => ?_)
      refine az_er 6 rfl ?_
      refine az_ecallF rfl rfl rfl rfl (ct_dig hL (show _ = nI (p + 1) by rw [hx]; exact nI_add p 1) b1) ?_
      refine az_er 6 rfl ?_
      refine az_ecallF rfl rfl rfl rfl (ct_dig hL (show _ = nI (p + 5) by rw [hx]; exact nI_add p 5) b5) ?_
      refine az_er 4 rfl ?_
      refine az_ecallF rfl rfl rfl rfl (ct_dig hL (show _ = nI (p + 6) by rw [hx]; exact nI_add p 6) b6) ?_
      refine az_er 4 rfl ?_
      refine az_ecallF rfl rfl rfl rfl (ct_dig hL (show _ = nI (p + 7) by rw [hx]; exact nI_add p 7) b7) ?_
      refine az_ecallF rfl rfl rfl rfl (ct_sadd0 hT hV rfl (by omega) hq) ?_
      refine az_if_eq rfl rfl (fun c69 => ?_) (fun c69 => absurd rfl c69)
      refine az_er 1 rfl ?_
      refine az_eret rfl rfl rfl ?_
      have hv : sq_va (τ 0) (τ 1) (sq_k L p) (sq_f L n p) = false := by rw [e1, sq_va, if_pos rfl, f0, f1, f2]; exact decide_eq_false (fun q => hq ⟨q.1, q.2.1⟩)
      exact ⟨by rw [hv]; rfl, fun q => absurd (hv.symm.trans q) (by decide), fun _ _ => rfl⟩
set_option maxRecDepth 100000 in
theorem ct_ts115 {sc : az_S} {τ : Nat → Nat} {h : az_H} (hT : rt_T 16 τ h) (hV : rt_V τ) {L : Nat → Nat} {n p : Nat} {x : Int32} (hL : rt_L L n h) (hx : x = nI p) (hpn : p < n) (he : (sq_e L n p).2 = true) (hs : L p = 115) : az_E sc az_m_X5_tellStatement 0 [.ref 46, .ref 16, .int x] [] h (fun v h1 => v = some (.int (sq_b (sq_va (τ 0) (τ 1) (sq_k L p) (sq_f L n p)))) ∧ (sq_va (τ 0) (τ 1) (sq_k L p) (sq_f L n p) = true → rt_T 16 (sq_ap τ (sq_k L p) (sq_f L n p)) h1) ∧ ∀ a, a < 16 ∨ 30 < a → h1 a = h a) := by
  refine az_er 2 rfl ?_
  refine az_ecallF rfl rfl rfl rfl ((ct_lat1 hL hx hpn).eq (by rw [hs]) rfl) ?_
  refine az_er 4 rfl ?_
  refine az_ecall rfl rfl rfl rfl (ct_tsort hT hV hL hx hpn he hs) ?_
  rintro _ hh ⟨rfl, hh2, hh3⟩
  refine az_zret rfl rfl ((by cases sq_va (τ 0) (τ 1) (sq_k L p) (sq_f L n p) with | true => exact Or.inr rfl | false => exact Or.inl rfl)) ?_
  exact ⟨rfl, hh2, hh3⟩
set_option maxRecDepth 100000 in
theorem ct_ts {sc : az_S} {τ : Nat → Nat} {h : az_H} (hT : rt_T 16 τ h) (hV : rt_V τ) {L : Nat → Nat} {n p : Nat} {x : Int32} (hL : rt_L L n h) (hx : x = nI p) (hpn : p < n) (he : (sq_e L n p).2 = true) : az_E sc az_m_X5_tellStatement 0 [.ref 46, .ref 16, .int x] [] h (fun v h1 => v = some (.int (sq_b (sq_va (τ 0) (τ 1) (sq_k L p) (sq_f L n p)))) ∧ (sq_va (τ 0) (τ 1) (sq_k L p) (sq_f L n p) = true → rt_T 16 (sq_ap τ (sq_k L p) (sq_f L n p)) h1) ∧ ∀ a, a < 16 ∨ 30 < a → h1 a = h a) := by
  rcases sq_e_k he with hs | hs | hs | hs
  · exact ct_ts99 hT hV hL hx hpn he hs
  · exact ct_ts119 hT hV hL hx hpn he hs
  · exact ct_ts115 hT hV hL hx hpn he hs
  · exact ct_ts114 hT hV hL hx hpn he hs
/-- what the statements from p on make of a town: where one doesn't make sense, whether all do -/
def sq_al (L : Nat → Nat) (n : Nat) : Nat → Nat → (Nat → Nat) → Nat × Bool × (Nat → Nat)
  | 0, p, τ => (p, true, τ)
  | d + 1, p, τ => if p < n then (if sq_va (τ 0) (τ 1) (sq_k L p) (sq_f L n p) = true then sq_al L n d (sq_e L n p).1 (sq_ap τ (sq_k L p) (sq_f L n p)) else (p, false, τ)) else (p, true, τ)
theorem sq_al_e {L : Nat → Nat} {n d p : Nat} {τ : Nat → Nat} (h : n ≤ p) : sq_al L n d p τ = (p, true, τ) := by
  cases d with
  | zero => rfl
  | succ d => rw [sq_al, if_neg (by omega)]
theorem sq_p1_w {L : Nat → Nat} {n d p k : Nat} (h : p < n) (hw : (sq_p1 L n (d + 1) p k).2.2 = true) : (sq_e L n p).2 = true ∧ sq_p1 L n (d + 1) p k = sq_p1 L n d (sq_e L n p).1 (k + 1) := by
  cases he : (sq_e L n p).2 with
  | true => exact ⟨rfl, by rw [sq_p1, if_pos h, he, if_pos rfl]⟩
  | false =>
    rw [sq_p1, if_pos h, he, if_neg (by decide)] at hw
    exact absurd hw (by simp)
theorem sq_s_b {c : Nat → Bool} {s : Nat × Bool} : s.1 ≤ (sq_s c s).1 ∧ (sq_s c s).1 ≤ s.1 + 1 := by
  unfold sq_s
  split
  · exact ⟨Nat.le_succ _, Nat.le_refl _⟩
  · exact ⟨Nat.le_refl _, Nat.le_succ _⟩
theorem sq_s_bb {c : Nat → Bool} {s : Nat × Bool} {p a : Nat} (h : p ≤ s.1 ∧ s.1 ≤ p + a) : p ≤ (sq_s c s).1 ∧ (sq_s c s).1 ≤ p + (a + 1) := by
  have := sq_s_b (c := c) (s := s)
  omega
theorem sq_e_b {L : Nat → Nat} {n p : Nat} : p ≤ (sq_e L n p).1 ∧ (sq_e L n p).1 ≤ p + 9 := by
  have h0 : p ≤ (p + 1, true).1 ∧ (p + 1, true).1 ≤ p + 1 := ⟨Nat.le_succ p, Nat.le_refl _⟩
  rw [sq_e]
  rcases sq_fm_c (L := L) (n := n) (p := p) with hf | hf | hf | hf | hf <;> rw [hf, sq_S]
  · have := sq_s_bb (c := sq_ch L n 59) (sq_s_bb (c := sq_dg L n) (sq_s_bb (c := sq_dg L n) h0))
    omega
  · have := sq_s_bb (c := sq_ch L n 59) (sq_s_bb (c := sq_dg L n) h0)
    omega
  · have := sq_s_bb (c := sq_ch L n 59) (sq_s_bb (c := sq_dg L n) (sq_s_bb (c := sq_dg L n) (sq_s_bb (c := sq_dg L n) (sq_s_bb (c := sq_ch L n 44) (sq_s_bb (c := sq_dg L n) (sq_s_bb (c := sq_kn L n sq_kg 6) (sq_s_bb (c := sq_dg L n) h0)))))))
    omega
  · have := sq_s_bb (c := sq_ch L n 59) (sq_s_bb (c := sq_dg L n) (sq_s_bb (c := sq_kn L n sq_kr 6) h0))
    omega
  · exact ⟨Nat.le_refl _, Nat.le_add_right _ _⟩
  all_goals decide
theorem sq_e_le {L : Nat → Nat} {n p : Nat} (he : (sq_e L n p).2 = true) : p + 1 ≤ (sq_e L n p).1 ∧ (sq_e L n p).1 ≤ p + 9 := by
  refine ⟨?_, sq_e_b.2⟩
  rcases sq_e_k he with hs | hs | hs | hs
  · have := sq_e_n (Or.inl hs) he; omega
  · have := sq_e_n (Or.inr hs) he; omega
  · have := sq_e_s hs he; omega
  · have := sq_e_r hs he; omega
theorem sq_p1_n {L : Nat → Nat} {n : Nat} : ∀ d p k, k ≤ (sq_p1 L n d p k).1
  | 0, p, k => Nat.le_refl k
  | d + 1, p, k => by
    rw [sq_p1]
    split
    · split
      · exact Nat.le_trans (Nat.le_succ k) (sq_p1_n d _ (k + 1))
      · exact Nat.le_refl k
    · exact Nat.le_refl k
theorem sq_p1_le {L : Nat → Nat} {n : Nat} (hn : n ≤ 80) : ∀ d p k, k ≤ p → p ≤ 89 → (sq_p1 L n d p k).1 ≤ (sq_p1 L n d p k).2.1 ∧ (sq_p1 L n d p k).2.1 ≤ 89
  | 0, p, k, h, h2 => by rw [sq_p1]; exact ⟨h, h2⟩
  | d + 1, p, k, h, h2 => by
    rw [sq_p1]
    have hb := sq_e_b (L := L) (n := n) (p := p)
    split
    · split
      · rename_i h3 h4
        have := sq_e_le h4
        exact sq_p1_le hn d _ (k + 1) (by omega) (by omega)
      · exact ⟨by show k ≤ (sq_e L n p).1; omega, by show (sq_e L n p).1 ≤ 89; omega⟩
    · exact ⟨h, h2⟩
def sq_tw (L : Nat → Nat) (n : Nat) (τ : Nat → Nat) : Int32 × (Nat → Nat) := if n = 0 then (-1000 - nI 0, τ) else if (sq_p1 L n n 0 0).2.2 = true then (if (sq_al L n n 0 τ).2.1 = true then (nI (sq_p1 L n n 0 0).1, (sq_al L n n 0 τ).2.2) else (-2000 - nI (sq_al L n n 0 τ).1, τ)) else (-1000 - nI (sq_p1 L n n 0 0).2.1, τ)
theorem rt_V_al {L : Nat → Nat} {n : Nat} : ∀ d p k τ, rt_V τ → (sq_p1 L n d p k).2.2 = true → (sq_al L n d p τ).2.1 = true → rt_V (sq_al L n d p τ).2.2
  | 0, p, k, τ, hV, _, _ => hV
  | d + 1, p, k, τ, hV, hw, ha => by
    by_cases h : p < n
    · obtain ⟨h1, h2⟩ := sq_p1_w h hw
      rw [h2] at hw
      rw [sq_al, if_pos h] at ha ⊢
      by_cases h3 : sq_va (τ 0) (τ 1) (sq_k L p) (sq_f L n p) = true
      · rw [if_pos h3] at ha ⊢
        exact rt_V_al d _ (k + 1) _ (rt_V_ap hV h1 h3) hw ha
      · rw [if_neg h3] at ha
        exact absurd ha (by simp)
    · rw [sq_al_e (by omega)]
      exact hV
theorem sq_al_le {L : Nat → Nat} {n : Nat} (hn : n ≤ 80) : ∀ d p τ, p ≤ 89 → (sq_al L n d p τ).1 ≤ 89
  | 0, p, τ, h => h
  | d + 1, p, τ, h => by
    rw [sq_al]
    have hb := sq_e_b (L := L) (n := n) (p := p)
    split
    · split
      · exact sq_al_le hn d _ _ (by omega)
      · exact h
    · exact h
theorem rt_W_tw {L : Nat → Nat} {n : Nat} {τ : Nat → Nat} (hV : rt_V τ) : rt_V (sq_tw L n τ).2 := by
  unfold sq_tw
  split
  · exact hV
  · split
    · rename_i h1
      split
      · rename_i h2
        exact rt_V_al n 0 0 τ hV h1 h2
      · exact hV
    · exact hV
set_option maxRecDepth 100000 in
theorem lp_tell {sc : az_S} {h : az_H} {L : Nat → Nat} {n : Nat} {b9 : Int32} (hL : rt_L L n h) : ∀ (d p k : Nat) (τ : Nat → Nat) (x c : Int32) (hh : az_H), n ≤ p + d → p ≤ 100 → (sq_p1 L n d p k).2.2 = true → x = nI p → c = nI k → rt_T 16 τ hh → rt_V τ → (∀ a, a < 16 ∨ 30 < a → hh a = h a) → az_E sc az_m_X5_tellTo 20 [.ref 46, .ref 16, .int b9, .int c, .int x] [] hh (fun v h1 => ((sq_al L n d p τ).2.1 = true → v = some (.int (nI (sq_p1 L n d p k).1)) ∧ rt_T 16 (sq_al L n d p τ).2.2 h1) ∧ ((sq_al L n d p τ).2.1 = false → v = some (.int (-2000 - nI (sq_al L n d p τ).1))) ∧ ∀ a, a < 16 ∨ 30 < a → h1 a = h a) := by
  have h80 := hL.1
  intro d
  induction d with
  | zero =>
    intro p k τ x c hh hd hp9 hw hx hk hT hV hF
    have hL2 : rt_L L n hh := ⟨hL.1, hL.2.1, by rw [hF 46 (by omega)]; exact hL.2.2.1, by rw [hF 47 (by omega)]; exact hL.2.2.2⟩
    have hge : n ≤ p := by omega
    refine az_er 3 rfl ?_
    rw [hL2.2.2.1]
    refine az_ic_ge rfl rfl (fun c26 => ?_) (fun c26 => absurd (by rw [hx]; exact nI_le hge (by omega)) c26)
    refine az_er 1 rfl ?_
    refine az_eret rfl rfl rfl ?_
    exact ⟨fun _ => ⟨by rw [sq_p1_e hge, hk], by rw [sq_al_e hge]; exact hT⟩, fun q => absurd (show (sq_al L n (0) p τ).2.1 = true by rw [sq_al_e hge]) (by rw [q]; decide), hF⟩
  | succ d ih =>
    intro p k τ x c hh hd hp9 hw hx hk hT hV hF
    have hL2 : rt_L L n hh := ⟨hL.1, hL.2.1, by rw [hF 46 (by omega)]; exact hL.2.2.1, by rw [hF 47 (by omega)]; exact hL.2.2.2⟩
    by_cases hpn : p < n
    · obtain ⟨he, h1⟩ := sq_p1_w hpn hw
      rw [h1] at hw ⊢
      refine az_er 3 rfl ?_
      rw [hL2.2.2.1]
      refine az_ic_ge rfl rfl (fun c26 => absurd c26 (by rw [hx]; exact nI_ge hpn (by omega))) (fun c26 => ?_)
      refine az_er 3 rfl ?_
      refine az_ecall rfl rfl rfl rfl (ct_ts hT hV hL2 hx hpn he) ?_
      rintro _ hh2 ⟨rfl, q2, q3⟩
      cases hv : sq_va (τ 0) (τ 1) (sq_k L p) (sq_f L n p)
      · skip
        refine az_if_ne rfl rfl (fun c36 => absurd rfl c36) (fun c36 => ?_)
        refine az_er 3 rfl ?_
        refine az_eret rfl rfl rfl ?_
        have ha9 : sq_al L n (d + 1) p τ = (p, false, τ) := by rw [sq_al, if_pos hpn, if_neg (by rw [hv]; decide)]
        exact ⟨fun q => by rw [ha9] at q; exact absurd q (by simp), fun _ => by rw [ha9, hx]; rfl, fun a ha => (q3 a ha).trans (hF a ha)⟩
      · skip
        refine az_if_ne rfl rfl (fun c36 => ?_) (fun c36 => absurd c36 (by decide))
        have ha9 : sq_al L n (d + 1) p τ = sq_al L n d (sq_e L n p).1 (sq_ap τ (sq_k L p) (sq_f L n p)) := by rw [sq_al, if_pos hpn, if_pos hv]
        have hL3 : rt_L L n hh2 := ⟨hL.1, hL.2.1, by rw [q3 46 (by omega)]; exact hL2.2.2.1, by rw [q3 47 (by omega)]; exact hL2.2.2.2⟩
        have hle := sq_e_le he
        rcases sq_fm_c (L := L) (n := n) (p := p) with hf | hf | hf | hf | hf
        · have hq : (sq_e L n p).1 = p + (1 + 3) := by
            have e9 : sq_e L n p = sq_S L n p 0 := by rw [sq_e, hf]
            have he2 := he
            rw [e9, sq_S] at he2
            rw [e9, sq_S]
            obtain ⟨g0, a0, b0⟩ := sq_s_2 he2
            obtain ⟨g1, a1, b1⟩ := sq_s_2 g0
            obtain ⟨g2, a2, b2⟩ := sq_s_2 g1
            rw [b0, b1, b2]
          refine az_er 5 rfl ?_
          refine az_ecallF rfl rfl rfl rfl ((ct_form hL3 hx hpn).eq (by rw [hf]) rfl) ?_
          refine az_ecallF rfl rfl rfl rfl (⟨20, rfl⟩ : az_F sc az_m_J0_length_8abf5 [.ref 1000] hh2 (some (.int (nI 3))) hh2) ?_
          refine az_er 4 rfl ?_
          refine az_E.mono (ih (sq_e L n p).1 (k + 1) (sq_ap τ (sq_k L p) (sq_f L n p)) _ _ hh2 (by omega) (by omega) hw (by rw [hx, hq]; exact (congrArg (fun q => nI p + q) (nI_add 1 3)).trans (nI_add p (1 + 3))) (by rw [hk]; exact nI_1' k) (q2 hv) (rt_V_ap hV he hv) (fun a ha => (q3 a ha).trans (hF a ha))) ?_
          rintro v h5 ⟨r1, r2, r3⟩
          exact ⟨fun q => by rw [ha9] at q ⊢; exact r1 q, fun q => by rw [ha9] at q ⊢; exact r2 q, r3⟩
        · have hq : (sq_e L n p).1 = p + (1 + 2) := by
            have e9 : sq_e L n p = sq_S L n p 1 := by rw [sq_e, hf]
            have he2 := he
            rw [e9, sq_S] at he2
            rw [e9, sq_S]
            obtain ⟨g0, a0, b0⟩ := sq_s_2 he2
            obtain ⟨g1, a1, b1⟩ := sq_s_2 g0
            rw [b0, b1]
          refine az_er 5 rfl ?_
          refine az_ecallF rfl rfl rfl rfl ((ct_form hL3 hx hpn).eq (by rw [hf]) rfl) ?_
          refine az_ecallF rfl rfl rfl rfl (⟨20, rfl⟩ : az_F sc az_m_J0_length_8abf5 [.ref 1001] hh2 (some (.int (nI 2))) hh2) ?_
          refine az_er 4 rfl ?_
          refine az_E.mono (ih (sq_e L n p).1 (k + 1) (sq_ap τ (sq_k L p) (sq_f L n p)) _ _ hh2 (by omega) (by omega) hw (by rw [hx, hq]; exact (congrArg (fun q => nI p + q) (nI_add 1 2)).trans (nI_add p (1 + 2))) (by rw [hk]; exact nI_1' k) (q2 hv) (rt_V_ap hV he hv) (fun a ha => (q3 a ha).trans (hF a ha))) ?_
          rintro v h5 ⟨r1, r2, r3⟩
          exact ⟨fun q => by rw [ha9] at q ⊢; exact r1 q, fun q => by rw [ha9] at q ⊢; exact r2 q, r3⟩
        · have hq : (sq_e L n p).1 = p + (1 + 8) := by
            have e9 : sq_e L n p = sq_S L n p 2 := by rw [sq_e, hf]
            have he2 := he
            rw [e9, sq_S] at he2
            rw [e9, sq_S]
            obtain ⟨g0, a0, b0⟩ := sq_s_2 he2
            obtain ⟨g1, a1, b1⟩ := sq_s_2 g0
            obtain ⟨g2, a2, b2⟩ := sq_s_2 g1
            obtain ⟨g3, a3, b3⟩ := sq_s_2 g2
            obtain ⟨g4, a4, b4⟩ := sq_s_2 g3
            obtain ⟨g5, a5, b5⟩ := sq_s_2 g4
            obtain ⟨g6, a6, b6⟩ := sq_s_2 g5
            obtain ⟨g7, a7, b7⟩ := sq_s_2 g6
            rw [b0, b1, b2, b3, b4, b5, b6, b7]
          refine az_er 5 rfl ?_
          refine az_ecallF rfl rfl rfl rfl ((ct_form hL3 hx hpn).eq (by rw [hf]) rfl) ?_
          refine az_ecallF rfl rfl rfl rfl (⟨20, rfl⟩ : az_F sc az_m_J0_length_8abf5 [.ref 1002] hh2 (some (.int (nI 8))) hh2) ?_
          refine az_er 4 rfl ?_
          refine az_E.mono (ih (sq_e L n p).1 (k + 1) (sq_ap τ (sq_k L p) (sq_f L n p)) _ _ hh2 (by omega) (by omega) hw (by rw [hx, hq]; exact (congrArg (fun q => nI p + q) (nI_add 1 8)).trans (nI_add p (1 + 8))) (by rw [hk]; exact nI_1' k) (q2 hv) (rt_V_ap hV he hv) (fun a ha => (q3 a ha).trans (hF a ha))) ?_
          rintro v h5 ⟨r1, r2, r3⟩
          exact ⟨fun q => by rw [ha9] at q ⊢; exact r1 q, fun q => by rw [ha9] at q ⊢; exact r2 q, r3⟩
        · have hq : (sq_e L n p).1 = p + (1 + 3) := by
            have e9 : sq_e L n p = sq_S L n p 3 := by rw [sq_e, hf]
            have he2 := he
            rw [e9, sq_S] at he2
            rw [e9, sq_S]
            obtain ⟨g0, a0, b0⟩ := sq_s_2 he2
            obtain ⟨g1, a1, b1⟩ := sq_s_2 g0
            obtain ⟨g2, a2, b2⟩ := sq_s_2 g1
            rw [b0, b1, b2]
          refine az_er 5 rfl ?_
          refine az_ecallF rfl rfl rfl rfl ((ct_form hL3 hx hpn).eq (by rw [hf]) rfl) ?_
          refine az_ecallF rfl rfl rfl rfl (⟨20, rfl⟩ : az_F sc az_m_J0_length_8abf5 [.ref 1003] hh2 (some (.int (nI 3))) hh2) ?_
          refine az_er 4 rfl ?_
          refine az_E.mono (ih (sq_e L n p).1 (k + 1) (sq_ap τ (sq_k L p) (sq_f L n p)) _ _ hh2 (by omega) (by omega) hw (by rw [hx, hq]; exact (congrArg (fun q => nI p + q) (nI_add 1 3)).trans (nI_add p (1 + 3))) (by rw [hk]; exact nI_1' k) (q2 hv) (rt_V_ap hV he hv) (fun a ha => (q3 a ha).trans (hF a ha))) ?_
          rintro v h5 ⟨r1, r2, r3⟩
          exact ⟨fun q => by rw [ha9] at q ⊢; exact r1 q, fun q => by rw [ha9] at q ⊢; exact r2 q, r3⟩
        · rw [sq_e, hf] at he
          simp [sq_S] at he
    · have hge : n ≤ p := by omega
      refine az_er 3 rfl ?_
      rw [hL2.2.2.1]
      refine az_ic_ge rfl rfl (fun c26 => ?_) (fun c26 => absurd (by rw [hx]; exact nI_le hge (by omega)) c26)
      refine az_er 1 rfl ?_
      refine az_eret rfl rfl rfl ?_
      exact ⟨fun _ => ⟨by rw [sq_p1_e hge, hk], by rw [sq_al_e hge]; exact hT⟩, fun q => absurd (show (sq_al L n (d + 1) p τ).2.1 = true by rw [sq_al_e hge]) (by rw [q]; decide), hF⟩
theorem sq_tn : ∀ k, k < 90 → (-1000 - nI k : Int32) ≤ 0 ∧ (-2000 - nI k : Int32) ≤ 0 := by decide
theorem sq_p1_1 {L : Nat → Nat} {n : Nat} (h0 : ¬ n = 0) (hw : (sq_p1 L n n 0 0).2.2 = true) : 1 ≤ (sq_p1 L n n 0 0).1 := by
  obtain ⟨d, rfl⟩ : ∃ d, n = d + 1 := ⟨n - 1, by omega⟩
  obtain ⟨h1, h2⟩ := sq_p1_w (by omega) hw
  rw [h2]
  exact sq_p1_n d _ (0 + 1)
theorem sq_tw_s {L : Nat → Nat} {n : Nat} {τ : Nat → Nat} (hn : n ≤ 80) : ((sq_tw L n τ).1 ≤ 0 ∧ (sq_tw L n τ).2 = τ) ∨ 0 < (sq_tw L n τ).1 := by
  have h9 := sq_p1_le (L := L) hn n 0 0 (by omega) (by omega)
  have h8 := sq_al_le (L := L) hn n 0 τ (by omega)
  unfold sq_tw
  split
  · exact Or.inl ⟨(sq_tn 0 (by omega)).1, rfl⟩
  · rename_i h0
    split
    · rename_i h1
      split
      · have := sq_p1_1 h0 h1
        exact Or.inr (nI_lt (a := 0) (by omega) (by omega))
      · exact Or.inl ⟨(sq_tn _ (by omega)).2, rfl⟩
    · exact Or.inl ⟨(sq_tn _ (by omega)).1, rfl⟩
set_option maxRecDepth 100000 in
theorem ct_tellTo {sc : az_S} {τ : Nat → Nat} {h : az_H} (hT : rt_T 16 τ h) (hV : rt_V τ) {L : Nat → Nat} {n : Nat} (hL : rt_L L n h) : az_E sc az_m_X5_tellTo 0 [.ref 46, .ref 16] [] h (fun v h1 => v = some (.int (sq_tw L n τ).1) ∧ (0 < (sq_tw L n τ).1 → rt_T 16 (sq_tw L n τ).2 h1) ∧ ∀ a, a < 16 ∨ 30 < a → h1 a = h a) := by
  have h80 := hL.1
  have h9 := sq_p1_le (L := L) h80 n 0 0 (by omega) (by omega)
  have h8 := sq_al_le (L := L) h80 n 0 τ (by omega)
  by_cases h0 : n = 0
  · skip
    refine az_er 1 rfl ?_
    refine az_ecallF rfl rfl rfl rfl ((ct_bad hL).eq (by rw [if_pos h0]) rfl) ?_
    refine az_er 2 rfl ?_
    refine az_if_lt rfl rfl (fun c6 => absurd c6 (by decide)) (fun c6 => ?_)
    refine az_er 3 rfl ?_
    refine az_eret rfl rfl rfl ?_
    exact ⟨by rw [sq_tw, if_pos h0]; rfl, fun q => absurd q (by rw [sq_tw, if_pos h0]; exact Int32.not_lt.mpr (sq_tn 0 (by omega)).1), fun _ _ => rfl⟩
  · by_cases hw : (sq_p1 L n n 0 0).2.2 = true
    · skip
      refine az_er 1 rfl ?_
      refine az_ecallF rfl rfl rfl rfl ((ct_bad hL).eq (by rw [if_neg h0, sq_pv, if_pos hw]) rfl) ?_
      refine az_er 2 rfl ?_
      refine az_if_lt rfl rfl (fun c6 => ?_) (fun c6 => absurd (by decide) c6)
      refine az_er 4 rfl ?_
      refine az_E.mono (lp_tell hL n 0 0 τ _ _ h (by omega) (by omega) hw rfl rfl hT hV (fun _ _ => rfl)) ?_
      rintro v h5 ⟨r1, r2, r3⟩
      cases ha : (sq_al L n n 0 τ).2.1 with
      | true =>
        have e9 : sq_tw L n τ = (nI (sq_p1 L n n 0 0).1, (sq_al L n n 0 τ).2.2) := by rw [sq_tw, if_neg h0, if_pos hw, if_pos ha]
        rw [e9]
        exact ⟨(r1 ha).1, fun _ => (r1 ha).2, r3⟩
      | false =>
        have e9 : sq_tw L n τ = (-2000 - nI (sq_al L n n 0 τ).1, τ) := by rw [sq_tw, if_neg h0, if_pos hw, if_neg (by rw [ha]; decide)]
        rw [e9]
        exact ⟨r2 ha, fun q => absurd q (Int32.not_lt.mpr (sq_tn _ (by omega)).2), r3⟩
    · skip
      refine az_er 1 rfl ?_
      refine az_ecallF rfl rfl rfl rfl ((ct_bad hL).eq (by rw [if_neg h0, sq_pv, if_neg hw]) rfl) ?_
      refine az_er 2 rfl ?_
      refine az_if_lt rfl rfl (fun c6 => absurd c6 (nI_pos (by omega))) (fun c6 => ?_)
      refine az_er 3 rfl ?_
      refine az_eret rfl rfl rfl ?_
      have e9 : sq_tw L n τ = (-1000 - nI (sq_p1 L n n 0 0).2.1, τ) := by rw [sq_tw, if_neg h0, if_neg hw]
      rw [e9]
      exact ⟨rfl, fun q => absurd q (Int32.not_lt.mpr (sq_tn _ (by omega)).1), fun _ _ => rfl⟩
theorem rt_C_tw {σ : rt_S} {τ : Nat → Nat} {h h1 : az_H} (hC : rt_C σ h) (e : ∀ a, (a = 0 ∨ (30 < a ∧ a ≠ 46)) → h1 a = h a) (e2 : h1 46 1 = 0) (hT : rt_T 1 τ h1) : rt_C (τ, σ.2.1, σ.2.2.1, (0, σ.2.2.2.1.2), σ.2.2.2.2) h1 := by
  obtain ⟨t, k0, kt, l, r, f⟩ := hC
  refine ⟨hT, by rw [e 0 (by omega)]; exact k0, fun q => rt_T_h (kt q) (fun k hk => e _ (by omega)), ⟨e2, fun i hi => absurd hi (Nat.not_lt_zero i)⟩, ?_, by rw [e 58 (by omega)]; exact f⟩
  rw [e 0 (by omega), e 57 (by omega)]
  exact r
set_option maxRecDepth 100000 in
theorem ct_town {sc : az_S} {σ : rt_S} {h : az_H} (hC : rt_C σ h) (hW : rt_W σ) : az_E sc az_m_X7_town 0 [.ref 0] [] h (rt_oc (sq_tw σ.2.2.2.1.2 σ.2.2.2.1.1 σ.1).1 ((sq_tw σ.2.2.2.1.2 σ.2.2.2.1.1 σ.1).2, σ.2.1, σ.2.2.1, (0, σ.2.2.2.1.2), σ.2.2.2.2) h) := by
  rcases sq_tw_s (L := σ.2.2.2.1.2) (τ := σ.1) hW.2.2.1.1 with ht | ht
  · skip
    refine az_er 4 rfl ?_
    refine az_ecall rfl rfl rfl rfl (ct_copy_16_1 hC.1) ?_
    rintro _ ha ⟨rfl, a1, a2⟩
    have hL : rt_L σ.2.2.2.1.2 σ.2.2.2.1.1 ha := ⟨hW.2.2.1.1, hW.2.2.1.2, by rw [a2 46 (by omega)]; exact hC.2.2.2.1.1, by rw [a2 47 (by omega)]; exact hC.2.2.2.1.2⟩
    refine az_er 4 rfl ?_
    refine az_ecall rfl rfl rfl rfl (ct_tellTo a1 hW.1 hL) ?_
    rintro _ hb ⟨rfl, b1, b2⟩
    refine az_er 3 rfl ?_
    refine az_ecallF rfl rfl rfl rfl (az_F.of (az_er 3 rfl (az_eret rfl rfl rfl ⟨rfl, rfl⟩))) ?_
    refine az_er 1 rfl ?_
    refine az_if_le rfl rfl (fun c31 => ?_) (fun c31 => absurd ht.1 c31)
    refine az_er 1 rfl ?_
    refine az_eret rfl rfl rfl ?_
    exact ⟨rfl, rt_C_tw hC (fun a h1 => by rw [az_up_o (by omega), b2 a (by omega), a2 a (by omega)]) (az_up_s) (by rw [ht.2]; exact rt_T_h hC.1 (fun k hk => by rw [az_up_o (by omega), b2 _ (by omega), a2 _ (by omega)])), fun a h1 => by rw [az_up_o (by omega), b2 a (by omega), a2 a (by omega)]⟩
  · skip
    refine az_er 4 rfl ?_
    refine az_ecall rfl rfl rfl rfl (ct_copy_16_1 hC.1) ?_
    rintro _ ha ⟨rfl, a1, a2⟩
    have hL : rt_L σ.2.2.2.1.2 σ.2.2.2.1.1 ha := ⟨hW.2.2.1.1, hW.2.2.1.2, by rw [a2 46 (by omega)]; exact hC.2.2.2.1.1, by rw [a2 47 (by omega)]; exact hC.2.2.2.1.2⟩
    refine az_er 4 rfl ?_
    refine az_ecall rfl rfl rfl rfl (ct_tellTo a1 hW.1 hL) ?_
    rintro _ hb ⟨rfl, b1, b2⟩
    refine az_er 3 rfl ?_
    refine az_ecallF rfl rfl rfl rfl (az_F.of (az_er 3 rfl (az_eret rfl rfl rfl ⟨rfl, rfl⟩))) ?_
    refine az_er 1 rfl ?_
    refine az_if_le rfl rfl (fun c31 => absurd c31 (Int32.not_le.mpr ht)) (fun c31 => ?_)
    refine az_er 4 rfl ?_
    refine az_ecall rfl rfl rfl rfl (ct_copy_1_16 (rt_T_h (b1 ht) (fun k hk => az_up_o (by omega)))) ?_
    rintro _ hd ⟨rfl, d1, d2⟩
    refine az_er 1 rfl ?_
    refine az_eret rfl rfl rfl ?_
    exact ⟨rfl, rt_C_tw hC (fun a h1 => by rw [d2 a (by omega), az_up_o (by omega), b2 a (by omega), a2 a (by omega)]) (by rw [d2 46 (by omega)]; exact az_up_s) d1, fun a h1 => by rw [d2 a (by omega), az_up_o (by omega), b2 a (by omega), a2 a (by omega)]⟩
