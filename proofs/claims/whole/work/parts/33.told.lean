/-! THE REFERENCE'S STATEMENTS -/
def rp_K (h : az_H) : Prop := (∀ i, i < 4 → h 65 i = nI (sq_kb i)) ∧ (∀ i, i < 6 → h 66 i = nI (sq_kg i)) ∧ ∀ i, i < 6 → h 67 i = nI (sq_kr i)
def rp_B (h0 : az_H) (k : Int32) (f : List Int32) (s : Nat × Bool) (h : az_H) : Prop := h 59 7 = nI s.1 ∧ h 59 8 = sq_b s.2 ∧ h 59 12 = k ∧ (∀ j, j < f.length → h 68 j = f.getD j 0) ∧ (∀ a, a ≠ 59 → a ≠ 68 → h a = h0 a) ∧ ∀ j, j ≠ 7 → j ≠ 8 → j ≠ 12 → h 59 j = h0 59 j
theorem rp_B_q {h0 h h' : az_H} {k : Int32} {f : List Int32} {s s' : Nat × Bool} (hB : rp_B h0 k f s h) (hq : rp_Q h s' h') : rp_B h0 k f s' h' := by
  obtain ⟨b1, b2, b3, b4, b5, b6⟩ := hB
  obtain ⟨q1, q2, q3, q4⟩ := hq
  exact ⟨q1, q2, by rw [q4 12 (by decide) (by decide)]; exact b3, fun j hj => by rw [q3 68 (by decide)]; exact b4 j hj, fun a h1 h2 => by rw [q3 a h1]; exact b5 a h1 h2, fun j h1 h2 h3 => by rw [q4 j h1 h2]; exact b6 j h1 h2 h3⟩
theorem rp_B_i {h h' : az_H} {v : Int32} {s : Nat × Bool} (hq : rp_Q h s h') : rp_B h v [] s (az_up h' 59 12 v) := by
  obtain ⟨q1, q2, q3, q4⟩ := hq
  exact ⟨by rw [az_up_n (by decide)]; exact q1, by rw [az_up_n (by decide)]; exact q2, az_up_s, fun j hj => absurd hj (Nat.not_lt_zero j), fun a h1 h2 => by rw [az_up_o h1]; exact q3 a h1, fun j h1 h2 h3 => by rw [az_up_n h3]; exact q4 j h1 h2⟩
theorem rp_B_a {h0 h : az_H} {k v : Int32} {f : List Int32} {s : Nat × Bool} {j : Nat} (hB : rp_B h0 k f s h) (hl : f.length = j) : rp_B h0 k (f ++ [v]) s (az_up h 68 j v) := by
  obtain ⟨b1, b2, b3, b4, b5, b6⟩ := hB
  subst hl
  refine ⟨by rw [az_up_o (by decide)]; exact b1, by rw [az_up_o (by decide)]; exact b2, by rw [az_up_o (by decide)]; exact b3, fun i hi => ?_, fun a h1 h2 => by rw [az_up_o h2]; exact b5 a h1 h2, fun i h1 h2 h3 => by rw [az_up_o (by decide)]; exact b6 i h1 h2 h3⟩
  rw [List.length_append] at hi
  by_cases h1 : i = f.length
  · subst h1
    rw [az_up_s]
    simp
  · rw [az_up_n h1, b4 i (by simp at hi; omega)]
    simp only [List.getD_eq_getElem?_getD]
    rw [List.getElem?_append_left (by simp at hi; omega)]
theorem rp_B_T {L : Nat → Nat} {n : Nat} {h0 h : az_H} {k : Int32} {f : List Int32} {s : Nat × Bool} (hT : rp_T L n h0) (hB : rp_B h0 k f s h) : rp_T L n h := by
  obtain ⟨b1, b2, b3, b4, b5, b6⟩ := hB
  exact ⟨hT.1, hT.2.1, by rw [b6 6 (by decide) (by decide) (by decide)]; exact hT.2.2.1, by rw [b5 64 (by decide) (by decide)]; exact hT.2.2.2⟩
def sq_fn (k : Nat) : Nat := if k = 1 then 6 else if k = 2 then 2 else 1
def rp_G (h h' : az_H) : Prop := (∀ a, a ≠ 59 → a ≠ 68 → h' a = h a) ∧ ∀ j, j ≠ 7 → j ≠ 8 → j ≠ 12 → h' 59 j = h 59 j
def rp_st (L : Nat → Nat) (n p : Nat) (h : az_H) (v : Option Value) (h' : az_H) : Prop := v = none ∧ h' 59 7 = nI (sq_e L n p).1 ∧ h' 59 8 = sq_b (sq_e L n p).2 ∧ rp_G h h' ∧ ((sq_e L n p).2 = true → h' 59 12 = nI (sq_k L p) ∧ ∀ j, j < sq_fn (sq_k L p) → h' 68 j = nI (sq_f L n p j))
theorem rp_B_st {L : Nat → Nat} {n p : Nat} {h h' : az_H} {k : Int32} {f : List Int32} {s : Nat × Bool} (hB : rp_B h k f s h') (hs : s = sq_e L n p) (hf : (sq_e L n p).2 = true → k = nI (sq_k L p) ∧ sq_fn (sq_k L p) ≤ f.length ∧ ∀ j, j < sq_fn (sq_k L p) → f.getD j 0 = nI (sq_f L n p j)) : rp_st L n p h none h' := by
  subst hs
  obtain ⟨b1, b2, b3, b4, b5, b6⟩ := hB
  exact ⟨rfl, b1, b2, ⟨b5, b6⟩, fun q => ⟨b3.trans (hf q).1, fun j hj => (b4 j (Nat.lt_of_lt_of_le hj (hf q).2.1)).trans ((hf q).2.2 j hj)⟩⟩
theorem sq_kb_j {c : Nat} : (c = 99 → sq_kj sq_kb c 4 0 = 0) ∧ (c = 115 → sq_kj sq_kb c 4 0 = 1) ∧ (c = 114 → sq_kj sq_kb c 4 0 = 2) ∧ (c = 119 → sq_kj sq_kb c 4 0 = 3) ∧ (c ≠ 99 → c ≠ 115 → c ≠ 114 → c ≠ 119 → sq_kj sq_kb c 4 0 = 4) := by
  refine ⟨?_, ?_, ?_, ?_, ?_⟩
  · rintro rfl; rfl
  · rintro rfl; rfl
  · rintro rfl; rfl
  · rintro rfl; rfl
  · intro h1 h2 h3 h4
    simp [sq_kj, sq_kb, h1, h2, h3, h4]
theorem rp_dv_t {L : Nat → Nat} {n q : Nat} (h : sq_dg L n q = true) : rp_dv L n (q, true) = nI (L q - 48) := if_pos h
theorem rp_nv_t {L : Nat → Nat} {n q : Nat} (h : sq_dg L n q = true) : rp_nv L n (q, true) = nI (sq_nm L n q) := if_pos h
theorem rp_kv_t {ks L : Nat → Nat} {m n q : Nat} (h : sq_kn L n ks m q = true) : rp_kv ks m L n (q, true) = nI (sq_kj ks (L q) m 0) := if_pos h
theorem rp_s2_b {L : Nat → Nat} {n : Nat} {s : Nat × Bool} {p a : Nat} (h : p ≤ s.1 ∧ s.1 ≤ p + a) : p ≤ (rp_s2 L n s).1 ∧ (rp_s2 L n s).1 ≤ p + (a + 2) := by
  unfold rp_s2
  split
  · split
    · exact ⟨by show p ≤ s.1 + 2; omega, by show s.1 + 2 ≤ _; omega⟩
    · exact ⟨by show p ≤ s.1 + 1; omega, by show s.1 + 1 ≤ _; omega⟩
  · exact ⟨h.1, by show s.1 ≤ _; omega⟩
set_option maxRecDepth 100000 in
theorem cm_st115 {sc : az_S} {h : az_H} {L : Nat → Nat} {n p : Nat} (hT : rp_T L n h) (hK : rp_K h) (h7 : h 59 7 = nI p) (h8 : h 59 8 = sq_b true) (hpn : p < n) (hs : L p = 115) : az_E sc az_m_X8_statement 0 [.ref 59] [] h (rp_st L n p h) := by
  have h80 := hT.1
  have hkj : sq_kj sq_kb (L p) 4 0 = 1 := sq_kb_j.2.1 hs
  have hkn : sq_kn L n sq_kb 4 p = true := by simp [sq_kn, hpn, hkj]
  have ev : rp_kv sq_kb 4 L n (p, true) = nI 1 := by rw [rp_kv_t hkn, hkj]
  have ee : sq_e L n p = sq_S L n p 2 := by rw [sq_e, sq_fm, if_neg (by omega), if_pos hs]
  rw [sq_S] at ee
  refine az_er 4 rfl ?_
  refine az_ecall rfl rfl rfl rfl (cm_one65 (w := true) hT h7 hK.1 (by omega) h8) ?_
  rintro _ hh ⟨rfl, hq⟩
  rw [ev]
  rw [sq_s_t hkn] at hq
  have hB := rp_B_i (v := nI 1) hq
  have hb : p ≤ (p + 1, true).1 ∧ (p + 1, true).1 ≤ p + 1 := ⟨Nat.le_succ p, Nat.le_refl _⟩
  refine az_er 4 rfl ?_
  rw [hB.2.2.1]
  refine az_ic_ne rfl rfl (fun c17 => absurd rfl c17) (fun c17 => ?_)
  refine az_er 5 rfl ?_
  refine az_ecall rfl rfl rfl rfl (cm_fig1 (rp_B_T hT hB) hB.1 (by omega) hB.2.1) ?_
  rintro _ hh ⟨rfl, hq⟩
  have hB : rp_B h _ _ (sq_s (sq_dg L n) (p + 1, true)) hh := rp_B_q hB hq
  have hb := sq_s_bb (c := sq_dg L n) hb
  refine az_iasI rfl rfl (show _ = nI 0 from rfl) (show 0 < 6 by omega) (by decide) ?_
  have hB := rp_B_a (v := rp_dv L n (p + 1, true)) hB (j := 0) rfl
  refine az_er 6 rfl ?_
  refine az_ecall rfl rfl rfl rfl (cm_one66 (rp_B_T hT hB) hB.1 (fun i hi => by rw [hB.2.2.2.2.1 66 (by decide) (by decide)]; exact hK.2.1 i hi) (by omega) hB.2.1) ?_
  rintro _ hh ⟨rfl, hq⟩
  have hB : rp_B h _ _ (sq_s (sq_kn L n sq_kg 6) (sq_s (sq_dg L n) (p + 1, true))) hh := rp_B_q hB hq
  have hb := sq_s_bb (c := sq_kn L n sq_kg 6) hb
  refine az_iasI rfl rfl (show _ = nI 1 from rfl) (show 1 < 6 by omega) (by decide) ?_
  have hB := rp_B_a (v := rp_kv sq_kg 6 L n (sq_s (sq_dg L n) (p + 1, true))) hB (j := 1) rfl
  refine az_er 5 rfl ?_
  refine az_ecall rfl rfl rfl rfl (cm_fig1 (rp_B_T hT hB) hB.1 (by omega) hB.2.1) ?_
  rintro _ hh ⟨rfl, hq⟩
  have hB : rp_B h _ _ (sq_s (sq_dg L n) (sq_s (sq_kn L n sq_kg 6) (sq_s (sq_dg L n) (p + 1, true)))) hh := rp_B_q hB hq
  have hb := sq_s_bb (c := sq_dg L n) hb
  refine az_iasI rfl rfl (show _ = nI 2 from rfl) (show 2 < 6 by omega) (by decide) ?_
  have hB := rp_B_a (v := rp_dv L n (sq_s (sq_kn L n sq_kg 6) (sq_s (sq_dg L n) (p + 1, true)))) hB (j := 2) rfl
  refine az_er 2 rfl ?_
  refine az_ecall rfl rfl rfl rfl (cm_exp (k := 44) (rp_B_T hT hB) hB.1 (by omega) hB.2.1 rfl (by decide)) ?_
  rintro _ hh ⟨rfl, hq⟩
  have hB : rp_B h _ _ (sq_s (sq_ch L n 44) (sq_s (sq_dg L n) (sq_s (sq_kn L n sq_kg 6) (sq_s (sq_dg L n) (p + 1, true))))) hh := rp_B_q hB hq
  have hb := sq_s_bb (c := sq_ch L n 44) hb
  refine az_er 5 rfl ?_
  refine az_ecall rfl rfl rfl rfl (cm_fig1 (rp_B_T hT hB) hB.1 (by omega) hB.2.1) ?_
  rintro _ hh ⟨rfl, hq⟩
  have hB : rp_B h _ _ (sq_s (sq_dg L n) (sq_s (sq_ch L n 44) (sq_s (sq_dg L n) (sq_s (sq_kn L n sq_kg 6) (sq_s (sq_dg L n) (p + 1, true)))))) hh := rp_B_q hB hq
  have hb := sq_s_bb (c := sq_dg L n) hb
  refine az_iasI rfl rfl (show _ = nI 3 from rfl) (show 3 < 6 by omega) (by decide) ?_
  have hB := rp_B_a (v := rp_dv L n (sq_s (sq_ch L n 44) (sq_s (sq_dg L n) (sq_s (sq_kn L n sq_kg 6) (sq_s (sq_dg L n) (p + 1, true)))))) hB (j := 3) rfl
  refine az_er 5 rfl ?_
  refine az_ecall rfl rfl rfl rfl (cm_fig1 (rp_B_T hT hB) hB.1 (by omega) hB.2.1) ?_
  rintro _ hh ⟨rfl, hq⟩
  have hB : rp_B h _ _ (sq_s (sq_dg L n) (sq_s (sq_dg L n) (sq_s (sq_ch L n 44) (sq_s (sq_dg L n) (sq_s (sq_kn L n sq_kg 6) (sq_s (sq_dg L n) (p + 1, true))))))) hh := rp_B_q hB hq
  have hb := sq_s_bb (c := sq_dg L n) hb
  refine az_iasI rfl rfl (show _ = nI 4 from rfl) (show 4 < 6 by omega) (by decide) ?_
  have hB := rp_B_a (v := rp_dv L n (sq_s (sq_dg L n) (sq_s (sq_ch L n 44) (sq_s (sq_dg L n) (sq_s (sq_kn L n sq_kg 6) (sq_s (sq_dg L n) (p + 1, true))))))) hB (j := 4) rfl
  refine az_er 5 rfl ?_
  refine az_ecall rfl rfl rfl rfl (cm_fig1 (rp_B_T hT hB) hB.1 (by omega) hB.2.1) ?_
  rintro _ hh ⟨rfl, hq⟩
  have hB : rp_B h _ _ (sq_s (sq_dg L n) (sq_s (sq_dg L n) (sq_s (sq_dg L n) (sq_s (sq_ch L n 44) (sq_s (sq_dg L n) (sq_s (sq_kn L n sq_kg 6) (sq_s (sq_dg L n) (p + 1, true)))))))) hh := rp_B_q hB hq
  have hb := sq_s_bb (c := sq_dg L n) hb
  refine az_iasI rfl rfl (show _ = nI 5 from rfl) (show 5 < 6 by omega) (by decide) ?_
  have hB := rp_B_a (v := rp_dv L n (sq_s (sq_dg L n) (sq_s (sq_dg L n) (sq_s (sq_ch L n 44) (sq_s (sq_dg L n) (sq_s (sq_kn L n sq_kg 6) (sq_s (sq_dg L n) (p + 1, true)))))))) hB (j := 5) rfl
  refine az_er 3 rfl ?_
  refine az_ecall rfl rfl rfl rfl (cm_exp (k := 59) (rp_B_T hT hB) hB.1 (by omega) hB.2.1 rfl (by decide)) ?_
  rintro _ hh ⟨rfl, hq⟩
  have hB : rp_B h _ _ (sq_s (sq_ch L n 59) (sq_s (sq_dg L n) (sq_s (sq_dg L n) (sq_s (sq_dg L n) (sq_s (sq_ch L n 44) (sq_s (sq_dg L n) (sq_s (sq_kn L n sq_kg 6) (sq_s (sq_dg L n) (p + 1, true))))))))) hh := rp_B_q hB hq
  have hb := sq_s_bb (c := sq_ch L n 59) hb
  refine az_eret rfl rfl rfl ?_
  refine rp_B_st hB (by rw [ee]) (fun hw => ?_)
  obtain ⟨b1, b2, b3, b4, b5, b6, b7, b8, b9⟩ := sq_e_s hs hw
  have t1 := sq_s_t (c := sq_dg L n) b1
  have t2 := sq_s_t (c := sq_kn L n sq_kg 6) b2
  have t3 := sq_s_t (c := sq_dg L n) b3
  have t4 := sq_s_t (c := sq_ch L n 44) b4
  have t5 := sq_s_t (c := sq_dg L n) b5
  have t6 := sq_s_t (c := sq_dg L n) b6
  have e1 : sq_k L p = 1 := by rw [sq_k, if_neg (by omega), if_pos hs]
  rw [e1]
  refine ⟨rfl, Nat.le_refl 6, fun j hj => ?_⟩
  rw [t1, t2, t3, t4, t5, t6, rp_dv_t b1, rp_kv_t b2, rp_dv_t b3, rp_dv_t b5, rp_dv_t b6, rp_dv_t b7, sq_f, if_pos hs]
  have hj6 : j < 6 := hj
  rcases (show j = 0 ∨ j = 1 ∨ j = 2 ∨ j = 3 ∨ j = 4 ∨ j = 5 by omega) with rfl | rfl | rfl | rfl | rfl | rfl <;> rfl
set_option maxRecDepth 100000 in
theorem cm_st114 {sc : az_S} {h : az_H} {L : Nat → Nat} {n p : Nat} (hT : rp_T L n h) (hK : rp_K h) (h7 : h 59 7 = nI p) (h8 : h 59 8 = sq_b true) (hpn : p < n) (hs : L p = 114) : az_E sc az_m_X8_statement 0 [.ref 59] [] h (rp_st L n p h) := by
  have h80 := hT.1
  have hkj : sq_kj sq_kb (L p) 4 0 = 2 := sq_kb_j.2.2.1 hs
  have hkn : sq_kn L n sq_kb 4 p = true := by simp [sq_kn, hpn, hkj]
  have ev : rp_kv sq_kb 4 L n (p, true) = nI 2 := by rw [rp_kv_t hkn, hkj]
  have ee : sq_e L n p = sq_S L n p 3 := by rw [sq_e, sq_fm, if_neg (by omega), if_neg (by omega), if_pos hs]
  rw [sq_S] at ee
  refine az_er 4 rfl ?_
  refine az_ecall rfl rfl rfl rfl (cm_one65 (w := true) hT h7 hK.1 (by omega) h8) ?_
  rintro _ hh ⟨rfl, hq⟩
  rw [ev]
  rw [sq_s_t hkn] at hq
  have hB := rp_B_i (v := nI 2) hq
  have hb : p ≤ (p + 1, true).1 ∧ (p + 1, true).1 ≤ p + 1 := ⟨Nat.le_succ p, Nat.le_refl _⟩
  refine az_er 4 rfl ?_
  rw [hB.2.2.1]
  refine az_ic_ne rfl rfl (fun c17 => ?_) (fun c17 => absurd c17 (by decide))
  refine az_er 3 rfl ?_
  rw [hB.2.2.1]
  refine az_ic_ne rfl rfl (fun c103 => absurd rfl c103) (fun c103 => ?_)
  refine az_er 6 rfl ?_
  refine az_ecall rfl rfl rfl rfl (cm_one67 (rp_B_T hT hB) hB.1 (fun i hi => by rw [hB.2.2.2.2.1 67 (by decide) (by decide)]; exact hK.2.2 i hi) (by omega) hB.2.1) ?_
  rintro _ hh ⟨rfl, hq⟩
  have hB : rp_B h _ _ (sq_s (sq_kn L n sq_kr 6) (p + 1, true)) hh := rp_B_q hB hq
  have hb := sq_s_bb (c := sq_kn L n sq_kr 6) hb
  refine az_iasI rfl rfl (show _ = nI 0 from rfl) (show 0 < 6 by omega) (by decide) ?_
  have hB := rp_B_a (v := rp_kv sq_kr 6 L n (p + 1, true)) hB (j := 0) rfl
  refine az_er 5 rfl ?_
  refine az_ecall rfl rfl rfl rfl (cm_fig1 (rp_B_T hT hB) hB.1 (by omega) hB.2.1) ?_
  rintro _ hh ⟨rfl, hq⟩
  have hB : rp_B h _ _ (sq_s (sq_dg L n) (sq_s (sq_kn L n sq_kr 6) (p + 1, true))) hh := rp_B_q hB hq
  have hb := sq_s_bb (c := sq_dg L n) hb
  refine az_iasI rfl rfl (show _ = nI 1 from rfl) (show 1 < 6 by omega) (by decide) ?_
  have hB := rp_B_a (v := rp_dv L n (sq_s (sq_kn L n sq_kr 6) (p + 1, true))) hB (j := 1) rfl
  refine az_er 3 rfl ?_
  refine az_ecall rfl rfl rfl rfl (cm_exp (k := 59) (rp_B_T hT hB) hB.1 (by omega) hB.2.1 rfl (by decide)) ?_
  rintro _ hh ⟨rfl, hq⟩
  have hB : rp_B h _ _ (sq_s (sq_ch L n 59) (sq_s (sq_dg L n) (sq_s (sq_kn L n sq_kr 6) (p + 1, true)))) hh := rp_B_q hB hq
  have hb := sq_s_bb (c := sq_ch L n 59) hb
  refine az_eret rfl rfl rfl ?_
  refine rp_B_st hB (by rw [ee]) (fun hw => ?_)
  obtain ⟨b1, b2, b3, b4⟩ := sq_e_r hs hw
  have t1 := sq_s_t (c := sq_kn L n sq_kr 6) b1
  have e1 : sq_k L p = 2 := by rw [sq_k, if_neg (by omega), if_neg (by omega), if_pos hs]
  rw [e1]
  refine ⟨rfl, Nat.le_refl 2, fun j hj => ?_⟩
  rw [t1, rp_kv_t b1, rp_dv_t b2, sq_f, if_neg (by omega), if_pos hs]
  have hj6 : j < 2 := hj
  rcases (show j = 0 ∨ j = 1 by omega) with rfl | rfl <;> rfl
theorem sq_e_2 {L : Nat → Nat} {n p : Nat} (hs : L p = 99 ∨ L p = 119) : sq_s (sq_ch L n 59) (rp_s2 L n (p + 1, true)) = sq_e L n p := by
  rw [sq_e, sq_fm, if_pos hs]
  cases h1 : sq_dg L n (p + 1) with
  | false =>
    have e1 : rp_s2 L n (p + 1, true) = (p + 1, false) := by rw [rp_s2, if_neg (show ¬ (true && sq_dg L n (p + 1)) = true by rw [h1]; decide)]
    rw [e1, sq_s_n]
    split
    · rw [sq_S, sq_s_f h1, sq_s_n, sq_s_n]
    · rw [sq_S, sq_s_f h1, sq_s_n]
  | true =>
    cases h2 : sq_dg L n (p + 2) with
    | true =>
      have e1 : rp_s2 L n (p + 1, true) = (p + 1 + 1 + 1, true) := by rw [rp_s2, if_pos (show (true && sq_dg L n (p + 1)) = true from h1), if_pos (show sq_dg L n (p + 1 + 1) = true from h2)]
      rw [e1, if_pos rfl, sq_S, sq_s_t h1, sq_s_t (show sq_dg L n (p + 1 + 1) = true from h2)]
    | false =>
      have e1 : rp_s2 L n (p + 1, true) = (p + 1 + 1, true) := by rw [rp_s2, if_pos (show (true && sq_dg L n (p + 1)) = true from h1), if_neg (show ¬ sq_dg L n (p + 1 + 1) = true by rw [show p + 1 + 1 = p + 2 from rfl, h2]; decide)]
      rw [e1, if_neg (by decide), sq_S, sq_s_t h1]
set_option maxRecDepth 100000 in
theorem cm_st99 {sc : az_S} {h : az_H} {L : Nat → Nat} {n p : Nat} (hT : rp_T L n h) (hK : rp_K h) (h7 : h 59 7 = nI p) (h8 : h 59 8 = sq_b true) (hpn : p < n) (hs : L p = 99) : az_E sc az_m_X8_statement 0 [.ref 59] [] h (rp_st L n p h) := by
  have h80 := hT.1
  have hkj : sq_kj sq_kb (L p) 4 0 = 0 := sq_kb_j.1 hs
  have hkn : sq_kn L n sq_kb 4 p = true := by simp [sq_kn, hpn, hkj]
  have ev : rp_kv sq_kb 4 L n (p, true) = nI 0 := by rw [rp_kv_t hkn, hkj]
  refine az_er 4 rfl ?_
  refine az_ecall rfl rfl rfl rfl (cm_one65 (w := true) hT h7 hK.1 (by omega) h8) ?_
  rintro _ hh ⟨rfl, hq⟩
  rw [ev]
  rw [sq_s_t hkn] at hq
  have hB := rp_B_i (v := nI 0) hq
  have hb : p ≤ (p + 1, true).1 ∧ (p + 1, true).1 ≤ p + 1 := ⟨Nat.le_succ p, Nat.le_refl _⟩
  refine az_er 4 rfl ?_
  rw [hB.2.2.1]
  refine az_ic_ne rfl rfl (fun c17 => ?_) (fun c17 => absurd c17 (by decide))
  refine az_er 3 rfl ?_
  rw [hB.2.2.1]
  refine az_ic_ne rfl rfl (fun c103 => ?_) (fun c103 => absurd c103 (by decide))
  refine az_er 5 rfl ?_
  refine az_ecall rfl rfl rfl rfl (cm_fig2 (rp_B_T hT hB) hB.1 (by omega) hB.2.1) ?_
  rintro _ hh ⟨rfl, hq⟩
  have hB : rp_B h _ _ (rp_s2 L n (p + 1, true)) hh := rp_B_q hB hq
  have hb := rp_s2_b (L := L) (n := n) hb
  refine az_iasI rfl rfl (show _ = nI 0 from rfl) (show 0 < 6 by omega) (by decide) ?_
  have hB := rp_B_a (v := rp_nv L n (p + 1, true)) hB (j := 0) rfl
  refine az_er 2 rfl ?_
  refine az_ecall rfl rfl rfl rfl (cm_exp (k := 59) (rp_B_T hT hB) hB.1 (by omega) hB.2.1 rfl (by decide)) ?_
  rintro _ hh ⟨rfl, hq⟩
  have hB : rp_B h _ _ (sq_s (sq_ch L n 59) (rp_s2 L n (p + 1, true))) hh := rp_B_q hB hq
  have hb := sq_s_bb (c := sq_ch L n 59) hb
  refine az_eret rfl rfl rfl ?_
  refine rp_B_st hB (sq_e_2 (Or.inl hs)) (fun hw => ?_)
  have h9 := sq_e_n (Or.inl hs) hw
  have e1 : sq_k L p = 0 := by rw [sq_k, if_pos hs]
  rw [e1]
  refine ⟨rfl, Nat.le_refl 1, fun j hj => ?_⟩
  rw [rp_nv_t h9.1, sq_f, if_neg (by omega), if_neg (by omega)]
  have hj6 : j < 1 := hj
  rcases (show j = 0 by omega) with rfl
  rfl
set_option maxRecDepth 100000 in
theorem cm_st119 {sc : az_S} {h : az_H} {L : Nat → Nat} {n p : Nat} (hT : rp_T L n h) (hK : rp_K h) (h7 : h 59 7 = nI p) (h8 : h 59 8 = sq_b true) (hpn : p < n) (hs : L p = 119) : az_E sc az_m_X8_statement 0 [.ref 59] [] h (rp_st L n p h) := by
  have h80 := hT.1
  have hkj : sq_kj sq_kb (L p) 4 0 = 3 := sq_kb_j.2.2.2.1 hs
  have hkn : sq_kn L n sq_kb 4 p = true := by simp [sq_kn, hpn, hkj]
  have ev : rp_kv sq_kb 4 L n (p, true) = nI 3 := by rw [rp_kv_t hkn, hkj]
  refine az_er 4 rfl ?_
  refine az_ecall rfl rfl rfl rfl (cm_one65 (w := true) hT h7 hK.1 (by omega) h8) ?_
  rintro _ hh ⟨rfl, hq⟩
  rw [ev]
  rw [sq_s_t hkn] at hq
  have hB := rp_B_i (v := nI 3) hq
  have hb : p ≤ (p + 1, true).1 ∧ (p + 1, true).1 ≤ p + 1 := ⟨Nat.le_succ p, Nat.le_refl _⟩
  refine az_er 4 rfl ?_
  rw [hB.2.2.1]
  refine az_ic_ne rfl rfl (fun c17 => ?_) (fun c17 => absurd c17 (by decide))
  refine az_er 3 rfl ?_
  rw [hB.2.2.1]
  refine az_ic_ne rfl rfl (fun c103 => ?_) (fun c103 => absurd c103 (by decide))
  refine az_er 5 rfl ?_
  refine az_ecall rfl rfl rfl rfl (cm_fig2 (rp_B_T hT hB) hB.1 (by omega) hB.2.1) ?_
  rintro _ hh ⟨rfl, hq⟩
  have hB : rp_B h _ _ (rp_s2 L n (p + 1, true)) hh := rp_B_q hB hq
  have hb := rp_s2_b (L := L) (n := n) hb
  refine az_iasI rfl rfl (show _ = nI 0 from rfl) (show 0 < 6 by omega) (by decide) ?_
  have hB := rp_B_a (v := rp_nv L n (p + 1, true)) hB (j := 0) rfl
  refine az_er 2 rfl ?_
  refine az_ecall rfl rfl rfl rfl (cm_exp (k := 59) (rp_B_T hT hB) hB.1 (by omega) hB.2.1 rfl (by decide)) ?_
  rintro _ hh ⟨rfl, hq⟩
  have hB : rp_B h _ _ (sq_s (sq_ch L n 59) (rp_s2 L n (p + 1, true))) hh := rp_B_q hB hq
  have hb := sq_s_bb (c := sq_ch L n 59) hb
  refine az_eret rfl rfl rfl ?_
  refine rp_B_st hB (sq_e_2 (Or.inr hs)) (fun hw => ?_)
  have h9 := sq_e_n (Or.inr hs) hw
  have e1 : sq_k L p = 3 := by rw [sq_k, if_neg (by omega), if_neg (by omega), if_neg (by omega)]
  rw [e1]
  refine ⟨rfl, Nat.le_refl 1, fun j hj => ?_⟩
  rw [rp_nv_t h9.1, sq_f, if_neg (by omega), if_neg (by omega)]
  have hj6 : j < 1 := hj
  rcases (show j = 0 by omega) with rfl
  rfl
set_option maxRecDepth 100000 in
theorem cm_stn {sc : az_S} {h : az_H} {L : Nat → Nat} {n p : Nat} (hT : rp_T L n h) (hK : rp_K h) (h7 : h 59 7 = nI p) (h8 : h 59 8 = sq_b true) (hp : p ≤ 80) (hkn : sq_kn L n sq_kb 4 p = false) : az_E sc az_m_X8_statement 0 [.ref 59] [] h (fun v h' => v = none ∧ h' 59 7 = nI p ∧ h' 59 8 = sq_b false ∧ rp_G h h') := by
  have ev : rp_kv sq_kb 4 L n (p, true) = 0 := by rw [rp_kv, if_neg (show ¬ (true && sq_kn L n sq_kb 4 p) = true by rw [hkn]; decide)]
  refine az_er 4 rfl ?_
  refine az_ecall rfl rfl rfl rfl (cm_one65 (w := true) hT h7 hK.1 (by omega) h8) ?_
  rintro _ hh ⟨rfl, hq⟩
  rw [ev]
  rw [sq_s_f hkn] at hq
  have hB := rp_B_i (v := 0) hq
  have hb : p ≤ (p, false).1 ∧ (p, false).1 ≤ p + 1 := ⟨Nat.le_refl p, Nat.le_succ _⟩
  refine az_er 4 rfl ?_
  rw [hB.2.2.1]
  refine az_ic_ne rfl rfl (fun c17 => ?_) (fun c17 => absurd c17 (by decide))
  refine az_er 3 rfl ?_
  rw [hB.2.2.1]
  refine az_ic_ne rfl rfl (fun c103 => ?_) (fun c103 => absurd c103 (by decide))
  refine az_er 5 rfl ?_
  refine az_ecall rfl rfl rfl rfl (cm_fig2 (rp_B_T hT hB) hB.1 (by omega) hB.2.1) ?_
  rintro _ hh ⟨rfl, hq⟩
  have hB : rp_B h _ _ (rp_s2 L n (p, false)) hh := rp_B_q hB hq
  have hb := rp_s2_b (L := L) (n := n) hb
  refine az_iasI rfl rfl (show _ = nI 0 from rfl) (show 0 < 6 by omega) (by decide) ?_
  have hB := rp_B_a (v := rp_nv L n (p, false)) hB (j := 0) rfl
  refine az_er 2 rfl ?_
  refine az_ecall rfl rfl rfl rfl (cm_exp (k := 59) (rp_B_T hT hB) hB.1 (by omega) hB.2.1 rfl (by decide)) ?_
  rintro _ hh ⟨rfl, hq⟩
  have hB : rp_B h _ _ (sq_s (sq_ch L n 59) (rp_s2 L n (p, false))) hh := rp_B_q hB hq
  have hb := sq_s_bb (c := sq_ch L n 59) hb
  refine az_eret rfl rfl rfl ?_
  obtain ⟨b1, b2, b3, b4, b5, b6⟩ := hB
  rw [show rp_s2 L n (p, false) = (p, false) from rfl, sq_s_n] at b1 b2
  exact ⟨rfl, b1, b2, b5, b6⟩
set_option maxRecDepth 100000 in
theorem cm_st {sc : az_S} {h : az_H} {L : Nat → Nat} {n p : Nat} (hT : rp_T L n h) (hK : rp_K h) (h7 : h 59 7 = nI p) (h8 : h 59 8 = sq_b true) (hpn : p < n) : az_E sc az_m_X8_statement 0 [.ref 59] [] h (rp_st L n p h) := by
  by_cases h1 : L p = 99
  · exact cm_st99 hT hK h7 h8 hpn h1
  · by_cases h2 : L p = 115
    · exact cm_st115 hT hK h7 h8 hpn h2
    · by_cases h3 : L p = 114
      · exact cm_st114 hT hK h7 h8 hpn h3
      · by_cases h4 : L p = 119
        · exact cm_st119 hT hK h7 h8 hpn h4
        · have e : sq_e L n p = (p, false) := by rw [sq_e, sq_fm, if_neg (by omega), if_neg h2, if_neg h3, sq_S] <;> decide
          refine az_E.mono (cm_stn hT hK h7 h8 (by have := hT.1; omega) (by rw [sq_kn, sq_kb_j.2.2.2.2 h1 h2 h3 h4]; simp)) ?_
          rintro v h' ⟨rfl, q1, q2, q3⟩
          exact ⟨rfl, by rw [e]; exact q1, by rw [e]; exact q2, q3, fun q => by rw [e] at q; exact absurd q (by simp)⟩
