/-! THE WHOLE STATE: the town, the image, whether there is one, letters, the row, refusals -/
abbrev rt_S : Type := (Nat → Nat) × (Nat → Nat) × Bool × (Nat × (Nat → Nat)) × (Nat × (Nat → Nat)) × (Nat → Int32)
def rt_C (σ : rt_S) (h : az_H) : Prop := rt_T 1 σ.1 h ∧ h 0 3 = sq_b σ.2.2.1 ∧ (σ.2.2.1 = true → rt_T 31 σ.2.1 h) ∧ (h 46 1 = nI σ.2.2.2.1.1 ∧ ∀ i, i < σ.2.2.2.1.1 → h 47 i = nI (σ.2.2.2.1.2 i)) ∧ (h 0 9 = nI σ.2.2.2.2.1.1 ∧ ∀ i, i < σ.2.2.2.2.1.1 → h 57 i = nI (σ.2.2.2.2.1.2 i)) ∧ ∀ i, i < 7 → h 58 i = σ.2.2.2.2.2 i
def rt_R (σ : rt_S) (h : az_H) : Prop := rt_M 61 σ.1 h ∧ h 59 4 = sq_b σ.2.2.1 ∧ (σ.2.2.1 = true → rt_M 62 σ.2.1 h) ∧ (h 59 6 = nI σ.2.2.2.1.1 ∧ ∀ i, i < σ.2.2.2.1.1 → h 64 i = nI (σ.2.2.2.1.2 i)) ∧ (h 59 26 = nI σ.2.2.2.2.1.1 ∧ ∀ i, i < σ.2.2.2.2.1.1 → h 74 i = nI (σ.2.2.2.2.1.2 i)) ∧ ∀ i, i < 7 → h 60 i = σ.2.2.2.2.2 i
def rt_W (σ : rt_S) : Prop := rt_V σ.1 ∧ (σ.2.2.1 = true → rt_V σ.2.1) ∧ (σ.2.2.2.1.1 ≤ 80 ∧ ∀ i, i < σ.2.2.2.1.1 → σ.2.2.2.1.2 i ≤ 255) ∧ (σ.2.2.2.2.1.1 ≤ 12 ∧ ∀ i, i < σ.2.2.2.2.1.1 → σ.2.2.2.2.1.2 i ≤ 99)
/-- what the class writes on the way, and what counts for nothing -/
def rt_Fs (h h1 : az_H) : Prop := (∀ a, a ≠ 1 → a ≠ 15 → (a < 16 ∨ 30 < a) → (a < 48 ∨ 56 < a) → h1 a = h a) ∧ ∀ j, j ≠ 8 → j < 100 → h1 1 j = h 1 j
def rt_Gs (h h1 : az_H) : Prop := (∀ a, a ≠ 59 → a ≠ 63 → (a < 68 ∨ 73 < a) → h1 a = h a) ∧ ∀ j, j = 4 ∨ j = 6 ∨ j = 26 → h1 59 j = h 59 j
theorem rt_Fs.rf {h : az_H} : rt_Fs h h := ⟨fun _ _ _ _ _ => rfl, fun _ _ _ => rfl⟩
theorem rt_Gs.rf {h : az_H} : rt_Gs h h := ⟨fun _ _ _ _ => rfl, fun _ _ => rfl⟩
theorem rt_Fs.tr {h h1 h2 : az_H} (x : rt_Fs h h1) (y : rt_Fs h1 h2) : rt_Fs h h2 := ⟨fun a p q r s => (y.1 a p q r s).trans (x.1 a p q r s), fun j p q => (y.2 j p q).trans (x.2 j p q)⟩
theorem rt_Gs.tr {h h1 h2 : az_H} (x : rt_Gs h h1) (y : rt_Gs h1 h2) : rt_Gs h h2 := ⟨fun a p q r => (y.1 a p q r).trans (x.1 a p q r), fun j p => (y.2 j p).trans (x.2 j p)⟩
theorem rt_Fs_F1 {h h1 : az_H} (x : rt_F 1 h h1) : rt_Fs h h1 := ⟨fun a p q _ _ => x.1 a p q, x.2⟩
theorem rt_C_F {σ : rt_S} {h h1 : az_H} (hC : rt_C σ h) (hF : rt_Fs h h1) : rt_C σ h1 := by
  obtain ⟨t, k, kt, l, r, f⟩ := hC
  have e : ∀ a, 31 ≤ a → (a < 48 ∨ 56 < a) → h1 a = h a := fun a p q => hF.1 a (by omega) (by omega) (Or.inr (by omega)) q
  have e0 : h1 0 = h 0 := hF.1 0 (by omega) (by omega) (by omega) (by omega)
  refine ⟨?_, by rw [e0]; exact k, fun q => ?_, by rw [e 46 (by omega) (by omega), e 47 (by omega) (by omega)]; exact l, by rw [e0, e 57 (by omega) (by omega)]; exact r, by rw [e 58 (by omega) (by omega)]; exact f⟩
  · obtain ⟨⟨t1, t2, t3, t4, t5, t6⟩, ts, tr, tw⟩ := t
    have e1 : ∀ a, 2 ≤ a → a ≤ 14 → h1 a = h a := fun a p q => hF.1 a (by omega) (by omega) (by omega) (by omega)
    refine ⟨⟨by rw [hF.2 3 (by omega) (by omega)]; exact t1, by rw [hF.2 4 (by omega) (by omega)]; exact t2, by rw [hF.2 5 (by omega) (by omega)]; exact t3, by rw [e1 _ (by omega) (by omega)]; exact t4, by rw [e1 _ (by omega) (by omega)]; exact t5, by rw [e1 _ (by omega) (by omega)]; exact t6⟩, fun i hi => ?_, fun i hi => ?_, fun i hi => ?_⟩
    · rw [e1 _ (by omega) (by omega), e1 _ (by omega) (by omega), e1 _ (by omega) (by omega), e1 _ (by omega) (by omega), e1 _ (by omega) (by omega), e1 _ (by omega) (by omega)]; exact ts i hi
    · rw [e1 _ (by omega) (by omega), e1 _ (by omega) (by omega), e1 _ (by omega) (by omega)]; exact tr i hi
    · rw [e1 _ (by omega) (by omega)]; exact tw i hi
  · exact rt_T_h (kt q) (fun k hk => e _ (by omega) (by omega))
theorem rt_R_G {σ : rt_S} {h h1 : az_H} (hR : rt_R σ h) (hG : rt_Gs h h1) : rt_R σ h1 := by
  obtain ⟨t, k, kt, l, r, f⟩ := hR
  have e : ∀ a, a ≠ 59 → a ≠ 63 → (a < 68 ∨ 73 < a) → h1 a = h a := hG.1
  refine ⟨rt_M_h t (e 61 (by omega) (by omega) (by omega)), by rw [hG.2 4 (by omega)]; exact k, fun q => rt_M_h (kt q) (e 62 (by omega) (by omega) (by omega)), by rw [hG.2 6 (by omega), e 64 (by omega) (by omega) (by omega)]; exact l, by rw [hG.2 26 (by omega), e 74 (by omega) (by omega) (by omega)]; exact r, by rw [e 60 (by omega) (by omega) (by omega)]; exact f⟩
theorem rt_C_e {σ : rt_S} {h h1 : az_H} (hC : rt_C σ h) (e : ∀ a, a < 59 → h1 a = h a) : rt_C σ h1 := by
  obtain ⟨t, k, kt, l, r, f⟩ := hC
  exact ⟨rt_T_h t (fun k hk => e _ (by omega)), by rw [e 0 (by omega)]; exact k, fun q => rt_T_h (kt q) (fun k hk => e _ (by omega)), by rw [e 46 (by omega), e 47 (by omega)]; exact l, by rw [e 0 (by omega), e 57 (by omega)]; exact r, by rw [e 58 (by omega)]; exact f⟩
theorem rt_R_e {σ : rt_S} {h h1 : az_H} (hR : rt_R σ h) (e : ∀ a, 59 ≤ a → h1 a = h a) : rt_R σ h1 := by
  obtain ⟨t, k, kt, l, r, f⟩ := hR
  exact ⟨rt_M_h t (e 61 (by omega)), by rw [e 59 (by omega)]; exact k, fun q => rt_M_h (kt q) (e 62 (by omega)), by rw [e 59 (by omega), e 64 (by omega)]; exact l, by rw [e 59 (by omega), e 74 (by omega)]; exact r, by rw [e 60 (by omega)]; exact f⟩
/-- a call's end: the class's, the reference's -/
def rt_oc (A : Int32) (σ : rt_S) (h : az_H) : Option Value → az_H → Prop := fun v h1 => v = some (.int A) ∧ rt_C σ h1 ∧ ∀ a, 59 ≤ a → h1 a = h a
def rt_or (A : Int32) (σ : rt_S) (h : az_H) : Option Value → az_H → Prop := fun v h1 => v = some (.int A) ∧ rt_R σ h1 ∧ ∀ a, (a < 59 ∨ (64 < a ∧ a < 68)) → h1 a = h a
/-- a refusal counted -/
def sp_ref (σ : rt_S) (k : Nat) : rt_S := (σ.1, σ.2.1, σ.2.2.1, σ.2.2.2.1, σ.2.2.2.2.1, fun i => if i = k then σ.2.2.2.2.2 i + 1 else σ.2.2.2.2.2 i)
theorem rt_W_ref {σ : rt_S} {k : Nat} (h : rt_W σ) : rt_W (sp_ref σ k) := h
def az_out (x lo hi : Int32) : Int32 := if lo ≤ x then (if x ≤ hi then 0 else -6) else -4
def sp_rw (σ : rt_S) (w : Int32) : rt_S := sp_ref σ (if w = -4 then 4 else 6)
set_option maxRecDepth 100000 in
theorem ct_refuse {sc : az_S} {σ : rt_S} {h : az_H} (hC : rt_C σ h) {w : Int32} {k : Nat} (hw : -w = nI k) (hk : k < 7) : az_E sc az_m_X7_refuse 0 [.ref 0, .int w] [] h (rt_oc w (sp_ref σ k) h) := by
  refine az_er 8 rfl ?_
  refine az_ecallF rfl rfl rfl rfl (ct_atI rfl hw hk (by decide) (hC.2.2.2.2.2 k hk)) ?_
  refine az_er 2 rfl ?_
  refine az_ecallF rfl rfl rfl rfl (ct_putI rfl hw hk (by decide)) ?_
  refine az_er 1 rfl ?_
  refine az_eret rfl rfl rfl ?_
  refine ⟨rfl, ⟨rt_T_h hC.1 (fun k hk => az_up_o (by omega)), by rw [az_up_o (by decide)]; exact hC.2.1, fun q => rt_T_h (hC.2.2.1 q) (fun k hk => az_up_o (by omega)), by rw [az_up_o (by decide), az_up_o (by decide)]; exact hC.2.2.2.1, by rw [az_up_o (by decide), az_up_o (by decide)]; exact hC.2.2.2.2.1, fun i hi => ?_⟩, fun a ha => az_up_o (by omega)⟩
  show _ = if i = k then σ.2.2.2.2.2 i + 1 else σ.2.2.2.2.2 i
  by_cases h9 : i = k
  · subst h9
    rw [az_up_s, if_pos rfl]
    rfl
  · rw [az_up_n h9, if_neg h9]
    exact hC.2.2.2.2.2 i hi
set_option maxRecDepth 100000 in
theorem ct_refuseW {sc : az_S} {σ : rt_S} {h : az_H} (hC : rt_C σ h) {w : Int32} {k : Nat} (hw : -w = nI k) (hk : k < 7) : az_E sc az_m_X7_refuseWorth 0 [.ref 0, .int w] [] h (rt_oc (1000000000 - w) (sp_ref σ k) h) := by
  refine az_er 3 rfl ?_
  refine az_ecall rfl rfl rfl rfl (ct_refuse hC hw hk) ?_
  rintro _ h1 ⟨rfl, h2, h3⟩
  refine az_er 1 rfl ?_
  refine az_eret rfl rfl rfl ?_
  exact ⟨rfl, h2, h3⟩
set_option maxRecDepth 100000 in
theorem cm_no {sc : az_S} {σ : rt_S} {h : az_H} (hR : rt_R σ h) {w : Int32} {k : Nat} (hw : -w = nI k) (hk : k < 7) : az_E sc az_m_X8_no 0 [.ref 59, .int w] [] h (rt_or w (sp_ref σ k) h) := by
  refine az_er 5 rfl ?_
  refine az_iaI rfl rfl hw hk (by decide) (hR.2.2.2.2.2 k hk) ?_
  refine az_er 2 rfl ?_
  refine az_iasI rfl rfl hw hk (by decide) ?_
  refine az_er 1 rfl ?_
  refine az_eret rfl rfl rfl ?_
  refine ⟨rfl, ⟨rt_M_h hR.1 (az_up_o (by decide)), by rw [az_up_o (by decide)]; exact hR.2.1, fun q => rt_M_h (hR.2.2.1 q) (az_up_o (by decide)), by rw [az_up_o (by decide), az_up_o (by decide)]; exact hR.2.2.2.1, by rw [az_up_o (by decide), az_up_o (by decide)]; exact hR.2.2.2.2.1, fun i hi => ?_⟩, fun a ha => az_up_o (by omega)⟩
  show _ = if i = k then σ.2.2.2.2.2 i + 1 else σ.2.2.2.2.2 i
  by_cases h9 : i = k
  · subst h9
    rw [az_up_s, if_pos rfl]
    rfl
  · rw [az_up_n h9, if_neg h9]
    exact hR.2.2.2.2.2 i hi
set_option maxRecDepth 100000 in
theorem lm_move {sc : az_S} {ka kb : Nat} {h : az_H} (hwa : az_wd[ka]? = some (.inr (0, 70))) (hwb : az_wd[kb]? = some (.inr (0, 70))) (hab : ka ≠ kb) (hka : ka < 75) (hkb : kb < 75) : ∀ (d i : Nat) (x : Int32), i ≤ 70 → 70 - i = d → x = nI i → az_E sc az_m_X8_move 2 [.ref ka, .ref kb, .int x] [] (az_cp h ka kb i) (fun v h' => v = none ∧ h' = az_cp h ka kb 70) := by
  intro d
  induction d with
  | zero =>
    intro i x hi hd hx
    have he : i = 70 := by omega
    refine az_er 2 rfl ?_
    refine az_ic_ge rfl rfl (fun c5 => ?_) (fun c5 => absurd (by rw [hx, he]; exact nI_le (Nat.le_refl _) (by decide)) c5)
    refine az_eret rfl rfl rfl ?_
    exact ⟨rfl, by rw [he]⟩
  | succ d ih =>
    intro i x hi hd hx
    have hlt : i < 70 := by omega
    refine az_er 2 rfl ?_
    refine az_ic_ge rfl rfl (fun c5 => absurd c5 (by rw [hx]; exact nI_ge hlt (by decide))) (fun c5 => ?_)
    refine az_er 4 rfl ?_
    refine az_ia rfl hwa (by rw [hx]; exact vp_in_nI hlt (by decide)) ?_ hka
    refine az_ias rfl hwb (by rw [hx]; exact vp_in_nI hlt (by decide)) ?_ hkb
    refine az_er 2 rfl ?_
    rw [hx, nI_clamp (by omega), az_cp_s hab]
    exact ih (i + 1) _ (by omega) (by omega) (nI_1' i)
set_option maxRecDepth 100000 in
theorem cm_move {sc : az_S} {ka kb : Nat} {h : az_H} (hwa : az_wd[ka]? = some (.inr (0, 70))) (hwb : az_wd[kb]? = some (.inr (0, 70))) (hab : ka ≠ kb) (hka : ka < 75 := by decide) (hkb : kb < 75 := by decide) : az_F sc az_m_X8_move [.ref ka, .ref kb] h none (az_cp h ka kb 70) := by
  refine az_F.of ?_
  refine az_er 2 rfl ?_
  have := lm_move (sc := sc) (h := h) hwa hwb hab hka hkb 70 0 0 (Nat.zero_le _) (by omega) rfl
  rw [az_cp_0] at this
  exact this
theorem rt_M_cp {a b : Nat} {τ : Nat → Nat} {h : az_H} (hT : rt_M a τ h) : rt_M b τ (az_cp h a b 70) := fun j hj => by
  rw [az_cp, if_pos rfl, if_pos hj]
  exact hT j hj
theorem az_cp_o {h : az_H} {a b n c : Nat} (hc : c ≠ b) : az_cp h a b n c = h c := by rw [az_cp, if_neg hc]
theorem az_cp_i {h : az_H} {a b n j : Nat} (hj : j < n) : az_cp h a b n b j = h a j := by rw [az_cp, if_pos rfl, if_pos hj]
set_option maxRecDepth 100000 in
theorem ct_scopy_16_1 {sc : az_S} {h : az_H} : az_E sc az_m_X4_copyFrom 0 [.ref 17, .ref 2] [] h (fun v h1 => v = none ∧ h1 17 6 = h 2 6 ∧ (∀ i, i < 4 → h1 18 i = h 3 i ∧ h1 19 i = h 4 i ∧ h1 20 i = h 5 i ∧ h1 21 i = h 6 i ∧ h1 22 i = h 7 i ∧ h1 23 i = h 8 i) ∧ ∀ a, a < 17 ∨ 23 < a → h1 a = h a) := by
  refine az_er 4 rfl ?_
  refine az_ecallF rfl rfl rfl rfl (ct_copyRow rfl rfl (by decide) (by decide)) ?_
  refine az_er 4 rfl ?_
  refine az_ecallF rfl rfl rfl rfl (ct_copyRow rfl rfl (by decide) (by decide)) ?_
  refine az_er 4 rfl ?_
  refine az_ecallF rfl rfl rfl rfl (ct_copyRow rfl rfl (by decide) (by decide)) ?_
  refine az_er 4 rfl ?_
  refine az_ecallF rfl rfl rfl rfl (ct_copyRow rfl rfl (by decide) (by decide)) ?_
  refine az_er 4 rfl ?_
  refine az_ecallF rfl rfl rfl rfl (ct_copyRow rfl rfl (by decide) (by decide)) ?_
  refine az_er 4 rfl ?_
  refine az_ecallF rfl rfl rfl rfl (ct_copyRow rfl rfl (by decide) (by decide)) ?_
  refine az_er 4 rfl ?_
  refine az_eret rfl rfl rfl ?_
  refine ⟨rfl, ?_, fun i hi => ⟨?_, ?_, ?_, ?_, ?_, ?_⟩, fun a ha => ?_⟩
  · rw [az_up_s]
    simp only [az_cp_o (show 2 ≠ 18 by decide), az_cp_o (show 2 ≠ 19 by decide), az_cp_o (show 2 ≠ 20 by decide), az_cp_o (show 2 ≠ 21 by decide), az_cp_o (show 2 ≠ 22 by decide), az_cp_o (show 2 ≠ 23 by decide)]
  · simp [az_up, az_cp, hi]
  · simp [az_up, az_cp, hi]
  · simp [az_up, az_cp, hi]
  · simp [az_up, az_cp, hi]
  · simp [az_up, az_cp, hi]
  · simp [az_up, az_cp, hi]
  · rw [az_up_o (by omega), az_cp_o (by omega), az_cp_o (by omega), az_cp_o (by omega), az_cp_o (by omega), az_cp_o (by omega), az_cp_o (by omega)]
set_option maxRecDepth 100000 in
theorem ct_rcopy_16_1 {sc : az_S} {h : az_H} : az_E sc az_m_X3_copyFrom 0 [.ref 24, .ref 9] [] h (fun v h1 => v = none ∧ h1 24 3 = h 9 3 ∧ (∀ i, i < 6 → h1 25 i = h 10 i ∧ h1 26 i = h 11 i ∧ h1 27 i = h 12 i) ∧ ∀ a, a < 24 ∨ 27 < a → h1 a = h a) := by
  refine az_er 4 rfl ?_
  refine az_ecallF rfl rfl rfl rfl (ct_copyRow rfl rfl (by decide) (by decide)) ?_
  refine az_er 4 rfl ?_
  refine az_ecallF rfl rfl rfl rfl (ct_copyRow rfl rfl (by decide) (by decide)) ?_
  refine az_er 4 rfl ?_
  refine az_ecallF rfl rfl rfl rfl (ct_copyRow rfl rfl (by decide) (by decide)) ?_
  refine az_er 4 rfl ?_
  refine az_eret rfl rfl rfl ?_
  refine ⟨rfl, ?_, fun i hi => ⟨?_, ?_, ?_⟩, fun a ha => ?_⟩
  · rw [az_up_s]
    simp only [az_cp_o (show 9 ≠ 25 by decide), az_cp_o (show 9 ≠ 26 by decide), az_cp_o (show 9 ≠ 27 by decide)]
  · simp [az_up, az_cp, hi]
  · simp [az_up, az_cp, hi]
  · simp [az_up, az_cp, hi]
  · rw [az_up_o (by omega), az_cp_o (by omega), az_cp_o (by omega), az_cp_o (by omega)]
set_option maxRecDepth 100000 in
theorem ct_mcopy_16_1 {sc : az_S} {h : az_H} : az_E sc az_m_X1_copyFrom 0 [.ref 28, .ref 13] [] h (fun v h1 => v = none ∧ h1 28 1 = h 13 1 ∧ (∀ i, i < 8 → h1 29 i = h 14 i) ∧ ∀ a, a < 28 ∨ 29 < a → h1 a = h a) := by
  refine az_er 4 rfl ?_
  refine az_ecallF rfl rfl rfl rfl (ct_copyRow rfl rfl (by decide) (by decide)) ?_
  refine az_er 4 rfl ?_
  refine az_eret rfl rfl rfl ?_
  refine ⟨rfl, ?_, fun i hi => ?_, fun a ha => ?_⟩
  · rw [az_up_s, az_cp_o (by decide)]
  · simp [az_up, az_cp, hi]
  · rw [az_up_o (by omega), az_cp_o (by omega)]
set_option maxRecDepth 100000 in
theorem ct_copy_16_1 {sc : az_S} {τ : Nat → Nat} {h : az_H} (hT : rt_T 1 τ h) : az_E sc az_m_X6_copyFrom 0 [.ref 16, .ref 1] [] h (fun v h1 => v = none ∧ rt_T 16 τ h1 ∧ ∀ a, a < 16 ∨ 29 < a → h1 a = h a) := by
  refine az_er 4 rfl ?_
  refine az_ecall rfl rfl rfl rfl (ct_scopy_16_1) ?_
  rintro _ h1 ⟨rfl, s1, s2, s3⟩
  refine az_er 4 rfl ?_
  refine az_ecall rfl rfl rfl rfl (ct_rcopy_16_1) ?_
  rintro _ h2 ⟨rfl, r1, r2, r3⟩
  refine az_er 4 rfl ?_
  refine az_ecall rfl rfl rfl rfl (ct_mcopy_16_1) ?_
  rintro _ h3 ⟨rfl, m1, m2, m3⟩
  refine az_er 12 rfl ?_
  refine az_eret rfl rfl rfl ?_
  have u : ∀ a, a ≠ 16 → az_up (az_up (az_up h3 16 3 (h3 1 3)) 16 4 (az_up h3 16 3 (h3 1 3) 1 4)) 16 5 (az_up (az_up h3 16 3 (h3 1 3)) 16 4 (az_up h3 16 3 (h3 1 3) 1 4) 1 5) a = h3 a := fun a ha => by rw [az_up_o ha, az_up_o ha, az_up_o ha]
  refine ⟨rfl, ⟨⟨?_, ?_, ?_, ?_, ?_, ?_⟩, fun i hi => ?_, fun i hi => ?_, fun i hi => ?_⟩, fun a ha => ?_⟩
  · rw [az_up_n (by decide), az_up_n (by decide), az_up_s, m3 1 (by decide), r3 1 (by decide), s3 1 (by decide)]; exact hT.1.1
  · rw [az_up_n (by decide), az_up_s, az_up_o (by decide), m3 1 (by decide), r3 1 (by decide), s3 1 (by decide)]; exact hT.1.2.1
  · rw [az_up_s, az_up_o (by decide), az_up_o (by decide), m3 1 (by decide), r3 1 (by decide), s3 1 (by decide)]; exact hT.1.2.2.1
  · rw [u _ (by decide), m3 _ (by decide), r3 _ (by decide), s1]; exact hT.1.2.2.2.1
  · rw [u _ (by decide), m3 _ (by decide), r1, s3 _ (by decide)]; exact hT.1.2.2.2.2.1
  · rw [u _ (by decide), m1, r3 _ (by decide), s3 _ (by decide)]; exact hT.1.2.2.2.2.2
  · obtain ⟨q1, q2, q3, q4, q5, q6⟩ := s2 i hi
    refine ⟨?_, ?_, ?_, ?_, ?_, ?_⟩
    · rw [u _ (by decide), m3 _ (by decide), r3 _ (by decide), q1]; exact (hT.2.1 i hi).1
    · rw [u _ (by decide), m3 _ (by decide), r3 _ (by decide), q2]; exact (hT.2.1 i hi).2.1
    · rw [u _ (by decide), m3 _ (by decide), r3 _ (by decide), q3]; exact (hT.2.1 i hi).2.2.1
    · rw [u _ (by decide), m3 _ (by decide), r3 _ (by decide), q4]; exact (hT.2.1 i hi).2.2.2.1
    · rw [u _ (by decide), m3 _ (by decide), r3 _ (by decide), q5]; exact (hT.2.1 i hi).2.2.2.2.1
    · rw [u _ (by decide), m3 _ (by decide), r3 _ (by decide), q6]; exact (hT.2.1 i hi).2.2.2.2.2
  · obtain ⟨q1, q2, q3⟩ := r2 i hi
    refine ⟨?_, ?_, ?_⟩
    · rw [u _ (by decide), m3 _ (by decide), q1, s3 _ (by decide)]; exact (hT.2.2.1 i hi).1
    · rw [u _ (by decide), m3 _ (by decide), q2, s3 _ (by decide)]; exact (hT.2.2.1 i hi).2.1
    · rw [u _ (by decide), m3 _ (by decide), q3, s3 _ (by decide)]; exact (hT.2.2.1 i hi).2.2
  · rw [u _ (by decide), m2 i hi, r3 _ (by decide), s3 _ (by decide)]; exact hT.2.2.2 i hi
  · rw [u _ (by omega), m3 _ (by omega), r3 _ (by omega), s3 _ (by omega)]
set_option maxRecDepth 100000 in
theorem ct_scopy_31_1 {sc : az_S} {h : az_H} : az_E sc az_m_X4_copyFrom 0 [.ref 32, .ref 2] [] h (fun v h1 => v = none ∧ h1 32 6 = h 2 6 ∧ (∀ i, i < 4 → h1 33 i = h 3 i ∧ h1 34 i = h 4 i ∧ h1 35 i = h 5 i ∧ h1 36 i = h 6 i ∧ h1 37 i = h 7 i ∧ h1 38 i = h 8 i) ∧ ∀ a, a < 32 ∨ 38 < a → h1 a = h a) := by
  refine az_er 4 rfl ?_
  refine az_ecallF rfl rfl rfl rfl (ct_copyRow rfl rfl (by decide) (by decide)) ?_
  refine az_er 4 rfl ?_
  refine az_ecallF rfl rfl rfl rfl (ct_copyRow rfl rfl (by decide) (by decide)) ?_
  refine az_er 4 rfl ?_
  refine az_ecallF rfl rfl rfl rfl (ct_copyRow rfl rfl (by decide) (by decide)) ?_
  refine az_er 4 rfl ?_
  refine az_ecallF rfl rfl rfl rfl (ct_copyRow rfl rfl (by decide) (by decide)) ?_
  refine az_er 4 rfl ?_
  refine az_ecallF rfl rfl rfl rfl (ct_copyRow rfl rfl (by decide) (by decide)) ?_
  refine az_er 4 rfl ?_
  refine az_ecallF rfl rfl rfl rfl (ct_copyRow rfl rfl (by decide) (by decide)) ?_
  refine az_er 4 rfl ?_
  refine az_eret rfl rfl rfl ?_
  refine ⟨rfl, ?_, fun i hi => ⟨?_, ?_, ?_, ?_, ?_, ?_⟩, fun a ha => ?_⟩
  · rw [az_up_s]
    simp only [az_cp_o (show 2 ≠ 33 by decide), az_cp_o (show 2 ≠ 34 by decide), az_cp_o (show 2 ≠ 35 by decide), az_cp_o (show 2 ≠ 36 by decide), az_cp_o (show 2 ≠ 37 by decide), az_cp_o (show 2 ≠ 38 by decide)]
  · simp [az_up, az_cp, hi]
  · simp [az_up, az_cp, hi]
  · simp [az_up, az_cp, hi]
  · simp [az_up, az_cp, hi]
  · simp [az_up, az_cp, hi]
  · simp [az_up, az_cp, hi]
  · rw [az_up_o (by omega), az_cp_o (by omega), az_cp_o (by omega), az_cp_o (by omega), az_cp_o (by omega), az_cp_o (by omega), az_cp_o (by omega)]
set_option maxRecDepth 100000 in
theorem ct_rcopy_31_1 {sc : az_S} {h : az_H} : az_E sc az_m_X3_copyFrom 0 [.ref 39, .ref 9] [] h (fun v h1 => v = none ∧ h1 39 3 = h 9 3 ∧ (∀ i, i < 6 → h1 40 i = h 10 i ∧ h1 41 i = h 11 i ∧ h1 42 i = h 12 i) ∧ ∀ a, a < 39 ∨ 42 < a → h1 a = h a) := by
  refine az_er 4 rfl ?_
  refine az_ecallF rfl rfl rfl rfl (ct_copyRow rfl rfl (by decide) (by decide)) ?_
  refine az_er 4 rfl ?_
  refine az_ecallF rfl rfl rfl rfl (ct_copyRow rfl rfl (by decide) (by decide)) ?_
  refine az_er 4 rfl ?_
  refine az_ecallF rfl rfl rfl rfl (ct_copyRow rfl rfl (by decide) (by decide)) ?_
  refine az_er 4 rfl ?_
  refine az_eret rfl rfl rfl ?_
  refine ⟨rfl, ?_, fun i hi => ⟨?_, ?_, ?_⟩, fun a ha => ?_⟩
  · rw [az_up_s]
    simp only [az_cp_o (show 9 ≠ 40 by decide), az_cp_o (show 9 ≠ 41 by decide), az_cp_o (show 9 ≠ 42 by decide)]
  · simp [az_up, az_cp, hi]
  · simp [az_up, az_cp, hi]
  · simp [az_up, az_cp, hi]
  · rw [az_up_o (by omega), az_cp_o (by omega), az_cp_o (by omega), az_cp_o (by omega)]
set_option maxRecDepth 100000 in
theorem ct_mcopy_31_1 {sc : az_S} {h : az_H} : az_E sc az_m_X1_copyFrom 0 [.ref 43, .ref 13] [] h (fun v h1 => v = none ∧ h1 43 1 = h 13 1 ∧ (∀ i, i < 8 → h1 44 i = h 14 i) ∧ ∀ a, a < 43 ∨ 44 < a → h1 a = h a) := by
  refine az_er 4 rfl ?_
  refine az_ecallF rfl rfl rfl rfl (ct_copyRow rfl rfl (by decide) (by decide)) ?_
  refine az_er 4 rfl ?_
  refine az_eret rfl rfl rfl ?_
  refine ⟨rfl, ?_, fun i hi => ?_, fun a ha => ?_⟩
  · rw [az_up_s, az_cp_o (by decide)]
  · simp [az_up, az_cp, hi]
  · rw [az_up_o (by omega), az_cp_o (by omega)]
set_option maxRecDepth 100000 in
theorem ct_copy_31_1 {sc : az_S} {τ : Nat → Nat} {h : az_H} (hT : rt_T 1 τ h) : az_E sc az_m_X6_copyFrom 0 [.ref 31, .ref 1] [] h (fun v h1 => v = none ∧ rt_T 31 τ h1 ∧ ∀ a, a < 31 ∨ 44 < a → h1 a = h a) := by
  refine az_er 4 rfl ?_
  refine az_ecall rfl rfl rfl rfl (ct_scopy_31_1) ?_
  rintro _ h1 ⟨rfl, s1, s2, s3⟩
  refine az_er 4 rfl ?_
  refine az_ecall rfl rfl rfl rfl (ct_rcopy_31_1) ?_
  rintro _ h2 ⟨rfl, r1, r2, r3⟩
  refine az_er 4 rfl ?_
  refine az_ecall rfl rfl rfl rfl (ct_mcopy_31_1) ?_
  rintro _ h3 ⟨rfl, m1, m2, m3⟩
  refine az_er 12 rfl ?_
  refine az_eret rfl rfl rfl ?_
  have u : ∀ a, a ≠ 31 → az_up (az_up (az_up h3 31 3 (h3 1 3)) 31 4 (az_up h3 31 3 (h3 1 3) 1 4)) 31 5 (az_up (az_up h3 31 3 (h3 1 3)) 31 4 (az_up h3 31 3 (h3 1 3) 1 4) 1 5) a = h3 a := fun a ha => by rw [az_up_o ha, az_up_o ha, az_up_o ha]
  refine ⟨rfl, ⟨⟨?_, ?_, ?_, ?_, ?_, ?_⟩, fun i hi => ?_, fun i hi => ?_, fun i hi => ?_⟩, fun a ha => ?_⟩
  · rw [az_up_n (by decide), az_up_n (by decide), az_up_s, m3 1 (by decide), r3 1 (by decide), s3 1 (by decide)]; exact hT.1.1
  · rw [az_up_n (by decide), az_up_s, az_up_o (by decide), m3 1 (by decide), r3 1 (by decide), s3 1 (by decide)]; exact hT.1.2.1
  · rw [az_up_s, az_up_o (by decide), az_up_o (by decide), m3 1 (by decide), r3 1 (by decide), s3 1 (by decide)]; exact hT.1.2.2.1
  · rw [u _ (by decide), m3 _ (by decide), r3 _ (by decide), s1]; exact hT.1.2.2.2.1
  · rw [u _ (by decide), m3 _ (by decide), r1, s3 _ (by decide)]; exact hT.1.2.2.2.2.1
  · rw [u _ (by decide), m1, r3 _ (by decide), s3 _ (by decide)]; exact hT.1.2.2.2.2.2
  · obtain ⟨q1, q2, q3, q4, q5, q6⟩ := s2 i hi
    refine ⟨?_, ?_, ?_, ?_, ?_, ?_⟩
    · rw [u _ (by decide), m3 _ (by decide), r3 _ (by decide), q1]; exact (hT.2.1 i hi).1
    · rw [u _ (by decide), m3 _ (by decide), r3 _ (by decide), q2]; exact (hT.2.1 i hi).2.1
    · rw [u _ (by decide), m3 _ (by decide), r3 _ (by decide), q3]; exact (hT.2.1 i hi).2.2.1
    · rw [u _ (by decide), m3 _ (by decide), r3 _ (by decide), q4]; exact (hT.2.1 i hi).2.2.2.1
    · rw [u _ (by decide), m3 _ (by decide), r3 _ (by decide), q5]; exact (hT.2.1 i hi).2.2.2.2.1
    · rw [u _ (by decide), m3 _ (by decide), r3 _ (by decide), q6]; exact (hT.2.1 i hi).2.2.2.2.2
  · obtain ⟨q1, q2, q3⟩ := r2 i hi
    refine ⟨?_, ?_, ?_⟩
    · rw [u _ (by decide), m3 _ (by decide), q1, s3 _ (by decide)]; exact (hT.2.2.1 i hi).1
    · rw [u _ (by decide), m3 _ (by decide), q2, s3 _ (by decide)]; exact (hT.2.2.1 i hi).2.1
    · rw [u _ (by decide), m3 _ (by decide), q3, s3 _ (by decide)]; exact (hT.2.2.1 i hi).2.2
  · rw [u _ (by decide), m2 i hi, r3 _ (by decide), s3 _ (by decide)]; exact hT.2.2.2 i hi
  · rw [u _ (by omega), m3 _ (by omega), r3 _ (by omega), s3 _ (by omega)]
set_option maxRecDepth 100000 in
theorem ct_scopy_1_16 {sc : az_S} {h : az_H} : az_E sc az_m_X4_copyFrom 0 [.ref 2, .ref 17] [] h (fun v h1 => v = none ∧ h1 2 6 = h 17 6 ∧ (∀ i, i < 4 → h1 3 i = h 18 i ∧ h1 4 i = h 19 i ∧ h1 5 i = h 20 i ∧ h1 6 i = h 21 i ∧ h1 7 i = h 22 i ∧ h1 8 i = h 23 i) ∧ ∀ a, a < 2 ∨ 8 < a → h1 a = h a) := by
  refine az_er 4 rfl ?_
  refine az_ecallF rfl rfl rfl rfl (ct_copyRow rfl rfl (by decide) (by decide)) ?_
  refine az_er 4 rfl ?_
  refine az_ecallF rfl rfl rfl rfl (ct_copyRow rfl rfl (by decide) (by decide)) ?_
  refine az_er 4 rfl ?_
  refine az_ecallF rfl rfl rfl rfl (ct_copyRow rfl rfl (by decide) (by decide)) ?_
  refine az_er 4 rfl ?_
  refine az_ecallF rfl rfl rfl rfl (ct_copyRow rfl rfl (by decide) (by decide)) ?_
  refine az_er 4 rfl ?_
  refine az_ecallF rfl rfl rfl rfl (ct_copyRow rfl rfl (by decide) (by decide)) ?_
  refine az_er 4 rfl ?_
  refine az_ecallF rfl rfl rfl rfl (ct_copyRow rfl rfl (by decide) (by decide)) ?_
  refine az_er 4 rfl ?_
  refine az_eret rfl rfl rfl ?_
  refine ⟨rfl, ?_, fun i hi => ⟨?_, ?_, ?_, ?_, ?_, ?_⟩, fun a ha => ?_⟩
  · rw [az_up_s]
    simp only [az_cp_o (show 17 ≠ 3 by decide), az_cp_o (show 17 ≠ 4 by decide), az_cp_o (show 17 ≠ 5 by decide), az_cp_o (show 17 ≠ 6 by decide), az_cp_o (show 17 ≠ 7 by decide), az_cp_o (show 17 ≠ 8 by decide)]
  · simp [az_up, az_cp, hi]
  · simp [az_up, az_cp, hi]
  · simp [az_up, az_cp, hi]
  · simp [az_up, az_cp, hi]
  · simp [az_up, az_cp, hi]
  · simp [az_up, az_cp, hi]
  · rw [az_up_o (by omega), az_cp_o (by omega), az_cp_o (by omega), az_cp_o (by omega), az_cp_o (by omega), az_cp_o (by omega), az_cp_o (by omega)]
set_option maxRecDepth 100000 in
theorem ct_rcopy_1_16 {sc : az_S} {h : az_H} : az_E sc az_m_X3_copyFrom 0 [.ref 9, .ref 24] [] h (fun v h1 => v = none ∧ h1 9 3 = h 24 3 ∧ (∀ i, i < 6 → h1 10 i = h 25 i ∧ h1 11 i = h 26 i ∧ h1 12 i = h 27 i) ∧ ∀ a, a < 9 ∨ 12 < a → h1 a = h a) := by
  refine az_er 4 rfl ?_
  refine az_ecallF rfl rfl rfl rfl (ct_copyRow rfl rfl (by decide) (by decide)) ?_
  refine az_er 4 rfl ?_
  refine az_ecallF rfl rfl rfl rfl (ct_copyRow rfl rfl (by decide) (by decide)) ?_
  refine az_er 4 rfl ?_
  refine az_ecallF rfl rfl rfl rfl (ct_copyRow rfl rfl (by decide) (by decide)) ?_
  refine az_er 4 rfl ?_
  refine az_eret rfl rfl rfl ?_
  refine ⟨rfl, ?_, fun i hi => ⟨?_, ?_, ?_⟩, fun a ha => ?_⟩
  · rw [az_up_s]
    simp only [az_cp_o (show 24 ≠ 10 by decide), az_cp_o (show 24 ≠ 11 by decide), az_cp_o (show 24 ≠ 12 by decide)]
  · simp [az_up, az_cp, hi]
  · simp [az_up, az_cp, hi]
  · simp [az_up, az_cp, hi]
  · rw [az_up_o (by omega), az_cp_o (by omega), az_cp_o (by omega), az_cp_o (by omega)]
set_option maxRecDepth 100000 in
theorem ct_mcopy_1_16 {sc : az_S} {h : az_H} : az_E sc az_m_X1_copyFrom 0 [.ref 13, .ref 28] [] h (fun v h1 => v = none ∧ h1 13 1 = h 28 1 ∧ (∀ i, i < 8 → h1 14 i = h 29 i) ∧ ∀ a, a < 13 ∨ 14 < a → h1 a = h a) := by
  refine az_er 4 rfl ?_
  refine az_ecallF rfl rfl rfl rfl (ct_copyRow rfl rfl (by decide) (by decide)) ?_
  refine az_er 4 rfl ?_
  refine az_eret rfl rfl rfl ?_
  refine ⟨rfl, ?_, fun i hi => ?_, fun a ha => ?_⟩
  · rw [az_up_s, az_cp_o (by decide)]
  · simp [az_up, az_cp, hi]
  · rw [az_up_o (by omega), az_cp_o (by omega)]
set_option maxRecDepth 100000 in
theorem ct_copy_1_16 {sc : az_S} {τ : Nat → Nat} {h : az_H} (hT : rt_T 16 τ h) : az_E sc az_m_X6_copyFrom 0 [.ref 1, .ref 16] [] h (fun v h1 => v = none ∧ rt_T 1 τ h1 ∧ ∀ a, a < 1 ∨ 14 < a → h1 a = h a) := by
  refine az_er 4 rfl ?_
  refine az_ecall rfl rfl rfl rfl (ct_scopy_1_16) ?_
  rintro _ h1 ⟨rfl, s1, s2, s3⟩
  refine az_er 4 rfl ?_
  refine az_ecall rfl rfl rfl rfl (ct_rcopy_1_16) ?_
  rintro _ h2 ⟨rfl, r1, r2, r3⟩
  refine az_er 4 rfl ?_
  refine az_ecall rfl rfl rfl rfl (ct_mcopy_1_16) ?_
  rintro _ h3 ⟨rfl, m1, m2, m3⟩
  refine az_er 12 rfl ?_
  refine az_eret rfl rfl rfl ?_
  have u : ∀ a, a ≠ 1 → az_up (az_up (az_up h3 1 3 (h3 16 3)) 1 4 (az_up h3 1 3 (h3 16 3) 16 4)) 1 5 (az_up (az_up h3 1 3 (h3 16 3)) 1 4 (az_up h3 1 3 (h3 16 3) 16 4) 16 5) a = h3 a := fun a ha => by rw [az_up_o ha, az_up_o ha, az_up_o ha]
  refine ⟨rfl, ⟨⟨?_, ?_, ?_, ?_, ?_, ?_⟩, fun i hi => ?_, fun i hi => ?_, fun i hi => ?_⟩, fun a ha => ?_⟩
  · rw [az_up_n (by decide), az_up_n (by decide), az_up_s, m3 16 (by decide), r3 16 (by decide), s3 16 (by decide)]; exact hT.1.1
  · rw [az_up_n (by decide), az_up_s, az_up_o (by decide), m3 16 (by decide), r3 16 (by decide), s3 16 (by decide)]; exact hT.1.2.1
  · rw [az_up_s, az_up_o (by decide), az_up_o (by decide), m3 16 (by decide), r3 16 (by decide), s3 16 (by decide)]; exact hT.1.2.2.1
  · rw [u _ (by decide), m3 _ (by decide), r3 _ (by decide), s1]; exact hT.1.2.2.2.1
  · rw [u _ (by decide), m3 _ (by decide), r1, s3 _ (by decide)]; exact hT.1.2.2.2.2.1
  · rw [u _ (by decide), m1, r3 _ (by decide), s3 _ (by decide)]; exact hT.1.2.2.2.2.2
  · obtain ⟨q1, q2, q3, q4, q5, q6⟩ := s2 i hi
    refine ⟨?_, ?_, ?_, ?_, ?_, ?_⟩
    · rw [u _ (by decide), m3 _ (by decide), r3 _ (by decide), q1]; exact (hT.2.1 i hi).1
    · rw [u _ (by decide), m3 _ (by decide), r3 _ (by decide), q2]; exact (hT.2.1 i hi).2.1
    · rw [u _ (by decide), m3 _ (by decide), r3 _ (by decide), q3]; exact (hT.2.1 i hi).2.2.1
    · rw [u _ (by decide), m3 _ (by decide), r3 _ (by decide), q4]; exact (hT.2.1 i hi).2.2.2.1
    · rw [u _ (by decide), m3 _ (by decide), r3 _ (by decide), q5]; exact (hT.2.1 i hi).2.2.2.2.1
    · rw [u _ (by decide), m3 _ (by decide), r3 _ (by decide), q6]; exact (hT.2.1 i hi).2.2.2.2.2
  · obtain ⟨q1, q2, q3⟩ := r2 i hi
    refine ⟨?_, ?_, ?_⟩
    · rw [u _ (by decide), m3 _ (by decide), q1, s3 _ (by decide)]; exact (hT.2.2.1 i hi).1
    · rw [u _ (by decide), m3 _ (by decide), q2, s3 _ (by decide)]; exact (hT.2.2.1 i hi).2.1
    · rw [u _ (by decide), m3 _ (by decide), q3, s3 _ (by decide)]; exact (hT.2.2.1 i hi).2.2
  · rw [u _ (by decide), m2 i hi, r3 _ (by decide), s3 _ (by decide)]; exact hT.2.2.2 i hi
  · rw [u _ (by omega), m3 _ (by omega), r3 _ (by omega), s3 _ (by omega)]
set_option maxRecDepth 100000 in
theorem ct_scopy_1_31 {sc : az_S} {h : az_H} : az_E sc az_m_X4_copyFrom 0 [.ref 2, .ref 32] [] h (fun v h1 => v = none ∧ h1 2 6 = h 32 6 ∧ (∀ i, i < 4 → h1 3 i = h 33 i ∧ h1 4 i = h 34 i ∧ h1 5 i = h 35 i ∧ h1 6 i = h 36 i ∧ h1 7 i = h 37 i ∧ h1 8 i = h 38 i) ∧ ∀ a, a < 2 ∨ 8 < a → h1 a = h a) := by
  refine az_er 4 rfl ?_
  refine az_ecallF rfl rfl rfl rfl (ct_copyRow rfl rfl (by decide) (by decide)) ?_
  refine az_er 4 rfl ?_
  refine az_ecallF rfl rfl rfl rfl (ct_copyRow rfl rfl (by decide) (by decide)) ?_
  refine az_er 4 rfl ?_
  refine az_ecallF rfl rfl rfl rfl (ct_copyRow rfl rfl (by decide) (by decide)) ?_
  refine az_er 4 rfl ?_
  refine az_ecallF rfl rfl rfl rfl (ct_copyRow rfl rfl (by decide) (by decide)) ?_
  refine az_er 4 rfl ?_
  refine az_ecallF rfl rfl rfl rfl (ct_copyRow rfl rfl (by decide) (by decide)) ?_
  refine az_er 4 rfl ?_
  refine az_ecallF rfl rfl rfl rfl (ct_copyRow rfl rfl (by decide) (by decide)) ?_
  refine az_er 4 rfl ?_
  refine az_eret rfl rfl rfl ?_
  refine ⟨rfl, ?_, fun i hi => ⟨?_, ?_, ?_, ?_, ?_, ?_⟩, fun a ha => ?_⟩
  · rw [az_up_s]
    simp only [az_cp_o (show 32 ≠ 3 by decide), az_cp_o (show 32 ≠ 4 by decide), az_cp_o (show 32 ≠ 5 by decide), az_cp_o (show 32 ≠ 6 by decide), az_cp_o (show 32 ≠ 7 by decide), az_cp_o (show 32 ≠ 8 by decide)]
  · simp [az_up, az_cp, hi]
  · simp [az_up, az_cp, hi]
  · simp [az_up, az_cp, hi]
  · simp [az_up, az_cp, hi]
  · simp [az_up, az_cp, hi]
  · simp [az_up, az_cp, hi]
  · rw [az_up_o (by omega), az_cp_o (by omega), az_cp_o (by omega), az_cp_o (by omega), az_cp_o (by omega), az_cp_o (by omega), az_cp_o (by omega)]
set_option maxRecDepth 100000 in
theorem ct_rcopy_1_31 {sc : az_S} {h : az_H} : az_E sc az_m_X3_copyFrom 0 [.ref 9, .ref 39] [] h (fun v h1 => v = none ∧ h1 9 3 = h 39 3 ∧ (∀ i, i < 6 → h1 10 i = h 40 i ∧ h1 11 i = h 41 i ∧ h1 12 i = h 42 i) ∧ ∀ a, a < 9 ∨ 12 < a → h1 a = h a) := by
  refine az_er 4 rfl ?_
  refine az_ecallF rfl rfl rfl rfl (ct_copyRow rfl rfl (by decide) (by decide)) ?_
  refine az_er 4 rfl ?_
  refine az_ecallF rfl rfl rfl rfl (ct_copyRow rfl rfl (by decide) (by decide)) ?_
  refine az_er 4 rfl ?_
  refine az_ecallF rfl rfl rfl rfl (ct_copyRow rfl rfl (by decide) (by decide)) ?_
  refine az_er 4 rfl ?_
  refine az_eret rfl rfl rfl ?_
  refine ⟨rfl, ?_, fun i hi => ⟨?_, ?_, ?_⟩, fun a ha => ?_⟩
  · rw [az_up_s]
    simp only [az_cp_o (show 39 ≠ 10 by decide), az_cp_o (show 39 ≠ 11 by decide), az_cp_o (show 39 ≠ 12 by decide)]
  · simp [az_up, az_cp, hi]
  · simp [az_up, az_cp, hi]
  · simp [az_up, az_cp, hi]
  · rw [az_up_o (by omega), az_cp_o (by omega), az_cp_o (by omega), az_cp_o (by omega)]
set_option maxRecDepth 100000 in
theorem ct_mcopy_1_31 {sc : az_S} {h : az_H} : az_E sc az_m_X1_copyFrom 0 [.ref 13, .ref 43] [] h (fun v h1 => v = none ∧ h1 13 1 = h 43 1 ∧ (∀ i, i < 8 → h1 14 i = h 44 i) ∧ ∀ a, a < 13 ∨ 14 < a → h1 a = h a) := by
  refine az_er 4 rfl ?_
  refine az_ecallF rfl rfl rfl rfl (ct_copyRow rfl rfl (by decide) (by decide)) ?_
  refine az_er 4 rfl ?_
  refine az_eret rfl rfl rfl ?_
  refine ⟨rfl, ?_, fun i hi => ?_, fun a ha => ?_⟩
  · rw [az_up_s, az_cp_o (by decide)]
  · simp [az_up, az_cp, hi]
  · rw [az_up_o (by omega), az_cp_o (by omega)]
set_option maxRecDepth 100000 in
theorem ct_copy_1_31 {sc : az_S} {τ : Nat → Nat} {h : az_H} (hT : rt_T 31 τ h) : az_E sc az_m_X6_copyFrom 0 [.ref 1, .ref 31] [] h (fun v h1 => v = none ∧ rt_T 1 τ h1 ∧ ∀ a, a < 1 ∨ 14 < a → h1 a = h a) := by
  refine az_er 4 rfl ?_
  refine az_ecall rfl rfl rfl rfl (ct_scopy_1_31) ?_
  rintro _ h1 ⟨rfl, s1, s2, s3⟩
  refine az_er 4 rfl ?_
  refine az_ecall rfl rfl rfl rfl (ct_rcopy_1_31) ?_
  rintro _ h2 ⟨rfl, r1, r2, r3⟩
  refine az_er 4 rfl ?_
  refine az_ecall rfl rfl rfl rfl (ct_mcopy_1_31) ?_
  rintro _ h3 ⟨rfl, m1, m2, m3⟩
  refine az_er 12 rfl ?_
  refine az_eret rfl rfl rfl ?_
  have u : ∀ a, a ≠ 1 → az_up (az_up (az_up h3 1 3 (h3 31 3)) 1 4 (az_up h3 1 3 (h3 31 3) 31 4)) 1 5 (az_up (az_up h3 1 3 (h3 31 3)) 1 4 (az_up h3 1 3 (h3 31 3) 31 4) 31 5) a = h3 a := fun a ha => by rw [az_up_o ha, az_up_o ha, az_up_o ha]
  refine ⟨rfl, ⟨⟨?_, ?_, ?_, ?_, ?_, ?_⟩, fun i hi => ?_, fun i hi => ?_, fun i hi => ?_⟩, fun a ha => ?_⟩
  · rw [az_up_n (by decide), az_up_n (by decide), az_up_s, m3 31 (by decide), r3 31 (by decide), s3 31 (by decide)]; exact hT.1.1
  · rw [az_up_n (by decide), az_up_s, az_up_o (by decide), m3 31 (by decide), r3 31 (by decide), s3 31 (by decide)]; exact hT.1.2.1
  · rw [az_up_s, az_up_o (by decide), az_up_o (by decide), m3 31 (by decide), r3 31 (by decide), s3 31 (by decide)]; exact hT.1.2.2.1
  · rw [u _ (by decide), m3 _ (by decide), r3 _ (by decide), s1]; exact hT.1.2.2.2.1
  · rw [u _ (by decide), m3 _ (by decide), r1, s3 _ (by decide)]; exact hT.1.2.2.2.2.1
  · rw [u _ (by decide), m1, r3 _ (by decide), s3 _ (by decide)]; exact hT.1.2.2.2.2.2
  · obtain ⟨q1, q2, q3, q4, q5, q6⟩ := s2 i hi
    refine ⟨?_, ?_, ?_, ?_, ?_, ?_⟩
    · rw [u _ (by decide), m3 _ (by decide), r3 _ (by decide), q1]; exact (hT.2.1 i hi).1
    · rw [u _ (by decide), m3 _ (by decide), r3 _ (by decide), q2]; exact (hT.2.1 i hi).2.1
    · rw [u _ (by decide), m3 _ (by decide), r3 _ (by decide), q3]; exact (hT.2.1 i hi).2.2.1
    · rw [u _ (by decide), m3 _ (by decide), r3 _ (by decide), q4]; exact (hT.2.1 i hi).2.2.2.1
    · rw [u _ (by decide), m3 _ (by decide), r3 _ (by decide), q5]; exact (hT.2.1 i hi).2.2.2.2.1
    · rw [u _ (by decide), m3 _ (by decide), r3 _ (by decide), q6]; exact (hT.2.1 i hi).2.2.2.2.2
  · obtain ⟨q1, q2, q3⟩ := r2 i hi
    refine ⟨?_, ?_, ?_⟩
    · rw [u _ (by decide), m3 _ (by decide), q1, s3 _ (by decide)]; exact (hT.2.2.1 i hi).1
    · rw [u _ (by decide), m3 _ (by decide), q2, s3 _ (by decide)]; exact (hT.2.2.1 i hi).2.1
    · rw [u _ (by decide), m3 _ (by decide), q3, s3 _ (by decide)]; exact (hT.2.2.1 i hi).2.2
  · rw [u _ (by decide), m2 i hi, r3 _ (by decide), s3 _ (by decide)]; exact hT.2.2.2 i hi
  · rw [u _ (by omega), m3 _ (by omega), r3 _ (by omega), s3 _ (by omega)]
