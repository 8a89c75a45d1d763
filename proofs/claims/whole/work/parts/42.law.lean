/-! THE LAW'S LOOP -/
theorem lw_c {L i : Nat} (hL : L ≤ 100000) (hi : i ≤ 100000) : nI L - Int32.ofInt 5 < nI i ↔ (L : Int) - 5 < (i : Int) := by
  rw [iI_n, iI_n, show Int32.ofInt 5 = iI 5 from rfl, iI_sub]
  exact iI_lt (by omega) (by omega)
theorem lw_in {L i j : Nat} (hL : L ≤ 100000) (h : i + j < L) : vp_in (nI i + nI j) L := by
  rw [nI_add]
  exact vp_in_nI h (by omega)
theorem rp_K_e {h h2 h3 : az_H} (hK : rp_K h) (f2 : ∀ a, 59 ≤ a → h2 a = h a) (f3 : ∀ a, (a < 59 ∨ (64 < a ∧ a < 68)) → h3 a = h2 a) : rp_K h3 := by
  have e : ∀ a, 64 < a → a < 68 → h3 a = h a := fun a h1 h2 => (f3 a (Or.inr ⟨h1, h2⟩)).trans (f2 a (by omega))
  exact ⟨by rw [e 65 (by decide) (by decide)]; exact hK.1, by rw [e 66 (by decide) (by decide)]; exact hK.2.1, by rw [e 67 (by decide) (by decide)]; exact hK.2.2⟩
set_option maxRecDepth 100000 in
theorem lw_arm0 {sc : az_S} (hL : sc.1 ≤ 2560) {d i : Nat} (ih : ∀ (i : Nat) (x : Int32) (σ : rt_S) (hh : az_H), sc.1 + 5 ≤ i + 5 * d → i ≤ sc.1 + 5 → x = nI i → rt_W σ → rt_C σ hh → rt_R σ hh → rp_K hh → az_E sc az_m_L_law 18 [.ref 2000, .ref 0, .ref 59, .int x] [] hh (fun v _ => v = some (.int 1))) {σ : rt_S} {hh : az_H} (hend : ¬ sc.1 < i + 5) (hdi : sc.1 + 5 ≤ i + 5 * (d + 1)) (hW : rt_W σ) (hC : rt_C σ hh) (hR : rt_R σ hh) (hK : rp_K hh) : az_E sc az_m_L_law 172 [.ref 2000, .ref 0, .ref 59, .int (nI i)] [] hh (fun v _ => v = some (.int 1)) := by
  refine az_er 5 rfl ?_
  refine az_is rfl rfl (lw_in (i := i) (j := 1) (show sc.1 ≤ 100000 by omega) (by omega)) ?_
  obtain ⟨A, σ2, hW2, eC, eR⟩ := op_letter (x := sc.2 (nI i + Int32.ofInt 1).toNatClampNeg) sc σ hh hC hW
  refine az_ecall rfl rfl rfl rfl (eC) ?_
  rintro _ h2 ⟨rfl, c2, f2⟩
  refine az_er 5 rfl ?_
  refine az_is rfl rfl (lw_in (i := i) (j := 1) (show sc.1 ≤ 100000 by omega) (by omega)) ?_
  refine az_ecall rfl rfl rfl rfl (eR h2 (rt_R_e hR f2)) ?_
  rintro _ h3 ⟨rfl, r2, f3⟩
  refine az_ic_eq rfl rfl (fun c190 => ?_) (fun c190 => absurd rfl c190)
  refine az_er 2 rfl ?_
  exact ih (i + 5) _ σ2 h3 (by omega) (by omega) (nI_add i 5) hW2 (rt_C_e c2 (fun a ha => f3 a (Or.inl ha))) r2 (rp_K_e hK f2 f3)
set_option maxRecDepth 100000 in
theorem lw_arm1 {sc : az_S} (hL : sc.1 ≤ 2560) {d i : Nat} (ih : ∀ (i : Nat) (x : Int32) (σ : rt_S) (hh : az_H), sc.1 + 5 ≤ i + 5 * d → i ≤ sc.1 + 5 → x = nI i → rt_W σ → rt_C σ hh → rt_R σ hh → rp_K hh → az_E sc az_m_L_law 18 [.ref 2000, .ref 0, .ref 59, .int x] [] hh (fun v _ => v = some (.int 1))) {σ : rt_S} {hh : az_H} (hend : ¬ sc.1 < i + 5) (hdi : sc.1 + 5 ≤ i + 5 * (d + 1)) (hW : rt_W σ) (hC : rt_C σ hh) (hR : rt_R σ hh) (hK : rp_K hh) : az_E sc az_m_L_law 195 [.ref 2000, .ref 0, .ref 59, .int (nI i)] [] hh (fun v _ => v = some (.int 1)) := by
  refine az_er 1 rfl ?_
  obtain ⟨A, σ2, hW2, eC, eR⟩ := op_town sc σ hh hC hW
  refine az_ecall rfl rfl rfl rfl (eC) ?_
  rintro _ h2 ⟨rfl, c2, f2⟩
  refine az_er 1 rfl ?_
  refine az_ecall rfl rfl rfl rfl (eR h2 (rt_R_e hR f2) (rp_K_e (h3 := h2) hK f2 (fun _ _ => rfl))) ?_
  rintro _ h3 ⟨rfl, r2, f3⟩
  refine az_ic_eq rfl rfl (fun c203 => ?_) (fun c203 => absurd rfl c203)
  refine az_er 2 rfl ?_
  exact ih (i + 5) _ σ2 h3 (by omega) (by omega) (nI_add i 5) hW2 (rt_C_e c2 (fun a ha => f3 a (Or.inl ha))) r2 (rp_K_e hK f2 f3)
set_option maxRecDepth 100000 in
theorem lw_arm2 {sc : az_S} (hL : sc.1 ≤ 2560) {d i : Nat} (ih : ∀ (i : Nat) (x : Int32) (σ : rt_S) (hh : az_H), sc.1 + 5 ≤ i + 5 * d → i ≤ sc.1 + 5 → x = nI i → rt_W σ → rt_C σ hh → rt_R σ hh → rp_K hh → az_E sc az_m_L_law 18 [.ref 2000, .ref 0, .ref 59, .int x] [] hh (fun v _ => v = some (.int 1))) {σ : rt_S} {hh : az_H} (hend : ¬ sc.1 < i + 5) (hdi : sc.1 + 5 ≤ i + 5 * (d + 1)) (hW : rt_W σ) (hC : rt_C σ hh) (hR : rt_R σ hh) (hK : rp_K hh) : az_E sc az_m_L_law 208 [.ref 2000, .ref 0, .ref 59, .int (nI i)] [] hh (fun v _ => v = some (.int 1)) := by
  refine az_er 5 rfl ?_
  refine az_is rfl rfl (lw_in (i := i) (j := 1) (show sc.1 ≤ 100000 by omega) (by omega)) ?_
  refine az_er 4 rfl ?_
  refine az_is rfl rfl (lw_in (i := i) (j := 2) (show sc.1 ≤ 100000 by omega) (by omega)) ?_
  obtain ⟨A, σ2, hW2, eC, eR⟩ := op_sort (x := sc.2 (nI i + Int32.ofInt 1).toNatClampNeg) (y := sc.2 (nI i + Int32.ofInt 2).toNatClampNeg) sc σ hh hC hW
  refine az_ecall rfl rfl rfl rfl (eC) ?_
  rintro _ h2 ⟨rfl, c2, f2⟩
  refine az_er 5 rfl ?_
  refine az_is rfl rfl (lw_in (i := i) (j := 1) (show sc.1 ≤ 100000 by omega) (by omega)) ?_
  refine az_er 4 rfl ?_
  refine az_is rfl rfl (lw_in (i := i) (j := 2) (show sc.1 ≤ 100000 by omega) (by omega)) ?_
  refine az_ecall rfl rfl rfl rfl (eR h2 (rt_R_e hR f2)) ?_
  rintro _ h3 ⟨rfl, r2, f3⟩
  refine az_ic_eq rfl rfl (fun c236 => ?_) (fun c236 => absurd rfl c236)
  refine az_er 2 rfl ?_
  exact ih (i + 5) _ σ2 h3 (by omega) (by omega) (nI_add i 5) hW2 (rt_C_e c2 (fun a ha => f3 a (Or.inl ha))) r2 (rp_K_e hK f2 f3)
set_option maxRecDepth 100000 in
theorem lw_arm3 {sc : az_S} (hL : sc.1 ≤ 2560) {d i : Nat} (ih : ∀ (i : Nat) (x : Int32) (σ : rt_S) (hh : az_H), sc.1 + 5 ≤ i + 5 * d → i ≤ sc.1 + 5 → x = nI i → rt_W σ → rt_C σ hh → rt_R σ hh → rp_K hh → az_E sc az_m_L_law 18 [.ref 2000, .ref 0, .ref 59, .int x] [] hh (fun v _ => v = some (.int 1))) {σ : rt_S} {hh : az_H} (hend : ¬ sc.1 < i + 5) (hdi : sc.1 + 5 ≤ i + 5 * (d + 1)) (hW : rt_W σ) (hC : rt_C σ hh) (hR : rt_R σ hh) (hK : rp_K hh) : az_E sc az_m_L_law 241 [.ref 2000, .ref 0, .ref 59, .int (nI i)] [] hh (fun v _ => v = some (.int 1)) := by
  refine az_er 5 rfl ?_
  refine az_is rfl rfl (lw_in (i := i) (j := 1) (show sc.1 ≤ 100000 by omega) (by omega)) ?_
  refine az_er 4 rfl ?_
  refine az_is rfl rfl (lw_in (i := i) (j := 2) (show sc.1 ≤ 100000 by omega) (by omega)) ?_
  obtain ⟨A, σ2, hW2, eC, eR⟩ := op_rule (x := sc.2 (nI i + Int32.ofInt 1).toNatClampNeg) (y := sc.2 (nI i + Int32.ofInt 2).toNatClampNeg) sc σ hh hC hW
  refine az_ecall rfl rfl rfl rfl (eC) ?_
  rintro _ h2 ⟨rfl, c2, f2⟩
  refine az_er 5 rfl ?_
  refine az_is rfl rfl (lw_in (i := i) (j := 1) (show sc.1 ≤ 100000 by omega) (by omega)) ?_
  refine az_er 4 rfl ?_
  refine az_is rfl rfl (lw_in (i := i) (j := 2) (show sc.1 ≤ 100000 by omega) (by omega)) ?_
  refine az_ecall rfl rfl rfl rfl (eR h2 (rt_R_e hR f2)) ?_
  rintro _ h3 ⟨rfl, r2, f3⟩
  refine az_ic_eq rfl rfl (fun c269 => ?_) (fun c269 => absurd rfl c269)
  refine az_er 2 rfl ?_
  exact ih (i + 5) _ σ2 h3 (by omega) (by omega) (nI_add i 5) hW2 (rt_C_e c2 (fun a ha => f3 a (Or.inl ha))) r2 (rp_K_e hK f2 f3)
set_option maxRecDepth 100000 in
theorem lw_arm4 {sc : az_S} (hL : sc.1 ≤ 2560) {d i : Nat} (ih : ∀ (i : Nat) (x : Int32) (σ : rt_S) (hh : az_H), sc.1 + 5 ≤ i + 5 * d → i ≤ sc.1 + 5 → x = nI i → rt_W σ → rt_C σ hh → rt_R σ hh → rp_K hh → az_E sc az_m_L_law 18 [.ref 2000, .ref 0, .ref 59, .int x] [] hh (fun v _ => v = some (.int 1))) {σ : rt_S} {hh : az_H} (hend : ¬ sc.1 < i + 5) (hdi : sc.1 + 5 ≤ i + 5 * (d + 1)) (hW : rt_W σ) (hC : rt_C σ hh) (hR : rt_R σ hh) (hK : rp_K hh) : az_E sc az_m_L_law 274 [.ref 2000, .ref 0, .ref 59, .int (nI i)] [] hh (fun v _ => v = some (.int 1)) := by
  refine az_er 5 rfl ?_
  refine az_is rfl rfl (lw_in (i := i) (j := 1) (show sc.1 ≤ 100000 by omega) (by omega)) ?_
  obtain ⟨A, σ2, hW2, eC, eR⟩ := op_remembered (x := sc.2 (nI i + Int32.ofInt 1).toNatClampNeg) sc σ hh hC hW
  refine az_ecall rfl rfl rfl rfl (eC) ?_
  rintro _ h2 ⟨rfl, c2, f2⟩
  refine az_er 5 rfl ?_
  refine az_is rfl rfl (lw_in (i := i) (j := 1) (show sc.1 ≤ 100000 by omega) (by omega)) ?_
  refine az_ecall rfl rfl rfl rfl (eR h2 (rt_R_e hR f2)) ?_
  rintro _ h3 ⟨rfl, r2, f3⟩
  refine az_ic_eq rfl rfl (fun c292 => ?_) (fun c292 => absurd rfl c292)
  refine az_er 2 rfl ?_
  exact ih (i + 5) _ σ2 h3 (by omega) (by omega) (nI_add i 5) hW2 (rt_C_e c2 (fun a ha => f3 a (Or.inl ha))) r2 (rp_K_e hK f2 f3)
set_option maxRecDepth 100000 in
theorem lw_arm5 {sc : az_S} (hL : sc.1 ≤ 2560) {d i : Nat} (ih : ∀ (i : Nat) (x : Int32) (σ : rt_S) (hh : az_H), sc.1 + 5 ≤ i + 5 * d → i ≤ sc.1 + 5 → x = nI i → rt_W σ → rt_C σ hh → rt_R σ hh → rp_K hh → az_E sc az_m_L_law 18 [.ref 2000, .ref 0, .ref 59, .int x] [] hh (fun v _ => v = some (.int 1))) {σ : rt_S} {hh : az_H} (hend : ¬ sc.1 < i + 5) (hdi : sc.1 + 5 ≤ i + 5 * (d + 1)) (hW : rt_W σ) (hC : rt_C σ hh) (hR : rt_R σ hh) (hK : rp_K hh) : az_E sc az_m_L_law 297 [.ref 2000, .ref 0, .ref 59, .int (nI i)] [] hh (fun v _ => v = some (.int 1)) := by
  refine az_er 5 rfl ?_
  refine az_is rfl rfl (lw_in (i := i) (j := 1) (show sc.1 ≤ 100000 by omega) (by omega)) ?_
  obtain ⟨A, σ2, hW2, eC, eR⟩ := op_penny (x := sc.2 (nI i + Int32.ofInt 1).toNatClampNeg) sc σ hh hC hW
  refine az_ecall rfl rfl rfl rfl (eC) ?_
  rintro _ h2 ⟨rfl, c2, f2⟩
  refine az_er 5 rfl ?_
  refine az_is rfl rfl (lw_in (i := i) (j := 1) (show sc.1 ≤ 100000 by omega) (by omega)) ?_
  refine az_ecall rfl rfl rfl rfl (eR h2 (rt_R_e hR f2)) ?_
  rintro _ h3 ⟨rfl, r2, f3⟩
  refine az_ic_eq rfl rfl (fun c315 => ?_) (fun c315 => absurd rfl c315)
  refine az_er 2 rfl ?_
  exact ih (i + 5) _ σ2 h3 (by omega) (by omega) (nI_add i 5) hW2 (rt_C_e c2 (fun a ha => f3 a (Or.inl ha))) r2 (rp_K_e hK f2 f3)
set_option maxRecDepth 100000 in
theorem lw_arm6 {sc : az_S} (hL : sc.1 ≤ 2560) {d i : Nat} (ih : ∀ (i : Nat) (x : Int32) (σ : rt_S) (hh : az_H), sc.1 + 5 ≤ i + 5 * d → i ≤ sc.1 + 5 → x = nI i → rt_W σ → rt_C σ hh → rt_R σ hh → rp_K hh → az_E sc az_m_L_law 18 [.ref 2000, .ref 0, .ref 59, .int x] [] hh (fun v _ => v = some (.int 1))) {σ : rt_S} {hh : az_H} (hend : ¬ sc.1 < i + 5) (hdi : sc.1 + 5 ≤ i + 5 * (d + 1)) (hW : rt_W σ) (hC : rt_C σ hh) (hR : rt_R σ hh) (hK : rp_K hh) : az_E sc az_m_L_law 320 [.ref 2000, .ref 0, .ref 59, .int (nI i)] [] hh (fun v _ => v = some (.int 1)) := by
  refine az_er 1 rfl ?_
  obtain ⟨A, σ2, hW2, eC, eR⟩ := op_week sc σ hh hC hW
  refine az_ecall rfl rfl rfl rfl (eC) ?_
  rintro _ h2 ⟨rfl, c2, f2⟩
  refine az_er 1 rfl ?_
  refine az_ecall rfl rfl rfl rfl (eR h2 (rt_R_e hR f2)) ?_
  rintro _ h3 ⟨rfl, r2, f3⟩
  refine az_ic_eq rfl rfl (fun c328 => ?_) (fun c328 => absurd rfl c328)
  refine az_er 2 rfl ?_
  exact ih (i + 5) _ σ2 h3 (by omega) (by omega) (nI_add i 5) hW2 (rt_C_e c2 (fun a ha => f3 a (Or.inl ha))) r2 (rp_K_e hK f2 f3)
set_option maxRecDepth 100000 in
theorem lw_arm7 {sc : az_S} (hL : sc.1 ≤ 2560) {d i : Nat} (ih : ∀ (i : Nat) (x : Int32) (σ : rt_S) (hh : az_H), sc.1 + 5 ≤ i + 5 * d → i ≤ sc.1 + 5 → x = nI i → rt_W σ → rt_C σ hh → rt_R σ hh → rp_K hh → az_E sc az_m_L_law 18 [.ref 2000, .ref 0, .ref 59, .int x] [] hh (fun v _ => v = some (.int 1))) {σ : rt_S} {hh : az_H} (hend : ¬ sc.1 < i + 5) (hdi : sc.1 + 5 ≤ i + 5 * (d + 1)) (hW : rt_W σ) (hC : rt_C σ hh) (hR : rt_R σ hh) (hK : rp_K hh) : az_E sc az_m_L_law 333 [.ref 2000, .ref 0, .ref 59, .int (nI i)] [] hh (fun v _ => v = some (.int 1)) := by
  refine az_er 1 rfl ?_
  obtain ⟨A, σ2, hW2, eC, eR⟩ := op_next sc σ hh hC hW
  refine az_ecall rfl rfl rfl rfl (eC) ?_
  rintro _ h2 ⟨rfl, c2, f2⟩
  refine az_er 1 rfl ?_
  refine az_ecall rfl rfl rfl rfl (eR h2 (rt_R_e hR f2)) ?_
  rintro _ h3 ⟨rfl, r2, f3⟩
  refine az_ic_eq rfl rfl (fun c341 => ?_) (fun c341 => absurd rfl c341)
  refine az_er 2 rfl ?_
  exact ih (i + 5) _ σ2 h3 (by omega) (by omega) (nI_add i 5) hW2 (rt_C_e c2 (fun a ha => f3 a (Or.inl ha))) r2 (rp_K_e hK f2 f3)
set_option maxRecDepth 100000 in
theorem lw_arm8 {sc : az_S} (hL : sc.1 ≤ 2560) {d i : Nat} (ih : ∀ (i : Nat) (x : Int32) (σ : rt_S) (hh : az_H), sc.1 + 5 ≤ i + 5 * d → i ≤ sc.1 + 5 → x = nI i → rt_W σ → rt_C σ hh → rt_R σ hh → rp_K hh → az_E sc az_m_L_law 18 [.ref 2000, .ref 0, .ref 59, .int x] [] hh (fun v _ => v = some (.int 1))) {σ : rt_S} {hh : az_H} (hend : ¬ sc.1 < i + 5) (hdi : sc.1 + 5 ≤ i + 5 * (d + 1)) (hW : rt_W σ) (hC : rt_C σ hh) (hR : rt_R σ hh) (hK : rp_K hh) : az_E sc az_m_L_law 346 [.ref 2000, .ref 0, .ref 59, .int (nI i)] [] hh (fun v _ => v = some (.int 1)) := by
  refine az_er 5 rfl ?_
  refine az_is rfl rfl (lw_in (i := i) (j := 1) (show sc.1 ≤ 100000 by omega) (by omega)) ?_
  obtain ⟨A, σ2, hW2, eC, eR⟩ := op_goes (x := sc.2 (nI i + Int32.ofInt 1).toNatClampNeg) sc σ hh hC hW
  refine az_ecall rfl rfl rfl rfl (eC) ?_
  rintro _ h2 ⟨rfl, c2, f2⟩
  refine az_er 5 rfl ?_
  refine az_is rfl rfl (lw_in (i := i) (j := 1) (show sc.1 ≤ 100000 by omega) (by omega)) ?_
  refine az_ecall rfl rfl rfl rfl (eR h2 (rt_R_e hR f2)) ?_
  rintro _ h3 ⟨rfl, r2, f3⟩
  refine az_ic_eq rfl rfl (fun c364 => ?_) (fun c364 => absurd rfl c364)
  refine az_er 2 rfl ?_
  exact ih (i + 5) _ σ2 h3 (by omega) (by omega) (nI_add i 5) hW2 (rt_C_e c2 (fun a ha => f3 a (Or.inl ha))) r2 (rp_K_e hK f2 f3)
set_option maxRecDepth 100000 in
theorem lw_arm9 {sc : az_S} (hL : sc.1 ≤ 2560) {d i : Nat} (ih : ∀ (i : Nat) (x : Int32) (σ : rt_S) (hh : az_H), sc.1 + 5 ≤ i + 5 * d → i ≤ sc.1 + 5 → x = nI i → rt_W σ → rt_C σ hh → rt_R σ hh → rp_K hh → az_E sc az_m_L_law 18 [.ref 2000, .ref 0, .ref 59, .int x] [] hh (fun v _ => v = some (.int 1))) {σ : rt_S} {hh : az_H} (hend : ¬ sc.1 < i + 5) (hdi : sc.1 + 5 ≤ i + 5 * (d + 1)) (hW : rt_W σ) (hC : rt_C σ hh) (hR : rt_R σ hh) (hK : rp_K hh) : az_E sc az_m_L_law 369 [.ref 2000, .ref 0, .ref 59, .int (nI i)] [] hh (fun v _ => v = some (.int 1)) := by
  refine az_er 5 rfl ?_
  refine az_is rfl rfl (lw_in (i := i) (j := 1) (show sc.1 ≤ 100000 by omega) (by omega)) ?_
  obtain ⟨A, σ2, hW2, eC, eR⟩ := op_worth (x := sc.2 (nI i + Int32.ofInt 1).toNatClampNeg) sc σ hh hC hW
  refine az_ecall rfl rfl rfl rfl (eC) ?_
  rintro _ h2 ⟨rfl, c2, f2⟩
  refine az_er 5 rfl ?_
  refine az_is rfl rfl (lw_in (i := i) (j := 1) (show sc.1 ≤ 100000 by omega) (by omega)) ?_
  refine az_ecall rfl rfl rfl rfl (eR h2 (rt_R_e hR f2)) ?_
  rintro _ h3 ⟨rfl, r2, f3⟩
  refine az_ic_eq rfl rfl (fun c387 => ?_) (fun c387 => absurd rfl c387)
  refine az_er 2 rfl ?_
  exact ih (i + 5) _ σ2 h3 (by omega) (by omega) (nI_add i 5) hW2 (rt_C_e c2 (fun a ha => f3 a (Or.inl ha))) r2 (rp_K_e hK f2 f3)
set_option maxRecDepth 100000 in
theorem lw_arm10 {sc : az_S} (hL : sc.1 ≤ 2560) {d i : Nat} (ih : ∀ (i : Nat) (x : Int32) (σ : rt_S) (hh : az_H), sc.1 + 5 ≤ i + 5 * d → i ≤ sc.1 + 5 → x = nI i → rt_W σ → rt_C σ hh → rt_R σ hh → rp_K hh → az_E sc az_m_L_law 18 [.ref 2000, .ref 0, .ref 59, .int x] [] hh (fun v _ => v = some (.int 1))) {σ : rt_S} {hh : az_H} (hend : ¬ sc.1 < i + 5) (hdi : sc.1 + 5 ≤ i + 5 * (d + 1)) (hW : rt_W σ) (hC : rt_C σ hh) (hR : rt_R σ hh) (hK : rp_K hh) : az_E sc az_m_L_law 392 [.ref 2000, .ref 0, .ref 59, .int (nI i)] [] hh (fun v _ => v = some (.int 1)) := by
  refine az_er 5 rfl ?_
  refine az_is rfl rfl (lw_in (i := i) (j := 1) (show sc.1 ≤ 100000 by omega) (by omega)) ?_
  obtain ⟨A, σ2, hW2, eC, eR⟩ := op_after (x := sc.2 (nI i + Int32.ofInt 1).toNatClampNeg) sc σ hh hC hW
  refine az_ecall rfl rfl rfl rfl (eC) ?_
  rintro _ h2 ⟨rfl, c2, f2⟩
  refine az_er 5 rfl ?_
  refine az_is rfl rfl (lw_in (i := i) (j := 1) (show sc.1 ≤ 100000 by omega) (by omega)) ?_
  refine az_ecall rfl rfl rfl rfl (eR h2 (rt_R_e hR f2)) ?_
  rintro _ h3 ⟨rfl, r2, f3⟩
  refine az_ic_eq rfl rfl (fun c410 => ?_) (fun c410 => absurd rfl c410)
  refine az_er 2 rfl ?_
  exact ih (i + 5) _ σ2 h3 (by omega) (by omega) (nI_add i 5) hW2 (rt_C_e c2 (fun a ha => f3 a (Or.inl ha))) r2 (rp_K_e hK f2 f3)
set_option maxRecDepth 100000 in
theorem lw_arm11 {sc : az_S} (hL : sc.1 ≤ 2560) {d i : Nat} (ih : ∀ (i : Nat) (x : Int32) (σ : rt_S) (hh : az_H), sc.1 + 5 ≤ i + 5 * d → i ≤ sc.1 + 5 → x = nI i → rt_W σ → rt_C σ hh → rt_R σ hh → rp_K hh → az_E sc az_m_L_law 18 [.ref 2000, .ref 0, .ref 59, .int x] [] hh (fun v _ => v = some (.int 1))) {σ : rt_S} {hh : az_H} (hend : ¬ sc.1 < i + 5) (hdi : sc.1 + 5 ≤ i + 5 * (d + 1)) (hW : rt_W σ) (hC : rt_C σ hh) (hR : rt_R σ hh) (hK : rp_K hh) : az_E sc az_m_L_law 415 [.ref 2000, .ref 0, .ref 59, .int (nI i)] [] hh (fun v _ => v = some (.int 1)) := by
  refine az_er 5 rfl ?_
  refine az_is rfl rfl (lw_in (i := i) (j := 1) (show sc.1 ≤ 100000 by omega) (by omega)) ?_
  obtain ⟨A, σ2, hW2, eC, eR⟩ := op_mean (x := sc.2 (nI i + Int32.ofInt 1).toNatClampNeg) sc σ hh hC hW
  refine az_ecall rfl rfl rfl rfl (eC) ?_
  rintro _ h2 ⟨rfl, c2, f2⟩
  refine az_er 5 rfl ?_
  refine az_is rfl rfl (lw_in (i := i) (j := 1) (show sc.1 ≤ 100000 by omega) (by omega)) ?_
  refine az_ecall rfl rfl rfl rfl (eR h2 (rt_R_e hR f2)) ?_
  rintro _ h3 ⟨rfl, r2, f3⟩
  refine az_ic_eq rfl rfl (fun c433 => ?_) (fun c433 => absurd rfl c433)
  refine az_er 2 rfl ?_
  exact ih (i + 5) _ σ2 h3 (by omega) (by omega) (nI_add i 5) hW2 (rt_C_e c2 (fun a ha => f3 a (Or.inl ha))) r2 (rp_K_e hK f2 f3)
set_option maxRecDepth 100000 in
theorem lw_arm12 {sc : az_S} (hL : sc.1 ≤ 2560) {d i : Nat} (ih : ∀ (i : Nat) (x : Int32) (σ : rt_S) (hh : az_H), sc.1 + 5 ≤ i + 5 * d → i ≤ sc.1 + 5 → x = nI i → rt_W σ → rt_C σ hh → rt_R σ hh → rp_K hh → az_E sc az_m_L_law 18 [.ref 2000, .ref 0, .ref 59, .int x] [] hh (fun v _ => v = some (.int 1))) {σ : rt_S} {hh : az_H} (hend : ¬ sc.1 < i + 5) (hdi : sc.1 + 5 ≤ i + 5 * (d + 1)) (hW : rt_W σ) (hC : rt_C σ hh) (hR : rt_R σ hh) (hK : rp_K hh) : az_E sc az_m_L_law 438 [.ref 2000, .ref 0, .ref 59, .int (nI i)] [] hh (fun v _ => v = some (.int 1)) := by
  refine az_er 5 rfl ?_
  refine az_is rfl rfl (lw_in (i := i) (j := 1) (show sc.1 ≤ 100000 by omega) (by omega)) ?_
  obtain ⟨A, σ2, hW2, eC, eR⟩ := op_swing (x := sc.2 (nI i + Int32.ofInt 1).toNatClampNeg) sc σ hh hC hW
  refine az_ecall rfl rfl rfl rfl (eC) ?_
  rintro _ h2 ⟨rfl, c2, f2⟩
  refine az_er 5 rfl ?_
  refine az_is rfl rfl (lw_in (i := i) (j := 1) (show sc.1 ≤ 100000 by omega) (by omega)) ?_
  refine az_ecall rfl rfl rfl rfl (eR h2 (rt_R_e hR f2)) ?_
  rintro _ h3 ⟨rfl, r2, f3⟩
  refine az_ic_eq rfl rfl (fun c456 => ?_) (fun c456 => absurd rfl c456)
  refine az_er 2 rfl ?_
  exact ih (i + 5) _ σ2 h3 (by omega) (by omega) (nI_add i 5) hW2 (rt_C_e c2 (fun a ha => f3 a (Or.inl ha))) r2 (rp_K_e hK f2 f3)
set_option maxRecDepth 100000 in
theorem lw_arm13 {sc : az_S} (hL : sc.1 ≤ 2560) {d i : Nat} (ih : ∀ (i : Nat) (x : Int32) (σ : rt_S) (hh : az_H), sc.1 + 5 ≤ i + 5 * d → i ≤ sc.1 + 5 → x = nI i → rt_W σ → rt_C σ hh → rt_R σ hh → rp_K hh → az_E sc az_m_L_law 18 [.ref 2000, .ref 0, .ref 59, .int x] [] hh (fun v _ => v = some (.int 1))) {σ : rt_S} {hh : az_H} (hend : ¬ sc.1 < i + 5) (hdi : sc.1 + 5 ≤ i + 5 * (d + 1)) (hW : rt_W σ) (hC : rt_C σ hh) (hR : rt_R σ hh) (hK : rp_K hh) : az_E sc az_m_L_law 461 [.ref 2000, .ref 0, .ref 59, .int (nI i)] [] hh (fun v _ => v = some (.int 1)) := by
  refine az_er 5 rfl ?_
  refine az_is rfl rfl (lw_in (i := i) (j := 1) (show sc.1 ≤ 100000 by omega) (by omega)) ?_
  obtain ⟨A, σ2, hW2, eC, eR⟩ := op_good (x := sc.2 (nI i + Int32.ofInt 1).toNatClampNeg) sc σ hh hC hW
  refine az_ecall rfl rfl rfl rfl (eC) ?_
  rintro _ h2 ⟨rfl, c2, f2⟩
  refine az_er 5 rfl ?_
  refine az_is rfl rfl (lw_in (i := i) (j := 1) (show sc.1 ≤ 100000 by omega) (by omega)) ?_
  refine az_ecall rfl rfl rfl rfl (eR h2 (rt_R_e hR f2)) ?_
  rintro _ h3 ⟨rfl, r2, f3⟩
  refine az_ic_eq rfl rfl (fun c479 => ?_) (fun c479 => absurd rfl c479)
  refine az_er 2 rfl ?_
  exact ih (i + 5) _ σ2 h3 (by omega) (by omega) (nI_add i 5) hW2 (rt_C_e c2 (fun a ha => f3 a (Or.inl ha))) r2 (rp_K_e hK f2 f3)
set_option maxRecDepth 100000 in
theorem lw_arm14 {sc : az_S} (hL : sc.1 ≤ 2560) {d i : Nat} (ih : ∀ (i : Nat) (x : Int32) (σ : rt_S) (hh : az_H), sc.1 + 5 ≤ i + 5 * d → i ≤ sc.1 + 5 → x = nI i → rt_W σ → rt_C σ hh → rt_R σ hh → rp_K hh → az_E sc az_m_L_law 18 [.ref 2000, .ref 0, .ref 59, .int x] [] hh (fun v _ => v = some (.int 1))) {σ : rt_S} {hh : az_H} (hend : ¬ sc.1 < i + 5) (hdi : sc.1 + 5 ≤ i + 5 * (d + 1)) (hW : rt_W σ) (hC : rt_C σ hh) (hR : rt_R σ hh) (hK : rp_K hh) : az_E sc az_m_L_law 484 [.ref 2000, .ref 0, .ref 59, .int (nI i)] [] hh (fun v _ => v = some (.int 1)) := by
  refine az_er 1 rfl ?_
  obtain ⟨A, σ2, hW2, eC, eR⟩ := op_again sc σ hh hC hW
  refine az_ecall rfl rfl rfl rfl (eC) ?_
  rintro _ h2 ⟨rfl, c2, f2⟩
  refine az_er 1 rfl ?_
  refine az_ecall rfl rfl rfl rfl (eR h2 (rt_R_e hR f2)) ?_
  rintro _ h3 ⟨rfl, r2, f3⟩
  refine az_ic_eq rfl rfl (fun c492 => ?_) (fun c492 => absurd rfl c492)
  refine az_er 2 rfl ?_
  exact ih (i + 5) _ σ2 h3 (by omega) (by omega) (nI_add i 5) hW2 (rt_C_e c2 (fun a ha => f3 a (Or.inl ha))) r2 (rp_K_e hK f2 f3)
set_option maxRecDepth 100000 in
theorem lw_arm15 {sc : az_S} (hL : sc.1 ≤ 2560) {d i : Nat} (ih : ∀ (i : Nat) (x : Int32) (σ : rt_S) (hh : az_H), sc.1 + 5 ≤ i + 5 * d → i ≤ sc.1 + 5 → x = nI i → rt_W σ → rt_C σ hh → rt_R σ hh → rp_K hh → az_E sc az_m_L_law 18 [.ref 2000, .ref 0, .ref 59, .int x] [] hh (fun v _ => v = some (.int 1))) {σ : rt_S} {hh : az_H} (hend : ¬ sc.1 < i + 5) (hdi : sc.1 + 5 ≤ i + 5 * (d + 1)) (hW : rt_W σ) (hC : rt_C σ hh) (hR : rt_R σ hh) (hK : rp_K hh) : az_E sc az_m_L_law 497 [.ref 2000, .ref 0, .ref 59, .int (nI i)] [] hh (fun v _ => v = some (.int 1)) := by
  refine az_er 5 rfl ?_
  refine az_is rfl rfl (lw_in (i := i) (j := 1) (show sc.1 ≤ 100000 by omega) (by omega)) ?_
  refine az_er 4 rfl ?_
  refine az_is rfl rfl (lw_in (i := i) (j := 2) (show sc.1 ≤ 100000 by omega) (by omega)) ?_
  obtain ⟨A, σ2, hW2, eC, eR⟩ := op_gains (x := sc.2 (nI i + Int32.ofInt 1).toNatClampNeg) (z := sc.2 (nI i + Int32.ofInt 2).toNatClampNeg) sc σ hh hC hW
  refine az_ecall rfl rfl rfl rfl (eC) ?_
  rintro _ h2 ⟨rfl, c2, f2⟩
  refine az_er 5 rfl ?_
  refine az_is rfl rfl (lw_in (i := i) (j := 1) (show sc.1 ≤ 100000 by omega) (by omega)) ?_
  refine az_er 4 rfl ?_
  refine az_is rfl rfl (lw_in (i := i) (j := 2) (show sc.1 ≤ 100000 by omega) (by omega)) ?_
  refine az_ecall rfl rfl rfl rfl (eR h2 (rt_R_e hR f2)) ?_
  rintro _ h3 ⟨rfl, r2, f3⟩
  refine az_ic_eq rfl rfl (fun c525 => ?_) (fun c525 => absurd rfl c525)
  refine az_er 2 rfl ?_
  exact ih (i + 5) _ σ2 h3 (by omega) (by omega) (nI_add i 5) hW2 (rt_C_e c2 (fun a ha => f3 a (Or.inl ha))) r2 (rp_K_e hK f2 f3)
set_option maxRecDepth 100000 in
theorem lw_arm16 {sc : az_S} (hL : sc.1 ≤ 2560) {d i : Nat} (ih : ∀ (i : Nat) (x : Int32) (σ : rt_S) (hh : az_H), sc.1 + 5 ≤ i + 5 * d → i ≤ sc.1 + 5 → x = nI i → rt_W σ → rt_C σ hh → rt_R σ hh → rp_K hh → az_E sc az_m_L_law 18 [.ref 2000, .ref 0, .ref 59, .int x] [] hh (fun v _ => v = some (.int 1))) {σ : rt_S} {hh : az_H} (hend : ¬ sc.1 < i + 5) (hdi : sc.1 + 5 ≤ i + 5 * (d + 1)) (hW : rt_W σ) (hC : rt_C σ hh) (hR : rt_R σ hh) (hK : rp_K hh) : az_E sc az_m_L_law 530 [.ref 2000, .ref 0, .ref 59, .int (nI i)] [] hh (fun v _ => v = some (.int 1)) := by
  refine az_er 1 rfl ?_
  obtain ⟨A, σ2, hW2, eC, eR⟩ := op_rests sc σ hh hC hW
  refine az_ecall rfl rfl rfl rfl (eC) ?_
  rintro _ h2 ⟨rfl, c2, f2⟩
  refine az_er 1 rfl ?_
  refine az_ecall rfl rfl rfl rfl (eR h2 (rt_R_e hR f2)) ?_
  rintro _ h3 ⟨rfl, r2, f3⟩
  refine az_ic_eq rfl rfl (fun c538 => ?_) (fun c538 => absurd rfl c538)
  refine az_er 2 rfl ?_
  exact ih (i + 5) _ σ2 h3 (by omega) (by omega) (nI_add i 5) hW2 (rt_C_e c2 (fun a ha => f3 a (Or.inl ha))) r2 (rp_K_e hK f2 f3)
set_option maxRecDepth 100000 in
theorem lw_arm17 {sc : az_S} (hL : sc.1 ≤ 2560) {d i : Nat} (ih : ∀ (i : Nat) (x : Int32) (σ : rt_S) (hh : az_H), sc.1 + 5 ≤ i + 5 * d → i ≤ sc.1 + 5 → x = nI i → rt_W σ → rt_C σ hh → rt_R σ hh → rp_K hh → az_E sc az_m_L_law 18 [.ref 2000, .ref 0, .ref 59, .int x] [] hh (fun v _ => v = some (.int 1))) {σ : rt_S} {hh : az_H} (hend : ¬ sc.1 < i + 5) (hdi : sc.1 + 5 ≤ i + 5 * (d + 1)) (hW : rt_W σ) (hC : rt_C σ hh) (hR : rt_R σ hh) (hK : rp_K hh) : az_E sc az_m_L_law 543 [.ref 2000, .ref 0, .ref 59, .int (nI i)] [] hh (fun v _ => v = some (.int 1)) := by
  refine az_er 5 rfl ?_
  refine az_is rfl rfl (lw_in (i := i) (j := 1) (show sc.1 ≤ 100000 by omega) (by omega)) ?_
  obtain ⟨A, σ2, hW2, eC, eR⟩ := op_rest (x := sc.2 (nI i + Int32.ofInt 1).toNatClampNeg) sc σ hh hC hW
  refine az_ecall rfl rfl rfl rfl (eC) ?_
  rintro _ h2 ⟨rfl, c2, f2⟩
  refine az_er 5 rfl ?_
  refine az_is rfl rfl (lw_in (i := i) (j := 1) (show sc.1 ≤ 100000 by omega) (by omega)) ?_
  refine az_ecall rfl rfl rfl rfl (eR h2 (rt_R_e hR f2)) ?_
  rintro _ h3 ⟨rfl, r2, f3⟩
  refine az_ic_eq rfl rfl (fun c561 => ?_) (fun c561 => absurd rfl c561)
  refine az_er 2 rfl ?_
  exact ih (i + 5) _ σ2 h3 (by omega) (by omega) (nI_add i 5) hW2 (rt_C_e c2 (fun a ha => f3 a (Or.inl ha))) r2 (rp_K_e hK f2 f3)
set_option maxRecDepth 100000 in
theorem lw_arm18 {sc : az_S} (hL : sc.1 ≤ 2560) {d i : Nat} (ih : ∀ (i : Nat) (x : Int32) (σ : rt_S) (hh : az_H), sc.1 + 5 ≤ i + 5 * d → i ≤ sc.1 + 5 → x = nI i → rt_W σ → rt_C σ hh → rt_R σ hh → rp_K hh → az_E sc az_m_L_law 18 [.ref 2000, .ref 0, .ref 59, .int x] [] hh (fun v _ => v = some (.int 1))) {σ : rt_S} {hh : az_H} (hend : ¬ sc.1 < i + 5) (hdi : sc.1 + 5 ≤ i + 5 * (d + 1)) (hW : rt_W σ) (hC : rt_C σ hh) (hR : rt_R σ hh) (hK : rp_K hh) : az_E sc az_m_L_law 566 [.ref 2000, .ref 0, .ref 59, .int (nI i)] [] hh (fun v _ => v = some (.int 1)) := by
  refine az_er 5 rfl ?_
  refine az_is rfl rfl (lw_in (i := i) (j := 1) (show sc.1 ≤ 100000 by omega) (by omega)) ?_
  obtain ⟨A, σ2, hW2, eC, eR⟩ := op_best (x := sc.2 (nI i + Int32.ofInt 1).toNatClampNeg) sc σ hh hC hW
  refine az_ecall rfl rfl rfl rfl (eC) ?_
  rintro _ h2 ⟨rfl, c2, f2⟩
  refine az_er 5 rfl ?_
  refine az_is rfl rfl (lw_in (i := i) (j := 1) (show sc.1 ≤ 100000 by omega) (by omega)) ?_
  refine az_ecall rfl rfl rfl rfl (eR h2 (rt_R_e hR f2)) ?_
  rintro _ h3 ⟨rfl, r2, f3⟩
  refine az_ic_eq rfl rfl (fun c584 => ?_) (fun c584 => absurd rfl c584)
  refine az_er 2 rfl ?_
  exact ih (i + 5) _ σ2 h3 (by omega) (by omega) (nI_add i 5) hW2 (rt_C_e c2 (fun a ha => f3 a (Or.inl ha))) r2 (rp_K_e hK f2 f3)
set_option maxRecDepth 100000 in
theorem lw_arm19 {sc : az_S} (hL : sc.1 ≤ 2560) {d i : Nat} (ih : ∀ (i : Nat) (x : Int32) (σ : rt_S) (hh : az_H), sc.1 + 5 ≤ i + 5 * d → i ≤ sc.1 + 5 → x = nI i → rt_W σ → rt_C σ hh → rt_R σ hh → rp_K hh → az_E sc az_m_L_law 18 [.ref 2000, .ref 0, .ref 59, .int x] [] hh (fun v _ => v = some (.int 1))) {σ : rt_S} {hh : az_H} (hend : ¬ sc.1 < i + 5) (hdi : sc.1 + 5 ≤ i + 5 * (d + 1)) (hW : rt_W σ) (hC : rt_C σ hh) (hR : rt_R σ hh) (hK : rp_K hh) : az_E sc az_m_L_law 589 [.ref 2000, .ref 0, .ref 59, .int (nI i)] [] hh (fun v _ => v = some (.int 1)) := by
  refine az_er 1 rfl ?_
  obtain ⟨A, σ2, hW2, eC, eR⟩ := op_off sc σ hh hC hW
  refine az_ecall rfl rfl rfl rfl (eC) ?_
  rintro _ h2 ⟨rfl, c2, f2⟩
  refine az_er 1 rfl ?_
  refine az_ecall rfl rfl rfl rfl (eR h2 (rt_R_e hR f2)) ?_
  rintro _ h3 ⟨rfl, r2, f3⟩
  refine az_ic_eq rfl rfl (fun c597 => ?_) (fun c597 => absurd rfl c597)
  refine az_er 2 rfl ?_
  exact ih (i + 5) _ σ2 h3 (by omega) (by omega) (nI_add i 5) hW2 (rt_C_e c2 (fun a ha => f3 a (Or.inl ha))) r2 (rp_K_e hK f2 f3)
set_option maxRecDepth 100000 in
theorem lw_arm20 {sc : az_S} (hL : sc.1 ≤ 2560) {d i : Nat} (ih : ∀ (i : Nat) (x : Int32) (σ : rt_S) (hh : az_H), sc.1 + 5 ≤ i + 5 * d → i ≤ sc.1 + 5 → x = nI i → rt_W σ → rt_C σ hh → rt_R σ hh → rp_K hh → az_E sc az_m_L_law 18 [.ref 2000, .ref 0, .ref 59, .int x] [] hh (fun v _ => v = some (.int 1))) {σ : rt_S} {hh : az_H} (hend : ¬ sc.1 < i + 5) (hdi : sc.1 + 5 ≤ i + 5 * (d + 1)) (hW : rt_W σ) (hC : rt_C σ hh) (hR : rt_R σ hh) (hK : rp_K hh) : az_E sc az_m_L_law 602 [.ref 2000, .ref 0, .ref 59, .int (nI i)] [] hh (fun v _ => v = some (.int 1)) := by
  refine az_er 1 rfl ?_
  obtain ⟨A, σ2, hW2, eC, eR⟩ := op_pennies sc σ hh hC hW
  refine az_ecall rfl rfl rfl rfl (eC) ?_
  rintro _ h2 ⟨rfl, c2, f2⟩
  refine az_er 1 rfl ?_
  refine az_ecall rfl rfl rfl rfl (eR h2 (rt_R_e hR f2)) ?_
  rintro _ h3 ⟨rfl, r2, f3⟩
  refine az_ic_eq rfl rfl (fun c610 => ?_) (fun c610 => absurd rfl c610)
  refine az_er 2 rfl ?_
  exact ih (i + 5) _ σ2 h3 (by omega) (by omega) (nI_add i 5) hW2 (rt_C_e c2 (fun a ha => f3 a (Or.inl ha))) r2 (rp_K_e hK f2 f3)
set_option maxRecDepth 100000 in
theorem lw_arm21 {sc : az_S} (hL : sc.1 ≤ 2560) {d i : Nat} (ih : ∀ (i : Nat) (x : Int32) (σ : rt_S) (hh : az_H), sc.1 + 5 ≤ i + 5 * d → i ≤ sc.1 + 5 → x = nI i → rt_W σ → rt_C σ hh → rt_R σ hh → rp_K hh → az_E sc az_m_L_law 18 [.ref 2000, .ref 0, .ref 59, .int x] [] hh (fun v _ => v = some (.int 1))) {σ : rt_S} {hh : az_H} (hend : ¬ sc.1 < i + 5) (hdi : sc.1 + 5 ≤ i + 5 * (d + 1)) (hW : rt_W σ) (hC : rt_C σ hh) (hR : rt_R σ hh) (hK : rp_K hh) : az_E sc az_m_L_law 615 [.ref 2000, .ref 0, .ref 59, .int (nI i)] [] hh (fun v _ => v = some (.int 1)) := by
  refine az_er 1 rfl ?_
  obtain ⟨A, σ2, hW2, eC, eR⟩ := op_chairs sc σ hh hC hW
  refine az_ecall rfl rfl rfl rfl (eC) ?_
  rintro _ h2 ⟨rfl, c2, f2⟩
  refine az_er 1 rfl ?_
  refine az_ecall rfl rfl rfl rfl (eR h2 (rt_R_e hR f2)) ?_
  rintro _ h3 ⟨rfl, r2, f3⟩
  refine az_ic_eq rfl rfl (fun c623 => ?_) (fun c623 => absurd rfl c623)
  refine az_er 2 rfl ?_
  exact ih (i + 5) _ σ2 h3 (by omega) (by omega) (nI_add i 5) hW2 (rt_C_e c2 (fun a ha => f3 a (Or.inl ha))) r2 (rp_K_e hK f2 f3)
set_option maxRecDepth 100000 in
theorem lw_arm22 {sc : az_S} (hL : sc.1 ≤ 2560) {d i : Nat} (ih : ∀ (i : Nat) (x : Int32) (σ : rt_S) (hh : az_H), sc.1 + 5 ≤ i + 5 * d → i ≤ sc.1 + 5 → x = nI i → rt_W σ → rt_C σ hh → rt_R σ hh → rp_K hh → az_E sc az_m_L_law 18 [.ref 2000, .ref 0, .ref 59, .int x] [] hh (fun v _ => v = some (.int 1))) {σ : rt_S} {hh : az_H} (hend : ¬ sc.1 < i + 5) (hdi : sc.1 + 5 ≤ i + 5 * (d + 1)) (hW : rt_W σ) (hC : rt_C σ hh) (hR : rt_R σ hh) (hK : rp_K hh) : az_E sc az_m_L_law 628 [.ref 2000, .ref 0, .ref 59, .int (nI i)] [] hh (fun v _ => v = some (.int 1)) := by
  refine az_er 5 rfl ?_
  refine az_is rfl rfl (lw_in (i := i) (j := 1) (show sc.1 ≤ 100000 by omega) (by omega)) ?_
  refine az_er 4 rfl ?_
  refine az_is rfl rfl (lw_in (i := i) (j := 2) (show sc.1 ≤ 100000 by omega) (by omega)) ?_
  refine az_er 4 rfl ?_
  refine az_is rfl rfl (lw_in (i := i) (j := 3) (show sc.1 ≤ 100000 by omega) (by omega)) ?_
  refine az_er 4 rfl ?_
  refine az_is rfl rfl (lw_in (i := i) (j := 4) (show sc.1 ≤ 100000 by omega) (by omega)) ?_
  obtain ⟨A, σ2, hW2, eC, eR⟩ := op_sees (x := sc.2 (nI i + Int32.ofInt 1).toNatClampNeg) (y := sc.2 (nI i + Int32.ofInt 2).toNatClampNeg) (z := sc.2 (nI i + Int32.ofInt 3).toNatClampNeg) (w := sc.2 (nI i + Int32.ofInt 4).toNatClampNeg) sc σ hh hC hW
  refine az_ecall rfl rfl rfl rfl (eC) ?_
  rintro _ h2 ⟨rfl, c2, f2⟩
  refine az_er 5 rfl ?_
  refine az_is rfl rfl (lw_in (i := i) (j := 1) (show sc.1 ≤ 100000 by omega) (by omega)) ?_
  refine az_er 4 rfl ?_
  refine az_is rfl rfl (lw_in (i := i) (j := 2) (show sc.1 ≤ 100000 by omega) (by omega)) ?_
  refine az_er 4 rfl ?_
  refine az_is rfl rfl (lw_in (i := i) (j := 3) (show sc.1 ≤ 100000 by omega) (by omega)) ?_
  refine az_er 4 rfl ?_
  refine az_is rfl rfl (lw_in (i := i) (j := 4) (show sc.1 ≤ 100000 by omega) (by omega)) ?_
  refine az_ecall rfl rfl rfl rfl (eR h2 (rt_R_e hR f2)) ?_
  rintro _ h3 ⟨rfl, r2, f3⟩
  refine az_ic_eq rfl rfl (fun c676 => ?_) (fun c676 => absurd rfl c676)
  refine az_er 2 rfl ?_
  exact ih (i + 5) _ σ2 h3 (by omega) (by omega) (nI_add i 5) hW2 (rt_C_e c2 (fun a ha => f3 a (Or.inl ha))) r2 (rp_K_e hK f2 f3)
set_option maxRecDepth 100000 in
theorem lw_arm23 {sc : az_S} (hL : sc.1 ≤ 2560) {d i : Nat} (ih : ∀ (i : Nat) (x : Int32) (σ : rt_S) (hh : az_H), sc.1 + 5 ≤ i + 5 * d → i ≤ sc.1 + 5 → x = nI i → rt_W σ → rt_C σ hh → rt_R σ hh → rp_K hh → az_E sc az_m_L_law 18 [.ref 2000, .ref 0, .ref 59, .int x] [] hh (fun v _ => v = some (.int 1))) {σ : rt_S} {hh : az_H} (hend : ¬ sc.1 < i + 5) (hdi : sc.1 + 5 ≤ i + 5 * (d + 1)) (hW : rt_W σ) (hC : rt_C σ hh) (hR : rt_R σ hh) (hK : rp_K hh) : az_E sc az_m_L_law 681 [.ref 2000, .ref 0, .ref 59, .int (nI i)] [] hh (fun v _ => v = some (.int 1)) := by
  refine az_er 5 rfl ?_
  refine az_is rfl rfl (lw_in (i := i) (j := 1) (show sc.1 ≤ 100000 by omega) (by omega)) ?_
  obtain ⟨A, σ2, hW2, eC, eR⟩ := op_which (x := sc.2 (nI i + Int32.ofInt 1).toNatClampNeg) sc σ hh hC hW
  refine az_ecall rfl rfl rfl rfl (eC) ?_
  rintro _ h2 ⟨rfl, c2, f2⟩
  refine az_er 5 rfl ?_
  refine az_is rfl rfl (lw_in (i := i) (j := 1) (show sc.1 ≤ 100000 by omega) (by omega)) ?_
  refine az_ecall rfl rfl rfl rfl (eR h2 (rt_R_e hR f2)) ?_
  rintro _ h3 ⟨rfl, r2, f3⟩
  refine az_ic_eq rfl rfl (fun c699 => ?_) (fun c699 => absurd rfl c699)
  refine az_er 2 rfl ?_
  exact ih (i + 5) _ σ2 h3 (by omega) (by omega) (nI_add i 5) hW2 (rt_C_e c2 (fun a ha => f3 a (Or.inl ha))) r2 (rp_K_e hK f2 f3)
set_option maxRecDepth 100000 in
theorem lw_arm24 {sc : az_S} (hL : sc.1 ≤ 2560) {d i : Nat} (ih : ∀ (i : Nat) (x : Int32) (σ : rt_S) (hh : az_H), sc.1 + 5 ≤ i + 5 * d → i ≤ sc.1 + 5 → x = nI i → rt_W σ → rt_C σ hh → rt_R σ hh → rp_K hh → az_E sc az_m_L_law 18 [.ref 2000, .ref 0, .ref 59, .int x] [] hh (fun v _ => v = some (.int 1))) {σ : rt_S} {hh : az_H} (hend : ¬ sc.1 < i + 5) (hdi : sc.1 + 5 ≤ i + 5 * (d + 1)) (hW : rt_W σ) (hC : rt_C σ hh) (hR : rt_R σ hh) (hK : rp_K hh) : az_E sc az_m_L_law 704 [.ref 2000, .ref 0, .ref 59, .int (nI i)] [] hh (fun v _ => v = some (.int 1)) := by
  refine az_er 5 rfl ?_
  refine az_is rfl rfl (lw_in (i := i) (j := 1) (show sc.1 ≤ 100000 by omega) (by omega)) ?_
  obtain ⟨A, σ2, hW2, eC, eR⟩ := op_longer (x := sc.2 (nI i + Int32.ofInt 1).toNatClampNeg) sc σ hh hC hW
  refine az_ecall rfl rfl rfl rfl (eC) ?_
  rintro _ h2 ⟨rfl, c2, f2⟩
  refine az_er 5 rfl ?_
  refine az_is rfl rfl (lw_in (i := i) (j := 1) (show sc.1 ≤ 100000 by omega) (by omega)) ?_
  refine az_ecall rfl rfl rfl rfl (eR h2 (rt_R_e hR f2)) ?_
  rintro _ h3 ⟨rfl, r2, f3⟩
  refine az_ic_eq rfl rfl (fun c722 => ?_) (fun c722 => absurd rfl c722)
  refine az_er 2 rfl ?_
  exact ih (i + 5) _ σ2 h3 (by omega) (by omega) (nI_add i 5) hW2 (rt_C_e c2 (fun a ha => f3 a (Or.inl ha))) r2 (rp_K_e hK f2 f3)
set_option maxRecDepth 100000 in
theorem lw_arm25 {sc : az_S} (hL : sc.1 ≤ 2560) {d i : Nat} (ih : ∀ (i : Nat) (x : Int32) (σ : rt_S) (hh : az_H), sc.1 + 5 ≤ i + 5 * d → i ≤ sc.1 + 5 → x = nI i → rt_W σ → rt_C σ hh → rt_R σ hh → rp_K hh → az_E sc az_m_L_law 18 [.ref 2000, .ref 0, .ref 59, .int x] [] hh (fun v _ => v = some (.int 1))) {σ : rt_S} {hh : az_H} (hend : ¬ sc.1 < i + 5) (hdi : sc.1 + 5 ≤ i + 5 * (d + 1)) (hW : rt_W σ) (hC : rt_C σ hh) (hR : rt_R σ hh) (hK : rp_K hh) : az_E sc az_m_L_law 727 [.ref 2000, .ref 0, .ref 59, .int (nI i)] [] hh (fun v _ => v = some (.int 1)) := by
  refine az_er 5 rfl ?_
  refine az_is rfl rfl (lw_in (i := i) (j := 1) (show sc.1 ≤ 100000 by omega) (by omega)) ?_
  refine az_er 4 rfl ?_
  refine az_is rfl rfl (lw_in (i := i) (j := 2) (show sc.1 ≤ 100000 by omega) (by omega)) ?_
  obtain ⟨A, σ2, hW2, eC, eR⟩ := op_seeds (x := sc.2 (nI i + Int32.ofInt 1).toNatClampNeg) (z := sc.2 (nI i + Int32.ofInt 2).toNatClampNeg) sc σ hh hC hW
  refine az_ecall rfl rfl rfl rfl (eC) ?_
  rintro _ h2 ⟨rfl, c2, f2⟩
  refine az_er 5 rfl ?_
  refine az_is rfl rfl (lw_in (i := i) (j := 1) (show sc.1 ≤ 100000 by omega) (by omega)) ?_
  refine az_er 4 rfl ?_
  refine az_is rfl rfl (lw_in (i := i) (j := 2) (show sc.1 ≤ 100000 by omega) (by omega)) ?_
  refine az_ecall rfl rfl rfl rfl (eR h2 (rt_R_e hR f2)) ?_
  rintro _ h3 ⟨rfl, r2, f3⟩
  refine az_ic_eq rfl rfl (fun c755 => ?_) (fun c755 => absurd rfl c755)
  refine az_er 2 rfl ?_
  exact ih (i + 5) _ σ2 h3 (by omega) (by omega) (nI_add i 5) hW2 (rt_C_e c2 (fun a ha => f3 a (Or.inl ha))) r2 (rp_K_e hK f2 f3)
set_option maxRecDepth 100000 in
theorem lw_arm26 {sc : az_S} (hL : sc.1 ≤ 2560) {d i : Nat} (ih : ∀ (i : Nat) (x : Int32) (σ : rt_S) (hh : az_H), sc.1 + 5 ≤ i + 5 * d → i ≤ sc.1 + 5 → x = nI i → rt_W σ → rt_C σ hh → rt_R σ hh → rp_K hh → az_E sc az_m_L_law 18 [.ref 2000, .ref 0, .ref 59, .int x] [] hh (fun v _ => v = some (.int 1))) {σ : rt_S} {hh : az_H} (hend : ¬ sc.1 < i + 5) (hdi : sc.1 + 5 ≤ i + 5 * (d + 1)) (hW : rt_W σ) (hC : rt_C σ hh) (hR : rt_R σ hh) (hK : rp_K hh) : az_E sc az_m_L_law 760 [.ref 2000, .ref 0, .ref 59, .int (nI i)] [] hh (fun v _ => v = some (.int 1)) := by
  refine az_er 5 rfl ?_
  refine az_is rfl rfl (lw_in (i := i) (j := 1) (show sc.1 ≤ 100000 by omega) (by omega)) ?_
  obtain ⟨A, σ2, hW2, eC, eR⟩ := op_row (x := sc.2 (nI i + Int32.ofInt 1).toNatClampNeg) sc σ hh hC hW
  refine az_ecall rfl rfl rfl rfl (eC) ?_
  rintro _ h2 ⟨rfl, c2, f2⟩
  refine az_er 5 rfl ?_
  refine az_is rfl rfl (lw_in (i := i) (j := 1) (show sc.1 ≤ 100000 by omega) (by omega)) ?_
  refine az_ecall rfl rfl rfl rfl (eR h2 (rt_R_e hR f2)) ?_
  rintro _ h3 ⟨rfl, r2, f3⟩
  refine az_ic_eq rfl rfl (fun c778 => ?_) (fun c778 => absurd rfl c778)
  refine az_er 2 rfl ?_
  exact ih (i + 5) _ σ2 h3 (by omega) (by omega) (nI_add i 5) hW2 (rt_C_e c2 (fun a ha => f3 a (Or.inl ha))) r2 (rp_K_e hK f2 f3)
set_option maxRecDepth 100000 in
theorem lw_arm27 {sc : az_S} (hL : sc.1 ≤ 2560) {d i : Nat} (ih : ∀ (i : Nat) (x : Int32) (σ : rt_S) (hh : az_H), sc.1 + 5 ≤ i + 5 * d → i ≤ sc.1 + 5 → x = nI i → rt_W σ → rt_C σ hh → rt_R σ hh → rp_K hh → az_E sc az_m_L_law 18 [.ref 2000, .ref 0, .ref 59, .int x] [] hh (fun v _ => v = some (.int 1))) {σ : rt_S} {hh : az_H} (hend : ¬ sc.1 < i + 5) (hdi : sc.1 + 5 ≤ i + 5 * (d + 1)) (hW : rt_W σ) (hC : rt_C σ hh) (hR : rt_R σ hh) (hK : rp_K hh) : az_E sc az_m_L_law 783 [.ref 2000, .ref 0, .ref 59, .int (nI i)] [] hh (fun v _ => v = some (.int 1)) := by
  refine az_er 1 rfl ?_
  obtain ⟨A, σ2, hW2, eC, eR⟩ := op_judge sc σ hh hC hW
  refine az_ecall rfl rfl rfl rfl (eC) ?_
  rintro _ h2 ⟨rfl, c2, f2⟩
  refine az_er 1 rfl ?_
  refine az_ecall rfl rfl rfl rfl (eR h2 (rt_R_e hR f2)) ?_
  rintro _ h3 ⟨rfl, r2, f3⟩
  refine az_ic_eq rfl rfl (fun c791 => ?_) (fun c791 => absurd rfl c791)
  refine az_er 2 rfl ?_
  exact ih (i + 5) _ σ2 h3 (by omega) (by omega) (nI_add i 5) hW2 (rt_C_e c2 (fun a ha => f3 a (Or.inl ha))) r2 (rp_K_e hK f2 f3)
set_option maxRecDepth 100000 in
theorem lw_arm28 {sc : az_S} (hL : sc.1 ≤ 2560) {d i : Nat} (ih : ∀ (i : Nat) (x : Int32) (σ : rt_S) (hh : az_H), sc.1 + 5 ≤ i + 5 * d → i ≤ sc.1 + 5 → x = nI i → rt_W σ → rt_C σ hh → rt_R σ hh → rp_K hh → az_E sc az_m_L_law 18 [.ref 2000, .ref 0, .ref 59, .int x] [] hh (fun v _ => v = some (.int 1))) {σ : rt_S} {hh : az_H} (hend : ¬ sc.1 < i + 5) (hdi : sc.1 + 5 ≤ i + 5 * (d + 1)) (hW : rt_W σ) (hC : rt_C σ hh) (hR : rt_R σ hh) (hK : rp_K hh) : az_E sc az_m_L_law 796 [.ref 2000, .ref 0, .ref 59, .int (nI i)] [] hh (fun v _ => v = some (.int 1)) := by
  refine az_er 1 rfl ?_
  obtain ⟨A, σ2, hW2, eC, eR⟩ := op_image sc σ hh hC hW
  refine az_ecall rfl rfl rfl rfl (eC) ?_
  rintro _ h2 ⟨rfl, c2, f2⟩
  refine az_er 1 rfl ?_
  refine az_ecall rfl rfl rfl rfl (eR h2 (rt_R_e hR f2)) ?_
  rintro _ h3 ⟨rfl, r2, f3⟩
  refine az_ic_eq rfl rfl (fun c804 => ?_) (fun c804 => absurd rfl c804)
  refine az_er 2 rfl ?_
  exact ih (i + 5) _ σ2 h3 (by omega) (by omega) (nI_add i 5) hW2 (rt_C_e c2 (fun a ha => f3 a (Or.inl ha))) r2 (rp_K_e hK f2 f3)
set_option maxRecDepth 100000 in
theorem lw_arm29 {sc : az_S} (hL : sc.1 ≤ 2560) {d i : Nat} (ih : ∀ (i : Nat) (x : Int32) (σ : rt_S) (hh : az_H), sc.1 + 5 ≤ i + 5 * d → i ≤ sc.1 + 5 → x = nI i → rt_W σ → rt_C σ hh → rt_R σ hh → rp_K hh → az_E sc az_m_L_law 18 [.ref 2000, .ref 0, .ref 59, .int x] [] hh (fun v _ => v = some (.int 1))) {σ : rt_S} {hh : az_H} (hend : ¬ sc.1 < i + 5) (hdi : sc.1 + 5 ≤ i + 5 * (d + 1)) (hW : rt_W σ) (hC : rt_C σ hh) (hR : rt_R σ hh) (hK : rp_K hh) : az_E sc az_m_L_law 809 [.ref 2000, .ref 0, .ref 59, .int (nI i)] [] hh (fun v _ => v = some (.int 1)) := by
  refine az_er 1 rfl ?_
  obtain ⟨A, σ2, hW2, eC, eR⟩ := op_on sc σ hh hC hW
  refine az_ecall rfl rfl rfl rfl (eC) ?_
  rintro _ h2 ⟨rfl, c2, f2⟩
  refine az_er 1 rfl ?_
  refine az_ecall rfl rfl rfl rfl (eR h2 (rt_R_e hR f2)) ?_
  rintro _ h3 ⟨rfl, r2, f3⟩
  refine az_ic_eq rfl rfl (fun c817 => ?_) (fun c817 => absurd rfl c817)
  refine az_er 2 rfl ?_
  exact ih (i + 5) _ σ2 h3 (by omega) (by omega) (nI_add i 5) hW2 (rt_C_e c2 (fun a ha => f3 a (Or.inl ha))) r2 (rp_K_e hK f2 f3)
set_option maxRecDepth 100000 in
theorem lw_arm30 {sc : az_S} (hL : sc.1 ≤ 2560) {d i : Nat} (ih : ∀ (i : Nat) (x : Int32) (σ : rt_S) (hh : az_H), sc.1 + 5 ≤ i + 5 * d → i ≤ sc.1 + 5 → x = nI i → rt_W σ → rt_C σ hh → rt_R σ hh → rp_K hh → az_E sc az_m_L_law 18 [.ref 2000, .ref 0, .ref 59, .int x] [] hh (fun v _ => v = some (.int 1))) {σ : rt_S} {hh : az_H} (hend : ¬ sc.1 < i + 5) (hdi : sc.1 + 5 ≤ i + 5 * (d + 1)) (hW : rt_W σ) (hC : rt_C σ hh) (hR : rt_R σ hh) (hK : rp_K hh) : az_E sc az_m_L_law 822 [.ref 2000, .ref 0, .ref 59, .int (nI i)] [] hh (fun v _ => v = some (.int 1)) := by
  refine az_er 5 rfl ?_
  refine az_is rfl rfl (lw_in (i := i) (j := 1) (show sc.1 ≤ 100000 by omega) (by omega)) ?_
  obtain ⟨A, σ2, hW2, eC, eR⟩ := op_count (x := sc.2 (nI i + Int32.ofInt 1).toNatClampNeg) sc σ hh hC hW
  refine az_ecall rfl rfl rfl rfl (eC) ?_
  rintro _ h2 ⟨rfl, c2, f2⟩
  refine az_er 5 rfl ?_
  refine az_is rfl rfl (lw_in (i := i) (j := 1) (show sc.1 ≤ 100000 by omega) (by omega)) ?_
  refine az_ecall rfl rfl rfl rfl (eR h2 (rt_R_e hR f2)) ?_
  rintro _ h3 ⟨rfl, r2, f3⟩
  refine az_ic_eq rfl rfl (fun c840 => ?_) (fun c840 => absurd rfl c840)
  refine az_er 2 rfl ?_
  exact ih (i + 5) _ σ2 h3 (by omega) (by omega) (nI_add i 5) hW2 (rt_C_e c2 (fun a ha => f3 a (Or.inl ha))) r2 (rp_K_e hK f2 f3)
set_option maxRecDepth 100000 in
theorem lw_arm {sc : az_S} (hL : sc.1 ≤ 2560) {d i : Nat} (ih : ∀ (i : Nat) (x : Int32) (σ : rt_S) (hh : az_H), sc.1 + 5 ≤ i + 5 * d → i ≤ sc.1 + 5 → x = nI i → rt_W σ → rt_C σ hh → rt_R σ hh → rp_K hh → az_E sc az_m_L_law 18 [.ref 2000, .ref 0, .ref 59, .int x] [] hh (fun v _ => v = some (.int 1))) {σ : rt_S} {hh : az_H} (hend : ¬ sc.1 < i + 5) (hdi : sc.1 + 5 ≤ i + 5 * (d + 1)) (hW : rt_W σ) (hC : rt_C σ hh) (hR : rt_R σ hh) (hK : rp_K hh) : ∀ k, k < 32 → az_E sc az_m_L_law 32 [.ref 2000, .ref 0, .ref 59, .int (nI i)] [.int (nI k)] hh (fun v _ => v = some (.int 1)) := by
  intro k hk
  have h9 : k = 0 ∨ k = 1 ∨ k = 2 ∨ k = 3 ∨ k = 4 ∨ k = 5 ∨ k = 6 ∨ k = 7 ∨ k = 8 ∨ k = 9 ∨ k = 10 ∨ k = 11 ∨ k = 12 ∨ k = 13 ∨ k = 14 ∨ k = 15 ∨ k = 16 ∨ k = 17 ∨ k = 18 ∨ k = 19 ∨ k = 20 ∨ k = 21 ∨ k = 22 ∨ k = 23 ∨ k = 24 ∨ k = 25 ∨ k = 26 ∨ k = 27 ∨ k = 28 ∨ k = 29 ∨ k = 30 ∨ k = 31 := by omega
  rcases h9 with rfl | rfl | rfl | rfl | rfl | rfl | rfl | rfl | rfl | rfl | rfl | rfl | rfl | rfl | rfl | rfl | rfl | rfl | rfl | rfl | rfl | rfl | rfl | rfl | rfl | rfl | rfl | rfl | rfl | rfl | rfl | rfl
  · exact az_er 1 rfl (lw_arm0 hL ih hend hdi hW hC hR hK)
  · exact az_er 1 rfl (lw_arm1 hL ih hend hdi hW hC hR hK)
  · exact az_er 1 rfl (lw_arm2 hL ih hend hdi hW hC hR hK)
  · exact az_er 1 rfl (lw_arm3 hL ih hend hdi hW hC hR hK)
  · exact az_er 1 rfl (lw_arm4 hL ih hend hdi hW hC hR hK)
  · exact az_er 1 rfl (lw_arm5 hL ih hend hdi hW hC hR hK)
  · exact az_er 1 rfl (lw_arm6 hL ih hend hdi hW hC hR hK)
  · exact az_er 1 rfl (lw_arm7 hL ih hend hdi hW hC hR hK)
  · exact az_er 1 rfl (lw_arm8 hL ih hend hdi hW hC hR hK)
  · exact az_er 1 rfl (lw_arm9 hL ih hend hdi hW hC hR hK)
  · exact az_er 1 rfl (lw_arm10 hL ih hend hdi hW hC hR hK)
  · exact az_er 1 rfl (lw_arm11 hL ih hend hdi hW hC hR hK)
  · exact az_er 1 rfl (lw_arm12 hL ih hend hdi hW hC hR hK)
  · exact az_er 1 rfl (lw_arm13 hL ih hend hdi hW hC hR hK)
  · exact az_er 1 rfl (lw_arm14 hL ih hend hdi hW hC hR hK)
  · exact az_er 1 rfl (lw_arm15 hL ih hend hdi hW hC hR hK)
  · exact az_er 1 rfl (lw_arm16 hL ih hend hdi hW hC hR hK)
  · exact az_er 1 rfl (lw_arm17 hL ih hend hdi hW hC hR hK)
  · exact az_er 1 rfl (lw_arm18 hL ih hend hdi hW hC hR hK)
  · exact az_er 1 rfl (lw_arm19 hL ih hend hdi hW hC hR hK)
  · exact az_er 1 rfl (lw_arm20 hL ih hend hdi hW hC hR hK)
  · exact az_er 1 rfl (lw_arm21 hL ih hend hdi hW hC hR hK)
  · exact az_er 1 rfl (lw_arm22 hL ih hend hdi hW hC hR hK)
  · exact az_er 1 rfl (lw_arm23 hL ih hend hdi hW hC hR hK)
  · exact az_er 1 rfl (lw_arm24 hL ih hend hdi hW hC hR hK)
  · exact az_er 1 rfl (lw_arm25 hL ih hend hdi hW hC hR hK)
  · exact az_er 1 rfl (lw_arm26 hL ih hend hdi hW hC hR hK)
  · exact az_er 1 rfl (lw_arm27 hL ih hend hdi hW hC hR hK)
  · exact az_er 1 rfl (lw_arm28 hL ih hend hdi hW hC hR hK)
  · exact az_er 1 rfl (lw_arm29 hL ih hend hdi hW hC hR hK)
  · exact az_er 1 rfl (lw_arm30 hL ih hend hdi hW hC hR hK)
  · refine az_er 3 rfl ?_
    exact ih (i + 5) _ σ hh (by omega) (by omega) (nI_add i 5) hW hC hR hK
set_option maxRecDepth 100000 in
theorem lm_law {sc : az_S} (hL : sc.1 ≤ 2560) : ∀ (d i : Nat) (x : Int32) (σ : rt_S) (hh : az_H), sc.1 + 5 ≤ i + 5 * d → i ≤ sc.1 + 5 → x = nI i → rt_W σ → rt_C σ hh → rt_R σ hh → rp_K hh → az_E sc az_m_L_law 18 [.ref 2000, .ref 0, .ref 59, .int x] [] hh (fun v _ => v = some (.int 1)) := by
  intro d
  induction d with
  | zero =>
    intro i x σ hh hi hi9 hx hW hC hR hK
    subst hx
    refine az_er 2 rfl ?_
    refine az_e1 rfl rfl rfl (show az_stp sc az_m_L_law .arraylength 1 20 _ _ _ = some (21, _, .int (nI sc.1) :: _, _) from rfl) ?_
    refine az_er 2 rfl ?_
    refine az_ic_gt rfl rfl (fun c23 => ?_) (fun c23 => absurd ((lw_c (show sc.1 ≤ 100000 by omega) (show i ≤ 100000 by omega)).mpr (by omega)) c23)
    refine az_er 1 rfl ?_
    refine az_zret rfl rfl (Or.inr rfl) ?_
    exact rfl
  | succ d ih =>
    intro i x σ hh hi hi9 hx hW hC hR hK
    subst hx
    by_cases hend : sc.1 < i + 5
    · skip
      refine az_er 2 rfl ?_
      refine az_e1 rfl rfl rfl (show az_stp sc az_m_L_law .arraylength 1 20 _ _ _ = some (21, _, .int (nI sc.1) :: _, _) from rfl) ?_
      refine az_er 2 rfl ?_
      refine az_ic_gt rfl rfl (fun c23 => ?_) (fun c23 => absurd ((lw_c (show sc.1 ≤ 100000 by omega) (show i ≤ 100000 by omega)).mpr (by omega)) c23)
      refine az_er 1 rfl ?_
      refine az_zret rfl rfl (Or.inr rfl) ?_
      exact rfl
    obtain ⟨k, hk, ek⟩ := pk_andE (sc.2 (nI i).toNatClampNeg) (m := 31) 5 rfl
    refine az_er 2 rfl ?_
    refine az_e1 rfl rfl rfl (show az_stp sc az_m_L_law .arraylength 1 20 _ _ _ = some (21, _, .int (nI sc.1) :: _, _) from rfl) ?_
    refine az_er 2 rfl ?_
    refine az_ic_gt rfl rfl (fun c23 => absurd ((lw_c (show sc.1 ≤ 100000 by omega) (show i ≤ 100000 by omega)).mp c23) (by omega)) (fun c23 => ?_)
    refine az_er 2 rfl ?_
    refine az_is rfl rfl (vp_in_nI (show i < sc.1 by omega) (by omega)) ?_
    refine az_er 2 rfl ?_
    rw [show Int8.toInt32 (Int8.ofInt 31) = (31 : Int32) from rfl, ek]
    exact lw_arm hL ih hend hi hW hC hR hK k hk
