/-! BANDS OF PLANS: fewer than chairs, as many, more -/
def bd_n (τ : Nat → Nat) (s : Nat) : Nat := τ (10 + 6 * s)
def bd_h (τ : Nat → Nat) (s : Nat) : Nat := τ (15 + 6 * s)
def bd_o (τ : Nat → Nat) (q s : Nat) : Int := (if q = 2 then (τ (14 + 6 * s) : Int) else (τ (13 + 6 * s) : Int)) - (τ 5 : Int)
def bd_w (τ : Nat → Nat) (q s : Nat) : Int := (if q = 0 then (τ (13 + 6 * s) : Int) else (τ (14 + 6 * s) : Int)) - (τ 5 : Int)
def bd_g (τ : Nat → Nat) (q s : Nat) : Int := bd_o τ q s - (bd_h τ s : Int)
def bd_lo (τ : Nat → Nat) (q s : Nat) : Nat := if (bd_h τ s : Int) < bd_w τ q s then bd_n τ s else 0
def bd_hi (τ : Nat → Nat) (q s : Nat) : Nat := if bd_o τ q s < (bd_h τ s : Int) then 0 else bd_n τ s
def bd_a (τ : Nat → Nat) (q : Nat) : Int := if q = 0 then 0 else if q = 1 then (τ 2 : Int) else (τ 2 : Int) + 1
def bd_b (τ : Nat → Nat) (q : Nat) : Int := if q = 0 then (τ 2 : Int) - 1 else if q = 1 then (τ 2 : Int) else 36
def bd_w0 (τ : Nat → Nat) (m : Nat) : Int := pl_sm (fun s => (bd_n τ s : Int) * (bd_h τ s : Int)) m
def rt_So (τ : Nat → Nat) (h : az_H) : Prop := h 2 6 = nI (τ 0) ∧ ∀ i, i < 4 → h 3 i = nI (τ (10 + 6 * i)) ∧ h 6 i = nI (τ (13 + 6 * i)) ∧ h 7 i = nI (τ (14 + 6 * i)) ∧ h 8 i = nI (τ (15 + 6 * i))
theorem rt_So_e {τ : Nat → Nat} {h h' : az_H} (hS : rt_So τ h) (e : ∀ a, a < 48 → h' a = h a) : rt_So τ h' := ⟨by rw [e 2 (by decide)]; exact hS.1, fun i hi => by rw [e 3 (by decide), e 6 (by decide), e 7 (by decide), e 8 (by decide)]; exact hS.2 i hi⟩
theorem bd_c1 {a b c : Nat} (ha : a ≤ 1000) (hb : b ≤ 1000) (hc : c ≤ 1000) : nI a - nI b ≤ nI c ↔ (a : Int) - (b : Int) ≤ (c : Int) := by
  rw [iI_n, iI_n, iI_n, iI_sub]
  exact iI_le (by omega) (by omega)
theorem bd_c2 {a b c : Nat} (ha : a ≤ 1000) (hb : b ≤ 1000) (hc : c ≤ 1000) : nI c ≤ nI a - nI b ↔ (c : Int) ≤ (a : Int) - (b : Int) := by
  rw [iI_n, iI_n, iI_n, iI_sub]
  exact iI_le (by omega) (by omega)
theorem bd_9 {τ : Nat → Nat} (hV : rt_V τ) {s : Nat} (hs : s < 4) : τ (10 + 6 * s) ≤ 9 ∧ τ (13 + 6 * s) ≤ 9 ∧ τ (14 + 6 * s) ≤ 9 ∧ τ (15 + 6 * s) ≤ 9 ∧ τ 5 ≤ 9 ∧ τ 0 ≤ 4 ∧ τ 2 ≤ 60 := by
  have h := hV.2.2.2.2.2.1 s hs
  exact ⟨h.1, h.2.2.2.1, h.2.2.2.2.1, h.2.2.2.2.2, hV.2.2.2.2.1, hV.1, hV.2.2.1⟩
theorem bd_Vx {τ : Nat → Nat} (hV : rt_V τ) {q : Nat} {lo hi : Nat → Nat} (hl : ∀ s, s < τ 0 → lo s ≤ bd_n τ s) (hh : ∀ s, s < τ 0 → hi s ≤ bd_n τ s) : bx_V (τ 0) lo hi (bd_g τ q) (bd_a τ q) (bd_b τ q) := by
  have h0 := hV.1
  have h2 := hV.2.2.1
  refine ⟨h0, ?_, ?_, fun s hs => ?_⟩
  · unfold bd_a; repeat' split
    all_goals omega
  · unfold bd_b; repeat' split
    all_goals omega
  · have h9 := bd_9 hV (show s < 4 by omega)
    have h5 := hl s hs
    have h6 := hh s hs
    unfold bd_n at h5 h6
    refine ⟨by omega, by omega, ?_⟩
    unfold bd_g bd_o bd_h
    split <;> omega
theorem bd_lo_le {τ : Nat → Nat} {q s : Nat} : bd_lo τ q s ≤ bd_n τ s := by
  unfold bd_lo
  split
  · exact Nat.le_refl _
  · exact Nat.zero_le _
theorem bd_hi_le {τ : Nat → Nat} {q s : Nat} : bd_hi τ q s ≤ bd_n τ s := by
  unfold bd_hi
  split
  · exact Nat.zero_le _
  · exact Nat.le_refl _
theorem bd_w0_b {τ : Nat → Nat} (hV : rt_V τ) : ∀ m, m ≤ 4 → 0 ≤ bd_w0 τ m ∧ bd_w0 τ m ≤ 100 * (m : Int)
  | 0, _ => ⟨Int.le_refl 0, Int.le_refl 0⟩
  | m + 1, h => by
    have h1 := bd_w0_b hV m (by omega)
    have h9 := bd_9 hV (show m < 4 by omega)
    have h2 : 0 ≤ (bd_n τ m : Int) * (bd_h τ m : Int) ∧ (bd_n τ m : Int) * (bd_h τ m : Int) ≤ 100 := by
      unfold bd_n bd_h
      have := Nat.mul_le_mul h9.1 h9.2.2.2.1
      rw [← Int.natCast_mul]
      omega
    unfold bd_w0 at h1 ⊢
    rw [pl_sm]
    omega
theorem bx_R_c {m : Nat} {lo hi lo' hi' : Nat → Nat} {g g' : Nat → Int} {fa tb w0 w0' : Int} {h : az_H} (hB : bx_R m lo hi g fa tb w0 h) (e : ∀ s, s < m → lo s = lo' s ∧ hi s = hi' s ∧ g s = g' s) (ew : w0 = w0') : bx_R m lo' hi' g' fa tb w0' h := by
  subst ew
  refine ⟨hB.1, hB.2.1, hB.2.2.1, hB.2.2.2.1, fun s hs => ?_⟩
  have q := hB.2.2.2.2 s hs
  rw [(e s hs).1, (e s hs).2.1, (e s hs).2.2] at q
  exact q
set_option maxRecDepth 100000 in
theorem ct_band0 {sc : az_S} {h : az_H} {τ lo hi : Nat → Nat} {g : Nat → Int} : az_E sc az_m_X2_beginBand 0 [.ref 48, .int (nI 0), .int (nI (τ 2))] [] h (fun v h' => v = none ∧ bx_R 0 lo hi g (bd_a τ 0) (bd_b τ 0) 0 h' ∧ ∀ a, a ≠ 49 → h' a = h a) := by
  refine az_er 8 rfl ?_
  rw [show nI (τ 2) - Int32.ofInt 1 = iI ((τ 2 : Int) - 1) by rw [iI_n]; exact iI_sub _ 1]
  refine az_ecall rfl rfl rfl rfl (ct_bbegin (lo := lo) (hi := hi) (g := g) (fa := 0) (tb := (τ 2 : Int) - 1)) ?_
  rintro _ h1 ⟨rfl, g1, g2⟩
  refine az_er 1 rfl ?_
  refine az_eret rfl rfl rfl ?_
  exact ⟨rfl, g1, g2⟩
set_option maxRecDepth 100000 in
theorem ct_band1 {sc : az_S} {h : az_H} {τ lo hi : Nat → Nat} {g : Nat → Int} : az_E sc az_m_X2_beginBand 0 [.ref 48, .int (nI 1), .int (nI (τ 2))] [] h (fun v h' => v = none ∧ bx_R 0 lo hi g (bd_a τ 1) (bd_b τ 1) 0 h' ∧ ∀ a, a ≠ 49 → h' a = h a) := by
  refine az_er 6 rfl ?_
  rw [iI_n (τ 2)]
  refine az_ecall rfl rfl rfl rfl (ct_bbegin (lo := lo) (hi := hi) (g := g)) ?_
  rintro _ h1 ⟨rfl, g1, g2⟩
  refine az_er 1 rfl ?_
  refine az_eret rfl rfl rfl ?_
  exact ⟨rfl, g1, g2⟩
set_option maxRecDepth 100000 in
theorem ct_band2 {sc : az_S} {h : az_H} {τ lo hi : Nat → Nat} {g : Nat → Int} : az_E sc az_m_X2_beginBand 0 [.ref 48, .int (nI 2), .int (nI (τ 2))] [] h (fun v h' => v = none ∧ bx_R 0 lo hi g (bd_a τ 2) (bd_b τ 2) 0 h' ∧ ∀ a, a ≠ 49 → h' a = h a) := by
  refine az_er 8 rfl ?_
  rw [show nI (τ 2) + Int32.ofInt 1 = iI ((τ 2 : Int) + 1) by rw [iI_n]; exact iI_add _ 1]
  refine az_ecall rfl rfl rfl rfl (ct_bbegin (lo := lo) (hi := hi) (g := g) (fa := (τ 2 : Int) + 1) (tb := 36)) ?_
  rintro _ h1 ⟨rfl, g1, g2⟩
  refine az_eret rfl rfl rfl ?_
  exact ⟨rfl, g1, g2⟩
set_option maxRecDepth 100000 in
theorem lp_br0 {sc : az_S} {h : az_H} {τ : Nat → Nat} {c9 : Int32} (hS : rt_So τ h) (hV : rt_V τ) : ∀ (d i : Nat) (x : Int32) (tl : List Value) (hh : az_H), i ≤ τ 0 → τ 0 - i = d → x = nI i → bx_R (i) (bd_lo τ 0) (bd_hi τ 0) (bd_g τ 0) (bd_a τ 0) (bd_b τ 0) (bd_w0 τ (i)) hh → (∀ a, (a < 49 ∨ 52 < a) → hh a = h a) → (tl = [] ∨ ∃ a0 a1 a2 a3, tl = [.int a0, .int a1, .int a2, .int a3]) → az_E sc az_m_X2_boxResting 9 (.ref 48 :: .ref 2 :: .int (nI 0) :: .int c9 :: .int (nI (τ 5)) :: .int x :: tl) [] hh (fun v h' => v = none ∧ bx_R (τ 0) (bd_lo τ 0) (bd_hi τ 0) (bd_g τ 0) (bd_a τ 0) (bd_b τ 0) (bd_w0 τ (τ 0)) h' ∧ (∀ a, (a < 49 ∨ 52 < a) → h' a = h a)) := by
  have h04 := hV.1
  intro d
  induction d with
  | zero =>
    intro i x tl hh hi9 hd hx hR hF htl
    subst hx
    refine az_er 3 rfl ?_
    rw [hF 2 (by omega), hS.1]
    refine az_ic_ge rfl rfl (fun c15 => ?_) (fun c15 => absurd (nI_le (by omega) (by omega)) c15)
    refine az_eret rfl rfl rfl ?_
    have e : i = τ 0 := by omega
    subst e
    exact ⟨rfl, hR, hF⟩
  | succ d ih =>
    intro i x tl hh hi9 hd hx hR hF htl
    subst hx
    have h9 := bd_9 hV (show i < 4 by omega)
    have eo : bd_o τ 0 i = (τ (13 + 6 * i) : Int) - (τ 5 : Int) := rfl
    have ew : bd_w τ 0 i = (τ (13 + 6 * i) : Int) - (τ 5 : Int) := rfl
    rcases htl with rfl | ⟨a0, a1, a2, a3, rfl⟩
    · skip
      by_cases hc1 : (bd_h τ i : Int) < bd_w τ 0 i
      · have hc1n := hc1
        unfold bd_h at hc1n
        rw [ew] at hc1n
        by_cases hc2 : bd_o τ 0 i < (bd_h τ i : Int)
        · have hc2n := hc2
          unfold bd_h at hc2n
          rw [eo] at hc2n
          refine az_er 3 rfl ?_
          rw [hF 2 (by omega), hS.1]
          refine az_ic_ge rfl rfl (fun c15 => absurd c15 (nI_ge (show i < τ 0 by omega) (by omega))) (fun c15 => ?_)
          refine az_er 3 rfl ?_
          refine az_ecallF rfl rfl rfl rfl (ct_atI rfl rfl (show i < 4 by omega) (by decide) (show hh 3 i = nI _ by rw [hF 3 (by omega)]; exact (hS.2 i (by omega)).1)) ?_
          refine az_er 4 rfl ?_
          refine az_ecallF rfl rfl rfl rfl (ct_atI rfl rfl (show i < 4 by omega) (by decide) (show hh 8 i = nI _ by rw [hF 8 (by omega)]; exact (hS.2 i (by omega)).2.2.2)) ?_
          refine az_er 3 rfl ?_
          refine az_ic_ne rfl rfl (fun c42 => ?_) (fun c42 => absurd c42 (by decide))
          refine az_er 3 rfl ?_
          refine az_ecallF rfl rfl rfl rfl (ct_atI rfl rfl (show i < 4 by omega) (by decide) (show hh 6 i = nI _ by rw [hF 6 (by omega)]; exact (hS.2 i (by omega)).2.1)) ?_
          refine az_er 4 rfl ?_
          refine az_if_ne rfl rfl (fun c72 => absurd rfl c72) (fun c72 => ?_)
          refine az_er 3 rfl ?_
          refine az_ecallF rfl rfl rfl rfl (ct_atI rfl rfl (show i < 4 by omega) (by decide) (show hh 6 i = nI _ by rw [hF 6 (by omega)]; exact (hS.2 i (by omega)).2.1)) ?_
          refine az_er 8 rfl ?_
          refine az_ic_le rfl rfl (fun c109 => absurd (bd_c1 (by omega) (by omega) (by omega) |>.mp c109) (by omega)) (fun c109 => ?_)
          refine az_er 4 rfl ?_
          refine az_ic_ge rfl rfl (fun c122 => absurd ((bd_c2 (by omega) (by omega) (by omega)).mp c122) (by omega)) (fun c122 => ?_)
          refine az_er 5 rfl ?_
          refine az_ecall rfl rfl rfl rfl (ct_badd hR (by omega) (l9 := bd_n τ i) (u9 := 0) (n9 := (bd_n τ i : Int)) (o9 := bd_o τ 0 i) (z9 := (bd_h τ i : Int)) rfl rfl (iI_n _) (by rw [iI_n, iI_n, iI_sub]; rfl) (iI_n _)) ?_
          rintro _ h3 ⟨rfl, g1, g2⟩
          refine az_er 2 rfl ?_
          refine ih (i + 1) _ _ h3 (by omega) (by omega) (nI_1' i) (bx_R_c g1 (fun s hs => ?_) rfl) (fun a ha => (g2 a ha).trans (hF a ha)) (Or.inr ⟨_, _, _, _, rfl⟩)
          by_cases hsi : s = i
          · subst hsi
            refine ⟨(if_pos rfl).trans ?_, (if_pos rfl).trans ?_, if_pos rfl⟩
            · show bd_n τ s = bd_lo τ 0 s; rw [bd_lo, if_pos hc1]
            · show 0 = bd_hi τ 0 s; rw [bd_hi, if_pos hc2]
          · exact ⟨if_neg hsi, if_neg hsi, if_neg hsi⟩
        · have hc2n := hc2
          unfold bd_h at hc2n
          rw [eo] at hc2n
          refine az_er 3 rfl ?_
          rw [hF 2 (by omega), hS.1]
          refine az_ic_ge rfl rfl (fun c15 => absurd c15 (nI_ge (show i < τ 0 by omega) (by omega))) (fun c15 => ?_)
          refine az_er 3 rfl ?_
          refine az_ecallF rfl rfl rfl rfl (ct_atI rfl rfl (show i < 4 by omega) (by decide) (show hh 3 i = nI _ by rw [hF 3 (by omega)]; exact (hS.2 i (by omega)).1)) ?_
          refine az_er 4 rfl ?_
          refine az_ecallF rfl rfl rfl rfl (ct_atI rfl rfl (show i < 4 by omega) (by decide) (show hh 8 i = nI _ by rw [hF 8 (by omega)]; exact (hS.2 i (by omega)).2.2.2)) ?_
          refine az_er 3 rfl ?_
          refine az_ic_ne rfl rfl (fun c42 => ?_) (fun c42 => absurd c42 (by decide))
          refine az_er 3 rfl ?_
          refine az_ecallF rfl rfl rfl rfl (ct_atI rfl rfl (show i < 4 by omega) (by decide) (show hh 6 i = nI _ by rw [hF 6 (by omega)]; exact (hS.2 i (by omega)).2.1)) ?_
          refine az_er 4 rfl ?_
          refine az_if_ne rfl rfl (fun c72 => absurd rfl c72) (fun c72 => ?_)
          refine az_er 3 rfl ?_
          refine az_ecallF rfl rfl rfl rfl (ct_atI rfl rfl (show i < 4 by omega) (by decide) (show hh 6 i = nI _ by rw [hF 6 (by omega)]; exact (hS.2 i (by omega)).2.1)) ?_
          refine az_er 8 rfl ?_
          refine az_ic_le rfl rfl (fun c109 => absurd (bd_c1 (by omega) (by omega) (by omega) |>.mp c109) (by omega)) (fun c109 => ?_)
          refine az_er 4 rfl ?_
          refine az_ic_ge rfl rfl (fun c122 => ?_) (fun c122 => absurd ((bd_c2 (by omega) (by omega) (by omega)).mpr (by omega)) c122)
          refine az_er 4 rfl ?_
          refine az_ecall rfl rfl rfl rfl (ct_badd hR (by omega) (l9 := bd_n τ i) (u9 := bd_n τ i) (n9 := (bd_n τ i : Int)) (o9 := bd_o τ 0 i) (z9 := (bd_h τ i : Int)) rfl rfl (iI_n _) (by rw [iI_n, iI_n, iI_sub]; rfl) (iI_n _)) ?_
          rintro _ h3 ⟨rfl, g1, g2⟩
          refine az_er 2 rfl ?_
          refine ih (i + 1) _ _ h3 (by omega) (by omega) (nI_1' i) (bx_R_c g1 (fun s hs => ?_) rfl) (fun a ha => (g2 a ha).trans (hF a ha)) (Or.inr ⟨_, _, _, _, rfl⟩)
          by_cases hsi : s = i
          · subst hsi
            refine ⟨(if_pos rfl).trans ?_, (if_pos rfl).trans ?_, if_pos rfl⟩
            · show bd_n τ s = bd_lo τ 0 s; rw [bd_lo, if_pos hc1]
            · show bd_n τ s = bd_hi τ 0 s; rw [bd_hi, if_neg hc2]
          · exact ⟨if_neg hsi, if_neg hsi, if_neg hsi⟩
      · have hc1n := hc1
        unfold bd_h at hc1n
        rw [ew] at hc1n
        by_cases hc2 : bd_o τ 0 i < (bd_h τ i : Int)
        · have hc2n := hc2
          unfold bd_h at hc2n
          rw [eo] at hc2n
          refine az_er 3 rfl ?_
          rw [hF 2 (by omega), hS.1]
          refine az_ic_ge rfl rfl (fun c15 => absurd c15 (nI_ge (show i < τ 0 by omega) (by omega))) (fun c15 => ?_)
          refine az_er 3 rfl ?_
          refine az_ecallF rfl rfl rfl rfl (ct_atI rfl rfl (show i < 4 by omega) (by decide) (show hh 3 i = nI _ by rw [hF 3 (by omega)]; exact (hS.2 i (by omega)).1)) ?_
          refine az_er 4 rfl ?_
          refine az_ecallF rfl rfl rfl rfl (ct_atI rfl rfl (show i < 4 by omega) (by decide) (show hh 8 i = nI _ by rw [hF 8 (by omega)]; exact (hS.2 i (by omega)).2.2.2)) ?_
          refine az_er 3 rfl ?_
          refine az_ic_ne rfl rfl (fun c42 => ?_) (fun c42 => absurd c42 (by decide))
          refine az_er 3 rfl ?_
          refine az_ecallF rfl rfl rfl rfl (ct_atI rfl rfl (show i < 4 by omega) (by decide) (show hh 6 i = nI _ by rw [hF 6 (by omega)]; exact (hS.2 i (by omega)).2.1)) ?_
          refine az_er 4 rfl ?_
          refine az_if_ne rfl rfl (fun c72 => absurd rfl c72) (fun c72 => ?_)
          refine az_er 3 rfl ?_
          refine az_ecallF rfl rfl rfl rfl (ct_atI rfl rfl (show i < 4 by omega) (by decide) (show hh 6 i = nI _ by rw [hF 6 (by omega)]; exact (hS.2 i (by omega)).2.1)) ?_
          refine az_er 8 rfl ?_
          refine az_ic_le rfl rfl (fun c109 => ?_) (fun c109 => absurd ((bd_c1 (by omega) (by omega) (by omega)).mpr (by omega)) c109)
          refine az_er 3 rfl ?_
          refine az_ic_ge rfl rfl (fun c122 => absurd ((bd_c2 (by omega) (by omega) (by omega)).mp c122) (by omega)) (fun c122 => ?_)
          refine az_er 5 rfl ?_
          refine az_ecall rfl rfl rfl rfl (ct_badd hR (by omega) (l9 := 0) (u9 := 0) (n9 := (bd_n τ i : Int)) (o9 := bd_o τ 0 i) (z9 := (bd_h τ i : Int)) rfl rfl (iI_n _) (by rw [iI_n, iI_n, iI_sub]; rfl) (iI_n _)) ?_
          rintro _ h3 ⟨rfl, g1, g2⟩
          refine az_er 2 rfl ?_
          refine ih (i + 1) _ _ h3 (by omega) (by omega) (nI_1' i) (bx_R_c g1 (fun s hs => ?_) rfl) (fun a ha => (g2 a ha).trans (hF a ha)) (Or.inr ⟨_, _, _, _, rfl⟩)
          by_cases hsi : s = i
          · subst hsi
            refine ⟨(if_pos rfl).trans ?_, (if_pos rfl).trans ?_, if_pos rfl⟩
            · show 0 = bd_lo τ 0 s; rw [bd_lo, if_neg hc1]
            · show 0 = bd_hi τ 0 s; rw [bd_hi, if_pos hc2]
          · exact ⟨if_neg hsi, if_neg hsi, if_neg hsi⟩
        · have hc2n := hc2
          unfold bd_h at hc2n
          rw [eo] at hc2n
          refine az_er 3 rfl ?_
          rw [hF 2 (by omega), hS.1]
          refine az_ic_ge rfl rfl (fun c15 => absurd c15 (nI_ge (show i < τ 0 by omega) (by omega))) (fun c15 => ?_)
          refine az_er 3 rfl ?_
          refine az_ecallF rfl rfl rfl rfl (ct_atI rfl rfl (show i < 4 by omega) (by decide) (show hh 3 i = nI _ by rw [hF 3 (by omega)]; exact (hS.2 i (by omega)).1)) ?_
          refine az_er 4 rfl ?_
          refine az_ecallF rfl rfl rfl rfl (ct_atI rfl rfl (show i < 4 by omega) (by decide) (show hh 8 i = nI _ by rw [hF 8 (by omega)]; exact (hS.2 i (by omega)).2.2.2)) ?_
          refine az_er 3 rfl ?_
          refine az_ic_ne rfl rfl (fun c42 => ?_) (fun c42 => absurd c42 (by decide))
          refine az_er 3 rfl ?_
          refine az_ecallF rfl rfl rfl rfl (ct_atI rfl rfl (show i < 4 by omega) (by decide) (show hh 6 i = nI _ by rw [hF 6 (by omega)]; exact (hS.2 i (by omega)).2.1)) ?_
          refine az_er 4 rfl ?_
          refine az_if_ne rfl rfl (fun c72 => absurd rfl c72) (fun c72 => ?_)
          refine az_er 3 rfl ?_
          refine az_ecallF rfl rfl rfl rfl (ct_atI rfl rfl (show i < 4 by omega) (by decide) (show hh 6 i = nI _ by rw [hF 6 (by omega)]; exact (hS.2 i (by omega)).2.1)) ?_
          refine az_er 8 rfl ?_
          refine az_ic_le rfl rfl (fun c109 => ?_) (fun c109 => absurd ((bd_c1 (by omega) (by omega) (by omega)).mpr (by omega)) c109)
          refine az_er 3 rfl ?_
          refine az_ic_ge rfl rfl (fun c122 => ?_) (fun c122 => absurd ((bd_c2 (by omega) (by omega) (by omega)).mpr (by omega)) c122)
          refine az_er 4 rfl ?_
          refine az_ecall rfl rfl rfl rfl (ct_badd hR (by omega) (l9 := 0) (u9 := bd_n τ i) (n9 := (bd_n τ i : Int)) (o9 := bd_o τ 0 i) (z9 := (bd_h τ i : Int)) rfl rfl (iI_n _) (by rw [iI_n, iI_n, iI_sub]; rfl) (iI_n _)) ?_
          rintro _ h3 ⟨rfl, g1, g2⟩
          refine az_er 2 rfl ?_
          refine ih (i + 1) _ _ h3 (by omega) (by omega) (nI_1' i) (bx_R_c g1 (fun s hs => ?_) rfl) (fun a ha => (g2 a ha).trans (hF a ha)) (Or.inr ⟨_, _, _, _, rfl⟩)
          by_cases hsi : s = i
          · subst hsi
            refine ⟨(if_pos rfl).trans ?_, (if_pos rfl).trans ?_, if_pos rfl⟩
            · show 0 = bd_lo τ 0 s; rw [bd_lo, if_neg hc1]
            · show bd_n τ s = bd_hi τ 0 s; rw [bd_hi, if_neg hc2]
          · exact ⟨if_neg hsi, if_neg hsi, if_neg hsi⟩
    · skip
      by_cases hc1 : (bd_h τ i : Int) < bd_w τ 0 i
      · have hc1n := hc1
        unfold bd_h at hc1n
        rw [ew] at hc1n
        by_cases hc2 : bd_o τ 0 i < (bd_h τ i : Int)
        · have hc2n := hc2
          unfold bd_h at hc2n
          rw [eo] at hc2n
          refine az_er 3 rfl ?_
          rw [hF 2 (by omega), hS.1]
          refine az_ic_ge rfl rfl (fun c15 => absurd c15 (nI_ge (show i < τ 0 by omega) (by omega))) (fun c15 => ?_)
          refine az_er 3 rfl ?_
          refine az_ecallF rfl rfl rfl rfl (ct_atI rfl rfl (show i < 4 by omega) (by decide) (show hh 3 i = nI _ by rw [hF 3 (by omega)]; exact (hS.2 i (by omega)).1)) ?_
          refine az_er 4 rfl ?_
          refine az_ecallF rfl rfl rfl rfl (ct_atI rfl rfl (show i < 4 by omega) (by decide) (show hh 8 i = nI _ by rw [hF 8 (by omega)]; exact (hS.2 i (by omega)).2.2.2)) ?_
          refine az_er 3 rfl ?_
          refine az_ic_ne rfl rfl (fun c42 => ?_) (fun c42 => absurd c42 (by decide))
          refine az_er 3 rfl ?_
          refine az_ecallF rfl rfl rfl rfl (ct_atI rfl rfl (show i < 4 by omega) (by decide) (show hh 6 i = nI _ by rw [hF 6 (by omega)]; exact (hS.2 i (by omega)).2.1)) ?_
          refine az_er 4 rfl ?_
          refine az_if_ne rfl rfl (fun c72 => absurd rfl c72) (fun c72 => ?_)
          refine az_er 3 rfl ?_
          refine az_ecallF rfl rfl rfl rfl (ct_atI rfl rfl (show i < 4 by omega) (by decide) (show hh 6 i = nI _ by rw [hF 6 (by omega)]; exact (hS.2 i (by omega)).2.1)) ?_
          refine az_er 8 rfl ?_
          refine az_ic_le rfl rfl (fun c109 => absurd (bd_c1 (by omega) (by omega) (by omega) |>.mp c109) (by omega)) (fun c109 => ?_)
          refine az_er 4 rfl ?_
          refine az_ic_ge rfl rfl (fun c122 => absurd ((bd_c2 (by omega) (by omega) (by omega)).mp c122) (by omega)) (fun c122 => ?_)
          refine az_er 5 rfl ?_
          refine az_ecall rfl rfl rfl rfl (ct_badd hR (by omega) (l9 := bd_n τ i) (u9 := 0) (n9 := (bd_n τ i : Int)) (o9 := bd_o τ 0 i) (z9 := (bd_h τ i : Int)) rfl rfl (iI_n _) (by rw [iI_n, iI_n, iI_sub]; rfl) (iI_n _)) ?_
          rintro _ h3 ⟨rfl, g1, g2⟩
          refine az_er 2 rfl ?_
          refine ih (i + 1) _ _ h3 (by omega) (by omega) (nI_1' i) (bx_R_c g1 (fun s hs => ?_) rfl) (fun a ha => (g2 a ha).trans (hF a ha)) (Or.inr ⟨_, _, _, _, rfl⟩)
          by_cases hsi : s = i
          · subst hsi
            refine ⟨(if_pos rfl).trans ?_, (if_pos rfl).trans ?_, if_pos rfl⟩
            · show bd_n τ s = bd_lo τ 0 s; rw [bd_lo, if_pos hc1]
            · show 0 = bd_hi τ 0 s; rw [bd_hi, if_pos hc2]
          · exact ⟨if_neg hsi, if_neg hsi, if_neg hsi⟩
        · have hc2n := hc2
          unfold bd_h at hc2n
          rw [eo] at hc2n
          refine az_er 3 rfl ?_
          rw [hF 2 (by omega), hS.1]
          refine az_ic_ge rfl rfl (fun c15 => absurd c15 (nI_ge (show i < τ 0 by omega) (by omega))) (fun c15 => ?_)
          refine az_er 3 rfl ?_
          refine az_ecallF rfl rfl rfl rfl (ct_atI rfl rfl (show i < 4 by omega) (by decide) (show hh 3 i = nI _ by rw [hF 3 (by omega)]; exact (hS.2 i (by omega)).1)) ?_
          refine az_er 4 rfl ?_
          refine az_ecallF rfl rfl rfl rfl (ct_atI rfl rfl (show i < 4 by omega) (by decide) (show hh 8 i = nI _ by rw [hF 8 (by omega)]; exact (hS.2 i (by omega)).2.2.2)) ?_
          refine az_er 3 rfl ?_
          refine az_ic_ne rfl rfl (fun c42 => ?_) (fun c42 => absurd c42 (by decide))
          refine az_er 3 rfl ?_
          refine az_ecallF rfl rfl rfl rfl (ct_atI rfl rfl (show i < 4 by omega) (by decide) (show hh 6 i = nI _ by rw [hF 6 (by omega)]; exact (hS.2 i (by omega)).2.1)) ?_
          refine az_er 4 rfl ?_
          refine az_if_ne rfl rfl (fun c72 => absurd rfl c72) (fun c72 => ?_)
          refine az_er 3 rfl ?_
          refine az_ecallF rfl rfl rfl rfl (ct_atI rfl rfl (show i < 4 by omega) (by decide) (show hh 6 i = nI _ by rw [hF 6 (by omega)]; exact (hS.2 i (by omega)).2.1)) ?_
          refine az_er 8 rfl ?_
          refine az_ic_le rfl rfl (fun c109 => absurd (bd_c1 (by omega) (by omega) (by omega) |>.mp c109) (by omega)) (fun c109 => ?_)
          refine az_er 4 rfl ?_
          refine az_ic_ge rfl rfl (fun c122 => ?_) (fun c122 => absurd ((bd_c2 (by omega) (by omega) (by omega)).mpr (by omega)) c122)
          refine az_er 4 rfl ?_
          refine az_ecall rfl rfl rfl rfl (ct_badd hR (by omega) (l9 := bd_n τ i) (u9 := bd_n τ i) (n9 := (bd_n τ i : Int)) (o9 := bd_o τ 0 i) (z9 := (bd_h τ i : Int)) rfl rfl (iI_n _) (by rw [iI_n, iI_n, iI_sub]; rfl) (iI_n _)) ?_
          rintro _ h3 ⟨rfl, g1, g2⟩
          refine az_er 2 rfl ?_
          refine ih (i + 1) _ _ h3 (by omega) (by omega) (nI_1' i) (bx_R_c g1 (fun s hs => ?_) rfl) (fun a ha => (g2 a ha).trans (hF a ha)) (Or.inr ⟨_, _, _, _, rfl⟩)
          by_cases hsi : s = i
          · subst hsi
            refine ⟨(if_pos rfl).trans ?_, (if_pos rfl).trans ?_, if_pos rfl⟩
            · show bd_n τ s = bd_lo τ 0 s; rw [bd_lo, if_pos hc1]
            · show bd_n τ s = bd_hi τ 0 s; rw [bd_hi, if_neg hc2]
          · exact ⟨if_neg hsi, if_neg hsi, if_neg hsi⟩
      · have hc1n := hc1
        unfold bd_h at hc1n
        rw [ew] at hc1n
        by_cases hc2 : bd_o τ 0 i < (bd_h τ i : Int)
        · have hc2n := hc2
          unfold bd_h at hc2n
          rw [eo] at hc2n
          refine az_er 3 rfl ?_
          rw [hF 2 (by omega), hS.1]
          refine az_ic_ge rfl rfl (fun c15 => absurd c15 (nI_ge (show i < τ 0 by omega) (by omega))) (fun c15 => ?_)
          refine az_er 3 rfl ?_
          refine az_ecallF rfl rfl rfl rfl (ct_atI rfl rfl (show i < 4 by omega) (by decide) (show hh 3 i = nI _ by rw [hF 3 (by omega)]; exact (hS.2 i (by omega)).1)) ?_
          refine az_er 4 rfl ?_
          refine az_ecallF rfl rfl rfl rfl (ct_atI rfl rfl (show i < 4 by omega) (by decide) (show hh 8 i = nI _ by rw [hF 8 (by omega)]; exact (hS.2 i (by omega)).2.2.2)) ?_
          refine az_er 3 rfl ?_
          refine az_ic_ne rfl rfl (fun c42 => ?_) (fun c42 => absurd c42 (by decide))
          refine az_er 3 rfl ?_
          refine az_ecallF rfl rfl rfl rfl (ct_atI rfl rfl (show i < 4 by omega) (by decide) (show hh 6 i = nI _ by rw [hF 6 (by omega)]; exact (hS.2 i (by omega)).2.1)) ?_
          refine az_er 4 rfl ?_
          refine az_if_ne rfl rfl (fun c72 => absurd rfl c72) (fun c72 => ?_)
          refine az_er 3 rfl ?_
          refine az_ecallF rfl rfl rfl rfl (ct_atI rfl rfl (show i < 4 by omega) (by decide) (show hh 6 i = nI _ by rw [hF 6 (by omega)]; exact (hS.2 i (by omega)).2.1)) ?_
          refine az_er 8 rfl ?_
          refine az_ic_le rfl rfl (fun c109 => ?_) (fun c109 => absurd ((bd_c1 (by omega) (by omega) (by omega)).mpr (by omega)) c109)
          refine az_er 3 rfl ?_
          refine az_ic_ge rfl rfl (fun c122 => absurd ((bd_c2 (by omega) (by omega) (by omega)).mp c122) (by omega)) (fun c122 => ?_)
          refine az_er 5 rfl ?_
          refine az_ecall rfl rfl rfl rfl (ct_badd hR (by omega) (l9 := 0) (u9 := 0) (n9 := (bd_n τ i : Int)) (o9 := bd_o τ 0 i) (z9 := (bd_h τ i : Int)) rfl rfl (iI_n _) (by rw [iI_n, iI_n, iI_sub]; rfl) (iI_n _)) ?_
          rintro _ h3 ⟨rfl, g1, g2⟩
          refine az_er 2 rfl ?_
          refine ih (i + 1) _ _ h3 (by omega) (by omega) (nI_1' i) (bx_R_c g1 (fun s hs => ?_) rfl) (fun a ha => (g2 a ha).trans (hF a ha)) (Or.inr ⟨_, _, _, _, rfl⟩)
          by_cases hsi : s = i
          · subst hsi
            refine ⟨(if_pos rfl).trans ?_, (if_pos rfl).trans ?_, if_pos rfl⟩
            · show 0 = bd_lo τ 0 s; rw [bd_lo, if_neg hc1]
            · show 0 = bd_hi τ 0 s; rw [bd_hi, if_pos hc2]
          · exact ⟨if_neg hsi, if_neg hsi, if_neg hsi⟩
        · have hc2n := hc2
          unfold bd_h at hc2n
          rw [eo] at hc2n
          refine az_er 3 rfl ?_
          rw [hF 2 (by omega), hS.1]
          refine az_ic_ge rfl rfl (fun c15 => absurd c15 (nI_ge (show i < τ 0 by omega) (by omega))) (fun c15 => ?_)
          refine az_er 3 rfl ?_
          refine az_ecallF rfl rfl rfl rfl (ct_atI rfl rfl (show i < 4 by omega) (by decide) (show hh 3 i = nI _ by rw [hF 3 (by omega)]; exact (hS.2 i (by omega)).1)) ?_
          refine az_er 4 rfl ?_
          refine az_ecallF rfl rfl rfl rfl (ct_atI rfl rfl (show i < 4 by omega) (by decide) (show hh 8 i = nI _ by rw [hF 8 (by omega)]; exact (hS.2 i (by omega)).2.2.2)) ?_
          refine az_er 3 rfl ?_
          refine az_ic_ne rfl rfl (fun c42 => ?_) (fun c42 => absurd c42 (by decide))
          refine az_er 3 rfl ?_
          refine az_ecallF rfl rfl rfl rfl (ct_atI rfl rfl (show i < 4 by omega) (by decide) (show hh 6 i = nI _ by rw [hF 6 (by omega)]; exact (hS.2 i (by omega)).2.1)) ?_
          refine az_er 4 rfl ?_
          refine az_if_ne rfl rfl (fun c72 => absurd rfl c72) (fun c72 => ?_)
          refine az_er 3 rfl ?_
          refine az_ecallF rfl rfl rfl rfl (ct_atI rfl rfl (show i < 4 by omega) (by decide) (show hh 6 i = nI _ by rw [hF 6 (by omega)]; exact (hS.2 i (by omega)).2.1)) ?_
          refine az_er 8 rfl ?_
          refine az_ic_le rfl rfl (fun c109 => ?_) (fun c109 => absurd ((bd_c1 (by omega) (by omega) (by omega)).mpr (by omega)) c109)
          refine az_er 3 rfl ?_
          refine az_ic_ge rfl rfl (fun c122 => ?_) (fun c122 => absurd ((bd_c2 (by omega) (by omega) (by omega)).mpr (by omega)) c122)
          refine az_er 4 rfl ?_
          refine az_ecall rfl rfl rfl rfl (ct_badd hR (by omega) (l9 := 0) (u9 := bd_n τ i) (n9 := (bd_n τ i : Int)) (o9 := bd_o τ 0 i) (z9 := (bd_h τ i : Int)) rfl rfl (iI_n _) (by rw [iI_n, iI_n, iI_sub]; rfl) (iI_n _)) ?_
          rintro _ h3 ⟨rfl, g1, g2⟩
          refine az_er 2 rfl ?_
          refine ih (i + 1) _ _ h3 (by omega) (by omega) (nI_1' i) (bx_R_c g1 (fun s hs => ?_) rfl) (fun a ha => (g2 a ha).trans (hF a ha)) (Or.inr ⟨_, _, _, _, rfl⟩)
          by_cases hsi : s = i
          · subst hsi
            refine ⟨(if_pos rfl).trans ?_, (if_pos rfl).trans ?_, if_pos rfl⟩
            · show 0 = bd_lo τ 0 s; rw [bd_lo, if_neg hc1]
            · show bd_n τ s = bd_hi τ 0 s; rw [bd_hi, if_neg hc2]
          · exact ⟨if_neg hsi, if_neg hsi, if_neg hsi⟩
set_option maxRecDepth 100000 in
theorem ct_br0 {sc : az_S} {h : az_H} {τ : Nat → Nat} (hS : rt_So τ h) (hV : rt_V τ) : az_E sc az_m_X2_boxResting 0 [.ref 48, .ref 2, .int (nI 0), .int (nI (τ 2)), .int (nI (τ 5))] [] h (fun v h' => v = none ∧ bx_R (τ 0) (bd_lo τ 0) (bd_hi τ 0) (bd_g τ 0) (bd_a τ 0) (bd_b τ 0) (bd_w0 τ (τ 0)) h' ∧ (∀ a, (a < 49 ∨ 52 < a) → h' a = h a)) := by
  refine az_er 3 rfl ?_
  refine az_ecall rfl rfl rfl rfl (ct_band0 (lo := bd_lo τ 0) (hi := bd_hi τ 0) (g := bd_g τ 0)) ?_
  rintro _ h1 ⟨rfl, g1, g2⟩
  refine az_er 2 rfl ?_
  refine az_E.mono (lp_br0 (rt_So_e hS (fun a ha => g2 a (by omega))) hV (τ 0) 0 _ [] h1 (by omega) (by omega) rfl (bx_R_c g1 (fun s hs => absurd hs (Nat.not_lt_zero s)) rfl) (fun _ _ => rfl) (Or.inl rfl)) ?_
  rintro v h2 ⟨rfl, k1, k2⟩
  exact ⟨rfl, k1, fun a ha => (k2 a ha).trans (g2 a (by omega))⟩
set_option maxRecDepth 100000 in
theorem lp_br1 {sc : az_S} {h : az_H} {τ : Nat → Nat} {c9 : Int32} (hS : rt_So τ h) (hV : rt_V τ) : ∀ (d i : Nat) (x : Int32) (tl : List Value) (hh : az_H), i ≤ τ 0 → τ 0 - i = d → x = nI i → bx_R (i) (bd_lo τ 1) (bd_hi τ 1) (bd_g τ 1) (bd_a τ 1) (bd_b τ 1) (bd_w0 τ (i)) hh → (∀ a, (a < 49 ∨ 52 < a) → hh a = h a) → (tl = [] ∨ ∃ a0 a1 a2 a3, tl = [.int a0, .int a1, .int a2, .int a3]) → az_E sc az_m_X2_boxResting 9 (.ref 48 :: .ref 2 :: .int (nI 1) :: .int c9 :: .int (nI (τ 5)) :: .int x :: tl) [] hh (fun v h' => v = none ∧ bx_R (τ 0) (bd_lo τ 1) (bd_hi τ 1) (bd_g τ 1) (bd_a τ 1) (bd_b τ 1) (bd_w0 τ (τ 0)) h' ∧ (∀ a, (a < 49 ∨ 52 < a) → h' a = h a)) := by
  have h04 := hV.1
  intro d
  induction d with
  | zero =>
    intro i x tl hh hi9 hd hx hR hF htl
    subst hx
    refine az_er 3 rfl ?_
    rw [hF 2 (by omega), hS.1]
    refine az_ic_ge rfl rfl (fun c15 => ?_) (fun c15 => absurd (nI_le (by omega) (by omega)) c15)
    refine az_eret rfl rfl rfl ?_
    have e : i = τ 0 := by omega
    subst e
    exact ⟨rfl, hR, hF⟩
  | succ d ih =>
    intro i x tl hh hi9 hd hx hR hF htl
    subst hx
    have h9 := bd_9 hV (show i < 4 by omega)
    have eo : bd_o τ 1 i = (τ (13 + 6 * i) : Int) - (τ 5 : Int) := rfl
    have ew : bd_w τ 1 i = (τ (14 + 6 * i) : Int) - (τ 5 : Int) := rfl
    rcases htl with rfl | ⟨a0, a1, a2, a3, rfl⟩
    · skip
      by_cases hc1 : (bd_h τ i : Int) < bd_w τ 1 i
      · have hc1n := hc1
        unfold bd_h at hc1n
        rw [ew] at hc1n
        by_cases hc2 : bd_o τ 1 i < (bd_h τ i : Int)
        · have hc2n := hc2
          unfold bd_h at hc2n
          rw [eo] at hc2n
          refine az_er 3 rfl ?_
          rw [hF 2 (by omega), hS.1]
          refine az_ic_ge rfl rfl (fun c15 => absurd c15 (nI_ge (show i < τ 0 by omega) (by omega))) (fun c15 => ?_)
          refine az_er 3 rfl ?_
          refine az_ecallF rfl rfl rfl rfl (ct_atI rfl rfl (show i < 4 by omega) (by decide) (show hh 3 i = nI _ by rw [hF 3 (by omega)]; exact (hS.2 i (by omega)).1)) ?_
          refine az_er 4 rfl ?_
          refine az_ecallF rfl rfl rfl rfl (ct_atI rfl rfl (show i < 4 by omega) (by decide) (show hh 8 i = nI _ by rw [hF 8 (by omega)]; exact (hS.2 i (by omega)).2.2.2)) ?_
          refine az_er 3 rfl ?_
          refine az_ic_ne rfl rfl (fun c42 => ?_) (fun c42 => absurd c42 (by decide))
          refine az_er 3 rfl ?_
          refine az_ecallF rfl rfl rfl rfl (ct_atI rfl rfl (show i < 4 by omega) (by decide) (show hh 6 i = nI _ by rw [hF 6 (by omega)]; exact (hS.2 i (by omega)).2.1)) ?_
          refine az_er 4 rfl ?_
          refine az_if_ne rfl rfl (fun c72 => ?_) (fun c72 => absurd c72 (by decide))
          refine az_er 3 rfl ?_
          refine az_ecallF rfl rfl rfl rfl (ct_atI rfl rfl (show i < 4 by omega) (by decide) (show hh 7 i = nI _ by rw [hF 7 (by omega)]; exact (hS.2 i (by omega)).2.2.1)) ?_
          refine az_er 7 rfl ?_
          refine az_ic_le rfl rfl (fun c109 => absurd (bd_c1 (by omega) (by omega) (by omega) |>.mp c109) (by omega)) (fun c109 => ?_)
          refine az_er 4 rfl ?_
          refine az_ic_ge rfl rfl (fun c122 => absurd ((bd_c2 (by omega) (by omega) (by omega)).mp c122) (by omega)) (fun c122 => ?_)
          refine az_er 5 rfl ?_
          refine az_ecall rfl rfl rfl rfl (ct_badd hR (by omega) (l9 := bd_n τ i) (u9 := 0) (n9 := (bd_n τ i : Int)) (o9 := bd_o τ 1 i) (z9 := (bd_h τ i : Int)) rfl rfl (iI_n _) (by rw [iI_n, iI_n, iI_sub]; rfl) (iI_n _)) ?_
          rintro _ h3 ⟨rfl, g1, g2⟩
          refine az_er 2 rfl ?_
          refine ih (i + 1) _ _ h3 (by omega) (by omega) (nI_1' i) (bx_R_c g1 (fun s hs => ?_) rfl) (fun a ha => (g2 a ha).trans (hF a ha)) (Or.inr ⟨_, _, _, _, rfl⟩)
          by_cases hsi : s = i
          · subst hsi
            refine ⟨(if_pos rfl).trans ?_, (if_pos rfl).trans ?_, if_pos rfl⟩
            · show bd_n τ s = bd_lo τ 1 s; rw [bd_lo, if_pos hc1]
            · show 0 = bd_hi τ 1 s; rw [bd_hi, if_pos hc2]
          · exact ⟨if_neg hsi, if_neg hsi, if_neg hsi⟩
        · have hc2n := hc2
          unfold bd_h at hc2n
          rw [eo] at hc2n
          refine az_er 3 rfl ?_
          rw [hF 2 (by omega), hS.1]
          refine az_ic_ge rfl rfl (fun c15 => absurd c15 (nI_ge (show i < τ 0 by omega) (by omega))) (fun c15 => ?_)
          refine az_er 3 rfl ?_
          refine az_ecallF rfl rfl rfl rfl (ct_atI rfl rfl (show i < 4 by omega) (by decide) (show hh 3 i = nI _ by rw [hF 3 (by omega)]; exact (hS.2 i (by omega)).1)) ?_
          refine az_er 4 rfl ?_
          refine az_ecallF rfl rfl rfl rfl (ct_atI rfl rfl (show i < 4 by omega) (by decide) (show hh 8 i = nI _ by rw [hF 8 (by omega)]; exact (hS.2 i (by omega)).2.2.2)) ?_
          refine az_er 3 rfl ?_
          refine az_ic_ne rfl rfl (fun c42 => ?_) (fun c42 => absurd c42 (by decide))
          refine az_er 3 rfl ?_
          refine az_ecallF rfl rfl rfl rfl (ct_atI rfl rfl (show i < 4 by omega) (by decide) (show hh 6 i = nI _ by rw [hF 6 (by omega)]; exact (hS.2 i (by omega)).2.1)) ?_
          refine az_er 4 rfl ?_
          refine az_if_ne rfl rfl (fun c72 => ?_) (fun c72 => absurd c72 (by decide))
          refine az_er 3 rfl ?_
          refine az_ecallF rfl rfl rfl rfl (ct_atI rfl rfl (show i < 4 by omega) (by decide) (show hh 7 i = nI _ by rw [hF 7 (by omega)]; exact (hS.2 i (by omega)).2.2.1)) ?_
          refine az_er 7 rfl ?_
          refine az_ic_le rfl rfl (fun c109 => absurd (bd_c1 (by omega) (by omega) (by omega) |>.mp c109) (by omega)) (fun c109 => ?_)
          refine az_er 4 rfl ?_
          refine az_ic_ge rfl rfl (fun c122 => ?_) (fun c122 => absurd ((bd_c2 (by omega) (by omega) (by omega)).mpr (by omega)) c122)
          refine az_er 4 rfl ?_
          refine az_ecall rfl rfl rfl rfl (ct_badd hR (by omega) (l9 := bd_n τ i) (u9 := bd_n τ i) (n9 := (bd_n τ i : Int)) (o9 := bd_o τ 1 i) (z9 := (bd_h τ i : Int)) rfl rfl (iI_n _) (by rw [iI_n, iI_n, iI_sub]; rfl) (iI_n _)) ?_
          rintro _ h3 ⟨rfl, g1, g2⟩
          refine az_er 2 rfl ?_
          refine ih (i + 1) _ _ h3 (by omega) (by omega) (nI_1' i) (bx_R_c g1 (fun s hs => ?_) rfl) (fun a ha => (g2 a ha).trans (hF a ha)) (Or.inr ⟨_, _, _, _, rfl⟩)
          by_cases hsi : s = i
          · subst hsi
            refine ⟨(if_pos rfl).trans ?_, (if_pos rfl).trans ?_, if_pos rfl⟩
            · show bd_n τ s = bd_lo τ 1 s; rw [bd_lo, if_pos hc1]
            · show bd_n τ s = bd_hi τ 1 s; rw [bd_hi, if_neg hc2]
          · exact ⟨if_neg hsi, if_neg hsi, if_neg hsi⟩
      · have hc1n := hc1
        unfold bd_h at hc1n
        rw [ew] at hc1n
        by_cases hc2 : bd_o τ 1 i < (bd_h τ i : Int)
        · have hc2n := hc2
          unfold bd_h at hc2n
          rw [eo] at hc2n
          refine az_er 3 rfl ?_
          rw [hF 2 (by omega), hS.1]
          refine az_ic_ge rfl rfl (fun c15 => absurd c15 (nI_ge (show i < τ 0 by omega) (by omega))) (fun c15 => ?_)
          refine az_er 3 rfl ?_
          refine az_ecallF rfl rfl rfl rfl (ct_atI rfl rfl (show i < 4 by omega) (by decide) (show hh 3 i = nI _ by rw [hF 3 (by omega)]; exact (hS.2 i (by omega)).1)) ?_
          refine az_er 4 rfl ?_
          refine az_ecallF rfl rfl rfl rfl (ct_atI rfl rfl (show i < 4 by omega) (by decide) (show hh 8 i = nI _ by rw [hF 8 (by omega)]; exact (hS.2 i (by omega)).2.2.2)) ?_
          refine az_er 3 rfl ?_
          refine az_ic_ne rfl rfl (fun c42 => ?_) (fun c42 => absurd c42 (by decide))
          refine az_er 3 rfl ?_
          refine az_ecallF rfl rfl rfl rfl (ct_atI rfl rfl (show i < 4 by omega) (by decide) (show hh 6 i = nI _ by rw [hF 6 (by omega)]; exact (hS.2 i (by omega)).2.1)) ?_
          refine az_er 4 rfl ?_
          refine az_if_ne rfl rfl (fun c72 => ?_) (fun c72 => absurd c72 (by decide))
          refine az_er 3 rfl ?_
          refine az_ecallF rfl rfl rfl rfl (ct_atI rfl rfl (show i < 4 by omega) (by decide) (show hh 7 i = nI _ by rw [hF 7 (by omega)]; exact (hS.2 i (by omega)).2.2.1)) ?_
          refine az_er 7 rfl ?_
          refine az_ic_le rfl rfl (fun c109 => ?_) (fun c109 => absurd ((bd_c1 (by omega) (by omega) (by omega)).mpr (by omega)) c109)
          refine az_er 3 rfl ?_
          refine az_ic_ge rfl rfl (fun c122 => absurd ((bd_c2 (by omega) (by omega) (by omega)).mp c122) (by omega)) (fun c122 => ?_)
          refine az_er 5 rfl ?_
          refine az_ecall rfl rfl rfl rfl (ct_badd hR (by omega) (l9 := 0) (u9 := 0) (n9 := (bd_n τ i : Int)) (o9 := bd_o τ 1 i) (z9 := (bd_h τ i : Int)) rfl rfl (iI_n _) (by rw [iI_n, iI_n, iI_sub]; rfl) (iI_n _)) ?_
          rintro _ h3 ⟨rfl, g1, g2⟩
          refine az_er 2 rfl ?_
          refine ih (i + 1) _ _ h3 (by omega) (by omega) (nI_1' i) (bx_R_c g1 (fun s hs => ?_) rfl) (fun a ha => (g2 a ha).trans (hF a ha)) (Or.inr ⟨_, _, _, _, rfl⟩)
          by_cases hsi : s = i
          · subst hsi
            refine ⟨(if_pos rfl).trans ?_, (if_pos rfl).trans ?_, if_pos rfl⟩
            · show 0 = bd_lo τ 1 s; rw [bd_lo, if_neg hc1]
            · show 0 = bd_hi τ 1 s; rw [bd_hi, if_pos hc2]
          · exact ⟨if_neg hsi, if_neg hsi, if_neg hsi⟩
        · have hc2n := hc2
          unfold bd_h at hc2n
          rw [eo] at hc2n
          refine az_er 3 rfl ?_
          rw [hF 2 (by omega), hS.1]
          refine az_ic_ge rfl rfl (fun c15 => absurd c15 (nI_ge (show i < τ 0 by omega) (by omega))) (fun c15 => ?_)
          refine az_er 3 rfl ?_
          refine az_ecallF rfl rfl rfl rfl (ct_atI rfl rfl (show i < 4 by omega) (by decide) (show hh 3 i = nI _ by rw [hF 3 (by omega)]; exact (hS.2 i (by omega)).1)) ?_
          refine az_er 4 rfl ?_
          refine az_ecallF rfl rfl rfl rfl (ct_atI rfl rfl (show i < 4 by omega) (by decide) (show hh 8 i = nI _ by rw [hF 8 (by omega)]; exact (hS.2 i (by omega)).2.2.2)) ?_
          refine az_er 3 rfl ?_
          refine az_ic_ne rfl rfl (fun c42 => ?_) (fun c42 => absurd c42 (by decide))
          refine az_er 3 rfl ?_
          refine az_ecallF rfl rfl rfl rfl (ct_atI rfl rfl (show i < 4 by omega) (by decide) (show hh 6 i = nI _ by rw [hF 6 (by omega)]; exact (hS.2 i (by omega)).2.1)) ?_
          refine az_er 4 rfl ?_
          refine az_if_ne rfl rfl (fun c72 => ?_) (fun c72 => absurd c72 (by decide))
          refine az_er 3 rfl ?_
          refine az_ecallF rfl rfl rfl rfl (ct_atI rfl rfl (show i < 4 by omega) (by decide) (show hh 7 i = nI _ by rw [hF 7 (by omega)]; exact (hS.2 i (by omega)).2.2.1)) ?_
          refine az_er 7 rfl ?_
          refine az_ic_le rfl rfl (fun c109 => ?_) (fun c109 => absurd ((bd_c1 (by omega) (by omega) (by omega)).mpr (by omega)) c109)
          refine az_er 3 rfl ?_
          refine az_ic_ge rfl rfl (fun c122 => ?_) (fun c122 => absurd ((bd_c2 (by omega) (by omega) (by omega)).mpr (by omega)) c122)
          refine az_er 4 rfl ?_
          refine az_ecall rfl rfl rfl rfl (ct_badd hR (by omega) (l9 := 0) (u9 := bd_n τ i) (n9 := (bd_n τ i : Int)) (o9 := bd_o τ 1 i) (z9 := (bd_h τ i : Int)) rfl rfl (iI_n _) (by rw [iI_n, iI_n, iI_sub]; rfl) (iI_n _)) ?_
          rintro _ h3 ⟨rfl, g1, g2⟩
          refine az_er 2 rfl ?_
          refine ih (i + 1) _ _ h3 (by omega) (by omega) (nI_1' i) (bx_R_c g1 (fun s hs => ?_) rfl) (fun a ha => (g2 a ha).trans (hF a ha)) (Or.inr ⟨_, _, _, _, rfl⟩)
          by_cases hsi : s = i
          · subst hsi
            refine ⟨(if_pos rfl).trans ?_, (if_pos rfl).trans ?_, if_pos rfl⟩
            · show 0 = bd_lo τ 1 s; rw [bd_lo, if_neg hc1]
            · show bd_n τ s = bd_hi τ 1 s; rw [bd_hi, if_neg hc2]
          · exact ⟨if_neg hsi, if_neg hsi, if_neg hsi⟩
    · skip
      by_cases hc1 : (bd_h τ i : Int) < bd_w τ 1 i
      · have hc1n := hc1
        unfold bd_h at hc1n
        rw [ew] at hc1n
        by_cases hc2 : bd_o τ 1 i < (bd_h τ i : Int)
        · have hc2n := hc2
          unfold bd_h at hc2n
          rw [eo] at hc2n
          refine az_er 3 rfl ?_
          rw [hF 2 (by omega), hS.1]
          refine az_ic_ge rfl rfl (fun c15 => absurd c15 (nI_ge (show i < τ 0 by omega) (by omega))) (fun c15 => ?_)
          refine az_er 3 rfl ?_
          refine az_ecallF rfl rfl rfl rfl (ct_atI rfl rfl (show i < 4 by omega) (by decide) (show hh 3 i = nI _ by rw [hF 3 (by omega)]; exact (hS.2 i (by omega)).1)) ?_
          refine az_er 4 rfl ?_
          refine az_ecallF rfl rfl rfl rfl (ct_atI rfl rfl (show i < 4 by omega) (by decide) (show hh 8 i = nI _ by rw [hF 8 (by omega)]; exact (hS.2 i (by omega)).2.2.2)) ?_
          refine az_er 3 rfl ?_
          refine az_ic_ne rfl rfl (fun c42 => ?_) (fun c42 => absurd c42 (by decide))
          refine az_er 3 rfl ?_
          refine az_ecallF rfl rfl rfl rfl (ct_atI rfl rfl (show i < 4 by omega) (by decide) (show hh 6 i = nI _ by rw [hF 6 (by omega)]; exact (hS.2 i (by omega)).2.1)) ?_
          refine az_er 4 rfl ?_
          refine az_if_ne rfl rfl (fun c72 => ?_) (fun c72 => absurd c72 (by decide))
          refine az_er 3 rfl ?_
          refine az_ecallF rfl rfl rfl rfl (ct_atI rfl rfl (show i < 4 by omega) (by decide) (show hh 7 i = nI _ by rw [hF 7 (by omega)]; exact (hS.2 i (by omega)).2.2.1)) ?_
          refine az_er 7 rfl ?_
          refine az_ic_le rfl rfl (fun c109 => absurd (bd_c1 (by omega) (by omega) (by omega) |>.mp c109) (by omega)) (fun c109 => ?_)
          refine az_er 4 rfl ?_
          refine az_ic_ge rfl rfl (fun c122 => absurd ((bd_c2 (by omega) (by omega) (by omega)).mp c122) (by omega)) (fun c122 => ?_)
          refine az_er 5 rfl ?_
          refine az_ecall rfl rfl rfl rfl (ct_badd hR (by omega) (l9 := bd_n τ i) (u9 := 0) (n9 := (bd_n τ i : Int)) (o9 := bd_o τ 1 i) (z9 := (bd_h τ i : Int)) rfl rfl (iI_n _) (by rw [iI_n, iI_n, iI_sub]; rfl) (iI_n _)) ?_
          rintro _ h3 ⟨rfl, g1, g2⟩
          refine az_er 2 rfl ?_
          refine ih (i + 1) _ _ h3 (by omega) (by omega) (nI_1' i) (bx_R_c g1 (fun s hs => ?_) rfl) (fun a ha => (g2 a ha).trans (hF a ha)) (Or.inr ⟨_, _, _, _, rfl⟩)
          by_cases hsi : s = i
          · subst hsi
            refine ⟨(if_pos rfl).trans ?_, (if_pos rfl).trans ?_, if_pos rfl⟩
            · show bd_n τ s = bd_lo τ 1 s; rw [bd_lo, if_pos hc1]
            · show 0 = bd_hi τ 1 s; rw [bd_hi, if_pos hc2]
          · exact ⟨if_neg hsi, if_neg hsi, if_neg hsi⟩
        · have hc2n := hc2
          unfold bd_h at hc2n
          rw [eo] at hc2n
          refine az_er 3 rfl ?_
          rw [hF 2 (by omega), hS.1]
          refine az_ic_ge rfl rfl (fun c15 => absurd c15 (nI_ge (show i < τ 0 by omega) (by omega))) (fun c15 => ?_)
          refine az_er 3 rfl ?_
          refine az_ecallF rfl rfl rfl rfl (ct_atI rfl rfl (show i < 4 by omega) (by decide) (show hh 3 i = nI _ by rw [hF 3 (by omega)]; exact (hS.2 i (by omega)).1)) ?_
          refine az_er 4 rfl ?_
          refine az_ecallF rfl rfl rfl rfl (ct_atI rfl rfl (show i < 4 by omega) (by decide) (show hh 8 i = nI _ by rw [hF 8 (by omega)]; exact (hS.2 i (by omega)).2.2.2)) ?_
          refine az_er 3 rfl ?_
          refine az_ic_ne rfl rfl (fun c42 => ?_) (fun c42 => absurd c42 (by decide))
          refine az_er 3 rfl ?_
          refine az_ecallF rfl rfl rfl rfl (ct_atI rfl rfl (show i < 4 by omega) (by decide) (show hh 6 i = nI _ by rw [hF 6 (by omega)]; exact (hS.2 i (by omega)).2.1)) ?_
          refine az_er 4 rfl ?_
          refine az_if_ne rfl rfl (fun c72 => ?_) (fun c72 => absurd c72 (by decide))
          refine az_er 3 rfl ?_
          refine az_ecallF rfl rfl rfl rfl (ct_atI rfl rfl (show i < 4 by omega) (by decide) (show hh 7 i = nI _ by rw [hF 7 (by omega)]; exact (hS.2 i (by omega)).2.2.1)) ?_
          refine az_er 7 rfl ?_
          refine az_ic_le rfl rfl (fun c109 => absurd (bd_c1 (by omega) (by omega) (by omega) |>.mp c109) (by omega)) (fun c109 => ?_)
          refine az_er 4 rfl ?_
          refine az_ic_ge rfl rfl (fun c122 => ?_) (fun c122 => absurd ((bd_c2 (by omega) (by omega) (by omega)).mpr (by omega)) c122)
          refine az_er 4 rfl ?_
          refine az_ecall rfl rfl rfl rfl (ct_badd hR (by omega) (l9 := bd_n τ i) (u9 := bd_n τ i) (n9 := (bd_n τ i : Int)) (o9 := bd_o τ 1 i) (z9 := (bd_h τ i : Int)) rfl rfl (iI_n _) (by rw [iI_n, iI_n, iI_sub]; rfl) (iI_n _)) ?_
          rintro _ h3 ⟨rfl, g1, g2⟩
          refine az_er 2 rfl ?_
          refine ih (i + 1) _ _ h3 (by omega) (by omega) (nI_1' i) (bx_R_c g1 (fun s hs => ?_) rfl) (fun a ha => (g2 a ha).trans (hF a ha)) (Or.inr ⟨_, _, _, _, rfl⟩)
          by_cases hsi : s = i
          · subst hsi
            refine ⟨(if_pos rfl).trans ?_, (if_pos rfl).trans ?_, if_pos rfl⟩
            · show bd_n τ s = bd_lo τ 1 s; rw [bd_lo, if_pos hc1]
            · show bd_n τ s = bd_hi τ 1 s; rw [bd_hi, if_neg hc2]
          · exact ⟨if_neg hsi, if_neg hsi, if_neg hsi⟩
      · have hc1n := hc1
        unfold bd_h at hc1n
        rw [ew] at hc1n
        by_cases hc2 : bd_o τ 1 i < (bd_h τ i : Int)
        · have hc2n := hc2
          unfold bd_h at hc2n
          rw [eo] at hc2n
          refine az_er 3 rfl ?_
          rw [hF 2 (by omega), hS.1]
          refine az_ic_ge rfl rfl (fun c15 => absurd c15 (nI_ge (show i < τ 0 by omega) (by omega))) (fun c15 => ?_)
          refine az_er 3 rfl ?_
          refine az_ecallF rfl rfl rfl rfl (ct_atI rfl rfl (show i < 4 by omega) (by decide) (show hh 3 i = nI _ by rw [hF 3 (by omega)]; exact (hS.2 i (by omega)).1)) ?_
          refine az_er 4 rfl ?_
          refine az_ecallF rfl rfl rfl rfl (ct_atI rfl rfl (show i < 4 by omega) (by decide) (show hh 8 i = nI _ by rw [hF 8 (by omega)]; exact (hS.2 i (by omega)).2.2.2)) ?_
          refine az_er 3 rfl ?_
          refine az_ic_ne rfl rfl (fun c42 => ?_) (fun c42 => absurd c42 (by decide))
          refine az_er 3 rfl ?_
          refine az_ecallF rfl rfl rfl rfl (ct_atI rfl rfl (show i < 4 by omega) (by decide) (show hh 6 i = nI _ by rw [hF 6 (by omega)]; exact (hS.2 i (by omega)).2.1)) ?_
          refine az_er 4 rfl ?_
          refine az_if_ne rfl rfl (fun c72 => ?_) (fun c72 => absurd c72 (by decide))
          refine az_er 3 rfl ?_
          refine az_ecallF rfl rfl rfl rfl (ct_atI rfl rfl (show i < 4 by omega) (by decide) (show hh 7 i = nI _ by rw [hF 7 (by omega)]; exact (hS.2 i (by omega)).2.2.1)) ?_
          refine az_er 7 rfl ?_
          refine az_ic_le rfl rfl (fun c109 => ?_) (fun c109 => absurd ((bd_c1 (by omega) (by omega) (by omega)).mpr (by omega)) c109)
          refine az_er 3 rfl ?_
          refine az_ic_ge rfl rfl (fun c122 => absurd ((bd_c2 (by omega) (by omega) (by omega)).mp c122) (by omega)) (fun c122 => ?_)
          refine az_er 5 rfl ?_
          refine az_ecall rfl rfl rfl rfl (ct_badd hR (by omega) (l9 := 0) (u9 := 0) (n9 := (bd_n τ i : Int)) (o9 := bd_o τ 1 i) (z9 := (bd_h τ i : Int)) rfl rfl (iI_n _) (by rw [iI_n, iI_n, iI_sub]; rfl) (iI_n _)) ?_
          rintro _ h3 ⟨rfl, g1, g2⟩
          refine az_er 2 rfl ?_
          refine ih (i + 1) _ _ h3 (by omega) (by omega) (nI_1' i) (bx_R_c g1 (fun s hs => ?_) rfl) (fun a ha => (g2 a ha).trans (hF a ha)) (Or.inr ⟨_, _, _, _, rfl⟩)
          by_cases hsi : s = i
          · subst hsi
            refine ⟨(if_pos rfl).trans ?_, (if_pos rfl).trans ?_, if_pos rfl⟩
            · show 0 = bd_lo τ 1 s; rw [bd_lo, if_neg hc1]
            · show 0 = bd_hi τ 1 s; rw [bd_hi, if_pos hc2]
          · exact ⟨if_neg hsi, if_neg hsi, if_neg hsi⟩
        · have hc2n := hc2
          unfold bd_h at hc2n
          rw [eo] at hc2n
          refine az_er 3 rfl ?_
          rw [hF 2 (by omega), hS.1]
          refine az_ic_ge rfl rfl (fun c15 => absurd c15 (nI_ge (show i < τ 0 by omega) (by omega))) (fun c15 => ?_)
          refine az_er 3 rfl ?_
          refine az_ecallF rfl rfl rfl rfl (ct_atI rfl rfl (show i < 4 by omega) (by decide) (show hh 3 i = nI _ by rw [hF 3 (by omega)]; exact (hS.2 i (by omega)).1)) ?_
          refine az_er 4 rfl ?_
          refine az_ecallF rfl rfl rfl rfl (ct_atI rfl rfl (show i < 4 by omega) (by decide) (show hh 8 i = nI _ by rw [hF 8 (by omega)]; exact (hS.2 i (by omega)).2.2.2)) ?_
          refine az_er 3 rfl ?_
          refine az_ic_ne rfl rfl (fun c42 => ?_) (fun c42 => absurd c42 (by decide))
          refine az_er 3 rfl ?_
          refine az_ecallF rfl rfl rfl rfl (ct_atI rfl rfl (show i < 4 by omega) (by decide) (show hh 6 i = nI _ by rw [hF 6 (by omega)]; exact (hS.2 i (by omega)).2.1)) ?_
          refine az_er 4 rfl ?_
          refine az_if_ne rfl rfl (fun c72 => ?_) (fun c72 => absurd c72 (by decide))
          refine az_er 3 rfl ?_
          refine az_ecallF rfl rfl rfl rfl (ct_atI rfl rfl (show i < 4 by omega) (by decide) (show hh 7 i = nI _ by rw [hF 7 (by omega)]; exact (hS.2 i (by omega)).2.2.1)) ?_
          refine az_er 7 rfl ?_
          refine az_ic_le rfl rfl (fun c109 => ?_) (fun c109 => absurd ((bd_c1 (by omega) (by omega) (by omega)).mpr (by omega)) c109)
          refine az_er 3 rfl ?_
          refine az_ic_ge rfl rfl (fun c122 => ?_) (fun c122 => absurd ((bd_c2 (by omega) (by omega) (by omega)).mpr (by omega)) c122)
          refine az_er 4 rfl ?_
          refine az_ecall rfl rfl rfl rfl (ct_badd hR (by omega) (l9 := 0) (u9 := bd_n τ i) (n9 := (bd_n τ i : Int)) (o9 := bd_o τ 1 i) (z9 := (bd_h τ i : Int)) rfl rfl (iI_n _) (by rw [iI_n, iI_n, iI_sub]; rfl) (iI_n _)) ?_
          rintro _ h3 ⟨rfl, g1, g2⟩
          refine az_er 2 rfl ?_
          refine ih (i + 1) _ _ h3 (by omega) (by omega) (nI_1' i) (bx_R_c g1 (fun s hs => ?_) rfl) (fun a ha => (g2 a ha).trans (hF a ha)) (Or.inr ⟨_, _, _, _, rfl⟩)
          by_cases hsi : s = i
          · subst hsi
            refine ⟨(if_pos rfl).trans ?_, (if_pos rfl).trans ?_, if_pos rfl⟩
            · show 0 = bd_lo τ 1 s; rw [bd_lo, if_neg hc1]
            · show bd_n τ s = bd_hi τ 1 s; rw [bd_hi, if_neg hc2]
          · exact ⟨if_neg hsi, if_neg hsi, if_neg hsi⟩
set_option maxRecDepth 100000 in
theorem ct_br1 {sc : az_S} {h : az_H} {τ : Nat → Nat} (hS : rt_So τ h) (hV : rt_V τ) : az_E sc az_m_X2_boxResting 0 [.ref 48, .ref 2, .int (nI 1), .int (nI (τ 2)), .int (nI (τ 5))] [] h (fun v h' => v = none ∧ bx_R (τ 0) (bd_lo τ 1) (bd_hi τ 1) (bd_g τ 1) (bd_a τ 1) (bd_b τ 1) (bd_w0 τ (τ 0)) h' ∧ (∀ a, (a < 49 ∨ 52 < a) → h' a = h a)) := by
  refine az_er 3 rfl ?_
  refine az_ecall rfl rfl rfl rfl (ct_band1 (lo := bd_lo τ 1) (hi := bd_hi τ 1) (g := bd_g τ 1)) ?_
  rintro _ h1 ⟨rfl, g1, g2⟩
  refine az_er 2 rfl ?_
  refine az_E.mono (lp_br1 (rt_So_e hS (fun a ha => g2 a (by omega))) hV (τ 0) 0 _ [] h1 (by omega) (by omega) rfl (bx_R_c g1 (fun s hs => absurd hs (Nat.not_lt_zero s)) rfl) (fun _ _ => rfl) (Or.inl rfl)) ?_
  rintro v h2 ⟨rfl, k1, k2⟩
  exact ⟨rfl, k1, fun a ha => (k2 a ha).trans (g2 a (by omega))⟩
set_option maxRecDepth 100000 in
theorem lp_br2 {sc : az_S} {h : az_H} {τ : Nat → Nat} {c9 : Int32} (hS : rt_So τ h) (hV : rt_V τ) : ∀ (d i : Nat) (x : Int32) (tl : List Value) (hh : az_H), i ≤ τ 0 → τ 0 - i = d → x = nI i → bx_R (i) (bd_lo τ 2) (bd_hi τ 2) (bd_g τ 2) (bd_a τ 2) (bd_b τ 2) (bd_w0 τ (i)) hh → (∀ a, (a < 49 ∨ 52 < a) → hh a = h a) → (tl = [] ∨ ∃ a0 a1 a2 a3, tl = [.int a0, .int a1, .int a2, .int a3]) → az_E sc az_m_X2_boxResting 9 (.ref 48 :: .ref 2 :: .int (nI 2) :: .int c9 :: .int (nI (τ 5)) :: .int x :: tl) [] hh (fun v h' => v = none ∧ bx_R (τ 0) (bd_lo τ 2) (bd_hi τ 2) (bd_g τ 2) (bd_a τ 2) (bd_b τ 2) (bd_w0 τ (τ 0)) h' ∧ (∀ a, (a < 49 ∨ 52 < a) → h' a = h a)) := by
  have h04 := hV.1
  intro d
  induction d with
  | zero =>
    intro i x tl hh hi9 hd hx hR hF htl
    subst hx
    refine az_er 3 rfl ?_
    rw [hF 2 (by omega), hS.1]
    refine az_ic_ge rfl rfl (fun c15 => ?_) (fun c15 => absurd (nI_le (by omega) (by omega)) c15)
    refine az_eret rfl rfl rfl ?_
    have e : i = τ 0 := by omega
    subst e
    exact ⟨rfl, hR, hF⟩
  | succ d ih =>
    intro i x tl hh hi9 hd hx hR hF htl
    subst hx
    have h9 := bd_9 hV (show i < 4 by omega)
    have eo : bd_o τ 2 i = (τ (14 + 6 * i) : Int) - (τ 5 : Int) := rfl
    have ew : bd_w τ 2 i = (τ (14 + 6 * i) : Int) - (τ 5 : Int) := rfl
    rcases htl with rfl | ⟨a0, a1, a2, a3, rfl⟩
    · skip
      by_cases hc1 : (bd_h τ i : Int) < bd_w τ 2 i
      · have hc1n := hc1
        unfold bd_h at hc1n
        rw [ew] at hc1n
        by_cases hc2 : bd_o τ 2 i < (bd_h τ i : Int)
        · have hc2n := hc2
          unfold bd_h at hc2n
          rw [eo] at hc2n
          refine az_er 3 rfl ?_
          rw [hF 2 (by omega), hS.1]
          refine az_ic_ge rfl rfl (fun c15 => absurd c15 (nI_ge (show i < τ 0 by omega) (by omega))) (fun c15 => ?_)
          refine az_er 3 rfl ?_
          refine az_ecallF rfl rfl rfl rfl (ct_atI rfl rfl (show i < 4 by omega) (by decide) (show hh 3 i = nI _ by rw [hF 3 (by omega)]; exact (hS.2 i (by omega)).1)) ?_
          refine az_er 4 rfl ?_
          refine az_ecallF rfl rfl rfl rfl (ct_atI rfl rfl (show i < 4 by omega) (by decide) (show hh 8 i = nI _ by rw [hF 8 (by omega)]; exact (hS.2 i (by omega)).2.2.2)) ?_
          refine az_er 3 rfl ?_
          refine az_ic_ne rfl rfl (fun c42 => absurd rfl c42) (fun c42 => ?_)
          refine az_er 3 rfl ?_
          refine az_ecallF rfl rfl rfl rfl (ct_atI rfl rfl (show i < 4 by omega) (by decide) (show hh 7 i = nI _ by rw [hF 7 (by omega)]; exact (hS.2 i (by omega)).2.2.1)) ?_
          refine az_er 5 rfl ?_
          refine az_if_ne rfl rfl (fun c72 => ?_) (fun c72 => absurd c72 (by decide))
          refine az_er 3 rfl ?_
          refine az_ecallF rfl rfl rfl rfl (ct_atI rfl rfl (show i < 4 by omega) (by decide) (show hh 7 i = nI _ by rw [hF 7 (by omega)]; exact (hS.2 i (by omega)).2.2.1)) ?_
          refine az_er 7 rfl ?_
          refine az_ic_le rfl rfl (fun c109 => absurd (bd_c1 (by omega) (by omega) (by omega) |>.mp c109) (by omega)) (fun c109 => ?_)
          refine az_er 4 rfl ?_
          refine az_ic_ge rfl rfl (fun c122 => absurd ((bd_c2 (by omega) (by omega) (by omega)).mp c122) (by omega)) (fun c122 => ?_)
          refine az_er 5 rfl ?_
          refine az_ecall rfl rfl rfl rfl (ct_badd hR (by omega) (l9 := bd_n τ i) (u9 := 0) (n9 := (bd_n τ i : Int)) (o9 := bd_o τ 2 i) (z9 := (bd_h τ i : Int)) rfl rfl (iI_n _) (by rw [iI_n, iI_n, iI_sub]; rfl) (iI_n _)) ?_
          rintro _ h3 ⟨rfl, g1, g2⟩
          refine az_er 2 rfl ?_
          refine ih (i + 1) _ _ h3 (by omega) (by omega) (nI_1' i) (bx_R_c g1 (fun s hs => ?_) rfl) (fun a ha => (g2 a ha).trans (hF a ha)) (Or.inr ⟨_, _, _, _, rfl⟩)
          by_cases hsi : s = i
          · subst hsi
            refine ⟨(if_pos rfl).trans ?_, (if_pos rfl).trans ?_, if_pos rfl⟩
            · show bd_n τ s = bd_lo τ 2 s; rw [bd_lo, if_pos hc1]
            · show 0 = bd_hi τ 2 s; rw [bd_hi, if_pos hc2]
          · exact ⟨if_neg hsi, if_neg hsi, if_neg hsi⟩
        · have hc2n := hc2
          unfold bd_h at hc2n
          rw [eo] at hc2n
          refine az_er 3 rfl ?_
          rw [hF 2 (by omega), hS.1]
          refine az_ic_ge rfl rfl (fun c15 => absurd c15 (nI_ge (show i < τ 0 by omega) (by omega))) (fun c15 => ?_)
          refine az_er 3 rfl ?_
          refine az_ecallF rfl rfl rfl rfl (ct_atI rfl rfl (show i < 4 by omega) (by decide) (show hh 3 i = nI _ by rw [hF 3 (by omega)]; exact (hS.2 i (by omega)).1)) ?_
          refine az_er 4 rfl ?_
          refine az_ecallF rfl rfl rfl rfl (ct_atI rfl rfl (show i < 4 by omega) (by decide) (show hh 8 i = nI _ by rw [hF 8 (by omega)]; exact (hS.2 i (by omega)).2.2.2)) ?_
          refine az_er 3 rfl ?_
          refine az_ic_ne rfl rfl (fun c42 => absurd rfl c42) (fun c42 => ?_)
          refine az_er 3 rfl ?_
          refine az_ecallF rfl rfl rfl rfl (ct_atI rfl rfl (show i < 4 by omega) (by decide) (show hh 7 i = nI _ by rw [hF 7 (by omega)]; exact (hS.2 i (by omega)).2.2.1)) ?_
          refine az_er 5 rfl ?_
          refine az_if_ne rfl rfl (fun c72 => ?_) (fun c72 => absurd c72 (by decide))
          refine az_er 3 rfl ?_
          refine az_ecallF rfl rfl rfl rfl (ct_atI rfl rfl (show i < 4 by omega) (by decide) (show hh 7 i = nI _ by rw [hF 7 (by omega)]; exact (hS.2 i (by omega)).2.2.1)) ?_
          refine az_er 7 rfl ?_
          refine az_ic_le rfl rfl (fun c109 => absurd (bd_c1 (by omega) (by omega) (by omega) |>.mp c109) (by omega)) (fun c109 => ?_)
          refine az_er 4 rfl ?_
          refine az_ic_ge rfl rfl (fun c122 => ?_) (fun c122 => absurd ((bd_c2 (by omega) (by omega) (by omega)).mpr (by omega)) c122)
          refine az_er 4 rfl ?_
          refine az_ecall rfl rfl rfl rfl (ct_badd hR (by omega) (l9 := bd_n τ i) (u9 := bd_n τ i) (n9 := (bd_n τ i : Int)) (o9 := bd_o τ 2 i) (z9 := (bd_h τ i : Int)) rfl rfl (iI_n _) (by rw [iI_n, iI_n, iI_sub]; rfl) (iI_n _)) ?_
          rintro _ h3 ⟨rfl, g1, g2⟩
          refine az_er 2 rfl ?_
          refine ih (i + 1) _ _ h3 (by omega) (by omega) (nI_1' i) (bx_R_c g1 (fun s hs => ?_) rfl) (fun a ha => (g2 a ha).trans (hF a ha)) (Or.inr ⟨_, _, _, _, rfl⟩)
          by_cases hsi : s = i
          · subst hsi
            refine ⟨(if_pos rfl).trans ?_, (if_pos rfl).trans ?_, if_pos rfl⟩
            · show bd_n τ s = bd_lo τ 2 s; rw [bd_lo, if_pos hc1]
            · show bd_n τ s = bd_hi τ 2 s; rw [bd_hi, if_neg hc2]
          · exact ⟨if_neg hsi, if_neg hsi, if_neg hsi⟩
      · have hc1n := hc1
        unfold bd_h at hc1n
        rw [ew] at hc1n
        by_cases hc2 : bd_o τ 2 i < (bd_h τ i : Int)
        · have hc2n := hc2
          unfold bd_h at hc2n
          rw [eo] at hc2n
          refine az_er 3 rfl ?_
          rw [hF 2 (by omega), hS.1]
          refine az_ic_ge rfl rfl (fun c15 => absurd c15 (nI_ge (show i < τ 0 by omega) (by omega))) (fun c15 => ?_)
          refine az_er 3 rfl ?_
          refine az_ecallF rfl rfl rfl rfl (ct_atI rfl rfl (show i < 4 by omega) (by decide) (show hh 3 i = nI _ by rw [hF 3 (by omega)]; exact (hS.2 i (by omega)).1)) ?_
          refine az_er 4 rfl ?_
          refine az_ecallF rfl rfl rfl rfl (ct_atI rfl rfl (show i < 4 by omega) (by decide) (show hh 8 i = nI _ by rw [hF 8 (by omega)]; exact (hS.2 i (by omega)).2.2.2)) ?_
          refine az_er 3 rfl ?_
          refine az_ic_ne rfl rfl (fun c42 => absurd rfl c42) (fun c42 => ?_)
          refine az_er 3 rfl ?_
          refine az_ecallF rfl rfl rfl rfl (ct_atI rfl rfl (show i < 4 by omega) (by decide) (show hh 7 i = nI _ by rw [hF 7 (by omega)]; exact (hS.2 i (by omega)).2.2.1)) ?_
          refine az_er 5 rfl ?_
          refine az_if_ne rfl rfl (fun c72 => ?_) (fun c72 => absurd c72 (by decide))
          refine az_er 3 rfl ?_
          refine az_ecallF rfl rfl rfl rfl (ct_atI rfl rfl (show i < 4 by omega) (by decide) (show hh 7 i = nI _ by rw [hF 7 (by omega)]; exact (hS.2 i (by omega)).2.2.1)) ?_
          refine az_er 7 rfl ?_
          refine az_ic_le rfl rfl (fun c109 => ?_) (fun c109 => absurd ((bd_c1 (by omega) (by omega) (by omega)).mpr (by omega)) c109)
          refine az_er 3 rfl ?_
          refine az_ic_ge rfl rfl (fun c122 => absurd ((bd_c2 (by omega) (by omega) (by omega)).mp c122) (by omega)) (fun c122 => ?_)
          refine az_er 5 rfl ?_
          refine az_ecall rfl rfl rfl rfl (ct_badd hR (by omega) (l9 := 0) (u9 := 0) (n9 := (bd_n τ i : Int)) (o9 := bd_o τ 2 i) (z9 := (bd_h τ i : Int)) rfl rfl (iI_n _) (by rw [iI_n, iI_n, iI_sub]; rfl) (iI_n _)) ?_
          rintro _ h3 ⟨rfl, g1, g2⟩
          refine az_er 2 rfl ?_
          refine ih (i + 1) _ _ h3 (by omega) (by omega) (nI_1' i) (bx_R_c g1 (fun s hs => ?_) rfl) (fun a ha => (g2 a ha).trans (hF a ha)) (Or.inr ⟨_, _, _, _, rfl⟩)
          by_cases hsi : s = i
          · subst hsi
            refine ⟨(if_pos rfl).trans ?_, (if_pos rfl).trans ?_, if_pos rfl⟩
            · show 0 = bd_lo τ 2 s; rw [bd_lo, if_neg hc1]
            · show 0 = bd_hi τ 2 s; rw [bd_hi, if_pos hc2]
          · exact ⟨if_neg hsi, if_neg hsi, if_neg hsi⟩
        · have hc2n := hc2
          unfold bd_h at hc2n
          rw [eo] at hc2n
          refine az_er 3 rfl ?_
          rw [hF 2 (by omega), hS.1]
          refine az_ic_ge rfl rfl (fun c15 => absurd c15 (nI_ge (show i < τ 0 by omega) (by omega))) (fun c15 => ?_)
          refine az_er 3 rfl ?_
          refine az_ecallF rfl rfl rfl rfl (ct_atI rfl rfl (show i < 4 by omega) (by decide) (show hh 3 i = nI _ by rw [hF 3 (by omega)]; exact (hS.2 i (by omega)).1)) ?_
          refine az_er 4 rfl ?_
          refine az_ecallF rfl rfl rfl rfl (ct_atI rfl rfl (show i < 4 by omega) (by decide) (show hh 8 i = nI _ by rw [hF 8 (by omega)]; exact (hS.2 i (by omega)).2.2.2)) ?_
          refine az_er 3 rfl ?_
          refine az_ic_ne rfl rfl (fun c42 => absurd rfl c42) (fun c42 => ?_)
          refine az_er 3 rfl ?_
          refine az_ecallF rfl rfl rfl rfl (ct_atI rfl rfl (show i < 4 by omega) (by decide) (show hh 7 i = nI _ by rw [hF 7 (by omega)]; exact (hS.2 i (by omega)).2.2.1)) ?_
          refine az_er 5 rfl ?_
          refine az_if_ne rfl rfl (fun c72 => ?_) (fun c72 => absurd c72 (by decide))
          refine az_er 3 rfl ?_
          refine az_ecallF rfl rfl rfl rfl (ct_atI rfl rfl (show i < 4 by omega) (by decide) (show hh 7 i = nI _ by rw [hF 7 (by omega)]; exact (hS.2 i (by omega)).2.2.1)) ?_
          refine az_er 7 rfl ?_
          refine az_ic_le rfl rfl (fun c109 => ?_) (fun c109 => absurd ((bd_c1 (by omega) (by omega) (by omega)).mpr (by omega)) c109)
          refine az_er 3 rfl ?_
          refine az_ic_ge rfl rfl (fun c122 => ?_) (fun c122 => absurd ((bd_c2 (by omega) (by omega) (by omega)).mpr (by omega)) c122)
          refine az_er 4 rfl ?_
          refine az_ecall rfl rfl rfl rfl (ct_badd hR (by omega) (l9 := 0) (u9 := bd_n τ i) (n9 := (bd_n τ i : Int)) (o9 := bd_o τ 2 i) (z9 := (bd_h τ i : Int)) rfl rfl (iI_n _) (by rw [iI_n, iI_n, iI_sub]; rfl) (iI_n _)) ?_
          rintro _ h3 ⟨rfl, g1, g2⟩
          refine az_er 2 rfl ?_
          refine ih (i + 1) _ _ h3 (by omega) (by omega) (nI_1' i) (bx_R_c g1 (fun s hs => ?_) rfl) (fun a ha => (g2 a ha).trans (hF a ha)) (Or.inr ⟨_, _, _, _, rfl⟩)
          by_cases hsi : s = i
          · subst hsi
            refine ⟨(if_pos rfl).trans ?_, (if_pos rfl).trans ?_, if_pos rfl⟩
            · show 0 = bd_lo τ 2 s; rw [bd_lo, if_neg hc1]
            · show bd_n τ s = bd_hi τ 2 s; rw [bd_hi, if_neg hc2]
          · exact ⟨if_neg hsi, if_neg hsi, if_neg hsi⟩
    · skip
      by_cases hc1 : (bd_h τ i : Int) < bd_w τ 2 i
      · have hc1n := hc1
        unfold bd_h at hc1n
        rw [ew] at hc1n
        by_cases hc2 : bd_o τ 2 i < (bd_h τ i : Int)
        · have hc2n := hc2
          unfold bd_h at hc2n
          rw [eo] at hc2n
          refine az_er 3 rfl ?_
          rw [hF 2 (by omega), hS.1]
          refine az_ic_ge rfl rfl (fun c15 => absurd c15 (nI_ge (show i < τ 0 by omega) (by omega))) (fun c15 => ?_)
          refine az_er 3 rfl ?_
          refine az_ecallF rfl rfl rfl rfl (ct_atI rfl rfl (show i < 4 by omega) (by decide) (show hh 3 i = nI _ by rw [hF 3 (by omega)]; exact (hS.2 i (by omega)).1)) ?_
          refine az_er 4 rfl ?_
          refine az_ecallF rfl rfl rfl rfl (ct_atI rfl rfl (show i < 4 by omega) (by decide) (show hh 8 i = nI _ by rw [hF 8 (by omega)]; exact (hS.2 i (by omega)).2.2.2)) ?_
          refine az_er 3 rfl ?_
          refine az_ic_ne rfl rfl (fun c42 => absurd rfl c42) (fun c42 => ?_)
          refine az_er 3 rfl ?_
          refine az_ecallF rfl rfl rfl rfl (ct_atI rfl rfl (show i < 4 by omega) (by decide) (show hh 7 i = nI _ by rw [hF 7 (by omega)]; exact (hS.2 i (by omega)).2.2.1)) ?_
          refine az_er 5 rfl ?_
          refine az_if_ne rfl rfl (fun c72 => ?_) (fun c72 => absurd c72 (by decide))
          refine az_er 3 rfl ?_
          refine az_ecallF rfl rfl rfl rfl (ct_atI rfl rfl (show i < 4 by omega) (by decide) (show hh 7 i = nI _ by rw [hF 7 (by omega)]; exact (hS.2 i (by omega)).2.2.1)) ?_
          refine az_er 7 rfl ?_
          refine az_ic_le rfl rfl (fun c109 => absurd (bd_c1 (by omega) (by omega) (by omega) |>.mp c109) (by omega)) (fun c109 => ?_)
          refine az_er 4 rfl ?_
          refine az_ic_ge rfl rfl (fun c122 => absurd ((bd_c2 (by omega) (by omega) (by omega)).mp c122) (by omega)) (fun c122 => ?_)
          refine az_er 5 rfl ?_
          refine az_ecall rfl rfl rfl rfl (ct_badd hR (by omega) (l9 := bd_n τ i) (u9 := 0) (n9 := (bd_n τ i : Int)) (o9 := bd_o τ 2 i) (z9 := (bd_h τ i : Int)) rfl rfl (iI_n _) (by rw [iI_n, iI_n, iI_sub]; rfl) (iI_n _)) ?_
          rintro _ h3 ⟨rfl, g1, g2⟩
          refine az_er 2 rfl ?_
          refine ih (i + 1) _ _ h3 (by omega) (by omega) (nI_1' i) (bx_R_c g1 (fun s hs => ?_) rfl) (fun a ha => (g2 a ha).trans (hF a ha)) (Or.inr ⟨_, _, _, _, rfl⟩)
          by_cases hsi : s = i
          · subst hsi
            refine ⟨(if_pos rfl).trans ?_, (if_pos rfl).trans ?_, if_pos rfl⟩
            · show bd_n τ s = bd_lo τ 2 s; rw [bd_lo, if_pos hc1]
            · show 0 = bd_hi τ 2 s; rw [bd_hi, if_pos hc2]
          · exact ⟨if_neg hsi, if_neg hsi, if_neg hsi⟩
        · have hc2n := hc2
          unfold bd_h at hc2n
          rw [eo] at hc2n
          refine az_er 3 rfl ?_
          rw [hF 2 (by omega), hS.1]
          refine az_ic_ge rfl rfl (fun c15 => absurd c15 (nI_ge (show i < τ 0 by omega) (by omega))) (fun c15 => ?_)
          refine az_er 3 rfl ?_
          refine az_ecallF rfl rfl rfl rfl (ct_atI rfl rfl (show i < 4 by omega) (by decide) (show hh 3 i = nI _ by rw [hF 3 (by omega)]; exact (hS.2 i (by omega)).1)) ?_
          refine az_er 4 rfl ?_
          refine az_ecallF rfl rfl rfl rfl (ct_atI rfl rfl (show i < 4 by omega) (by decide) (show hh 8 i = nI _ by rw [hF 8 (by omega)]; exact (hS.2 i (by omega)).2.2.2)) ?_
          refine az_er 3 rfl ?_
          refine az_ic_ne rfl rfl (fun c42 => absurd rfl c42) (fun c42 => ?_)
          refine az_er 3 rfl ?_
          refine az_ecallF rfl rfl rfl rfl (ct_atI rfl rfl (show i < 4 by omega) (by decide) (show hh 7 i = nI _ by rw [hF 7 (by omega)]; exact (hS.2 i (by omega)).2.2.1)) ?_
          refine az_er 5 rfl ?_
          refine az_if_ne rfl rfl (fun c72 => ?_) (fun c72 => absurd c72 (by decide))
          refine az_er 3 rfl ?_
          refine az_ecallF rfl rfl rfl rfl (ct_atI rfl rfl (show i < 4 by omega) (by decide) (show hh 7 i = nI _ by rw [hF 7 (by omega)]; exact (hS.2 i (by omega)).2.2.1)) ?_
          refine az_er 7 rfl ?_
          refine az_ic_le rfl rfl (fun c109 => absurd (bd_c1 (by omega) (by omega) (by omega) |>.mp c109) (by omega)) (fun c109 => ?_)
          refine az_er 4 rfl ?_
          refine az_ic_ge rfl rfl (fun c122 => ?_) (fun c122 => absurd ((bd_c2 (by omega) (by omega) (by omega)).mpr (by omega)) c122)
          refine az_er 4 rfl ?_
          refine az_ecall rfl rfl rfl rfl (ct_badd hR (by omega) (l9 := bd_n τ i) (u9 := bd_n τ i) (n9 := (bd_n τ i : Int)) (o9 := bd_o τ 2 i) (z9 := (bd_h τ i : Int)) rfl rfl (iI_n _) (by rw [iI_n, iI_n, iI_sub]; rfl) (iI_n _)) ?_
          rintro _ h3 ⟨rfl, g1, g2⟩
          refine az_er 2 rfl ?_
          refine ih (i + 1) _ _ h3 (by omega) (by omega) (nI_1' i) (bx_R_c g1 (fun s hs => ?_) rfl) (fun a ha => (g2 a ha).trans (hF a ha)) (Or.inr ⟨_, _, _, _, rfl⟩)
          by_cases hsi : s = i
          · subst hsi
            refine ⟨(if_pos rfl).trans ?_, (if_pos rfl).trans ?_, if_pos rfl⟩
            · show bd_n τ s = bd_lo τ 2 s; rw [bd_lo, if_pos hc1]
            · show bd_n τ s = bd_hi τ 2 s; rw [bd_hi, if_neg hc2]
          · exact ⟨if_neg hsi, if_neg hsi, if_neg hsi⟩
      · have hc1n := hc1
        unfold bd_h at hc1n
        rw [ew] at hc1n
        by_cases hc2 : bd_o τ 2 i < (bd_h τ i : Int)
        · have hc2n := hc2
          unfold bd_h at hc2n
          rw [eo] at hc2n
          refine az_er 3 rfl ?_
          rw [hF 2 (by omega), hS.1]
          refine az_ic_ge rfl rfl (fun c15 => absurd c15 (nI_ge (show i < τ 0 by omega) (by omega))) (fun c15 => ?_)
          refine az_er 3 rfl ?_
          refine az_ecallF rfl rfl rfl rfl (ct_atI rfl rfl (show i < 4 by omega) (by decide) (show hh 3 i = nI _ by rw [hF 3 (by omega)]; exact (hS.2 i (by omega)).1)) ?_
          refine az_er 4 rfl ?_
          refine az_ecallF rfl rfl rfl rfl (ct_atI rfl rfl (show i < 4 by omega) (by decide) (show hh 8 i = nI _ by rw [hF 8 (by omega)]; exact (hS.2 i (by omega)).2.2.2)) ?_
          refine az_er 3 rfl ?_
          refine az_ic_ne rfl rfl (fun c42 => absurd rfl c42) (fun c42 => ?_)
          refine az_er 3 rfl ?_
          refine az_ecallF rfl rfl rfl rfl (ct_atI rfl rfl (show i < 4 by omega) (by decide) (show hh 7 i = nI _ by rw [hF 7 (by omega)]; exact (hS.2 i (by omega)).2.2.1)) ?_
          refine az_er 5 rfl ?_
          refine az_if_ne rfl rfl (fun c72 => ?_) (fun c72 => absurd c72 (by decide))
          refine az_er 3 rfl ?_
          refine az_ecallF rfl rfl rfl rfl (ct_atI rfl rfl (show i < 4 by omega) (by decide) (show hh 7 i = nI _ by rw [hF 7 (by omega)]; exact (hS.2 i (by omega)).2.2.1)) ?_
          refine az_er 7 rfl ?_
          refine az_ic_le rfl rfl (fun c109 => ?_) (fun c109 => absurd ((bd_c1 (by omega) (by omega) (by omega)).mpr (by omega)) c109)
          refine az_er 3 rfl ?_
          refine az_ic_ge rfl rfl (fun c122 => absurd ((bd_c2 (by omega) (by omega) (by omega)).mp c122) (by omega)) (fun c122 => ?_)
          refine az_er 5 rfl ?_
          refine az_ecall rfl rfl rfl rfl (ct_badd hR (by omega) (l9 := 0) (u9 := 0) (n9 := (bd_n τ i : Int)) (o9 := bd_o τ 2 i) (z9 := (bd_h τ i : Int)) rfl rfl (iI_n _) (by rw [iI_n, iI_n, iI_sub]; rfl) (iI_n _)) ?_
          rintro _ h3 ⟨rfl, g1, g2⟩
          refine az_er 2 rfl ?_
          refine ih (i + 1) _ _ h3 (by omega) (by omega) (nI_1' i) (bx_R_c g1 (fun s hs => ?_) rfl) (fun a ha => (g2 a ha).trans (hF a ha)) (Or.inr ⟨_, _, _, _, rfl⟩)
          by_cases hsi : s = i
          · subst hsi
            refine ⟨(if_pos rfl).trans ?_, (if_pos rfl).trans ?_, if_pos rfl⟩
            · show 0 = bd_lo τ 2 s; rw [bd_lo, if_neg hc1]
            · show 0 = bd_hi τ 2 s; rw [bd_hi, if_pos hc2]
          · exact ⟨if_neg hsi, if_neg hsi, if_neg hsi⟩
        · have hc2n := hc2
          unfold bd_h at hc2n
          rw [eo] at hc2n
          refine az_er 3 rfl ?_
          rw [hF 2 (by omega), hS.1]
          refine az_ic_ge rfl rfl (fun c15 => absurd c15 (nI_ge (show i < τ 0 by omega) (by omega))) (fun c15 => ?_)
          refine az_er 3 rfl ?_
          refine az_ecallF rfl rfl rfl rfl (ct_atI rfl rfl (show i < 4 by omega) (by decide) (show hh 3 i = nI _ by rw [hF 3 (by omega)]; exact (hS.2 i (by omega)).1)) ?_
          refine az_er 4 rfl ?_
          refine az_ecallF rfl rfl rfl rfl (ct_atI rfl rfl (show i < 4 by omega) (by decide) (show hh 8 i = nI _ by rw [hF 8 (by omega)]; exact (hS.2 i (by omega)).2.2.2)) ?_
          refine az_er 3 rfl ?_
          refine az_ic_ne rfl rfl (fun c42 => absurd rfl c42) (fun c42 => ?_)
          refine az_er 3 rfl ?_
          refine az_ecallF rfl rfl rfl rfl (ct_atI rfl rfl (show i < 4 by omega) (by decide) (show hh 7 i = nI _ by rw [hF 7 (by omega)]; exact (hS.2 i (by omega)).2.2.1)) ?_
          refine az_er 5 rfl ?_
          refine az_if_ne rfl rfl (fun c72 => ?_) (fun c72 => absurd c72 (by decide))
          refine az_er 3 rfl ?_
          refine az_ecallF rfl rfl rfl rfl (ct_atI rfl rfl (show i < 4 by omega) (by decide) (show hh 7 i = nI _ by rw [hF 7 (by omega)]; exact (hS.2 i (by omega)).2.2.1)) ?_
          refine az_er 7 rfl ?_
          refine az_ic_le rfl rfl (fun c109 => ?_) (fun c109 => absurd ((bd_c1 (by omega) (by omega) (by omega)).mpr (by omega)) c109)
          refine az_er 3 rfl ?_
          refine az_ic_ge rfl rfl (fun c122 => ?_) (fun c122 => absurd ((bd_c2 (by omega) (by omega) (by omega)).mpr (by omega)) c122)
          refine az_er 4 rfl ?_
          refine az_ecall rfl rfl rfl rfl (ct_badd hR (by omega) (l9 := 0) (u9 := bd_n τ i) (n9 := (bd_n τ i : Int)) (o9 := bd_o τ 2 i) (z9 := (bd_h τ i : Int)) rfl rfl (iI_n _) (by rw [iI_n, iI_n, iI_sub]; rfl) (iI_n _)) ?_
          rintro _ h3 ⟨rfl, g1, g2⟩
          refine az_er 2 rfl ?_
          refine ih (i + 1) _ _ h3 (by omega) (by omega) (nI_1' i) (bx_R_c g1 (fun s hs => ?_) rfl) (fun a ha => (g2 a ha).trans (hF a ha)) (Or.inr ⟨_, _, _, _, rfl⟩)
          by_cases hsi : s = i
          · subst hsi
            refine ⟨(if_pos rfl).trans ?_, (if_pos rfl).trans ?_, if_pos rfl⟩
            · show 0 = bd_lo τ 2 s; rw [bd_lo, if_neg hc1]
            · show bd_n τ s = bd_hi τ 2 s; rw [bd_hi, if_neg hc2]
          · exact ⟨if_neg hsi, if_neg hsi, if_neg hsi⟩
set_option maxRecDepth 100000 in
theorem ct_br2 {sc : az_S} {h : az_H} {τ : Nat → Nat} (hS : rt_So τ h) (hV : rt_V τ) : az_E sc az_m_X2_boxResting 0 [.ref 48, .ref 2, .int (nI 2), .int (nI (τ 2)), .int (nI (τ 5))] [] h (fun v h' => v = none ∧ bx_R (τ 0) (bd_lo τ 2) (bd_hi τ 2) (bd_g τ 2) (bd_a τ 2) (bd_b τ 2) (bd_w0 τ (τ 0)) h' ∧ (∀ a, (a < 49 ∨ 52 < a) → h' a = h a)) := by
  refine az_er 3 rfl ?_
  refine az_ecall rfl rfl rfl rfl (ct_band2 (lo := bd_lo τ 2) (hi := bd_hi τ 2) (g := bd_g τ 2)) ?_
  rintro _ h1 ⟨rfl, g1, g2⟩
  refine az_er 2 rfl ?_
  refine az_E.mono (lp_br2 (rt_So_e hS (fun a ha => g2 a (by omega))) hV (τ 0) 0 _ [] h1 (by omega) (by omega) rfl (bx_R_c g1 (fun s hs => absurd hs (Nat.not_lt_zero s)) rfl) (fun _ _ => rfl) (Or.inl rfl)) ?_
  rintro v h2 ⟨rfl, k1, k2⟩
  exact ⟨rfl, k1, fun a ha => (k2 a ha).trans (g2 a (by omega))⟩
set_option maxRecDepth 100000 in
theorem ct_br {sc : az_S} {h : az_H} {τ : Nat → Nat} {q : Nat} (hS : rt_So τ h) (hV : rt_V τ) (hq : q < 3) : az_E sc az_m_X2_boxResting 0 [.ref 48, .ref 2, .int (nI q), .int (nI (τ 2)), .int (nI (τ 5))] [] h (fun v h' => v = none ∧ bx_R (τ 0) (bd_lo τ q) (bd_hi τ q) (bd_g τ q) (bd_a τ q) (bd_b τ q) (bd_w0 τ (τ 0)) h' ∧ (∀ a, (a < 49 ∨ 52 < a) → h' a = h a)) := by
  rcases (show q = 0 ∨ q = 1 ∨ q = 2 by omega) with rfl | rfl | rfl
  · exact ct_br0 hS hV
  · exact ct_br1 hS hV
  · exact ct_br2 hS hV
set_option maxRecDepth 100000 in
theorem lp_ba0 {sc : az_S} {h : az_H} {τ : Nat → Nat} {c9 : Int32} (hS : rt_So τ h) (hV : rt_V τ) : ∀ (d i : Nat) (x : Int32) (tl : List Value) (hh : az_H), i ≤ τ 0 → τ 0 - i = d → x = nI i → bx_R (i) (fun _ => 0) (bd_n τ) (bd_g τ 0) (bd_a τ 0) (bd_b τ 0) (bd_w0 τ (i)) hh → (∀ a, (a < 49 ∨ 52 < a) → hh a = h a) → (tl = [] ∨ ∃ a0, tl = [.int a0]) → az_E sc az_m_X2_boxAll 9 (.ref 48 :: .ref 2 :: .int (nI 0) :: .int c9 :: .int (nI (τ 5)) :: .int x :: tl) [] hh (fun v h' => v = none ∧ bx_R (τ 0) (fun _ => 0) (bd_n τ) (bd_g τ 0) (bd_a τ 0) (bd_b τ 0) (bd_w0 τ (τ 0)) h' ∧ (∀ a, (a < 49 ∨ 52 < a) → h' a = h a)) := by
  have h04 := hV.1
  intro d
  induction d with
  | zero =>
    intro i x tl hh hi9 hd hx hR hF htl
    subst hx
    refine az_er 3 rfl ?_
    rw [hF 2 (by omega), hS.1]
    refine az_ic_ge rfl rfl (fun c15 => ?_) (fun c15 => absurd (nI_le (by omega) (by omega)) c15)
    refine az_eret rfl rfl rfl ?_
    have e : i = τ 0 := by omega
    subst e
    exact ⟨rfl, hR, hF⟩
  | succ d ih =>
    intro i x tl hh hi9 hd hx hR hF htl
    subst hx
    have h9 := bd_9 hV (show i < 4 by omega)
    have eo : bd_o τ 0 i = (τ (13 + 6 * i) : Int) - (τ 5 : Int) := rfl
    have ew : bd_w τ 0 i = (τ (13 + 6 * i) : Int) - (τ 5 : Int) := rfl
    rcases htl with rfl | ⟨a0, rfl⟩
    · skip
      refine az_er 3 rfl ?_
      rw [hF 2 (by omega), hS.1]
      refine az_ic_ge rfl rfl (fun c15 => absurd c15 (nI_ge (show i < τ 0 by omega) (by omega))) (fun c15 => ?_)
      refine az_er 2 rfl ?_
      refine az_ic_ne rfl rfl (fun c20 => ?_) (fun c20 => absurd c20 (by decide))
      refine az_er 3 rfl ?_
      refine az_ecallF rfl rfl rfl rfl (ct_atI rfl rfl (show i < 4 by omega) (by decide) (show hh 6 i = nI _ by rw [hF 6 (by omega)]; exact (hS.2 i (by omega)).2.1)) ?_
      refine az_er 9 rfl ?_
      refine az_ecallF rfl rfl rfl rfl (ct_atI rfl rfl (show i < 4 by omega) (by decide) (show hh 3 i = nI _ by rw [hF 3 (by omega)]; exact (hS.2 i (by omega)).1)) ?_
      refine az_er 3 rfl ?_
      refine az_ecallF rfl rfl rfl rfl (ct_atI rfl rfl (show i < 4 by omega) (by decide) (show hh 3 i = nI _ by rw [hF 3 (by omega)]; exact (hS.2 i (by omega)).1)) ?_
      refine az_er 4 rfl ?_
      refine az_ecallF rfl rfl rfl rfl (ct_atI rfl rfl (show i < 4 by omega) (by decide) (show hh 8 i = nI _ by rw [hF 8 (by omega)]; exact (hS.2 i (by omega)).2.2.2)) ?_
      refine az_ecall rfl rfl rfl rfl (ct_badd hR (by omega) (l9 := 0) (u9 := bd_n τ i) (n9 := (bd_n τ i : Int)) (o9 := bd_o τ 0 i) (z9 := (bd_h τ i : Int)) rfl rfl (iI_n _) (by rw [iI_n, iI_n, iI_sub]; rfl) (iI_n _)) ?_
      rintro _ h3 ⟨rfl, g1, g2⟩
      refine az_er 2 rfl ?_
      refine ih (i + 1) _ _ h3 (by omega) (by omega) (nI_1' i) (bx_R_c g1 (fun s hs => ?_) rfl) (fun a ha => (g2 a ha).trans (hF a ha)) (Or.inr ⟨_, rfl⟩)
      by_cases hsi : s = i
      · subst hsi
        refine ⟨(if_pos rfl).trans ?_, (if_pos rfl).trans ?_, if_pos rfl⟩
        · rfl
        · rfl
      · exact ⟨if_neg hsi, if_neg hsi, if_neg hsi⟩
    · skip
      refine az_er 3 rfl ?_
      rw [hF 2 (by omega), hS.1]
      refine az_ic_ge rfl rfl (fun c15 => absurd c15 (nI_ge (show i < τ 0 by omega) (by omega))) (fun c15 => ?_)
      refine az_er 2 rfl ?_
      refine az_ic_ne rfl rfl (fun c20 => ?_) (fun c20 => absurd c20 (by decide))
      refine az_er 3 rfl ?_
      refine az_ecallF rfl rfl rfl rfl (ct_atI rfl rfl (show i < 4 by omega) (by decide) (show hh 6 i = nI _ by rw [hF 6 (by omega)]; exact (hS.2 i (by omega)).2.1)) ?_
      refine az_er 9 rfl ?_
      refine az_ecallF rfl rfl rfl rfl (ct_atI rfl rfl (show i < 4 by omega) (by decide) (show hh 3 i = nI _ by rw [hF 3 (by omega)]; exact (hS.2 i (by omega)).1)) ?_
      refine az_er 3 rfl ?_
      refine az_ecallF rfl rfl rfl rfl (ct_atI rfl rfl (show i < 4 by omega) (by decide) (show hh 3 i = nI _ by rw [hF 3 (by omega)]; exact (hS.2 i (by omega)).1)) ?_
      refine az_er 4 rfl ?_
      refine az_ecallF rfl rfl rfl rfl (ct_atI rfl rfl (show i < 4 by omega) (by decide) (show hh 8 i = nI _ by rw [hF 8 (by omega)]; exact (hS.2 i (by omega)).2.2.2)) ?_
      refine az_ecall rfl rfl rfl rfl (ct_badd hR (by omega) (l9 := 0) (u9 := bd_n τ i) (n9 := (bd_n τ i : Int)) (o9 := bd_o τ 0 i) (z9 := (bd_h τ i : Int)) rfl rfl (iI_n _) (by rw [iI_n, iI_n, iI_sub]; rfl) (iI_n _)) ?_
      rintro _ h3 ⟨rfl, g1, g2⟩
      refine az_er 2 rfl ?_
      refine ih (i + 1) _ _ h3 (by omega) (by omega) (nI_1' i) (bx_R_c g1 (fun s hs => ?_) rfl) (fun a ha => (g2 a ha).trans (hF a ha)) (Or.inr ⟨_, rfl⟩)
      by_cases hsi : s = i
      · subst hsi
        refine ⟨(if_pos rfl).trans ?_, (if_pos rfl).trans ?_, if_pos rfl⟩
        · rfl
        · rfl
      · exact ⟨if_neg hsi, if_neg hsi, if_neg hsi⟩
set_option maxRecDepth 100000 in
theorem ct_ba0 {sc : az_S} {h : az_H} {τ : Nat → Nat} (hS : rt_So τ h) (hV : rt_V τ) : az_E sc az_m_X2_boxAll 0 [.ref 48, .ref 2, .int (nI 0), .int (nI (τ 2)), .int (nI (τ 5))] [] h (fun v h' => v = none ∧ bx_R (τ 0) (fun _ => 0) (bd_n τ) (bd_g τ 0) (bd_a τ 0) (bd_b τ 0) (bd_w0 τ (τ 0)) h' ∧ (∀ a, (a < 49 ∨ 52 < a) → h' a = h a)) := by
  refine az_er 3 rfl ?_
  refine az_ecall rfl rfl rfl rfl (ct_band0 (lo := fun _ => 0) (hi := bd_n τ) (g := bd_g τ 0)) ?_
  rintro _ h1 ⟨rfl, g1, g2⟩
  refine az_er 2 rfl ?_
  refine az_E.mono (lp_ba0 (rt_So_e hS (fun a ha => g2 a (by omega))) hV (τ 0) 0 _ [] h1 (by omega) (by omega) rfl (bx_R_c g1 (fun s hs => absurd hs (Nat.not_lt_zero s)) rfl) (fun _ _ => rfl) (Or.inl rfl)) ?_
  rintro v h2 ⟨rfl, k1, k2⟩
  exact ⟨rfl, k1, fun a ha => (k2 a ha).trans (g2 a (by omega))⟩
set_option maxRecDepth 100000 in
theorem lp_ba1 {sc : az_S} {h : az_H} {τ : Nat → Nat} {c9 : Int32} (hS : rt_So τ h) (hV : rt_V τ) : ∀ (d i : Nat) (x : Int32) (tl : List Value) (hh : az_H), i ≤ τ 0 → τ 0 - i = d → x = nI i → bx_R (i) (fun _ => 0) (bd_n τ) (bd_g τ 1) (bd_a τ 1) (bd_b τ 1) (bd_w0 τ (i)) hh → (∀ a, (a < 49 ∨ 52 < a) → hh a = h a) → (tl = [] ∨ ∃ a0, tl = [.int a0]) → az_E sc az_m_X2_boxAll 9 (.ref 48 :: .ref 2 :: .int (nI 1) :: .int c9 :: .int (nI (τ 5)) :: .int x :: tl) [] hh (fun v h' => v = none ∧ bx_R (τ 0) (fun _ => 0) (bd_n τ) (bd_g τ 1) (bd_a τ 1) (bd_b τ 1) (bd_w0 τ (τ 0)) h' ∧ (∀ a, (a < 49 ∨ 52 < a) → h' a = h a)) := by
  have h04 := hV.1
  intro d
  induction d with
  | zero =>
    intro i x tl hh hi9 hd hx hR hF htl
    subst hx
    refine az_er 3 rfl ?_
    rw [hF 2 (by omega), hS.1]
    refine az_ic_ge rfl rfl (fun c15 => ?_) (fun c15 => absurd (nI_le (by omega) (by omega)) c15)
    refine az_eret rfl rfl rfl ?_
    have e : i = τ 0 := by omega
    subst e
    exact ⟨rfl, hR, hF⟩
  | succ d ih =>
    intro i x tl hh hi9 hd hx hR hF htl
    subst hx
    have h9 := bd_9 hV (show i < 4 by omega)
    have eo : bd_o τ 1 i = (τ (13 + 6 * i) : Int) - (τ 5 : Int) := rfl
    have ew : bd_w τ 1 i = (τ (14 + 6 * i) : Int) - (τ 5 : Int) := rfl
    rcases htl with rfl | ⟨a0, rfl⟩
    · skip
      refine az_er 3 rfl ?_
      rw [hF 2 (by omega), hS.1]
      refine az_ic_ge rfl rfl (fun c15 => absurd c15 (nI_ge (show i < τ 0 by omega) (by omega))) (fun c15 => ?_)
      refine az_er 2 rfl ?_
      refine az_ic_ne rfl rfl (fun c20 => ?_) (fun c20 => absurd c20 (by decide))
      refine az_er 3 rfl ?_
      refine az_ecallF rfl rfl rfl rfl (ct_atI rfl rfl (show i < 4 by omega) (by decide) (show hh 6 i = nI _ by rw [hF 6 (by omega)]; exact (hS.2 i (by omega)).2.1)) ?_
      refine az_er 9 rfl ?_
      refine az_ecallF rfl rfl rfl rfl (ct_atI rfl rfl (show i < 4 by omega) (by decide) (show hh 3 i = nI _ by rw [hF 3 (by omega)]; exact (hS.2 i (by omega)).1)) ?_
      refine az_er 3 rfl ?_
      refine az_ecallF rfl rfl rfl rfl (ct_atI rfl rfl (show i < 4 by omega) (by decide) (show hh 3 i = nI _ by rw [hF 3 (by omega)]; exact (hS.2 i (by omega)).1)) ?_
      refine az_er 4 rfl ?_
      refine az_ecallF rfl rfl rfl rfl (ct_atI rfl rfl (show i < 4 by omega) (by decide) (show hh 8 i = nI _ by rw [hF 8 (by omega)]; exact (hS.2 i (by omega)).2.2.2)) ?_
      refine az_ecall rfl rfl rfl rfl (ct_badd hR (by omega) (l9 := 0) (u9 := bd_n τ i) (n9 := (bd_n τ i : Int)) (o9 := bd_o τ 1 i) (z9 := (bd_h τ i : Int)) rfl rfl (iI_n _) (by rw [iI_n, iI_n, iI_sub]; rfl) (iI_n _)) ?_
      rintro _ h3 ⟨rfl, g1, g2⟩
      refine az_er 2 rfl ?_
      refine ih (i + 1) _ _ h3 (by omega) (by omega) (nI_1' i) (bx_R_c g1 (fun s hs => ?_) rfl) (fun a ha => (g2 a ha).trans (hF a ha)) (Or.inr ⟨_, rfl⟩)
      by_cases hsi : s = i
      · subst hsi
        refine ⟨(if_pos rfl).trans ?_, (if_pos rfl).trans ?_, if_pos rfl⟩
        · rfl
        · rfl
      · exact ⟨if_neg hsi, if_neg hsi, if_neg hsi⟩
    · skip
      refine az_er 3 rfl ?_
      rw [hF 2 (by omega), hS.1]
      refine az_ic_ge rfl rfl (fun c15 => absurd c15 (nI_ge (show i < τ 0 by omega) (by omega))) (fun c15 => ?_)
      refine az_er 2 rfl ?_
      refine az_ic_ne rfl rfl (fun c20 => ?_) (fun c20 => absurd c20 (by decide))
      refine az_er 3 rfl ?_
      refine az_ecallF rfl rfl rfl rfl (ct_atI rfl rfl (show i < 4 by omega) (by decide) (show hh 6 i = nI _ by rw [hF 6 (by omega)]; exact (hS.2 i (by omega)).2.1)) ?_
      refine az_er 9 rfl ?_
      refine az_ecallF rfl rfl rfl rfl (ct_atI rfl rfl (show i < 4 by omega) (by decide) (show hh 3 i = nI _ by rw [hF 3 (by omega)]; exact (hS.2 i (by omega)).1)) ?_
      refine az_er 3 rfl ?_
      refine az_ecallF rfl rfl rfl rfl (ct_atI rfl rfl (show i < 4 by omega) (by decide) (show hh 3 i = nI _ by rw [hF 3 (by omega)]; exact (hS.2 i (by omega)).1)) ?_
      refine az_er 4 rfl ?_
      refine az_ecallF rfl rfl rfl rfl (ct_atI rfl rfl (show i < 4 by omega) (by decide) (show hh 8 i = nI _ by rw [hF 8 (by omega)]; exact (hS.2 i (by omega)).2.2.2)) ?_
      refine az_ecall rfl rfl rfl rfl (ct_badd hR (by omega) (l9 := 0) (u9 := bd_n τ i) (n9 := (bd_n τ i : Int)) (o9 := bd_o τ 1 i) (z9 := (bd_h τ i : Int)) rfl rfl (iI_n _) (by rw [iI_n, iI_n, iI_sub]; rfl) (iI_n _)) ?_
      rintro _ h3 ⟨rfl, g1, g2⟩
      refine az_er 2 rfl ?_
      refine ih (i + 1) _ _ h3 (by omega) (by omega) (nI_1' i) (bx_R_c g1 (fun s hs => ?_) rfl) (fun a ha => (g2 a ha).trans (hF a ha)) (Or.inr ⟨_, rfl⟩)
      by_cases hsi : s = i
      · subst hsi
        refine ⟨(if_pos rfl).trans ?_, (if_pos rfl).trans ?_, if_pos rfl⟩
        · rfl
        · rfl
      · exact ⟨if_neg hsi, if_neg hsi, if_neg hsi⟩
set_option maxRecDepth 100000 in
theorem ct_ba1 {sc : az_S} {h : az_H} {τ : Nat → Nat} (hS : rt_So τ h) (hV : rt_V τ) : az_E sc az_m_X2_boxAll 0 [.ref 48, .ref 2, .int (nI 1), .int (nI (τ 2)), .int (nI (τ 5))] [] h (fun v h' => v = none ∧ bx_R (τ 0) (fun _ => 0) (bd_n τ) (bd_g τ 1) (bd_a τ 1) (bd_b τ 1) (bd_w0 τ (τ 0)) h' ∧ (∀ a, (a < 49 ∨ 52 < a) → h' a = h a)) := by
  refine az_er 3 rfl ?_
  refine az_ecall rfl rfl rfl rfl (ct_band1 (lo := fun _ => 0) (hi := bd_n τ) (g := bd_g τ 1)) ?_
  rintro _ h1 ⟨rfl, g1, g2⟩
  refine az_er 2 rfl ?_
  refine az_E.mono (lp_ba1 (rt_So_e hS (fun a ha => g2 a (by omega))) hV (τ 0) 0 _ [] h1 (by omega) (by omega) rfl (bx_R_c g1 (fun s hs => absurd hs (Nat.not_lt_zero s)) rfl) (fun _ _ => rfl) (Or.inl rfl)) ?_
  rintro v h2 ⟨rfl, k1, k2⟩
  exact ⟨rfl, k1, fun a ha => (k2 a ha).trans (g2 a (by omega))⟩
set_option maxRecDepth 100000 in
theorem lp_ba2 {sc : az_S} {h : az_H} {τ : Nat → Nat} {c9 : Int32} (hS : rt_So τ h) (hV : rt_V τ) : ∀ (d i : Nat) (x : Int32) (tl : List Value) (hh : az_H), i ≤ τ 0 → τ 0 - i = d → x = nI i → bx_R (i) (fun _ => 0) (bd_n τ) (bd_g τ 2) (bd_a τ 2) (bd_b τ 2) (bd_w0 τ (i)) hh → (∀ a, (a < 49 ∨ 52 < a) → hh a = h a) → (tl = [] ∨ ∃ a0, tl = [.int a0]) → az_E sc az_m_X2_boxAll 9 (.ref 48 :: .ref 2 :: .int (nI 2) :: .int c9 :: .int (nI (τ 5)) :: .int x :: tl) [] hh (fun v h' => v = none ∧ bx_R (τ 0) (fun _ => 0) (bd_n τ) (bd_g τ 2) (bd_a τ 2) (bd_b τ 2) (bd_w0 τ (τ 0)) h' ∧ (∀ a, (a < 49 ∨ 52 < a) → h' a = h a)) := by
  have h04 := hV.1
  intro d
  induction d with
  | zero =>
    intro i x tl hh hi9 hd hx hR hF htl
    subst hx
    refine az_er 3 rfl ?_
    rw [hF 2 (by omega), hS.1]
    refine az_ic_ge rfl rfl (fun c15 => ?_) (fun c15 => absurd (nI_le (by omega) (by omega)) c15)
    refine az_eret rfl rfl rfl ?_
    have e : i = τ 0 := by omega
    subst e
    exact ⟨rfl, hR, hF⟩
  | succ d ih =>
    intro i x tl hh hi9 hd hx hR hF htl
    subst hx
    have h9 := bd_9 hV (show i < 4 by omega)
    have eo : bd_o τ 2 i = (τ (14 + 6 * i) : Int) - (τ 5 : Int) := rfl
    have ew : bd_w τ 2 i = (τ (14 + 6 * i) : Int) - (τ 5 : Int) := rfl
    rcases htl with rfl | ⟨a0, rfl⟩
    · skip
      refine az_er 3 rfl ?_
      rw [hF 2 (by omega), hS.1]
      refine az_ic_ge rfl rfl (fun c15 => absurd c15 (nI_ge (show i < τ 0 by omega) (by omega))) (fun c15 => ?_)
      refine az_er 2 rfl ?_
      refine az_ic_ne rfl rfl (fun c20 => absurd rfl c20) (fun c20 => ?_)
      refine az_er 3 rfl ?_
      refine az_ecallF rfl rfl rfl rfl (ct_atI rfl rfl (show i < 4 by omega) (by decide) (show hh 7 i = nI _ by rw [hF 7 (by omega)]; exact (hS.2 i (by omega)).2.2.1)) ?_
      refine az_er 10 rfl ?_
      refine az_ecallF rfl rfl rfl rfl (ct_atI rfl rfl (show i < 4 by omega) (by decide) (show hh 3 i = nI _ by rw [hF 3 (by omega)]; exact (hS.2 i (by omega)).1)) ?_
      refine az_er 3 rfl ?_
      refine az_ecallF rfl rfl rfl rfl (ct_atI rfl rfl (show i < 4 by omega) (by decide) (show hh 3 i = nI _ by rw [hF 3 (by omega)]; exact (hS.2 i (by omega)).1)) ?_
      refine az_er 4 rfl ?_
      refine az_ecallF rfl rfl rfl rfl (ct_atI rfl rfl (show i < 4 by omega) (by decide) (show hh 8 i = nI _ by rw [hF 8 (by omega)]; exact (hS.2 i (by omega)).2.2.2)) ?_
      refine az_ecall rfl rfl rfl rfl (ct_badd hR (by omega) (l9 := 0) (u9 := bd_n τ i) (n9 := (bd_n τ i : Int)) (o9 := bd_o τ 2 i) (z9 := (bd_h τ i : Int)) rfl rfl (iI_n _) (by rw [iI_n, iI_n, iI_sub]; rfl) (iI_n _)) ?_
      rintro _ h3 ⟨rfl, g1, g2⟩
      refine az_er 2 rfl ?_
      refine ih (i + 1) _ _ h3 (by omega) (by omega) (nI_1' i) (bx_R_c g1 (fun s hs => ?_) rfl) (fun a ha => (g2 a ha).trans (hF a ha)) (Or.inr ⟨_, rfl⟩)
      by_cases hsi : s = i
      · subst hsi
        refine ⟨(if_pos rfl).trans ?_, (if_pos rfl).trans ?_, if_pos rfl⟩
        · rfl
        · rfl
      · exact ⟨if_neg hsi, if_neg hsi, if_neg hsi⟩
    · skip
      refine az_er 3 rfl ?_
      rw [hF 2 (by omega), hS.1]
      refine az_ic_ge rfl rfl (fun c15 => absurd c15 (nI_ge (show i < τ 0 by omega) (by omega))) (fun c15 => ?_)
      refine az_er 2 rfl ?_
      refine az_ic_ne rfl rfl (fun c20 => absurd rfl c20) (fun c20 => ?_)
      refine az_er 3 rfl ?_
      refine az_ecallF rfl rfl rfl rfl (ct_atI rfl rfl (show i < 4 by omega) (by decide) (show hh 7 i = nI _ by rw [hF 7 (by omega)]; exact (hS.2 i (by omega)).2.2.1)) ?_
      refine az_er 10 rfl ?_
      refine az_ecallF rfl rfl rfl rfl (ct_atI rfl rfl (show i < 4 by omega) (by decide) (show hh 3 i = nI _ by rw [hF 3 (by omega)]; exact (hS.2 i (by omega)).1)) ?_
      refine az_er 3 rfl ?_
      refine az_ecallF rfl rfl rfl rfl (ct_atI rfl rfl (show i < 4 by omega) (by decide) (show hh 3 i = nI _ by rw [hF 3 (by omega)]; exact (hS.2 i (by omega)).1)) ?_
      refine az_er 4 rfl ?_
      refine az_ecallF rfl rfl rfl rfl (ct_atI rfl rfl (show i < 4 by omega) (by decide) (show hh 8 i = nI _ by rw [hF 8 (by omega)]; exact (hS.2 i (by omega)).2.2.2)) ?_
      refine az_ecall rfl rfl rfl rfl (ct_badd hR (by omega) (l9 := 0) (u9 := bd_n τ i) (n9 := (bd_n τ i : Int)) (o9 := bd_o τ 2 i) (z9 := (bd_h τ i : Int)) rfl rfl (iI_n _) (by rw [iI_n, iI_n, iI_sub]; rfl) (iI_n _)) ?_
      rintro _ h3 ⟨rfl, g1, g2⟩
      refine az_er 2 rfl ?_
      refine ih (i + 1) _ _ h3 (by omega) (by omega) (nI_1' i) (bx_R_c g1 (fun s hs => ?_) rfl) (fun a ha => (g2 a ha).trans (hF a ha)) (Or.inr ⟨_, rfl⟩)
      by_cases hsi : s = i
      · subst hsi
        refine ⟨(if_pos rfl).trans ?_, (if_pos rfl).trans ?_, if_pos rfl⟩
        · rfl
        · rfl
      · exact ⟨if_neg hsi, if_neg hsi, if_neg hsi⟩
set_option maxRecDepth 100000 in
theorem ct_ba2 {sc : az_S} {h : az_H} {τ : Nat → Nat} (hS : rt_So τ h) (hV : rt_V τ) : az_E sc az_m_X2_boxAll 0 [.ref 48, .ref 2, .int (nI 2), .int (nI (τ 2)), .int (nI (τ 5))] [] h (fun v h' => v = none ∧ bx_R (τ 0) (fun _ => 0) (bd_n τ) (bd_g τ 2) (bd_a τ 2) (bd_b τ 2) (bd_w0 τ (τ 0)) h' ∧ (∀ a, (a < 49 ∨ 52 < a) → h' a = h a)) := by
  refine az_er 3 rfl ?_
  refine az_ecall rfl rfl rfl rfl (ct_band2 (lo := fun _ => 0) (hi := bd_n τ) (g := bd_g τ 2)) ?_
  rintro _ h1 ⟨rfl, g1, g2⟩
  refine az_er 2 rfl ?_
  refine az_E.mono (lp_ba2 (rt_So_e hS (fun a ha => g2 a (by omega))) hV (τ 0) 0 _ [] h1 (by omega) (by omega) rfl (bx_R_c g1 (fun s hs => absurd hs (Nat.not_lt_zero s)) rfl) (fun _ _ => rfl) (Or.inl rfl)) ?_
  rintro v h2 ⟨rfl, k1, k2⟩
  exact ⟨rfl, k1, fun a ha => (k2 a ha).trans (g2 a (by omega))⟩
set_option maxRecDepth 100000 in
theorem ct_ba {sc : az_S} {h : az_H} {τ : Nat → Nat} {q : Nat} (hS : rt_So τ h) (hV : rt_V τ) (hq : q < 3) : az_E sc az_m_X2_boxAll 0 [.ref 48, .ref 2, .int (nI q), .int (nI (τ 2)), .int (nI (τ 5))] [] h (fun v h' => v = none ∧ bx_R (τ 0) (fun _ => 0) (bd_n τ) (bd_g τ q) (bd_a τ q) (bd_b τ q) (bd_w0 τ (τ 0)) h' ∧ (∀ a, (a < 49 ∨ 52 < a) → h' a = h a)) := by
  rcases (show q = 0 ∨ q = 1 ∨ q = 2 by omega) with rfl | rfl | rfl
  · exact ct_ba0 hS hV
  · exact ct_ba1 hS hV
  · exact ct_ba2 hS hV
