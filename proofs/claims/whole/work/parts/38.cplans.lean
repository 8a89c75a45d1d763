/-! THE CLASS'S PLANS -/
theorem pl_lt_tri {x y : Nat → Nat} : ∀ m, pl_lt m x y ∨ pl_lt m y x ∨ ∀ s, s < m → x s = y s
  | 0 => Or.inr (Or.inr (fun s h => absurd h (Nat.not_lt_zero s)))
  | m + 1 => by
    rcases pl_lt_tri (x := x) (y := y) m with h | h | h
    · exact Or.inl (Or.inl h)
    · exact Or.inr (Or.inl (Or.inl h))
    · rcases Nat.lt_trichotomy (x m) (y m) with h2 | h2 | h2
      · exact Or.inl (Or.inr ⟨h, h2⟩)
      · refine Or.inr (Or.inr (fun s hs => ?_))
        rcases Nat.lt_or_eq_of_le (Nat.le_of_lt_succ hs) with h3 | h3
        · exact h s h3
        · subst h3; exact h2
      · exact Or.inr (Or.inl (Or.inr ⟨fun s hs => (h s hs).symm, h2⟩))
theorem pl_lt_le {x y z : Nat → Nat} : ∀ m, ¬ pl_lt m y x → pl_lt m y z → pl_lt m x z
  | 0, _, h => h
  | m + 1, hn, h => by
    have hn1 : ¬ pl_lt m y x := fun q => hn (Or.inl q)
    rcases h with h | ⟨h1, h2⟩
    · exact Or.inl (pl_lt_le m hn1 h)
    · rcases pl_lt_tri (x := x) (y := y) m with h3 | h3 | h3
      · exact Or.inl (pl_lt_c m (fun _ _ => rfl) h1 h3)
      · exact absurd h3 hn1
      · have h4 : ¬ y m < x m := fun q => hn (Or.inr ⟨fun s hs => (h3 s hs).symm, q⟩)
        exact Or.inr ⟨fun s hs => (h3 s hs).trans (h1 s hs), by omega⟩
theorem pl_lt_at {x y : Nat → Nat} {i : Nat} : ∀ m, i < m → (∀ s, s < i → x s = y s) → x i < y i → pl_lt m x y
  | 0, h, _, _ => absurd h (Nat.not_lt_zero i)
  | m + 1, h, e, hl => by
    rcases Nat.lt_or_eq_of_le (Nat.le_of_lt_succ h) with h1 | h1
    · exact Or.inl (pl_lt_at m h1 e hl)
    · subst h1; exact Or.inr ⟨e, hl⟩
theorem pl_lt_eq {x y : Nat → Nat} : ∀ m, (∀ s, s < m → x s = y s) → ¬ pl_lt m x y
  | 0, _, h => h
  | m + 1, e, h => by
    rcases h with h | ⟨h1, h2⟩
    · exact pl_lt_eq m (fun s hs => e s (by omega)) h
    · have := e m (by omega); omega
/-- the first plan of those asked for, as the class holds it -/
def fs_I (S : (Nat → Nat) → Prop) (m : Nat) (h : az_H) : Prop := (h 48 3 = 0 ∧ ∀ x, ¬ S x) ∨ (h 48 3 = 1 ∧ h 48 2 = nI m ∧ ∃ x, S x ∧ (∀ y, S y → ¬ pl_lt m y x) ∧ ∀ s, s < m → h 54 s = nI (x s) ∧ x s ≤ 9)
theorem fs_I_h {S : (Nat → Nat) → Prop} {m : Nat} {h h' : az_H} (hI : fs_I S m h) (e1 : h' 48 = h 48) (e2 : h' 54 = h 54) : fs_I S m h' := by
  unfold fs_I
  rw [e1, e2]
  exact hI
theorem fs_I_c {S S' : (Nat → Nat) → Prop} {m : Nat} {h : az_H} (hI : fs_I S m h) (e : ∀ x, S x ↔ S' x) : fs_I S' m h := by
  have : S = S' := funext fun x => propext (e x)
  rw [← this]
  exact hI
set_option maxRecDepth 100000 in
theorem lp_bef {sc : az_S} {h : az_H} {m : Nat} {x y : Nat → Nat} (h4 : h 49 4 = nI m) (hm : m ≤ 4) (hx : ∀ s, s < m → h 50 s = nI (x s) ∧ x s ≤ 9) (hy : ∀ s, s < m → h 54 s = nI (y s) ∧ y s ≤ 9) : ∀ (d i : Nat) (z : Int32), i ≤ m → m - i = d → z = nI i → (∀ s, s < i → x s = y s) → az_E sc az_m_X2_isBoxBeforeFirst 2 [.ref 48, .int z] [] h (fun v h' => v = some (.int (sq_b (pl_d (pl_lt m x y)))) ∧ h' = h) := by
  intro d
  induction d with
  | zero =>
    intro i z hi hd hz he
    subst hz
    refine az_er 4 rfl ?_
    rw [h4]
    refine az_ic_ge rfl rfl (fun c10 => ?_) (fun c10 => absurd (nI_le (by omega) (by omega)) c10)
    refine az_er 1 rfl ?_
    refine az_zret rfl rfl (by first | exact Or.inl rfl | exact Or.inr rfl) ?_
    rw [pl_d_f (pl_lt_eq m (fun s hs => he s (by omega)))]
    exact ⟨rfl, rfl⟩
  | succ d ih =>
    intro i z hi hd hz he
    subst hz
    have x9 := (hx i (by omega)).2
    have y9 := (hy i (by omega)).2
    refine az_er 4 rfl ?_
    rw [h4]
    refine az_ic_ge rfl rfl (fun c10 => absurd c10 (nI_ge (show i < m by omega) (by omega))) (fun c10 => ?_)
    refine az_er 4 rfl ?_
    refine az_ecallF rfl rfl rfl rfl (ct_atI rfl rfl (show i < 4 by omega) (by decide) (hx i (by omega)).1) ?_
    refine az_er 3 rfl ?_
    refine az_ecallF rfl rfl rfl rfl (ct_atI rfl rfl (show i < 4 by omega) (by decide) (hy i (by omega)).1) ?_
    refine az_ic_eq rfl rfl (fun c32 => ?_) (fun c32 => ?_)
    · refine az_er 2 rfl ?_
      refine ih (i + 1) _ (by omega) (by omega) (nI_1' i) (fun s hs => ?_)
      rcases Nat.lt_or_eq_of_le (Nat.le_of_lt_succ hs) with q | q
      · exact he s q
      · subst q; exact (nI_eq (by omega) (by omega)).mp c32
    · refine az_er 4 rfl ?_
      refine az_ecallF rfl rfl rfl rfl (ct_atI rfl rfl (show i < 4 by omega) (by decide) (hx i (by omega)).1) ?_
      refine az_er 3 rfl ?_
      refine az_ecallF rfl rfl rfl rfl (ct_atI rfl rfl (show i < 4 by omega) (by decide) (hy i (by omega)).1) ?_
      refine az_ic_ge rfl rfl (fun c54 => ?_) (fun c54 => ?_)
      · refine az_er 1 rfl ?_
        refine az_zret rfl rfl (by first | exact Or.inl rfl | exact Or.inr rfl) ?_
        have e32 := mt (nI_eq (by omega) (by omega)).mpr c32
        first
        | (have e54 := (nI_leI (by omega) (by omega)).mp c54; rw [pl_d_f (fun q => pl_lt_as m q (pl_lt_at (x := y) (y := x) m (show i < m by omega) (fun s hs => (he s hs).symm) (by omega)))]; exact ⟨rfl, rfl⟩)
        | (have e54 := mt (nI_leI (by omega) (by omega)).mpr c54; rw [pl_d_t (pl_lt_at (x := x) (y := y) m (show i < m by omega) he (by omega))]; exact ⟨rfl, rfl⟩)
      · refine az_er 2 rfl ?_
        refine az_zret rfl rfl (by first | exact Or.inl rfl | exact Or.inr rfl) ?_
        have e32 := mt (nI_eq (by omega) (by omega)).mpr c32
        first
        | (have e54 := (nI_leI (by omega) (by omega)).mp c54; rw [pl_d_f (fun q => pl_lt_as m q (pl_lt_at (x := y) (y := x) m (show i < m by omega) (fun s hs => (he s hs).symm) (by omega)))]; exact ⟨rfl, rfl⟩)
        | (have e54 := mt (nI_leI (by omega) (by omega)).mpr c54; rw [pl_d_t (pl_lt_at (x := x) (y := y) m (show i < m by omega) he (by omega))]; exact ⟨rfl, rfl⟩)
set_option maxRecDepth 100000 in
theorem ct_bef {sc : az_S} {h : az_H} {m : Nat} {x y : Nat → Nat} (h4 : h 49 4 = nI m) (hm : m ≤ 4) (hx : ∀ s, s < m → h 50 s = nI (x s) ∧ x s ≤ 9) (hy : ∀ s, s < m → h 54 s = nI (y s) ∧ y s ≤ 9) : az_F sc az_m_X2_isBoxBeforeFirst [.ref 48] h (some (.int (sq_b (pl_d (pl_lt m x y))))) h := by
  refine az_F.of ?_
  refine az_er 2 rfl ?_
  exact lp_bef h4 hm hx hy m 0 _ (by omega) (by omega) rfl (fun s hs => absurd hs (Nat.not_lt_zero s))
set_option maxRecDepth 100000 in
theorem lp_pof {sc : az_S} {h : az_H} {m : Nat} {x : Nat → Nat} (h2 : h 48 2 = nI m) (hm : m ≤ 4) (hx : ∀ s, s < m → h 54 s = nI (x s) ∧ x s ≤ 9) : ∀ (d i : Nat) (a z : Int32), i ≤ m → m - i = d → a = nI (pl_sn x i) → z = nI i → az_E sc az_m_X2_presentOfFirst 4 [.ref 48, .int a, .int z] [] h (fun v h' => v = some (.int (nI (pl_sn x m))) ∧ h' = h) := by
  intro d
  induction d with
  | zero =>
    intro i a z hi hd ha hz
    subst ha
    subst hz
    refine az_er 3 rfl ?_
    rw [h2]
    refine az_ic_ge rfl rfl (fun c9 => ?_) (fun c9 => absurd (nI_le (by omega) (by omega)) c9)
    refine az_er 1 rfl ?_
    refine az_eret rfl rfl rfl ?_
    exact ⟨by rw [show m = i by omega], rfl⟩
  | succ d ih =>
    intro i a z hi hd ha hz
    subst ha
    subst hz
    refine az_er 3 rfl ?_
    rw [h2]
    refine az_ic_ge rfl rfl (fun c9 => absurd c9 (nI_ge (show i < m by omega) (by omega))) (fun c9 => ?_)
    refine az_er 4 rfl ?_
    refine az_ecallF rfl rfl rfl rfl (ct_atI rfl rfl (show i < 4 by omega) (by decide) (hx i (by omega)).1) ?_
    refine az_er 4 rfl ?_
    exact ih (i + 1) _ _ (by omega) (by omega) (nI_add _ _) (nI_1' i)
set_option maxRecDepth 100000 in
theorem ct_pof {sc : az_S} {h : az_H} {m : Nat} {x : Nat → Nat} (h2 : h 48 2 = nI m) (hm : m ≤ 4) (hx : ∀ s, s < m → h 54 s = nI (x s) ∧ x s ≤ 9) : az_F sc az_m_X2_presentOfFirst [.ref 48] h (some (.int (nI (pl_sn x m)))) h := by
  refine az_F.of ?_
  refine az_er 4 rfl ?_
  exact lp_pof h2 hm hx m 0 _ _ (by omega) (by omega) rfl rfl
set_option maxRecDepth 100000 in
theorem ct_offer {sc : az_S} {h : az_H} {m : Nat} {lo hi : Nat → Nat} {g : Nat → Int} {fa tb w0 : Int} {wv : Int32} {P S : (Nat → Nat) → Prop} (hB : bx_R m lo hi g fa tb w0 h) (hV : bx_V m lo hi g fa tb) (hw0 : -10000 ≤ w0 ∧ w0 ≤ 10000) (hP : bx_P m lo hi g fa tb w0 wv P) (hex : ∃ y, pl_bx m lo hi fa tb y ∧ P y) (hI : fs_I S m h) : az_E sc az_m_X2_offerFirst 0 [.ref 48, .int wv] [] h (fun v h' => v = none ∧ fs_I (fun x => S x ∨ (pl_bx m lo hi fa tb x ∧ P x)) m h' ∧ ∀ a, (a < 48 ∨ 54 < a) → h' a = h a) := by
  refine az_er 3 rfl ?_
  refine az_ecall rfl rfl rfl rfl (ct_keep hB hV hw0 hP hex) ?_
  rintro _ h2 ⟨rfl, x, hx, hPx, hmin, hx5, hF⟩
  have hv1 := hV.1
  have hx9 : ∀ s, s < m → x s ≤ 9 := fun s hs => by have q := hx.1 s hs; have q2 := hV.2.2.2 s hs; omega
  have h493 : h2 49 4 = nI m := by rw [hF 49 (by decide) (by decide)]; exact hB.1
  rcases hI with ⟨i0, i1⟩ | ⟨i0, i2, x1, i5, i3, i4⟩
  · skip
    refine az_er 2 rfl ?_
    rw [hF 48 (by decide) (by decide), i0]
    refine az_if_eq rfl rfl (fun c12 => ?_) (fun c12 => absurd rfl c12)
    refine az_er 5 rfl ?_
    refine az_ecallF rfl rfl rfl rfl (ct_copyRow (ka := 50) (kb := 54) (N := 4) rfl rfl (by decide) (by decide)) ?_
    refine az_er 8 rfl ?_
    refine az_eret rfl rfl rfl ?_
    refine ⟨rfl, Or.inr ⟨az_up_s, ?_, x, Or.inr ⟨hx, hPx⟩, fun y hy => ?_, fun s hs => ⟨?_, hx9 s hs⟩⟩, fun a ha => ?_⟩
    · rw [az_up_n (by decide), az_up_s, az_cp_o (by decide)]; exact h493
    · rcases hy with hy | hy
      · exact absurd hy (i1 y)
      · exact hmin y hy.1 hy.2
    · rw [az_up_o (by decide), az_up_o (by decide), az_cp_i (by omega)]; exact hx5 s hs
    · rw [az_up_o (by omega), az_up_o (by omega), az_cp_o (by omega)]; exact hF a (by omega) (by omega)
  · by_cases hlt : pl_lt m x x1
    · skip
      refine az_er 2 rfl ?_
      rw [hF 48 (by decide) (by decide), i0]
      refine az_if_eq rfl rfl (fun c12 => absurd c12 (by decide)) (fun c12 => ?_)
      refine az_er 1 rfl ?_
      refine az_ecallF rfl rfl rfl rfl ((ct_bef h493 hv1 (fun s hs => ⟨hx5 s hs, hx9 s hs⟩) (fun s hs => by rw [hF 54 (by decide) (by decide)]; exact i4 s hs)).eq (by rw [pl_d_t hlt]) rfl) ?_
      refine az_if_eq rfl rfl (fun c19 => absurd c19 (by decide)) (fun c19 => ?_)
      refine az_er 5 rfl ?_
      refine az_ecallF rfl rfl rfl rfl (ct_copyRow (ka := 50) (kb := 54) (N := 4) rfl rfl (by decide) (by decide)) ?_
      refine az_er 8 rfl ?_
      refine az_eret rfl rfl rfl ?_
      refine ⟨rfl, Or.inr ⟨az_up_s, ?_, x, Or.inr ⟨hx, hPx⟩, fun y hy => ?_, fun s hs => ⟨?_, hx9 s hs⟩⟩, fun a ha => ?_⟩
      · rw [az_up_n (by decide), az_up_s, az_cp_o (by decide)]; exact h493
      · rcases hy with hy | hy
        · exact fun q => i3 y hy (pl_lt_le m (fun z => pl_lt_as m q z) hlt)
        · exact hmin y hy.1 hy.2
      · rw [az_up_o (by decide), az_up_o (by decide), az_cp_i (by omega)]; exact hx5 s hs
      · rw [az_up_o (by omega), az_up_o (by omega), az_cp_o (by omega)]; exact hF a (by omega) (by omega)
    · skip
      refine az_er 2 rfl ?_
      rw [hF 48 (by decide) (by decide), i0]
      refine az_if_eq rfl rfl (fun c12 => absurd c12 (by decide)) (fun c12 => ?_)
      refine az_er 1 rfl ?_
      refine az_ecallF rfl rfl rfl rfl ((ct_bef h493 hv1 (fun s hs => ⟨hx5 s hs, hx9 s hs⟩) (fun s hs => by rw [hF 54 (by decide) (by decide)]; exact i4 s hs)).eq (by rw [pl_d_f hlt]) rfl) ?_
      refine az_if_eq rfl rfl (fun c19 => ?_) (fun c19 => absurd rfl c19)
      refine az_eret rfl rfl rfl ?_
      refine ⟨rfl, Or.inr ⟨by rw [hF 48 (by decide) (by decide)]; exact i0, by rw [hF 48 (by decide) (by decide)]; exact i2, x1, Or.inl i5, fun y hy => ?_, fun s hs => by rw [hF 54 (by decide) (by decide)]; exact i4 s hs⟩, fun a ha => hF a (by omega) (by omega)⟩
      rcases hy with hy | hy
      · exact i3 y hy
      · exact fun q => hlt (pl_lt_le m (hmin y hy.1 hy.2) q)
/-! what a plan is worth -/
def pw_i (τ : Nat → Nat) (p s : Nat) : Int := (if p ≤ τ 2 then (τ (13 + 6 * s) : Int) else (τ (14 + 6 * s) : Int)) - (τ 5 : Int)
def pw (τ : Nat → Nat) (x : Nat → Nat) : Int := pl_sm (fun s => (x s : Int) * pw_i τ (pl_sn x (τ 0)) s + ((bd_n τ s : Int) - (x s : Int)) * (bd_h τ s : Int)) (τ 0)
theorem pw_i_o {τ : Nat → Nat} {q p s : Nat} (hq : q < 3) (h1 : bd_a τ q ≤ (p : Int)) (h2 : (p : Int) ≤ bd_b τ q) : pw_i τ p s = bd_o τ q s := by
  unfold pw_i bd_o
  rcases (show q = 0 ∨ q = 1 ∨ q = 2 by omega) with rfl | rfl | rfl
  · have h3 : (p : Int) ≤ (τ 2 : Int) - 1 := h2
    rw [if_pos (by omega), if_neg (by decide)]
  · have h3 : (p : Int) ≤ (τ 2 : Int) := h2
    rw [if_pos (by omega), if_neg (by decide)]
  · have h3 : (τ 2 : Int) + 1 ≤ (p : Int) := h1
    rw [if_neg (by omega), if_pos rfl]
theorem pw_g {τ : Nat → Nat} {q : Nat} {x : Nat → Nat} (hq : q < 3) (h1 : bd_a τ q ≤ (pl_sn x (τ 0) : Int)) (h2 : (pl_sn x (τ 0) : Int) ≤ bd_b τ q) : bd_w0 τ (τ 0) + pl_sm (fun s => (x s : Int) * bd_g τ q s) (τ 0) = pw τ x := by
  refine (pl_sm_lin (τ 0) (fun s _ => ?_)).symm
  rw [pw_i_o hq h1 h2, bd_g, Int.mul_sub, Int.sub_mul]
  omega
theorem pw_b {τ : Nat → Nat} (hV : rt_V τ) {q : Nat} {x lo hi : Nat → Nat} (hq : q < 3) (hl : ∀ s, s < τ 0 → lo s ≤ bd_n τ s) (hh : ∀ s, s < τ 0 → hi s ≤ bd_n τ s) (hx : pl_bx (τ 0) lo hi (bd_a τ q) (bd_b τ q) x) : -2000 ≤ pw τ x ∧ pw τ x ≤ 2000 := by
  rw [← pw_g hq hx.2.1 hx.2.2]
  have h1 := bx_wb (bd_Vx hV hl hh) hx
  have h2 := bd_w0_b hV (τ 0) hV.1
  have h0 := hV.1
  omega
theorem no_w : (-1000000000 : Int32) = iI (-1000000000) := by decide
/-- of all the plans in S the greatest worth -/
def gi_I (S : (Nat → Nat) → Prop) (W : (Nat → Nat) → Int) (gr : Int32) : Prop := (gr = -1000000000 ∧ ∀ x, ¬ S x) ∨ ∃ z : Int, gr = iI z ∧ (-2000 ≤ z ∧ z ≤ 2000) ∧ (∃ x, S x ∧ W x = z) ∧ ∀ x, S x → W x ≤ z
theorem gi_I_c {S S' : (Nat → Nat) → Prop} {W : (Nat → Nat) → Int} {gr : Int32} (hI : gi_I S W gr) (e : ∀ x, S x ↔ S' x) : gi_I S' W gr := by
  have : S = S' := funext fun x => propext (e x)
  rw [← this]
  exact hI
theorem gi_I_u {S B : (Nat → Nat) → Prop} {W : (Nat → Nat) → Int} {gr : Int32} {z : Int} (hI : gi_I S W gr) (hz : -2000 ≤ z ∧ z ≤ 2000) (h1 : ∃ x, B x ∧ W x = z) (h2 : ∀ x, B x → W x ≤ z) : gi_I (fun x => S x ∨ B x) W (if gr < iI z then iI z else gr) := by
  obtain ⟨x1, b1, w1⟩ := h1
  rcases hI with ⟨g0, g1⟩ | ⟨y, g0, g1, ⟨x2, g2, g3⟩, g4⟩
  · rw [g0, no_w, if_pos ((iI_lt (by omega) (by omega)).mpr (show (-1000000000 : Int) < z by omega))]
    exact Or.inr ⟨z, rfl, hz, ⟨x1, Or.inr b1, w1⟩, fun x hx => hx.elim (fun q => absurd q (g1 x)) (h2 x)⟩
  · rw [g0]
    by_cases hlt : y < z
    · rw [if_pos ((iI_lt (by omega) (by omega)).mpr hlt)]
      refine Or.inr ⟨z, rfl, hz, ⟨x1, Or.inr b1, w1⟩, fun x hx => hx.elim (fun q => ?_) (h2 x)⟩
      have := g4 x q; omega
    · rw [if_neg (fun q => hlt ((iI_lt (by omega) (by omega)).mp q))]
      refine Or.inr ⟨y, rfl, g1, ⟨x2, Or.inl g2, g3⟩, fun x hx => hx.elim (g4 x) (fun q => ?_)⟩
      have := h2 x q; omega
def bs (τ : Nat → Nat) (L H : Nat → Nat → Nat) (q : Nat) (x : Nat → Nat) : Prop := pl_bx (τ 0) (L q) (H q) (bd_a τ q) (bd_b τ q) x
def bs3 (τ : Nat → Nat) (L H : Nat → Nat → Nat) (q : Nat) (x : Nat → Nat) : Prop := ∃ q', q' < q ∧ bs τ L H q' x
theorem bs3_s {τ : Nat → Nat} {L H : Nat → Nat → Nat} {q : Nat} {x : Nat → Nat} : (bs3 τ L H q x ∨ bs τ L H q x) ↔ bs3 τ L H (q + 1) x := by
  constructor
  · rintro (⟨q', h1, h2⟩ | h)
    · exact ⟨q', by omega, h2⟩
    · exact ⟨q, by omega, h⟩
  · rintro ⟨q', h1, h2⟩
    rcases Nat.lt_or_eq_of_le (Nat.le_of_lt_succ h1) with h3 | h3
    · exact Or.inl ⟨q', h3, h2⟩
    · subst h3; exact Or.inr h2
theorem bs3_n {τ : Nat → Nat} {L H : Nat → Nat → Nat} {q : Nat} {x : Nat → Nat} (hn : ¬ pl_hp (τ 0) (L q) (H q) (bd_a τ q) (bd_b τ q)) : bs3 τ L H q x ↔ bs3 τ L H (q + 1) x := by
  rw [← bs3_s]
  exact ⟨Or.inl, fun h => h.elim id (fun q => absurd (pl_hp_of q) hn)⟩
theorem bs_gw {τ : Nat → Nat} (hV : rt_V τ) {L H : Nat → Nat → Nat} {q : Nat} (hq : q < 3) (hl : ∀ s, s < τ 0 → L q s ≤ bd_n τ s) (hh : ∀ s, s < τ 0 → H q s ≤ bd_n τ s) (hp : pl_hp (τ 0) (L q) (H q) (bd_a τ q) (bd_b τ q)) : ∃ z, pl_gw (τ 0) (L q) (H q) (bd_g τ q) (bd_a τ q) (bd_b τ q) (bd_w0 τ (τ 0)) = z ∧ (-2000 ≤ z ∧ z ≤ 2000) ∧ (∃ x, bs τ L H q x ∧ pw τ x = z) ∧ ∀ x, bs τ L H q x → pw τ x ≤ z := by
  obtain ⟨⟨x, hx, hw⟩, hub⟩ := pl_gw_ok (g := bd_g τ q) (w0 := bd_w0 τ (τ 0)) hp
  rw [pw_g hq hx.2.1 hx.2.2] at hw
  refine ⟨_, rfl, by rw [hw]; exact pw_b hV hq hl hh hx, ⟨x, hx, hw.symm⟩, fun y hy => ?_⟩
  rw [← pw_g hq hy.2.1 hy.2.2]
  exact hub y hy
theorem bs_P {τ : Nat → Nat} {L H : Nat → Nat → Nat} {q : Nat} (hq : q < 3) {z : Int} (hz : -2000 ≤ z ∧ z ≤ 2000) (hub : ∀ x, bs τ L H q x → pw τ x ≤ z) : bx_P (τ 0) (L q) (H q) (bd_g τ q) (bd_a τ q) (bd_b τ q) (bd_w0 τ (τ 0)) (iI z) (fun x => bd_w0 τ (τ 0) + pl_sm (fun s => (x s : Int) * bd_g τ q s) (τ 0) = z) := Or.inr ⟨z, rfl, by omega, fun y hy => by rw [pw_g hq hy.2.1 hy.2.2]; exact hub y hy, fun _ => Iff.rfl⟩
set_option maxRecDepth 100000 in
theorem lp_bre {sc : az_S} {h : az_H} {τ : Nat → Nat} (hS : rt_So τ h) (hV : rt_V τ) {q : Nat} {hh : az_H} {gr x : Int32} {Q : Option Value → az_H → Prop} (hq : q < 3) (hx : x = nI q) (hF : ∀ a, (a < 48 ∨ 54 < a) → hh a = h a) (hI : gi_I (bs3 τ ((bd_lo τ)) (bd_hi τ) q) (pw τ) gr) (K : ∀ gr2 h2, gi_I (bs3 τ ((bd_lo τ)) (bd_hi τ) (q + 1)) (pw τ) gr2 → (∀ a, (a < 48 ∨ 54 < a) → h2 a = h a) → ∀ {y : Int32}, y = nI (q + 1) → az_E sc az_m_X2_bestRestingWorth 7 [.ref 48, .ref 2, .int (nI (τ 2)), .int (nI (τ 5)), .int gr2, .int y] [] h2 Q) : az_E sc az_m_X2_bestRestingWorth 7 [.ref 48, .ref 2, .int (nI (τ 2)), .int (nI (τ 5)), .int gr, .int x] [] hh Q := by
  subst hx
  by_cases hp : pl_hp (τ 0) ((bd_lo τ) q) ((bd_hi τ) q) (bd_a τ q) (bd_b τ q)
  · obtain ⟨z, ez, hz, z1, z2⟩ := bs_gw (L := (bd_lo τ)) (H := (bd_hi τ)) hV hq (fun s _ => bd_lo_le) (fun s _ => bd_hi_le) hp
    refine az_er 2 rfl ?_
    refine az_ic_ge rfl rfl (fun c10 => absurd c10 (nI_ge (b := 3) (show q < 3 by omega) (by omega))) (fun c10 => ?_)
    refine az_er 5 rfl ?_
    refine az_ecall rfl rfl rfl rfl (ct_br (q := q) (rt_So_e hS (fun a ha => hF a (by omega))) hV hq) ?_
    rintro _ h1 ⟨rfl, hR, hR2⟩
    have hF1 : ∀ a, (a < 48 ∨ 54 < a) → h1 a = h a := fun a ha => (hR2 a (by omega)).trans (hF a ha)
    have hVx := bd_Vx (q := q) hV (lo := (bd_lo τ) q) (hi := (bd_hi τ) q) (fun s _ => bd_lo_le) (fun s _ => bd_hi_le)
    refine az_er 2 rfl ?_
    refine az_ecallF rfl rfl rfl rfl ((ct_hp hR hVx).eq (by rw [pl_d_t hp]) rfl) ?_
    refine az_if_eq rfl rfl (fun c29 => absurd c29 (by decide)) (fun c29 => ?_)
    refine az_er 3 rfl ?_
    refine az_ecallF rfl rfl rfl rfl (ct_gw hR hVx hp.1) ?_
    refine az_er 4 rfl ?_
    rw [ez]
    exact K _ h1 (gi_I_c (gi_I_u hI hz z1 z2) (fun _ => bs3_s)) hF1 (nI_1' q)
  · skip
    refine az_er 2 rfl ?_
    refine az_ic_ge rfl rfl (fun c10 => absurd c10 (nI_ge (b := 3) (show q < 3 by omega) (by omega))) (fun c10 => ?_)
    refine az_er 5 rfl ?_
    refine az_ecall rfl rfl rfl rfl (ct_br (q := q) (rt_So_e hS (fun a ha => hF a (by omega))) hV hq) ?_
    rintro _ h1 ⟨rfl, hR, hR2⟩
    have hF1 : ∀ a, (a < 48 ∨ 54 < a) → h1 a = h a := fun a ha => (hR2 a (by omega)).trans (hF a ha)
    have hVx := bd_Vx (q := q) hV (lo := (bd_lo τ) q) (hi := (bd_hi τ) q) (fun s _ => bd_lo_le) (fun s _ => bd_hi_le)
    refine az_er 2 rfl ?_
    refine az_ecallF rfl rfl rfl rfl ((ct_hp hR hVx).eq (by rw [pl_d_f hp]) rfl) ?_
    refine az_if_eq rfl rfl (fun c29 => ?_) (fun c29 => absurd rfl c29)
    refine az_er 2 rfl ?_
    exact K _ h1 (gi_I_c hI (fun _ => bs3_n hp)) hF1 (nI_1' q)
set_option maxRecDepth 100000 in
theorem ct_bre {sc : az_S} {h : az_H} {τ : Nat → Nat} (hS : rt_So τ h) (hV : rt_V τ) : az_E sc az_m_X2_bestRestingWorth 0 [.ref 48, .ref 2, .int (nI (τ 2)), .int (nI (τ 5))] [] h (fun v h' => ∃ gr, v = some (.int gr) ∧ gi_I (bs3 τ ((bd_lo τ)) (bd_hi τ) 3) (pw τ) gr ∧ ∀ a, (a < 48 ∨ 54 < a) → h' a = h a) := by
  refine az_er 4 rfl ?_
  refine lp_bre hS hV (q := 0) (by omega) rfl (fun _ _ => rfl) (Or.inl ⟨rfl, fun x ⟨q', h1, _⟩ => absurd h1 (Nat.not_lt_zero q')⟩) (fun gr1 h1 i1 f1 {y1} e1 => ?_)
  refine lp_bre hS hV (q := 1) (by omega) e1 f1 i1 (fun gr2 h2 i2 f2 {y2} e2 => ?_)
  refine lp_bre hS hV (q := 2) (by omega) e2 f2 i2 (fun gr3 h3 i3 f3 {y3} e3 => ?_)
  rw [e3]
  refine az_er 2 rfl ?_
  refine az_ic_ge rfl rfl (fun c10 => ?_) (fun c10 => absurd (show Int32.ofInt 3 ≤ nI 3 by decide) c10)
  refine az_er 1 rfl ?_
  refine az_eret rfl rfl rfl ?_
  exact ⟨gr3, rfl, i3, f3⟩
set_option maxRecDepth 100000 in
theorem lp_ball {sc : az_S} {h : az_H} {τ : Nat → Nat} (hS : rt_So τ h) (hV : rt_V τ) {q : Nat} {hh : az_H} {gr x : Int32} {Q : Option Value → az_H → Prop} (hq : q < 3) (hx : x = nI q) (hF : ∀ a, (a < 48 ∨ 54 < a) → hh a = h a) (hI : gi_I (bs3 τ ((fun _ _ => 0)) (fun _ => bd_n τ) q) (pw τ) gr) (K : ∀ gr2 h2, gi_I (bs3 τ ((fun _ _ => 0)) (fun _ => bd_n τ) (q + 1)) (pw τ) gr2 → (∀ a, (a < 48 ∨ 54 < a) → h2 a = h a) → ∀ {y : Int32}, y = nI (q + 1) → az_E sc az_m_X2_bestWorth 7 [.ref 48, .ref 2, .int (nI (τ 2)), .int (nI (τ 5)), .int gr2, .int y] [] h2 Q) : az_E sc az_m_X2_bestWorth 7 [.ref 48, .ref 2, .int (nI (τ 2)), .int (nI (τ 5)), .int gr, .int x] [] hh Q := by
  subst hx
  by_cases hp : pl_hp (τ 0) ((fun _ _ => 0) q) ((fun _ => bd_n τ) q) (bd_a τ q) (bd_b τ q)
  · obtain ⟨z, ez, hz, z1, z2⟩ := bs_gw (L := (fun _ _ => 0)) (H := (fun _ => bd_n τ)) hV hq (fun s _ => Nat.zero_le _) (fun s _ => Nat.le_refl _) hp
    refine az_er 2 rfl ?_
    refine az_ic_ge rfl rfl (fun c10 => absurd c10 (nI_ge (b := 3) (show q < 3 by omega) (by omega))) (fun c10 => ?_)
    refine az_er 5 rfl ?_
    refine az_ecall rfl rfl rfl rfl (ct_ba (q := q) (rt_So_e hS (fun a ha => hF a (by omega))) hV hq) ?_
    rintro _ h1 ⟨rfl, hR, hR2⟩
    have hF1 : ∀ a, (a < 48 ∨ 54 < a) → h1 a = h a := fun a ha => (hR2 a (by omega)).trans (hF a ha)
    have hVx := bd_Vx (q := q) hV (lo := (fun _ _ => 0) q) (hi := (fun _ => bd_n τ) q) (fun s _ => Nat.zero_le _) (fun s _ => Nat.le_refl _)
    refine az_er 2 rfl ?_
    refine az_ecallF rfl rfl rfl rfl ((ct_hp hR hVx).eq (by rw [pl_d_t hp]) rfl) ?_
    refine az_if_eq rfl rfl (fun c29 => absurd c29 (by decide)) (fun c29 => ?_)
    refine az_er 3 rfl ?_
    refine az_ecallF rfl rfl rfl rfl (ct_gw hR hVx hp.1) ?_
    refine az_er 4 rfl ?_
    rw [ez]
    exact K _ h1 (gi_I_c (gi_I_u hI hz z1 z2) (fun _ => bs3_s)) hF1 (nI_1' q)
  · skip
    refine az_er 2 rfl ?_
    refine az_ic_ge rfl rfl (fun c10 => absurd c10 (nI_ge (b := 3) (show q < 3 by omega) (by omega))) (fun c10 => ?_)
    refine az_er 5 rfl ?_
    refine az_ecall rfl rfl rfl rfl (ct_ba (q := q) (rt_So_e hS (fun a ha => hF a (by omega))) hV hq) ?_
    rintro _ h1 ⟨rfl, hR, hR2⟩
    have hF1 : ∀ a, (a < 48 ∨ 54 < a) → h1 a = h a := fun a ha => (hR2 a (by omega)).trans (hF a ha)
    have hVx := bd_Vx (q := q) hV (lo := (fun _ _ => 0) q) (hi := (fun _ => bd_n τ) q) (fun s _ => Nat.zero_le _) (fun s _ => Nat.le_refl _)
    refine az_er 2 rfl ?_
    refine az_ecallF rfl rfl rfl rfl ((ct_hp hR hVx).eq (by rw [pl_d_f hp]) rfl) ?_
    refine az_if_eq rfl rfl (fun c29 => ?_) (fun c29 => absurd rfl c29)
    refine az_er 2 rfl ?_
    exact K _ h1 (gi_I_c hI (fun _ => bs3_n hp)) hF1 (nI_1' q)
set_option maxRecDepth 100000 in
theorem ct_ball {sc : az_S} {h : az_H} {τ : Nat → Nat} (hS : rt_So τ h) (hV : rt_V τ) : az_E sc az_m_X2_bestWorth 0 [.ref 48, .ref 2, .int (nI (τ 2)), .int (nI (τ 5))] [] h (fun v h' => ∃ gr, v = some (.int gr) ∧ gi_I (bs3 τ ((fun _ _ => 0)) (fun _ => bd_n τ) 3) (pw τ) gr ∧ ∀ a, (a < 48 ∨ 54 < a) → h' a = h a) := by
  refine az_er 4 rfl ?_
  refine lp_ball hS hV (q := 0) (by omega) rfl (fun _ _ => rfl) (Or.inl ⟨rfl, fun x ⟨q', h1, _⟩ => absurd h1 (Nat.not_lt_zero q')⟩) (fun gr1 h1 i1 f1 {y1} e1 => ?_)
  refine lp_ball hS hV (q := 1) (by omega) e1 f1 i1 (fun gr2 h2 i2 f2 {y2} e2 => ?_)
  refine lp_ball hS hV (q := 2) (by omega) e2 f2 i2 (fun gr3 h3 i3 f3 {y3} e3 => ?_)
  rw [e3]
  refine az_er 2 rfl ?_
  refine az_ic_ge rfl rfl (fun c10 => ?_) (fun c10 => absurd (show Int32.ofInt 3 ≤ nI 3 by decide) c10)
  refine az_er 1 rfl ?_
  refine az_eret rfl rfl rfl ?_
  exact ⟨gr3, rfl, i3, f3⟩
set_option maxRecDepth 100000 in
theorem lp_ffr {sc : az_S} {h : az_H} {τ : Nat → Nat} (hS : rt_So τ h) (hV : rt_V τ) {q : Nat} {hh : az_H} {x : Int32} {Q : Option Value → az_H → Prop} (hq : q < 3) (hx : x = nI q) (hF : ∀ a, (a < 48 ∨ 54 < a) → hh a = h a) (hI : fs_I (bs3 τ ((bd_lo τ)) ((bd_hi τ)) q) (τ 0) hh) (K : ∀ h2, fs_I (bs3 τ ((bd_lo τ)) ((bd_hi τ)) (q + 1)) (τ 0) h2 → (∀ a, (a < 48 ∨ 54 < a) → h2 a = h a) → ∀ {y : Int32}, y = nI (q + 1) → az_E sc az_m_X2_findFirstResting 8 [.ref 48, .ref 2, .int (nI (τ 2)), .int (nI (τ 5)), .int y] [] h2 Q) : az_E sc az_m_X2_findFirstResting 8 [.ref 48, .ref 2, .int (nI (τ 2)), .int (nI (τ 5)), .int x] [] hh Q := by
  subst hx
  have hw0 : -10000 ≤ bd_w0 τ (τ 0) ∧ bd_w0 τ (τ 0) ≤ 10000 := by have := bd_w0_b hV (τ 0) hV.1; have := hV.1; omega
  by_cases hp : pl_hp (τ 0) ((bd_lo τ) q) ((bd_hi τ) q) (bd_a τ q) (bd_b τ q)
  · skip
    refine az_er 2 rfl ?_
    refine az_ic_ge rfl rfl (fun c11 => absurd c11 (nI_ge (b := 3) (show q < 3 by omega) (by omega))) (fun c11 => ?_)
    refine az_er 5 rfl ?_
    refine az_ecall rfl rfl rfl rfl (ct_br (q := q) (rt_So_e hS (fun a ha => hF a (by omega))) hV hq) ?_
    rintro _ h1 ⟨rfl, hR, hR2⟩
    have hF1 : ∀ a, (a < 48 ∨ 54 < a) → h1 a = h a := fun a ha => (hR2 a (by omega)).trans (hF a ha)
    have hVx := bd_Vx (q := q) hV (lo := (bd_lo τ) q) (hi := (bd_hi τ) q) (fun s _ => bd_lo_le) (fun s _ => bd_hi_le)
    have hI1 := fs_I_h hI (hR2 48 (by decide)) (hR2 54 (by decide))
    refine az_er 2 rfl ?_
    refine az_ecallF rfl rfl rfl rfl ((ct_hp hR hVx).eq (by rw [pl_d_t hp]) rfl) ?_
    refine az_if_eq rfl rfl (fun c30 => absurd c30 (by decide)) (fun c30 => ?_)
    refine az_er 2 rfl ?_
    refine az_ecall rfl rfl rfl rfl (ct_offer (P := fun _ => True) hR hVx hw0 (Or.inl ⟨rfl, fun _ => True.intro⟩) (by obtain ⟨z, hz⟩ := pl_hp_ex hp; exact ⟨z, hz, True.intro⟩) hI1) ?_
    rintro _ h2 ⟨rfl, o1, o2⟩
    refine az_er 2 rfl ?_
    exact K h2 (fs_I_c o1 (fun x => by rw [← bs3_s]; exact ⟨fun z => z.elim Or.inl (fun z2 => Or.inr z2.1), fun z => z.elim Or.inl (fun z2 => Or.inr ⟨z2, True.intro⟩)⟩)) (fun a ha => (o2 a ha).trans (hF1 a ha)) (nI_1' q)
  · skip
    refine az_er 2 rfl ?_
    refine az_ic_ge rfl rfl (fun c11 => absurd c11 (nI_ge (b := 3) (show q < 3 by omega) (by omega))) (fun c11 => ?_)
    refine az_er 5 rfl ?_
    refine az_ecall rfl rfl rfl rfl (ct_br (q := q) (rt_So_e hS (fun a ha => hF a (by omega))) hV hq) ?_
    rintro _ h1 ⟨rfl, hR, hR2⟩
    have hF1 : ∀ a, (a < 48 ∨ 54 < a) → h1 a = h a := fun a ha => (hR2 a (by omega)).trans (hF a ha)
    have hVx := bd_Vx (q := q) hV (lo := (bd_lo τ) q) (hi := (bd_hi τ) q) (fun s _ => bd_lo_le) (fun s _ => bd_hi_le)
    have hI1 := fs_I_h hI (hR2 48 (by decide)) (hR2 54 (by decide))
    refine az_er 2 rfl ?_
    refine az_ecallF rfl rfl rfl rfl ((ct_hp hR hVx).eq (by rw [pl_d_f hp]) rfl) ?_
    refine az_if_eq rfl rfl (fun c30 => ?_) (fun c30 => absurd rfl c30)
    refine az_er 2 rfl ?_
    exact K h1 (fs_I_c hI1 (fun _ => bs3_n hp)) hF1 (nI_1' q)
set_option maxRecDepth 100000 in
theorem ct_ffr {sc : az_S} {h : az_H} {τ : Nat → Nat} (hS : rt_So τ h) (hV : rt_V τ) : az_E sc az_m_X2_findFirstResting 0 [.ref 48, .ref 2, .int (nI (τ 2)), .int (nI (τ 5))] [] h (fun v h' => v = some (.int (h' 48 3)) ∧ fs_I (bs3 τ ((bd_lo τ)) ((bd_hi τ)) 3) (τ 0) h' ∧ ∀ a, (a < 48 ∨ 54 < a) → h' a = h a) := by
  refine az_er 5 rfl ?_
  refine lp_ffr hS hV (q := 0) (by omega) rfl (fun a ha => az_up_o (by omega)) (Or.inl ⟨az_up_s, fun x ⟨q', h1, _⟩ => absurd h1 (Nat.not_lt_zero q')⟩) (fun h1 i1 f1 {y1} e1 => ?_)
  refine lp_ffr hS hV (q := 1) (by omega) e1 f1 i1 (fun h2 i2 f2 {y2} e2 => ?_)
  refine lp_ffr hS hV (q := 2) (by omega) e2 f2 i2 (fun h3 i3 f3 {y3} e3 => ?_)
  rw [e3]
  refine az_er 2 rfl ?_
  refine az_ic_ge rfl rfl (fun c11 => ?_) (fun c11 => absurd (show Int32.ofInt 3 ≤ nI 3 by decide) c11)
  refine az_er 2 rfl ?_
  refine az_zret rfl rfl ((i3.elim (fun q => Or.inl q.1) (fun q => Or.inr q.1))) ?_
  exact ⟨rfl, i3, f3⟩
noncomputable def rs_n (τ : Nat → Nat) (q : Nat) : Nat := bx_n (bd_n τ) (bd_lo τ q) (bd_hi τ q) (τ 0) (bd_a τ q) (bd_b τ q)
set_option maxRecDepth 100000 in
theorem lp_rp {sc : az_S} {h : az_H} {τ : Nat → Nat} (hS : rt_So τ h) (hV : rt_V τ) {q : Nat} {hh : az_H} {al x : Int32} {Q : Option Value → az_H → Prop} (hq : q < 3) (hx : x = nI q) (hF : ∀ a, (a < 48 ∨ 54 < a) → hh a = h a) (K : ∀ h2, (∀ a, (a < 48 ∨ 54 < a) → h2 a = h a) → ∀ {z y : Int32}, z = al + nI (rs_n τ q) → y = nI (q + 1) → az_E sc az_m_X2_restingPlans 6 [.ref 48, .ref 2, .int (nI (τ 2)), .int (nI (τ 5)), .int z, .int y] [] h2 Q) : az_E sc az_m_X2_restingPlans 6 [.ref 48, .ref 2, .int (nI (τ 2)), .int (nI (τ 5)), .int al, .int x] [] hh Q := by
  subst hx
  refine az_er 2 rfl ?_
  refine az_ic_ge rfl rfl (fun c9 => absurd c9 (nI_ge (b := 3) (show q < 3 by omega) (by omega))) (fun c9 => ?_)
  refine az_er 5 rfl ?_
  refine az_ecall rfl rfl rfl rfl (ct_br (q := q) (rt_So_e hS (fun a ha => hF a (by omega))) hV hq) ?_
  rintro _ h1 ⟨rfl, hR, hR2⟩
  have hF1 : ∀ a, (a < 48 ∨ 54 < a) → h1 a = h a := fun a ha => (hR2 a (by omega)).trans (hF a ha)
  refine az_er 3 rfl ?_
  have hVx := bd_Vx (q := q) hV (lo := (bd_lo τ) q) (hi := (bd_hi τ) q) (fun s _ => bd_lo_le) (fun s _ => bd_hi_le)
  refine az_ecall rfl rfl rfl rfl (ct_plans (r := bd_n τ) hR hVx (fun s _ => bd_hi_le) (fun s hs => (bd_9 hV (show s < 4 by have := hV.1; omega)).1)) ?_
  rintro _ h2 ⟨rfl, k2⟩
  refine az_er 4 rfl ?_
  exact K h2 (fun a ha => (k2 a (by omega)).trans (hF1 a ha)) rfl (nI_1' q)
set_option maxRecDepth 100000 in
theorem ct_rp {sc : az_S} {h : az_H} {τ : Nat → Nat} (hS : rt_So τ h) (hV : rt_V τ) : az_E sc az_m_X2_restingPlans 0 [.ref 48, .ref 2, .int (nI (τ 2)), .int (nI (τ 5))] [] h (fun v h' => v = some (.int (nI (rs_n τ 0 + rs_n τ 1 + rs_n τ 2))) ∧ ∀ a, (a < 48 ∨ 54 < a) → h' a = h a) := by
  refine az_er 4 rfl ?_
  refine lp_rp hS hV (q := 0) (by omega) rfl (fun _ _ => rfl) (fun h1 f1 {x1 y1} z1 e1 => ?_)
  refine lp_rp hS hV (q := 1) (by omega) e1 f1 (fun h2 f2 {x2 y2} z2 e2 => ?_)
  refine lp_rp hS hV (q := 2) (by omega) e2 f2 (fun h3 f3 {x3 y3} z3 e3 => ?_)
  rw [e3]
  refine az_er 2 rfl ?_
  refine az_ic_ge rfl rfl (fun c9 => ?_) (fun c9 => absurd (show Int32.ofInt 3 ≤ nI 3 by decide) c9)
  refine az_er 1 rfl ?_
  refine az_eret rfl rfl rfl ?_
  exact ⟨by rw [z3, z2, z1, show Int32.ofInt 0 = nI 0 from rfl, nI_add, nI_add, nI_add, Nat.zero_add], f3⟩
set_option maxRecDepth 100000 in
theorem lp_ffb {sc : az_S} {h : az_H} {τ : Nat → Nat} (hS : rt_So τ h) (hV : rt_V τ) {q : Nat} {z : Int} {hh : az_H} {x : Int32} {Q : Option Value → az_H → Prop} (hq : q < 3) (hz : -2000 ≤ z ∧ z ≤ 2000) (hub : ∀ x, bs3 τ (fun _ _ => 0) (fun _ => bd_n τ) 3 x → pw τ x ≤ z) (hx : x = nI q) (hF : ∀ a, (a < 48 ∨ 54 < a) → hh a = h a) (hI : fs_I (fun x => bs3 τ (fun _ _ => 0) (fun _ => bd_n τ) q x ∧ pw τ x = z) (τ 0) hh) (K : ∀ h2, fs_I (fun x => bs3 τ (fun _ _ => 0) (fun _ => bd_n τ) (q + 1) x ∧ pw τ x = z) (τ 0) h2 → (∀ a, (a < 48 ∨ 54 < a) → h2 a = h a) → ∀ {y : Int32}, y = nI (q + 1) → az_E sc az_m_X2_findFirstBest 17 [.ref 48, .ref 2, .int (nI (τ 2)), .int (nI (τ 5)), .int (iI z), .int y] [] h2 Q) : az_E sc az_m_X2_findFirstBest 17 [.ref 48, .ref 2, .int (nI (τ 2)), .int (nI (τ 5)), .int (iI z), .int x] [] hh Q := by
  subst hx
  have hw0 : -10000 ≤ bd_w0 τ (τ 0) ∧ bd_w0 τ (τ 0) ≤ 10000 := by have := bd_w0_b hV (τ 0) hV.1; have := hV.1; omega
  by_cases hp : pl_hp (τ 0) ((fun _ _ => 0) q) ((fun _ => bd_n τ) q) (bd_a τ q) (bd_b τ q)
  · obtain ⟨z0, ez, hz0, z1, z2⟩ := bs_gw (L := (fun _ _ => 0)) (H := (fun _ => bd_n τ)) hV hq (fun s _ => Nat.zero_le _) (fun s _ => Nat.le_refl _) hp
    by_cases hzw : z0 = z
    · skip
      refine az_er 2 rfl ?_
      refine az_ic_ge rfl rfl (fun c20 => absurd c20 (nI_ge (b := 3) (show q < 3 by omega) (by omega))) (fun c20 => ?_)
      refine az_er 5 rfl ?_
      refine az_ecall rfl rfl rfl rfl (ct_ba (q := q) (rt_So_e hS (fun a ha => hF a (by omega))) hV hq) ?_
      rintro _ h1 ⟨rfl, hR, hR2⟩
      have hF1 : ∀ a, (a < 48 ∨ 54 < a) → h1 a = h a := fun a ha => (hR2 a (by omega)).trans (hF a ha)
      have hVx := bd_Vx (q := q) hV (lo := (fun _ _ => 0) q) (hi := (fun _ => bd_n τ) q) (fun s _ => Nat.zero_le _) (fun s _ => Nat.le_refl _)
      have hI1 := fs_I_h hI (hR2 48 (by decide)) (hR2 54 (by decide))
      refine az_er 2 rfl ?_
      refine az_ecallF rfl rfl rfl rfl ((ct_hp hR hVx).eq (by rw [pl_d_t hp]) rfl) ?_
      refine az_if_eq rfl rfl (fun c39 => absurd c39 (by decide)) (fun c39 => ?_)
      refine az_er 2 rfl ?_
      refine az_ecallF rfl rfl rfl rfl (ct_gw hR hVx hp.1) ?_
      refine az_er 1 rfl ?_
      rw [ez, hzw]
      refine az_ic_ne rfl rfl (fun c51 => absurd rfl c51) (fun c51 => ?_)
      refine az_er 2 rfl ?_
      refine az_ecall rfl rfl rfl rfl (ct_offer hR hVx hw0 (bs_P hq hz (fun x hx => by rw [← hzw]; exact z2 x hx)) (by obtain ⟨x, hx, hw⟩ := z1; exact ⟨x, hx, by rw [pw_g hq hx.2.1 hx.2.2, hw, hzw]⟩) hI1) ?_
      rintro _ h2 ⟨rfl, o1, o2⟩
      refine az_er 2 rfl ?_
      refine K h2 (fs_I_c o1 (fun x => ?_)) (fun a ha => (o2 a ha).trans (hF1 a ha)) (nI_1' q)
      rw [← bs3_s]
      constructor
      · rintro (⟨k1, k2⟩ | ⟨k1, k2⟩)
        · exact ⟨Or.inl k1, k2⟩
        · exact ⟨Or.inr k1, by rw [pw_g hq k1.2.1 k1.2.2] at k2; exact k2⟩
      · rintro ⟨k1 | k1, k2⟩
        · exact Or.inl ⟨k1, k2⟩
        · exact Or.inr ⟨k1, by rw [pw_g hq k1.2.1 k1.2.2]; exact k2⟩
    · skip
      refine az_er 2 rfl ?_
      refine az_ic_ge rfl rfl (fun c20 => absurd c20 (nI_ge (b := 3) (show q < 3 by omega) (by omega))) (fun c20 => ?_)
      refine az_er 5 rfl ?_
      refine az_ecall rfl rfl rfl rfl (ct_ba (q := q) (rt_So_e hS (fun a ha => hF a (by omega))) hV hq) ?_
      rintro _ h1 ⟨rfl, hR, hR2⟩
      have hF1 : ∀ a, (a < 48 ∨ 54 < a) → h1 a = h a := fun a ha => (hR2 a (by omega)).trans (hF a ha)
      have hVx := bd_Vx (q := q) hV (lo := (fun _ _ => 0) q) (hi := (fun _ => bd_n τ) q) (fun s _ => Nat.zero_le _) (fun s _ => Nat.le_refl _)
      have hI1 := fs_I_h hI (hR2 48 (by decide)) (hR2 54 (by decide))
      refine az_er 2 rfl ?_
      refine az_ecallF rfl rfl rfl rfl ((ct_hp hR hVx).eq (by rw [pl_d_t hp]) rfl) ?_
      refine az_if_eq rfl rfl (fun c39 => absurd c39 (by decide)) (fun c39 => ?_)
      refine az_er 2 rfl ?_
      refine az_ecallF rfl rfl rfl rfl (ct_gw hR hVx hp.1) ?_
      refine az_er 1 rfl ?_
      rw [ez]
      refine az_ic_ne rfl rfl (fun c51 => ?_) (fun c51 => (hzw ((iI_eq (by omega) (by omega)).mp c51)).elim)
      refine az_er 2 rfl ?_
      refine K h1 (fs_I_c hI1 (fun x => ?_)) hF1 (nI_1' q)
      rw [← bs3_s]
      refine ⟨fun k => ⟨Or.inl k.1, k.2⟩, fun k => ⟨k.1.elim id (fun k1 => ?_), k.2⟩⟩
      exfalso
      obtain ⟨x1, b1, b2⟩ := z1
      have b3 := z2 x k1
      have b4 := hub x1 ⟨q, hq, b1⟩
      have b5 := k.2
      omega
  · skip
    refine az_er 2 rfl ?_
    refine az_ic_ge rfl rfl (fun c20 => absurd c20 (nI_ge (b := 3) (show q < 3 by omega) (by omega))) (fun c20 => ?_)
    refine az_er 5 rfl ?_
    refine az_ecall rfl rfl rfl rfl (ct_ba (q := q) (rt_So_e hS (fun a ha => hF a (by omega))) hV hq) ?_
    rintro _ h1 ⟨rfl, hR, hR2⟩
    have hF1 : ∀ a, (a < 48 ∨ 54 < a) → h1 a = h a := fun a ha => (hR2 a (by omega)).trans (hF a ha)
    have hVx := bd_Vx (q := q) hV (lo := (fun _ _ => 0) q) (hi := (fun _ => bd_n τ) q) (fun s _ => Nat.zero_le _) (fun s _ => Nat.le_refl _)
    have hI1 := fs_I_h hI (hR2 48 (by decide)) (hR2 54 (by decide))
    refine az_er 2 rfl ?_
    refine az_ecallF rfl rfl rfl rfl ((ct_hp hR hVx).eq (by rw [pl_d_f hp]) rfl) ?_
    refine az_if_eq rfl rfl (fun c39 => ?_) (fun c39 => absurd rfl c39)
    refine az_er 2 rfl ?_
    refine K h1 (fs_I_c hI1 (fun x => ?_)) hF1 (nI_1' q)
    rw [bs3_n hp]
set_option maxRecDepth 100000 in
theorem ct_ffb {sc : az_S} {h : az_H} {τ : Nat → Nat} (hS : rt_So τ h) (hV : rt_V τ) (hne : ∃ x, bs3 τ (fun _ _ => 0) (fun _ => bd_n τ) 3 x) : az_E sc az_m_X2_findFirstBest 0 [.ref 48, .ref 2, .int (nI (τ 2)), .int (nI (τ 5))] [] h (fun v h' => v = none ∧ ∃ z : Int, (-2000 ≤ z ∧ z ≤ 2000) ∧ (∃ x, bs3 τ (fun _ _ => 0) (fun _ => bd_n τ) 3 x ∧ pw τ x = z) ∧ (∀ x, bs3 τ (fun _ _ => 0) (fun _ => bd_n τ) 3 x → pw τ x ≤ z) ∧ fs_I (fun x => bs3 τ (fun _ _ => 0) (fun _ => bd_n τ) 3 x ∧ pw τ x = z) (τ 0) h' ∧ ∀ a, (a < 48 ∨ 54 < a) → h' a = h a) := by
  refine az_er 4 rfl ?_
  refine az_ecall rfl rfl rfl rfl (ct_ball hS hV) ?_
  rintro _ h0 ⟨gr, rfl, hg, f0⟩
  rcases hg with ⟨-, hg⟩ | ⟨z, rfl, hz, hat, hub⟩
  · obtain ⟨x, hx⟩ := hne
    exact absurd hx (hg x)
  refine az_er 6 rfl ?_
  refine lp_ffb hS hV (q := 0) (z := z) (by omega) hz hub rfl (fun a ha => by rw [az_up_o (by omega)]; exact f0 a ha) (Or.inl ⟨az_up_s, fun x ⟨⟨q', h1, _⟩, _⟩ => absurd h1 (Nat.not_lt_zero q')⟩) (fun h1 i1 f1 {y1} e1 => ?_)
  refine lp_ffb hS hV (q := 1) (z := z) (by omega) hz hub e1 f1 i1 (fun h2 i2 f2 {y2} e2 => ?_)
  refine lp_ffb hS hV (q := 2) (z := z) (by omega) hz hub e2 f2 i2 (fun h3 i3 f3 {y3} e3 => ?_)
  rw [e3]
  refine az_er 2 rfl ?_
  refine az_ic_ge rfl rfl (fun c20 => ?_) (fun c20 => absurd (show Int32.ofInt 3 ≤ nI 3 by decide) c20)
  refine az_eret rfl rfl rfl ?_
  exact ⟨rfl, z, hz, hat, hub, i3, f3⟩
