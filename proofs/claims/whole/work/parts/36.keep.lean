/-! THE FIRST PLAN OF A BOX -/
def bx_u (f : Nat → Nat) (i v : Nat) : Nat → Nat := fun s => if s = i then v else f s
theorem bx_u_s {f : Nat → Nat} {i v : Nat} : bx_u f i v i = v := if_pos rfl
theorem bx_u_n {f : Nat → Nat} {i v s : Nat} (h : ¬ s = i) : bx_u f i v s = f s := if_neg h
/-- the box, but for its bounds at i -/
def bx_K (m i : Nat) (lo hi : Nat → Nat) (g : Nat → Int) (fa tb w0 : Int) (h : az_H) : Prop := h 49 4 = nI m ∧ h 49 5 = iI fa ∧ h 49 6 = iI tb ∧ h 49 7 = iI w0 ∧ (∀ s, s < m → h 52 s = iI (g s)) ∧ ∀ s, s < m → ¬ s = i → h 50 s = nI (lo s) ∧ h 51 s = nI (hi s)
theorem bx_K_R {m i : Nat} {lo hi : Nat → Nat} {g : Nat → Int} {fa tb w0 : Int} {h : az_H} (hB : bx_R m lo hi g fa tb w0 h) : bx_K m i lo hi g fa tb w0 h := ⟨hB.1, hB.2.1, hB.2.2.1, hB.2.2.2.1, fun s hs => (hB.2.2.2.2 s hs).2.2, fun s hs _ => ⟨(hB.2.2.2.2 s hs).1, (hB.2.2.2.2 s hs).2.1⟩⟩
theorem bx_K_u {m i v : Nat} {lo hi : Nat → Nat} {g : Nat → Int} {fa tb w0 : Int} {h : az_H} (hB : bx_R m (bx_u lo i v) (bx_u hi i v) g fa tb w0 h) : bx_K m i lo hi g fa tb w0 h := ⟨hB.1, hB.2.1, hB.2.2.1, hB.2.2.2.1, fun s hs => (hB.2.2.2.2 s hs).2.2, fun s hs hn => by
  have q := hB.2.2.2.2 s hs
  rw [bx_u_n hn, bx_u_n hn] at q
  exact ⟨q.1, q.2.1⟩⟩
theorem bx_K_p {m i v : Nat} {lo hi : Nat → Nat} {g : Nat → Int} {fa tb w0 : Int} {h : az_H} (hK : bx_K m i lo hi g fa tb w0 h) : bx_R m (bx_u lo i v) (bx_u hi i v) g fa tb w0 (az_up (az_up h 50 i (nI v)) 51 i (nI v)) := by
  obtain ⟨r4, r5, r6, r7, rg, rs⟩ := hK
  refine ⟨by rw [az_up_o (by decide), az_up_o (by decide)]; exact r4, by rw [az_up_o (by decide), az_up_o (by decide)]; exact r5, by rw [az_up_o (by decide), az_up_o (by decide)]; exact r6, by rw [az_up_o (by decide), az_up_o (by decide)]; exact r7, fun s hs => ⟨?_, ?_, by rw [az_up_o (by decide), az_up_o (by decide)]; exact rg s hs⟩⟩
  · rw [az_up_o (by decide)]
    by_cases h1 : s = i
    · subst h1; rw [az_up_s, bx_u_s]
    · rw [az_up_n h1, bx_u_n h1]; exact (rs s hs h1).1
  · by_cases h1 : s = i
    · subst h1; rw [az_up_s, bx_u_s]
    · rw [az_up_n h1, bx_u_n h1, az_up_o (by decide)]; exact (rs s hs h1).2
theorem bx_V_u {m i v : Nat} {lo hi : Nat → Nat} {g : Nat → Int} {fa tb : Int} (hV : bx_V m lo hi g fa tb) (hv : v ≤ 9) : bx_V m (bx_u lo i v) (bx_u hi i v) g fa tb := by
  obtain ⟨v1, v2, v3, v4⟩ := hV
  refine ⟨v1, v2, v3, fun s hs => ?_⟩
  have q := v4 s hs
  by_cases h1 : s = i
  · subst h1; rw [bx_u_s, bx_u_s]; omega
  · rw [bx_u_n h1, bx_u_n h1]; exact q
/-- what is asked of a plan: nothing, or so much worth, which is the greatest -/
def bx_P (m : Nat) (lo hi : Nat → Nat) (g : Nat → Int) (fa tb w0 : Int) (wv : Int32) (P : (Nat → Nat) → Prop) : Prop := (wv = -1000000000 ∧ ∀ y, P y) ∨ ∃ z : Int, wv = iI z ∧ (-100000 ≤ z ∧ z ≤ 100000) ∧ (∀ y, pl_bx m lo hi fa tb y → w0 + pl_sm (fun s => (y s : Int) * g s) m ≤ z) ∧ ∀ y, P y ↔ w0 + pl_sm (fun s => (y s : Int) * g s) m = z
theorem bx_P_c {m : Nat} {lo hi : Nat → Nat} {g : Nat → Int} {fa tb w0 : Int} {wv : Int32} {P : (Nat → Nat) → Prop} (h : bx_P m lo hi g fa tb w0 wv P) {x y : Nat → Nat} (e : ∀ s, s < m → x s = y s) (hx : P x) : P y := by
  rcases h with ⟨-, h⟩ | ⟨z, -, -, -, h⟩
  · exact h y
  · rw [h] at hx ⊢
    rw [← hx]
    congr 1
    exact pl_sm_c m (fun s hs => by rw [e s hs])
theorem pl_bx_c {m : Nat} {lo hi : Nat → Nat} {fa tb : Int} {x y : Nat → Nat} (e : ∀ s, s < m → x s = y s) (hx : pl_bx m lo hi fa tb x) : pl_bx m lo hi fa tb y := by
  obtain ⟨h1, h2, h3⟩ := hx
  rw [pl_sn_c m e] at h2 h3
  exact ⟨fun s hs => by rw [← e s hs]; exact h1 s hs, h2, h3⟩
theorem pl_bx_s {m : Nat} {lo hi lo' hi' : Nat → Nat} {fa tb : Int} {x : Nat → Nat} (e : ∀ s, s < m → lo s ≤ lo' s ∧ hi' s ≤ hi s) (hx : pl_bx m lo' hi' fa tb x) : pl_bx m lo hi fa tb x :=
  ⟨fun s hs => ⟨Nat.le_trans (e s hs).1 (hx.1 s hs).1, Nat.le_trans (hx.1 s hs).2 (e s hs).2⟩, hx.2⟩
theorem pl_sm_b {f : Nat → Int} : ∀ n, (∀ s, s < n → -200 ≤ f s ∧ f s ≤ 200) → -200 * (n : Int) ≤ pl_sm f n ∧ pl_sm f n ≤ 200 * (n : Int)
  | 0, _ => ⟨Int.le_refl 0, Int.le_refl 0⟩
  | n + 1, h => by
    rw [pl_sm]
    have h1 := pl_sm_b n (fun s hs => h s (by omega))
    have h2 := h n (by omega)
    omega
theorem mul_b {x : Nat} {g : Int} (hx : x ≤ 9) (hg : -20 ≤ g ∧ g ≤ 20) : -200 ≤ (x : Int) * g ∧ (x : Int) * g ≤ 200 := by
  rcases (show x = 0 ∨ x = 1 ∨ x = 2 ∨ x = 3 ∨ x = 4 ∨ x = 5 ∨ x = 6 ∨ x = 7 ∨ x = 8 ∨ x = 9 by omega) with rfl | rfl | rfl | rfl | rfl | rfl | rfl | rfl | rfl | rfl <;> omega
theorem bx_wb {m : Nat} {lo hi x : Nat → Nat} {g : Nat → Int} {fa tb : Int} (hV : bx_V m lo hi g fa tb) (hx : pl_bx m lo hi fa tb x) : -800 ≤ pl_sm (fun s => (x s : Int) * g s) m ∧ pl_sm (fun s => (x s : Int) * g s) m ≤ 800 := by
  obtain ⟨v1, v2, v3, v4⟩ := hV
  have := pl_sm_b (f := fun s => (x s : Int) * g s) m (fun s hs => mul_b (by have := v4 s hs; have := hx.1 s hs; omega) (by have := v4 s hs; omega))
  omega
set_option maxRecDepth 100000 in
theorem lp_kf1 {sc : az_S} {h : az_H} {m i : Nat} {lo hi lo' hi' : Nat → Nat} {g : Nat → Int} {fa tb w0 : Int} {wv : Int32} {P : (Nat → Nat) → Prop} (hV : bx_V m lo hi g fa tb) (hw0 : -10000 ≤ w0 ∧ w0 ≤ 10000) (hP : bx_P m lo hi g fa tb w0 wv P) (him : i < m) (hsub : ∀ s, s < m → lo s ≤ lo' s ∧ hi' s ≤ hi s) (hVs : bx_V m lo' hi' g fa tb) (hio : lo' i = lo i ∧ hi' i = hi i) (hex : ∃ v, lo i ≤ v ∧ v ≤ hi i ∧ (∃ y, pl_bx m (bx_u lo' i v) (bx_u hi' i v) fa tb y ∧ P y)) {Q : Option Value → az_H → Prop} (K : ∀ v x hh, lo i ≤ v → v ≤ hi i → bx_R m (bx_u lo' i v) (bx_u hi' i v) g fa tb w0 hh → (∀ a, a ≠ 50 → a ≠ 51 → hh a = h a) → (∃ y, pl_bx m (bx_u lo' i v) (bx_u hi' i v) fa tb y ∧ P y) → (∀ v', lo i ≤ v' → v' < v → ¬ (∃ y, pl_bx m (bx_u lo' i v') (bx_u hi' i v') fa tb y ∧ P y)) → az_E sc az_m_X0_keepFirst 85 [.ref 49, .int wv, .int (nI i), .int (nI (hi i)), .int x] [] hh Q) : ∀ (d v : Nat) (x : Int32) (hh : az_H), lo i ≤ v → hi i + 1 - v = d → bx_K m i lo' hi' g fa tb w0 hh → (∀ a, a ≠ 50 → a ≠ 51 → hh a = h a) → (∀ v', lo i ≤ v' → v' < v → ¬ (∃ y, pl_bx m (bx_u lo' i v') (bx_u hi' i v') fa tb y ∧ P y)) → x = nI v → az_E sc az_m_X0_keepFirst 29 [.ref 49, .int wv, .int (nI i), .int (nI (hi i)), .int x] [] hh Q := by
  intro d
  induction d with
  | zero =>
    intro v x hh hv1 hd hK9 hF hno hx
    obtain ⟨vs, hvs1, hvs2, hvs3⟩ := hex
    exact (hno vs hvs1 (by omega) hvs3).elim
  | succ d ih =>
    intro v x hh hv1 hd hK9 hF hno hx
    have hv2 : v ≤ hi i := by omega
    have v5 := hV.2.2.2 i him
    have v9 := hV.1
    subst hx
    have hV2 := bx_V_u (i := i) (v := v) hVs (by omega)
    have hsub2 : ∀ s, s < m → lo s ≤ bx_u lo' i v s ∧ bx_u hi' i v s ≤ hi s := fun s hs => by
      by_cases q : s = i
      · subst q; rw [bx_u_s, bx_u_s]; exact ⟨hv1, hv2⟩
      · rw [bx_u_n q, bx_u_n q]; exact hsub s hs
    by_cases hp : pl_hp m (bx_u lo' i v) (bx_u hi' i v) fa tb
    · rcases hP with ⟨hwv, hPa⟩ | ⟨z, hwv, hz, hzm, hPz⟩
      · have hok : (∃ y, pl_bx m (bx_u lo' i v) (bx_u hi' i v) fa tb y ∧ P y) := by
          obtain ⟨y, hy⟩ := pl_hp_ex hp
          exact ⟨y, hy, hPa y⟩
        refine az_er 2 rfl ?_
        refine az_ic_gt rfl rfl (fun c32 => absurd c32 (nI_nlt hv2 (by omega))) (fun c32 => ?_)
        refine az_er 4 rfl ?_
        refine az_ecallF rfl rfl rfl rfl (ct_putI rfl rfl (show i < 4 by omega) (by decide)) ?_
        refine az_er 4 rfl ?_
        refine az_ecallF rfl rfl rfl rfl (ct_putI rfl rfl (show i < 4 by omega) (by decide)) ?_
        have hR := bx_K_p (v := v) hK9
        have hF2 : ∀ a, a ≠ 50 → a ≠ 51 → az_up (az_up hh 50 i (nI v)) 51 i (nI v) a = h a := fun a h1 h2 => by rw [az_up_o h2, az_up_o h1]; exact hF a h1 h2
        revert hR hF2
        generalize az_up (az_up hh 50 i (nI v)) 51 i (nI v) = h3
        intro hR hF2
        refine az_er 1 rfl ?_
        refine az_ecallF rfl rfl rfl rfl ((ct_hp hR hV2).eq (by rw [pl_d_t hp]) rfl) ?_
        refine az_if_eq rfl rfl (fun c59 => absurd c59 (by decide)) (fun c59 => ?_)
        refine az_er 2 rfl ?_
        rw [hwv]
        refine az_ic_eq rfl rfl (fun c65 => ?_) (fun c65 => absurd rfl c65)
        rw [← hwv]
        exact K v _ _ hv1 hv2 hR hF2 hok hno
      · obtain ⟨⟨yb, hyb, hyw⟩, hub⟩ := pl_gw_ok (g := g) (w0 := w0) hp
        have hgb := bx_wb hV2 hyb
        have hz9 : ¬ iI z = Int32.ofInt (-1000000000) := fun q => by
          have := (iI_eq (b := -1000000000) (by omega) (by omega)).mp q
          omega
        by_cases hgz : pl_gw m (bx_u lo' i v) (bx_u hi' i v) g fa tb w0 = z
        · have hok : (∃ y, pl_bx m (bx_u lo' i v) (bx_u hi' i v) fa tb y ∧ P y) := ⟨yb, hyb, (hPz yb).mpr (hyw.symm.trans hgz)⟩
          refine az_er 2 rfl ?_
          refine az_ic_gt rfl rfl (fun c32 => absurd c32 (nI_nlt hv2 (by omega))) (fun c32 => ?_)
          refine az_er 4 rfl ?_
          refine az_ecallF rfl rfl rfl rfl (ct_putI rfl rfl (show i < 4 by omega) (by decide)) ?_
          refine az_er 4 rfl ?_
          refine az_ecallF rfl rfl rfl rfl (ct_putI rfl rfl (show i < 4 by omega) (by decide)) ?_
          have hR := bx_K_p (v := v) hK9
          have hF2 : ∀ a, a ≠ 50 → a ≠ 51 → az_up (az_up hh 50 i (nI v)) 51 i (nI v) a = h a := fun a h1 h2 => by rw [az_up_o h2, az_up_o h1]; exact hF a h1 h2
          revert hR hF2
          generalize az_up (az_up hh 50 i (nI v)) 51 i (nI v) = h3
          intro hR hF2
          refine az_er 1 rfl ?_
          refine az_ecallF rfl rfl rfl rfl ((ct_hp hR hV2).eq (by rw [pl_d_t hp]) rfl) ?_
          refine az_if_eq rfl rfl (fun c59 => absurd c59 (by decide)) (fun c59 => ?_)
          refine az_er 2 rfl ?_
          rw [hwv]
          refine az_ic_eq rfl rfl (fun c65 => hz9.elim c65) (fun c65 => ?_)
          refine az_er 1 rfl ?_
          refine az_ecallF rfl rfl rfl rfl (ct_gw hR hV2 hp.1) ?_
          refine az_er 1 rfl ?_
          refine az_ic_ne rfl rfl (fun c73 => absurd (by rw [hgz]) c73) (fun c73 => ?_)
          refine az_er 1 rfl ?_
          rw [← hwv]
          exact K v _ _ hv1 hv2 hR hF2 hok hno
        · have hnok : ¬ (∃ y, pl_bx m (bx_u lo' i v) (bx_u hi' i v) fa tb y ∧ P y) := by
            rintro ⟨y, hy, hPy⟩
            have h1 := hub y hy
            have h2 := hzm yb (pl_bx_s hsub2 hyb)
            have h3 := (hPz y).mp hPy
            omega
          refine az_er 2 rfl ?_
          refine az_ic_gt rfl rfl (fun c32 => absurd c32 (nI_nlt hv2 (by omega))) (fun c32 => ?_)
          refine az_er 4 rfl ?_
          refine az_ecallF rfl rfl rfl rfl (ct_putI rfl rfl (show i < 4 by omega) (by decide)) ?_
          refine az_er 4 rfl ?_
          refine az_ecallF rfl rfl rfl rfl (ct_putI rfl rfl (show i < 4 by omega) (by decide)) ?_
          have hR := bx_K_p (v := v) hK9
          have hF2 : ∀ a, a ≠ 50 → a ≠ 51 → az_up (az_up hh 50 i (nI v)) 51 i (nI v) a = h a := fun a h1 h2 => by rw [az_up_o h2, az_up_o h1]; exact hF a h1 h2
          revert hR hF2
          generalize az_up (az_up hh 50 i (nI v)) 51 i (nI v) = h3
          intro hR hF2
          refine az_er 1 rfl ?_
          refine az_ecallF rfl rfl rfl rfl ((ct_hp hR hV2).eq (by rw [pl_d_t hp]) rfl) ?_
          refine az_if_eq rfl rfl (fun c59 => absurd c59 (by decide)) (fun c59 => ?_)
          refine az_er 2 rfl ?_
          rw [hwv]
          refine az_ic_eq rfl rfl (fun c65 => hz9.elim c65) (fun c65 => ?_)
          refine az_er 1 rfl ?_
          refine az_ecallF rfl rfl rfl rfl (ct_gw hR hV2 hp.1) ?_
          refine az_er 1 rfl ?_
          refine az_ic_ne rfl rfl (fun c73 => ?_) (fun c73 => hgz ((iI_eq (by omega) (by omega)).mp c73) |>.elim)
          refine az_er 2 rfl ?_
          rw [← hwv]
          refine ih (v + 1) _ _ (by omega) (by omega) (bx_K_u hR) hF2 (fun v' h1 h2 => ?_) (nI_1' v)
          rcases Nat.lt_or_eq_of_le (Nat.le_of_lt_succ h2) with q | q
          · exact hno v' h1 q
          · subst q; exact hnok
    · have hnok : ¬ (∃ y, pl_bx m (bx_u lo' i v) (bx_u hi' i v) fa tb y ∧ P y) := fun ⟨y, hy, _⟩ => hp (pl_hp_of hy)
      refine az_er 2 rfl ?_
      refine az_ic_gt rfl rfl (fun c32 => absurd c32 (nI_nlt hv2 (by omega))) (fun c32 => ?_)
      refine az_er 4 rfl ?_
      refine az_ecallF rfl rfl rfl rfl (ct_putI rfl rfl (show i < 4 by omega) (by decide)) ?_
      refine az_er 4 rfl ?_
      refine az_ecallF rfl rfl rfl rfl (ct_putI rfl rfl (show i < 4 by omega) (by decide)) ?_
      have hR := bx_K_p (v := v) hK9
      have hF2 : ∀ a, a ≠ 50 → a ≠ 51 → az_up (az_up hh 50 i (nI v)) 51 i (nI v) a = h a := fun a h1 h2 => by rw [az_up_o h2, az_up_o h1]; exact hF a h1 h2
      revert hR hF2
      generalize az_up (az_up hh 50 i (nI v)) 51 i (nI v) = h3
      intro hR hF2
      refine az_er 1 rfl ?_
      refine az_ecallF rfl rfl rfl rfl ((ct_hp hR hV2).eq (by rw [pl_d_f hp]) rfl) ?_
      refine az_if_eq rfl rfl (fun c59 => ?_) (fun c59 => absurd rfl c59)
      refine az_er 2 rfl ?_
      refine ih (v + 1) _ _ (by omega) (by omega) (bx_K_u hR) hF2 (fun v' h1 h2 => ?_) (nI_1' v)
      rcases Nat.lt_or_eq_of_le (Nat.le_of_lt_succ h2) with q | q
      · exact hno v' h1 q
      · subst q; exact hnok
set_option maxRecDepth 100000 in
theorem lp_kf {sc : az_S} {h : az_H} {m : Nat} {lo hi : Nat → Nat} {g : Nat → Int} {fa tb w0 : Int} {wv : Int32} {P : (Nat → Nat) → Prop} (hr4 : h 49 4 = nI m) (hV : bx_V m lo hi g fa tb) (hw0 : -10000 ≤ w0 ∧ w0 ≤ 10000) (hP : bx_P m lo hi g fa tb w0 wv P) : ∀ (d i : Nat) (lo' hi' : Nat → Nat) (x : Int32) (tl : List Value) (hh : az_H), i ≤ m → m - i = d → x = nI i → bx_R m lo' hi' g fa tb w0 hh → (∀ a, a ≠ 50 → a ≠ 51 → hh a = h a) → bx_V m lo' hi' g fa tb → (∀ s, s < i → lo' s = hi' s) → (∀ s, s < m → lo s ≤ lo' s ∧ hi' s ≤ hi s) → (∀ s, i ≤ s → s < m → lo' s = lo s ∧ hi' s = hi s) → (∃ y, pl_bx m lo' hi' fa tb y ∧ P y) → (∀ y, pl_bx m lo hi fa tb y → P y → ¬ pl_lt i y lo') → (tl = [] ∨ ∃ a b, tl = [.int a, .int b]) → az_E sc az_m_X0_keepFirst 2 (.ref 49 :: .int wv :: .int x :: tl) [] hh (fun v h' => v = none ∧ ∃ x, pl_bx m lo hi fa tb x ∧ P x ∧ (∀ y, pl_bx m lo hi fa tb y → P y → ¬ pl_lt m y x) ∧ (∀ s, s < m → h' 50 s = nI (x s)) ∧ ∀ a, a ≠ 50 → a ≠ 51 → h' a = h a) := by
  have v1 := hV.1
  intro d
  induction d with
  | zero =>
    intro i lo' hi' x tl hh hi9 hd hx hR hF hVs heq hsub hst hex hmin htl
    subst hx
    refine az_er 3 rfl ?_
    rw [hR.1]
    refine az_ic_ge rfl rfl (fun c7 => ?_) (fun c7 => absurd (nI_le (by omega) (by omega)) c7)
    refine az_eret rfl rfl rfl ?_
    obtain rfl : i = m := by omega
    obtain ⟨x, hx, hPx⟩ := hex
    have e : ∀ s, s < i → x s = lo' s := fun s hs => by have h1 := hx.1 s hs; have h2 := heq s hs; omega
    exact ⟨rfl, lo', pl_bx_c e (pl_bx_s hsub hx), bx_P_c hP e hPx, hmin, fun s hs => (hR.2.2.2.2 s hs).1, hF⟩
  | succ d ih =>
    intro i lo' hi' x tl hh hi9 hd hx hR hF hVs heq hsub hst hex hmin htl
    subst hx
    have him : i < m := by omega
    rcases htl with rfl | ⟨a9, b9, rfl⟩
    · skip
      refine az_er 3 rfl ?_
      rw [hR.1]
      refine az_ic_ge rfl rfl (fun c7 => absurd c7 (nI_ge (show i < m by omega) (by omega))) (fun c7 => ?_)
      refine az_er 3 rfl ?_
      refine az_ecallF rfl rfl rfl rfl (ct_atI rfl rfl (show i < 4 by omega) (by decide) (hR.2.2.2.2 i him).2.1) ?_
      refine az_er 4 rfl ?_
      refine az_ecallF rfl rfl rfl rfl (ct_atI rfl rfl (show i < 4 by omega) (by decide) (hR.2.2.2.2 i him).1) ?_
      refine az_er 1 rfl ?_
      rw [(hst i (Nat.le_refl i) him).1, (hst i (Nat.le_refl i) him).2]
      refine lp_kf1 hV hw0 hP him hsub hVs (hst i (Nat.le_refl i) him) ?_ (fun v x h3 hv1 hv2 hR3 hF3 hok hno => ?_) (hi i + 1 - lo i) (lo i) _ hh (Nat.le_refl _) rfl (bx_K_R hR) hF (fun v' q1 q2 => absurd q1 (by omega)) rfl
      · obtain ⟨y, hy, hPy⟩ := hex
        have hyi := hy.1 i him
        rw [(hst i (Nat.le_refl i) him).1, (hst i (Nat.le_refl i) him).2] at hyi
        refine ⟨y i, hyi.1, hyi.2, y, ⟨fun s hs => ?_, hy.2⟩, hPy⟩
        by_cases q : s = i
        · subst q; rw [bx_u_s, bx_u_s]; exact ⟨Nat.le_refl _, Nat.le_refl _⟩
        · rw [bx_u_n q, bx_u_n q]; exact hy.1 s hs
      · skip
        refine az_er 2 rfl ?_
        refine ih (i + 1) (bx_u lo' i v) (bx_u hi' i v) _ _ h3 (by omega) (by omega) (nI_1' i) hR3 hF3 (bx_V_u hVs (by have := hV.2.2.2 i him; omega)) (fun s hs => ?_) (fun s hs => ?_) (fun s h1 hs => ?_) hok (fun y hy hPy hlt => ?_) (Or.inr ⟨_, _, rfl⟩)
        · by_cases q : s = i
          · subst q; rw [bx_u_s, bx_u_s]
          · rw [bx_u_n q, bx_u_n q]; exact heq s (by omega)
        · by_cases q : s = i
          · subst q; rw [bx_u_s, bx_u_s]; exact ⟨hv1, hv2⟩
          · rw [bx_u_n q, bx_u_n q]; exact hsub s hs
        · rw [bx_u_n (by omega), bx_u_n (by omega)]; exact hst s (by omega) hs
        · rcases hlt with hlt | ⟨he9, hl9⟩
          · exact hmin y hy hPy (pl_lt_c i (fun _ _ => rfl) (fun s hs => bx_u_n (by omega)) hlt)
          · rw [bx_u_s] at hl9
            have hyi := hy.1 i him
            refine hno (y i) hyi.1 hl9 ⟨y, ⟨fun s hs => ?_, hy.2⟩, hPy⟩
            by_cases q : s = i
            · subst q; rw [bx_u_s, bx_u_s]; exact ⟨Nat.le_refl _, Nat.le_refl _⟩
            · rw [bx_u_n q, bx_u_n q]
              by_cases q2 : s < i
              · have h7 := he9 s q2
                have h8 := heq s q2
                rw [bx_u_n q] at h7
                omega
              · have h7 := hst s (by omega) hs
                have h8 := hy.1 s hs
                omega
    · skip
      refine az_er 3 rfl ?_
      rw [hR.1]
      refine az_ic_ge rfl rfl (fun c7 => absurd c7 (nI_ge (show i < m by omega) (by omega))) (fun c7 => ?_)
      refine az_er 3 rfl ?_
      refine az_ecallF rfl rfl rfl rfl (ct_atI rfl rfl (show i < 4 by omega) (by decide) (hR.2.2.2.2 i him).2.1) ?_
      refine az_er 4 rfl ?_
      refine az_ecallF rfl rfl rfl rfl (ct_atI rfl rfl (show i < 4 by omega) (by decide) (hR.2.2.2.2 i him).1) ?_
      refine az_er 1 rfl ?_
      rw [(hst i (Nat.le_refl i) him).1, (hst i (Nat.le_refl i) him).2]
      refine lp_kf1 hV hw0 hP him hsub hVs (hst i (Nat.le_refl i) him) ?_ (fun v x h3 hv1 hv2 hR3 hF3 hok hno => ?_) (hi i + 1 - lo i) (lo i) _ hh (Nat.le_refl _) rfl (bx_K_R hR) hF (fun v' q1 q2 => absurd q1 (by omega)) rfl
      · obtain ⟨y, hy, hPy⟩ := hex
        have hyi := hy.1 i him
        rw [(hst i (Nat.le_refl i) him).1, (hst i (Nat.le_refl i) him).2] at hyi
        refine ⟨y i, hyi.1, hyi.2, y, ⟨fun s hs => ?_, hy.2⟩, hPy⟩
        by_cases q : s = i
        · subst q; rw [bx_u_s, bx_u_s]; exact ⟨Nat.le_refl _, Nat.le_refl _⟩
        · rw [bx_u_n q, bx_u_n q]; exact hy.1 s hs
      · skip
        refine az_er 2 rfl ?_
        refine ih (i + 1) (bx_u lo' i v) (bx_u hi' i v) _ _ h3 (by omega) (by omega) (nI_1' i) hR3 hF3 (bx_V_u hVs (by have := hV.2.2.2 i him; omega)) (fun s hs => ?_) (fun s hs => ?_) (fun s h1 hs => ?_) hok (fun y hy hPy hlt => ?_) (Or.inr ⟨_, _, rfl⟩)
        · by_cases q : s = i
          · subst q; rw [bx_u_s, bx_u_s]
          · rw [bx_u_n q, bx_u_n q]; exact heq s (by omega)
        · by_cases q : s = i
          · subst q; rw [bx_u_s, bx_u_s]; exact ⟨hv1, hv2⟩
          · rw [bx_u_n q, bx_u_n q]; exact hsub s hs
        · rw [bx_u_n (by omega), bx_u_n (by omega)]; exact hst s (by omega) hs
        · rcases hlt with hlt | ⟨he9, hl9⟩
          · exact hmin y hy hPy (pl_lt_c i (fun _ _ => rfl) (fun s hs => bx_u_n (by omega)) hlt)
          · rw [bx_u_s] at hl9
            have hyi := hy.1 i him
            refine hno (y i) hyi.1 hl9 ⟨y, ⟨fun s hs => ?_, hy.2⟩, hPy⟩
            by_cases q : s = i
            · subst q; rw [bx_u_s, bx_u_s]; exact ⟨Nat.le_refl _, Nat.le_refl _⟩
            · rw [bx_u_n q, bx_u_n q]
              by_cases q2 : s < i
              · have h7 := he9 s q2
                have h8 := heq s q2
                rw [bx_u_n q] at h7
                omega
              · have h7 := hst s (by omega) hs
                have h8 := hy.1 s hs
                omega
set_option maxRecDepth 100000 in
theorem ct_keep {sc : az_S} {h : az_H} {m : Nat} {lo hi : Nat → Nat} {g : Nat → Int} {fa tb w0 : Int} {wv : Int32} {P : (Nat → Nat) → Prop} (hB : bx_R m lo hi g fa tb w0 h) (hV : bx_V m lo hi g fa tb) (hw0 : -10000 ≤ w0 ∧ w0 ≤ 10000) (hP : bx_P m lo hi g fa tb w0 wv P) (hex : ∃ y, pl_bx m lo hi fa tb y ∧ P y) : az_E sc az_m_X0_keepFirst 0 [.ref 49, .int wv] [] h (fun v h' => v = none ∧ ∃ x, pl_bx m lo hi fa tb x ∧ P x ∧ (∀ y, pl_bx m lo hi fa tb y → P y → ¬ pl_lt m y x) ∧ (∀ s, s < m → h' 50 s = nI (x s)) ∧ ∀ a, a ≠ 50 → a ≠ 51 → h' a = h a) := by
  refine az_er 2 rfl ?_
  exact lp_kf hB.1 hV hw0 hP m 0 lo hi _ [] h (by omega) (by omega) rfl hB (fun _ _ _ => rfl) hV (fun s hs => absurd hs (Nat.not_lt_zero s)) (fun s _ => ⟨Nat.le_refl _, Nat.le_refl _⟩) (fun s _ _ => ⟨rfl, rfl⟩) hex (fun y _ _ hl => hl) (Or.inl rfl)
