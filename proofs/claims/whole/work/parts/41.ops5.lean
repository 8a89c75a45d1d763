/-! THE CALLS ON PLANS, both sides -/
theorem rt_C_So {σ : rt_S} {h : az_H} (hC : rt_C σ h) : rt_So σ.1 h := ⟨hC.1.1.2.2.2.1, fun i hi => ⟨(hC.1.2.1 i hi).1, (hC.1.2.1 i hi).2.2.2.1, (hC.1.2.1 i hi).2.2.2.2.1, (hC.1.2.1 i hi).2.2.2.2.2⟩⟩
theorem rt_C_p {σ : rt_S} {h h' : az_H} (hC : rt_C σ h) (hF : ∀ a, (a < 48 ∨ 54 < a) → h' a = h a) : rt_C σ h' := rt_C_F hC ⟨fun a _ _ _ s => hF a (by omega), fun j _ _ => by rw [hF 1 (by omega)]⟩
theorem rt_R_p {σ : rt_S} {h h' : az_H} (hR : rt_R σ h) (hF : gt_F h h') : rt_R σ h' := rt_R_G hR ⟨fun a p q r => hF.1 a p (by omega) (by omega), fun j hj => hF.2 j (by omega)⟩
theorem rt_R_P {σ : rt_S} {h h' : az_H} (hR : rt_R σ h) (hM : rt_M 61 σ.1 h') (hF : ∀ a, a ≠ 59 → a ≠ 61 → a ≠ 71 → a ≠ 72 → h' a = h a) (hf : ∀ j, (j < 18 ∨ 23 < j) → h' 59 j = h 59 j) : rt_R σ h' := by
  obtain ⟨t, k, kt, l, r, f⟩ := hR
  exact ⟨hM, by rw [hf 4 (by omega)]; exact k, fun q => rt_M_h (kt q) (hF 62 (by omega) (by omega) (by omega) (by omega)), by rw [hf 6 (by omega), hF 64 (by omega) (by omega) (by omega) (by omega)]; exact l, by rw [hf 26 (by omega), hF 74 (by omega) (by omega) (by omega) (by omega)]; exact r, by rw [hF 60 (by omega) (by omega) (by omega) (by omega)]; exact f⟩
theorem rt_V_chp {p : Nat} {τ : Nat → Nat} (hV : rt_V τ) (hp : p ≤ 60) : rt_V (fun i => if i = 2 then p else τ i) := by
  obtain ⟨h0, h1, h2, h4, h5, hs, hs2, hr, hr2, hw⟩ := hV
  refine ⟨h0, h1, hp, h4, h5, fun s h9 => ?_, fun s h9 => ?_, fun r h9 => ?_, fun r h9 => ?_, fun w h9 => ?_⟩
  · simp only [if_neg (show 10 + 6 * s ≠ 2 by omega), if_neg (show 11 + 6 * s ≠ 2 by omega), if_neg (show 12 + 6 * s ≠ 2 by omega), if_neg (show 13 + 6 * s ≠ 2 by omega), if_neg (show 14 + 6 * s ≠ 2 by omega), if_neg (show 15 + 6 * s ≠ 2 by omega)]; exact hs s h9
  · simp only [if_neg (show 10 + 6 * s ≠ 2 by omega), if_neg (show 11 + 6 * s ≠ 2 by omega), if_neg (show 12 + 6 * s ≠ 2 by omega)]; exact hs2 s h9
  · simp only [if_neg (show 40 + 3 * r ≠ 2 by omega), if_neg (show 41 + 3 * r ≠ 2 by omega)]; exact hr r h9
  · simp only [if_neg (show 41 + 3 * r ≠ 2 by omega)]; exact hr2 r h9
  · simp only [if_neg (show 60 + w ≠ 2 by omega)]; exact hw w h9
theorem rt_So_c {τ τ2 : Nat → Nat} {h : az_H} (hS : rt_So τ h) (e : ∀ j, j ≠ 2 → j ≠ 5 → τ2 j = τ j) : rt_So τ2 h := by
  refine ⟨by rw [e 0 (by decide) (by decide)]; exact hS.1, fun i hi => ?_⟩
  rw [e (10 + 6 * i) (by omega) (by omega), e (13 + 6 * i) (by omega) (by omega), e (14 + 6 * i) (by omega) (by omega), e (15 + 6 * i) (by omega) (by omega)]
  exact hS.2 i hi
/-- the values as functions -/
noncomputable def vl_z (τ : Nat → Nat) : Option Int := @dite _ (∃ z, vl_r τ z) (Classical.propDecidable _) (fun h => some (Classical.choose h)) (fun _ => none)
noncomputable def vl_p (τ : Nat → Nat) : Option Int := @dite _ (∃ j, vl_f τ j) (Classical.propDecidable _) (fun h => some (pl_sn (pX τ (Classical.choose h)) (τ 0) : Int)) (fun _ => none)
theorem vl_z_n {τ : Nat → Nat} (h : vl_n τ) : vl_z τ = none := by
  unfold vl_z
  exact dif_neg (fun ⟨z, ⟨j, j1, j2, _⟩, _⟩ => h j j1 j2)
theorem vl_z_r {τ : Nat → Nat} {z : Int} (h : vl_r τ z) : vl_z τ = some z := by
  unfold vl_z
  have hx : ∃ z, vl_r τ z := ⟨z, h⟩
  rw [dif_pos hx]
  exact congrArg some (vl_r_u (Classical.choose_spec hx) h)
theorem vl_p_n {τ : Nat → Nat} (h : vl_n τ) : vl_p τ = none := by
  unfold vl_p
  exact dif_neg (fun ⟨j, j1, j2, _⟩ => h j j1 j2)
theorem vl_p_f {τ : Nat → Nat} {j : Nat} (h : vl_f τ j) : vl_p τ = some (pl_sn (pX τ j) (τ 0) : Int) := by
  unfold vl_p
  have hx : ∃ j, vl_f τ j := ⟨j, h⟩
  rw [dif_pos hx, vl_f_u (Classical.choose_spec hx) h]
/-- through v: where the greatest is, and how great -/
def pn_s (f : Nat → Option Int) : Nat → Option (Nat × Int)
  | 0 => none
  | v + 1 => match f v with
    | none => pn_s f v
    | some z => match pn_s f v with
      | none => some (v, z)
      | some (b, y) => if y < z then some (v, z) else some (b, y)
theorem pn_s_n {f : Nat → Option Int} {v : Nat} (h : f v = none) : pn_s f (v + 1) = pn_s f v := by rw [pn_s, h]
theorem pn_s_0 {f : Nat → Option Int} {v : Nat} {z : Int} (h : f v = some z) (h2 : pn_s f v = none) : pn_s f (v + 1) = some (v, z) := by rw [pn_s, h, h2]
theorem pn_s_s {f : Nat → Option Int} {v b : Nat} {z y : Int} (h : f v = some z) (h2 : pn_s f v = some (b, y)) : pn_s f (v + 1) = if y < z then some (v, z) else some (b, y) := by rw [pn_s, h, h2]
theorem pn_s_b {f : Nat → Option Int} {B : Int} (hB : ∀ v z, f v = some z → -B ≤ z ∧ z ≤ B) : ∀ v b y, pn_s f v = some (b, y) → b < v ∧ -B ≤ y ∧ y ≤ B
  | 0, b, y, h => by cases h
  | v + 1, b, y, h => by
    cases hf : f v with
    | none =>
      rw [pn_s_n hf] at h
      have := pn_s_b hB v b y h
      exact ⟨by omega, this.2⟩
    | some z =>
      have hz := hB v z hf
      cases hp : pn_s f v with
      | none =>
        rw [pn_s_0 hf hp] at h
        cases h
        exact ⟨by omega, hz⟩
      | some q =>
        obtain ⟨b2, y2⟩ := q
        rw [pn_s_s hf hp] at h
        have h9 := pn_s_b hB v b2 y2 hp
        by_cases hlt : y2 < z
        · rw [if_pos hlt] at h; cases h; exact ⟨by omega, hz⟩
        · rw [if_neg hlt] at h; cases h; exact ⟨by omega, h9.2⟩
def pn_b : Option (Nat × Int) → Int32
  | none => -9
  | some q => nI q.1
def pn_y (d : Int32) : Option (Nat × Int) → Int32
  | none => d
  | some q => iI q.2
theorem vl_z_b {τ : Nat → Nat} (hV : rt_V τ) {z : Int} (h : vl_z τ = some z) : -2000 ≤ z ∧ z ≤ 2000 := by
  rcases vl_ex τ with hn | ⟨-, z2, hz⟩
  · rw [vl_z_n hn] at h; cases h
  · rw [vl_z_r hz] at h
    cases h
    obtain ⟨⟨j, _, _, e⟩, -⟩ := hz
    rw [← e]
    exact pX_b hV j
theorem vl_p_b {τ : Nat → Nat} (hV : rt_V τ) {z : Int} (h : vl_p τ = some z) : 0 ≤ z ∧ z ≤ 36 := by
  rcases vl_ex τ with hn | ⟨⟨j, hj⟩, -⟩
  · rw [vl_p_n hn] at h; cases h
  · rw [vl_p_f hj] at h
    cases h
    have := pX_36 hV (k := j)
    omega
set_option maxRecDepth 100000 in
theorem op_rests  : rt_op az_m_X7_rests az_m_X8_rests [] := by
  intro sc σ h hC hW
  have hS := rt_C_So hC
  have c3 : h 1 3 = nI (σ.1 2) := hC.1.1.1
  have c4 : h 1 4 = nI (σ.1 5) := hC.1.1.2.1
  have h04 := hW.1.1
  refine ⟨nI (ra_n σ.1 (pW σ.1)), σ, hW, ?_, ?_⟩
  · refine az_er 11 rfl ?_
    rw [c3, c4]
    refine az_ecall rfl rfl rfl rfl (ct_rp hS hW.1) ?_
    rintro _ h2 ⟨rfl, fF⟩
    refine az_eret rfl rfl rfl ?_
    exact ⟨by rw [ra_sum hW.1], rt_C_p hC fF, fun a ha => fF a (by omega)⟩
  · intro h1 hR
    refine az_er 1 rfl ?_
    refine az_ecall rfl rfl rfl rfl (cm_gt hR.1 hW.1 (pX_b hW.1)) ?_
    rintro _ h2 ⟨rfl, gB, gR, gF⟩
    refine az_er 2 rfl ?_
    refine az_eret rfl rfl rfl ?_
    exact ⟨by rw [gR.1], rt_R_p hR gF, fun a ha => gF.1 a (by omega) (by omega) (by omega)⟩
set_option maxRecDepth 100000 in
theorem op_rest {x : Int32} : rt_op az_m_X7_rest az_m_X8_rest [.int x] := by
  intro sc σ h hC hW
  have hS := rt_C_So hC
  have c3 : h 1 3 = nI (σ.1 2) := hC.1.1.1
  have c4 : h 1 4 = nI (σ.1 5) := hC.1.1.2.1
  have h04 := hW.1.1
  rcases Classical.em (x = -1) with hm | hm
  · subst hm
    rcases vl_ex σ.1 with hn | ⟨⟨j0, hj0⟩, z0, hz0⟩
    · skip
      refine ⟨-9, σ, hW, ?_, ?_⟩
      · refine az_er 2 rfl ?_
        refine az_ic_eq rfl rfl (fun c2 => ?_) (fun c2 => absurd rfl c2)
        refine az_er 11 rfl ?_
        rw [c3, c4]
        refine az_ecall rfl rfl rfl rfl (ct_ffr hS hW.1) ?_
        rintro _ h2 ⟨rfl, fI, fF⟩
        rw [(fs_v hW.1 fI).1 hn]
        refine az_if_ne rfl rfl (fun c53 => absurd rfl c53) (fun c53 => ?_)
        refine az_er 1 rfl ?_
        refine az_eret rfl rfl rfl ?_
        exact ⟨rfl, rt_C_p hC fF, fun a ha => fF a (by omega)⟩
      · intro h1 hR
        refine az_er 2 rfl ?_
        refine az_ic_lt rfl rfl (fun c2 => absurd c2 (by decide)) (fun c2 => ?_)
        refine az_er 4 rfl ?_
        refine az_iaI rfl rfl (j := 0) (show Int32.ofInt 0 = nI 0 from rfl) (by decide) (by decide) (hR.1 0 (by decide)) ?_
        refine az_ic_lt rfl rfl (fun c12 => ?_) (fun c12 => absurd (by rw [Int32.lt_iff_toInt_lt, nI_toInt (by omega)]; show (-1 : Int) < _; omega) c12)
        refine az_er 1 rfl ?_
        refine az_ecall rfl rfl rfl rfl (cm_gt hR.1 hW.1 (pX_b hW.1)) ?_
        rintro _ h2 ⟨rfl, gB, gR, gF⟩
        refine az_er 2 rfl ?_
        rw [gt_R_0 gR hn]
        refine az_if_ne rfl rfl (fun c29 => absurd rfl c29) (fun c29 => ?_)
        refine az_er 2 rfl ?_
        refine az_eret rfl rfl rfl ?_
        exact ⟨rfl, rt_R_p hR gF, fun a ha => gF.1 a (by omega) (by omega) (by omega)⟩
    · skip
      refine ⟨nI (pl_sn (pX σ.1 j0) (σ.1 0)), σ, hW, ?_, ?_⟩
      · refine az_er 2 rfl ?_
        refine az_ic_eq rfl rfl (fun c2 => ?_) (fun c2 => absurd rfl c2)
        refine az_er 11 rfl ?_
        rw [c3, c4]
        refine az_ecall rfl rfl rfl rfl (ct_ffr hS hW.1) ?_
        rintro _ h2 ⟨rfl, fI, fF⟩
        have v1 := (fs_v hW.1 fI).2 _ hj0
        rw [v1.1]
        refine az_if_ne rfl rfl (fun c53 => ?_) (fun c53 => absurd c53 (by decide))
        refine az_er 2 rfl ?_
        refine az_ic_ne rfl rfl (fun c61 => absurd rfl c61) (fun c61 => ?_)
        refine az_er 2 rfl ?_
        refine az_ecallF rfl rfl rfl rfl (ct_pof v1.2.1 h04 v1.2.2) ?_
        refine az_er 1 rfl ?_
        refine az_eret rfl rfl rfl ?_
        exact ⟨rfl, rt_C_p hC fF, fun a ha => fF a (by omega)⟩
      · intro h1 hR
        refine az_er 2 rfl ?_
        refine az_ic_lt rfl rfl (fun c2 => absurd c2 (by decide)) (fun c2 => ?_)
        refine az_er 4 rfl ?_
        refine az_iaI rfl rfl (j := 0) (show Int32.ofInt 0 = nI 0 from rfl) (by decide) (by decide) (hR.1 0 (by decide)) ?_
        refine az_ic_lt rfl rfl (fun c12 => ?_) (fun c12 => absurd (by rw [Int32.lt_iff_toInt_lt, nI_toInt (by omega)]; show (-1 : Int) < _; omega) c12)
        refine az_er 1 rfl ?_
        refine az_ecall rfl rfl rfl rfl (cm_gt hR.1 hW.1 (pX_b hW.1)) ?_
        rintro _ h2 ⟨rfl, gB, gR, gF⟩
        refine az_er 2 rfl ?_
        obtain ⟨⟨n9, n1, n2, e18⟩, e20, e72, e19⟩ := gt_R_v hW.1 gR hj0 hz0
        rw [e18]
        refine az_if_ne rfl rfl (fun c29 => ?_) (fun c29 => absurd c29 (nI_ne0 (by omega) (by omega)))
        refine az_er 1 rfl ?_
        refine az_if_ge rfl rfl (fun c38 => absurd c38 (by decide)) (fun c38 => ?_)
        refine az_er 3 rfl ?_
        refine az_eret rfl rfl rfl ?_
        exact ⟨by rw [e20], rt_R_p hR gF, fun a ha => gF.1 a (by omega) (by omega) (by omega)⟩
  · rcases rt_has (x := x) (n := σ.1 0) (by omega) with hs | ⟨j, hj, rfl⟩
    · skip
      refine ⟨-1, sp_ref σ 1, hW, ?_, ?_⟩
      · refine az_er 2 rfl ?_
        refine az_ic_eq rfl rfl (fun c2 => absurd c2 hm) (fun c2 => ?_)
        refine az_er 4 rfl ?_
        refine az_ecallF rfl rfl rfl rfl ((ct_X4has_1 hC.1 hW.1).eq (by rw [rt_hasN hs]) rfl) ?_
        refine az_if_ne rfl rfl (fun c16 => absurd rfl c16) (fun c16 => ?_)
        refine az_er 2 rfl ?_
        refine az_ecall rfl rfl rfl rfl (ct_refuse hC (k := 1) (by decide) (by decide)) ?_
        rintro _ hh ⟨rfl, hh2, hh3⟩
        refine az_eret rfl rfl rfl ?_
        exact ⟨rfl, hh2, hh3⟩
      · intro h1 hR
        refine az_er 2 rfl ?_
        refine az_ic_lt rfl rfl (fun c2 => ?_) (fun c2 => ?_)
        · refine az_er 2 rfl ?_
          refine az_ecall rfl rfl rfl rfl (cm_no hR (k := 1) (by decide) (by decide)) ?_
          rintro _ hh ⟨rfl, hh2, hh3⟩
          refine az_eret rfl rfl rfl ?_
          exact ⟨rfl, hh2, hh3⟩
        · refine az_er 4 rfl ?_
          refine az_iaI rfl rfl (j := 0) (show Int32.ofInt 0 = nI 0 from rfl) (by decide) (by decide) (hR.1 0 (by decide)) ?_
          refine az_ic_lt rfl rfl (fun c12 => absurd c12 (Int32.not_lt.mpr (hs.resolve_left (fun q => absurd (rt_lt_m1 q hm) c2)))) (fun c12 => ?_)
          refine az_er 2 rfl ?_
          refine az_ecall rfl rfl rfl rfl (cm_no hR (k := 1) (by decide) (by decide)) ?_
          rintro _ hh ⟨rfl, hh2, hh3⟩
          refine az_eret rfl rfl rfl ?_
          exact ⟨rfl, hh2, hh3⟩
    · skip
      rcases vl_ex σ.1 with hn | ⟨⟨j0, hj0⟩, z0, hz0⟩
      · skip
        refine ⟨-9, σ, hW, ?_, ?_⟩
        · refine az_er 2 rfl ?_
          refine az_ic_eq rfl rfl (fun c2 => absurd c2 hm) (fun c2 => ?_)
          refine az_er 4 rfl ?_
          refine az_ecallF rfl rfl rfl rfl ((ct_X4has_1 hC.1 hW.1).eq (by rw [rt_hasY hj (by have := hW.1.1; omega)]) rfl) ?_
          refine az_if_ne rfl rfl (fun c16 => ?_) (fun c16 => absurd c16 (by decide))
          refine az_er 11 rfl ?_
          rw [c3, c4]
          refine az_ecall rfl rfl rfl rfl (ct_ffr hS hW.1) ?_
          rintro _ h2 ⟨rfl, fI, fF⟩
          rw [(fs_v hW.1 fI).1 hn]
          refine az_if_ne rfl rfl (fun c53 => absurd rfl c53) (fun c53 => ?_)
          refine az_er 1 rfl ?_
          refine az_eret rfl rfl rfl ?_
          exact ⟨rfl, rt_C_p hC fF, fun a ha => fF a (by omega)⟩
        · intro h1 hR
          refine az_er 2 rfl ?_
          refine az_ic_lt rfl rfl (fun c2 => absurd (Int32.lt_trans c2 (by decide)) (nI_pos (by omega))) (fun c2 => ?_)
          refine az_er 4 rfl ?_
          refine az_iaI rfl rfl (j := 0) (show Int32.ofInt 0 = nI 0 from rfl) (by decide) (by decide) (hR.1 0 (by decide)) ?_
          refine az_ic_lt rfl rfl (fun c12 => ?_) (fun c12 => absurd ((nI_ltI (by omega) (by omega)).mpr hj) c12)
          refine az_er 1 rfl ?_
          refine az_ecall rfl rfl rfl rfl (cm_gt hR.1 hW.1 (pX_b hW.1)) ?_
          rintro _ h2 ⟨rfl, gB, gR, gF⟩
          refine az_er 2 rfl ?_
          rw [gt_R_0 gR hn]
          refine az_if_ne rfl rfl (fun c29 => absurd rfl c29) (fun c29 => ?_)
          refine az_er 2 rfl ?_
          refine az_eret rfl rfl rfl ?_
          exact ⟨rfl, rt_R_p hR gF, fun a ha => gF.1 a (by omega) (by omega) (by omega)⟩
      · skip
        refine ⟨nI (pX σ.1 j0 j), σ, hW, ?_, ?_⟩
        · refine az_er 2 rfl ?_
          refine az_ic_eq rfl rfl (fun c2 => absurd c2 hm) (fun c2 => ?_)
          refine az_er 4 rfl ?_
          refine az_ecallF rfl rfl rfl rfl ((ct_X4has_1 hC.1 hW.1).eq (by rw [rt_hasY hj (by have := hW.1.1; omega)]) rfl) ?_
          refine az_if_ne rfl rfl (fun c16 => ?_) (fun c16 => absurd c16 (by decide))
          refine az_er 11 rfl ?_
          rw [c3, c4]
          refine az_ecall rfl rfl rfl rfl (ct_ffr hS hW.1) ?_
          rintro _ h2 ⟨rfl, fI, fF⟩
          have v1 := (fs_v hW.1 fI).2 _ hj0
          rw [v1.1]
          refine az_if_ne rfl rfl (fun c53 => ?_) (fun c53 => absurd c53 (by decide))
          refine az_er 2 rfl ?_
          refine az_ic_ne rfl rfl (fun c61 => ?_) (fun c61 => absurd c61 hm)
          refine az_er 4 rfl ?_
          refine az_ecallF rfl rfl rfl rfl (ct_atI rfl rfl (show j < 4 by omega) (by decide) (v1.2.2 j hj).1) ?_
          refine az_eret rfl rfl rfl ?_
          exact ⟨rfl, rt_C_p hC fF, fun a ha => fF a (by omega)⟩
        · intro h1 hR
          refine az_er 2 rfl ?_
          refine az_ic_lt rfl rfl (fun c2 => absurd (Int32.lt_trans c2 (by decide)) (nI_pos (by omega))) (fun c2 => ?_)
          refine az_er 4 rfl ?_
          refine az_iaI rfl rfl (j := 0) (show Int32.ofInt 0 = nI 0 from rfl) (by decide) (by decide) (hR.1 0 (by decide)) ?_
          refine az_ic_lt rfl rfl (fun c12 => ?_) (fun c12 => absurd ((nI_ltI (by omega) (by omega)).mpr hj) c12)
          refine az_er 1 rfl ?_
          refine az_ecall rfl rfl rfl rfl (cm_gt hR.1 hW.1 (pX_b hW.1)) ?_
          rintro _ h2 ⟨rfl, gB, gR, gF⟩
          refine az_er 2 rfl ?_
          obtain ⟨⟨n9, n1, n2, e18⟩, e20, e72, e19⟩ := gt_R_v hW.1 gR hj0 hz0
          rw [e18]
          refine az_if_ne rfl rfl (fun c29 => ?_) (fun c29 => absurd c29 (nI_ne0 (by omega) (by omega)))
          refine az_er 1 rfl ?_
          refine az_if_ge rfl rfl (fun c38 => ?_) (fun c38 => absurd (nI_pos' (by omega)) c38)
          refine az_er 3 rfl ?_
          refine az_iaI rfl rfl rfl (show j < 4 by omega) (by decide) (e72 j (by omega)) ?_
          refine az_eret rfl rfl rfl ?_
          exact ⟨rfl, rt_R_p hR gF, fun a ha => gF.1 a (by omega) (by omega) (by omega)⟩
theorem best_no {x : Int32} (h0 : ¬ x = 0) (h1 : ¬ x = 1) (c1 : ¬ x < 0) (c6 : x ≤ Int32.ofInt 1) : False := by
  obtain ⟨j, hj, rfl⟩ := rt_nat (m := 1) (Int32.not_lt.mp c1) c6 (by decide)
  rcases (show j = 0 ∨ j = 1 by omega) with rfl | rfl
  · exact h0 rfl
  · exact h1 rfl
set_option maxRecDepth 100000 in
theorem op_best {x : Int32} : rt_op az_m_X7_best az_m_X8_best [.int x] := by
  intro sc σ h hC hW
  have hS := rt_C_So hC
  have c3 : h 1 3 = nI (σ.1 2) := hC.1.1.1
  have c4 : h 1 4 = nI (σ.1 5) := hC.1.1.2.1
  have h04 := hW.1.1
  obtain ⟨jb, hjb⟩ := vl_b_ex σ.1
  rcases Classical.em (x = 0) with hx0 | hx0
  · subst hx0
    refine ⟨iI (pw σ.1 (pX σ.1 jb)), σ, hW, ?_, ?_⟩
    · refine az_er 1 rfl ?_
      refine az_if_ne rfl rfl (fun c1 => absurd rfl c1) (fun c1 => ?_)
      refine az_er 11 rfl ?_
      rw [c3, c4]
      refine az_ecall rfl rfl rfl rfl (ct_ball hS hW.1) ?_
      rintro _ h2 ⟨gr, rfl, gI, fF⟩
      refine az_eret rfl rfl rfl ?_
      exact ⟨by rw [gi_b hW.1 gI hjb], rt_C_p hC fF, fun a ha => fF a (by omega)⟩
    · intro h1 hR
      refine az_er 1 rfl ?_
      refine az_if_lt rfl rfl (fun c1 => absurd c1 (by decide)) (fun c1 => ?_)
      refine az_er 2 rfl ?_
      refine az_ic_le rfl rfl (fun c6 => ?_) (fun c6 => absurd (by decide) c6)
      refine az_er 1 rfl ?_
      refine az_ecall rfl rfl rfl rfl (cm_gt hR.1 hW.1 (pX_b hW.1)) ?_
      rintro _ h2 ⟨rfl, gB, gR, gF⟩
      refine az_er 1 rfl ?_
      refine az_if_ne rfl rfl (fun c24 => absurd rfl c24) (fun c24 => ?_)
      refine az_er 3 rfl ?_
      refine az_eret rfl rfl rfl ?_
      exact ⟨by rw [(gt_B_v gB hjb).1], rt_R_p hR gF, fun a ha => gF.1 a (by omega) (by omega) (by omega)⟩
  rcases Classical.em (x = 1) with hx1 | hx1
  · subst hx1
    refine ⟨nI (pl_sn (pX σ.1 jb) (σ.1 0)), σ, hW, ?_, ?_⟩
    · refine az_er 1 rfl ?_
      refine az_if_ne rfl rfl (fun c1 => ?_) (fun c1 => absurd c1 (by decide))
      refine az_er 2 rfl ?_
      refine az_ic_ne rfl rfl (fun c35 => absurd rfl c35) (fun c35 => ?_)
      refine az_er 11 rfl ?_
      rw [c3, c4]
      refine az_ecall rfl rfl rfl rfl (ct_ffb hS hW.1 ⟨_, (al3 hW.1).mpr (pX_le (k := 0))⟩) ?_
      rintro _ h2 ⟨rfl, z, hz, hat, hub, fI, fF⟩
      have v1 := fs_b hW.1 fI hat hub hjb
      refine az_er 2 rfl ?_
      refine az_ecallF rfl rfl rfl rfl (ct_pof v1.1 h04 v1.2) ?_
      refine az_eret rfl rfl rfl ?_
      exact ⟨rfl, rt_C_p hC fF, fun a ha => fF a (by omega)⟩
    · intro h1 hR
      refine az_er 1 rfl ?_
      refine az_if_lt rfl rfl (fun c1 => absurd c1 (by decide)) (fun c1 => ?_)
      refine az_er 2 rfl ?_
      refine az_ic_le rfl rfl (fun c6 => ?_) (fun c6 => absurd (by decide) c6)
      refine az_er 1 rfl ?_
      refine az_ecall rfl rfl rfl rfl (cm_gt hR.1 hW.1 (pX_b hW.1)) ?_
      rintro _ h2 ⟨rfl, gB, gR, gF⟩
      refine az_er 1 rfl ?_
      refine az_if_ne rfl rfl (fun c24 => ?_) (fun c24 => absurd c24 (by decide))
      refine az_er 2 rfl ?_
      refine az_eret rfl rfl rfl ?_
      exact ⟨by rw [(gt_B_v gB hjb).2], rt_R_p hR gF, fun a ha => gF.1 a (by omega) (by omega) (by omega)⟩
  · skip
    refine ⟨1000000000 - -2, sp_ref σ 2, hW, ?_, ?_⟩
    · refine az_er 1 rfl ?_
      refine az_if_ne rfl rfl (fun c1 => ?_) (fun c1 => absurd c1 hx0)
      refine az_er 2 rfl ?_
      refine az_ic_ne rfl rfl (fun c35 => ?_) (fun c35 => absurd c35 hx1)
      refine az_er 2 rfl ?_
      refine az_ecall rfl rfl rfl rfl (ct_refuseW hC (k := 2) (by decide) (by decide)) ?_
      rintro _ hh ⟨rfl, hh2, hh3⟩
      refine az_eret rfl rfl rfl ?_
      exact ⟨rfl, hh2, hh3⟩
    · intro h1 hR
      refine az_er 1 rfl ?_
      refine az_if_lt rfl rfl (fun c1 => ?_) (fun c1 => ?_)
      · refine az_er 3 rfl ?_
        refine az_ecall rfl rfl rfl rfl (cm_no hR (k := 2) (by decide) (by decide)) ?_
        rintro _ hh ⟨rfl, hh2, hh3⟩
        refine az_er 1 rfl ?_
        refine az_eret rfl rfl rfl ?_
        exact ⟨rfl, hh2, hh3⟩
      · refine az_er 2 rfl ?_
        refine az_ic_le rfl rfl (fun c6 => (best_no hx0 hx1 c1 c6).elim) (fun c6 => ?_)
        refine az_er 3 rfl ?_
        refine az_ecall rfl rfl rfl rfl (cm_no hR (k := 2) (by decide) (by decide)) ?_
        rintro _ hh ⟨rfl, hh2, hh3⟩
        refine az_er 1 rfl ?_
        refine az_eret rfl rfl rfl ?_
        exact ⟨rfl, hh2, hh3⟩
set_option maxRecDepth 100000 in
theorem op_off  : rt_op az_m_X7_off az_m_X8_off [] := by
  intro sc σ h hC hW
  have hS := rt_C_So hC
  have c3 : h 1 3 = nI (σ.1 2) := hC.1.1.1
  have c4 : h 1 4 = nI (σ.1 5) := hC.1.1.2.1
  have h04 := hW.1.1
  obtain ⟨jb, hjb⟩ := vl_b_ex σ.1
  rcases vl_ex σ.1 with hn | ⟨⟨j0, hj0⟩, z0, hz0⟩
  · skip
    refine ⟨-9, σ, hW, ?_, ?_⟩
    · refine az_er 11 rfl ?_
      rw [c3, c4]
      refine az_ecall rfl rfl rfl rfl (ct_bre hS hW.1) ?_
      rintro _ h2 ⟨gr, rfl, gI, fF⟩
      refine az_er 3 rfl ?_
      rw [(gi_r hW.1 gI).1 hn]
      refine az_ic_ne rfl rfl (fun c32 => absurd rfl c32) (fun c32 => ?_)
      refine az_er 1 rfl ?_
      refine az_eret rfl rfl rfl ?_
      exact ⟨rfl, rt_C_p hC fF, fun a ha => fF a (by omega)⟩
    · intro h1 hR
      refine az_er 1 rfl ?_
      refine az_ecall rfl rfl rfl rfl (cm_gt hR.1 hW.1 (pX_b hW.1)) ?_
      rintro _ h2 ⟨rfl, gB, gR, gF⟩
      refine az_er 2 rfl ?_
      rw [gt_R_0 gR hn]
      refine az_if_ne rfl rfl (fun c8 => absurd rfl c8) (fun c8 => ?_)
      refine az_er 2 rfl ?_
      refine az_eret rfl rfl rfl ?_
      exact ⟨rfl, rt_R_p hR gF, fun a ha => gF.1 a (by omega) (by omega) (by omega)⟩
  · skip
    refine ⟨iI (pw σ.1 (pX σ.1 jb)) - iI z0, σ, hW, ?_, ?_⟩
    · refine az_er 11 rfl ?_
      rw [c3, c4]
      refine az_ecall rfl rfl rfl rfl (ct_bre hS hW.1) ?_
      rintro _ h2 ⟨gr, rfl, gI, fF⟩
      refine az_er 3 rfl ?_
      have e9 := (gi_r hW.1 gI).2 z0 hz0
      rw [e9.1]
      refine az_ic_ne rfl rfl (fun c32 => ?_) (fun c32 => absurd ((no_w ▸ c32 : iI z0 = iI (-1000000000))) (fun q => by have := (iI_eq (by omega) (by omega)).mp q; omega))
      refine az_er 11 rfl ?_
      rw [fF 1 (by omega), c3, c4]
      refine az_ecall rfl rfl rfl rfl (ct_ball (rt_So_e hS (fun a ha => fF a (by omega))) hW.1) ?_
      rintro _ h3 ⟨gr2, rfl, gI2, fF2⟩
      have fF3 : ∀ a, (a < 48 ∨ 54 < a) → h3 a = h a := fun a ha => (fF2 a ha).trans (fF a ha)
      refine az_er 2 rfl ?_
      refine az_eret rfl rfl rfl ?_
      exact ⟨by rw [gi_b hW.1 gI2 hjb], rt_C_p hC fF3, fun a ha => fF3 a (by omega)⟩
    · intro h1 hR
      refine az_er 1 rfl ?_
      refine az_ecall rfl rfl rfl rfl (cm_gt hR.1 hW.1 (pX_b hW.1)) ?_
      rintro _ h2 ⟨rfl, gB, gR, gF⟩
      refine az_er 2 rfl ?_
      obtain ⟨⟨n9, n1, n2, e18⟩, e20, e72, e19⟩ := gt_R_v hW.1 gR hj0 hz0
      rw [e18]
      refine az_if_ne rfl rfl (fun c8 => ?_) (fun c8 => absurd c8 (nI_ne0 (by omega) (by omega)))
      refine az_er 5 rfl ?_
      refine az_eret rfl rfl rfl ?_
      exact ⟨by rw [(gt_B_v gB hjb).1, e19], rt_R_p hR gF, fun a ha => gF.1 a (by omega) (by omega) (by omega)⟩
theorem pn_9 {b : Nat} (hb : b < 1000) : ¬ nI b = Int8.toInt32 (Int8.ofInt (-9)) := fun q => by
  have h1 : (Int8.toInt32 (Int8.ofInt (-9)) : Int32) < 0 := by decide
  rw [← q] at h1
  exact nI_pos (by omega) h1
theorem nI_iI {P : Nat} {y : Int} (hP : P ≤ 1000) (hy : -2000 ≤ y ∧ y ≤ 2000) : nI P ≤ iI y ↔ (P : Int) ≤ y := by
  rw [iI_n]
  exact iI_le (by omega) (by omega)
theorem pn_pen {τ : Nat → Nat} (hV : rt_V τ) {v b : Nat} {y : Int} (hv : v ≤ 10) (h : pn_s (fun v => vl_z (fun i => if i = 5 then v else τ i)) v = some (b, y)) : b < v ∧ -2000 ≤ y ∧ y ≤ 2000 := by
  have key : ∀ v b y, v ≤ 10 → pn_s (fun v => vl_z (fun i => if i = 5 then v else τ i)) v = some (b, y) → b < v ∧ -2000 ≤ y ∧ y ≤ 2000 := by
    intro v
    induction v with
    | zero => intro b y _ h; cases h
    | succ v ih =>
      intro b y hv h
      cases hf : vl_z (fun i => if i = 5 then v else τ i) with
      | none =>
        rw [pn_s_n hf] at h
        have := ih b y (by omega) h
        omega
      | some z =>
        have hz := vl_z_b (rt_V_pen hV (show v ≤ 9 by omega)) hf
        cases hp : pn_s (fun v => vl_z (fun i => if i = 5 then v else τ i)) v with
        | none =>
          rw [pn_s_0 hf hp] at h
          cases h
          omega
        | some q =>
          obtain ⟨b2, y2⟩ := q
          rw [pn_s_s hf hp] at h
          have h9 := ih b2 y2 (by omega) hp
          by_cases hlt : y2 < z
          · rw [if_pos hlt] at h; cases h; omega
          · rw [if_neg hlt] at h; cases h; omega
  exact key v b y hv h
set_option maxRecDepth 100000 in
theorem lp_pen {sc : az_S} {h : az_H} {τ : Nat → Nat} (hS : rt_So τ h) (hV : rt_V τ) (c3 : h 1 3 = nI (τ 2)) (c4 : h 1 4 = nI (τ 5)) : ∀ (d v : Nat) (x y z : Int32) (tl : List Value) (hh : az_H), v ≤ 10 → 10 - v = d → x = pn_b (pn_s (fun v => vl_z (fun i => if i = 5 then v else τ i)) v) → y = pn_y (-1000000000) (pn_s (fun v => vl_z (fun i => if i = 5 then v else τ i)) v) → z = nI v → (∀ a, (a < 48 ∨ 54 < a) → hh a = h a) → ((tl = [] ∨ ∃ u, tl = [.int u])) → az_E sc az_m_X7_pennies 8 (.ref 0 :: .int x :: .int y :: .int z :: tl) [] hh (fun v9 h' => v9 = some (.int (pn_b (pn_s (fun v => vl_z (fun i => if i = 5 then v else τ i)) 10))) ∧ ∀ a, (a < 48 ∨ 54 < a) → h' a = h a) := by
  intro d
  induction d with
  | zero =>
    intro v x y z tl hh hv hd hx hy hz hF htl
    subst hx
    subst hy
    subst hz
    rcases htl with rfl | ⟨u9, rfl⟩
    · skip
      refine az_er 2 rfl ?_
      refine az_ic_gt rfl rfl (fun c11 => ?_) (fun c11 => absurd (nI_lt (a := 9) (show 9 < v by omega) (by omega)) c11)
      refine az_er 1 rfl ?_
      refine az_eret rfl rfl rfl ?_
      have e : v = 10 := by omega
      subst e
      exact ⟨rfl, hF⟩
    · skip
      refine az_er 2 rfl ?_
      refine az_ic_gt rfl rfl (fun c11 => ?_) (fun c11 => absurd (nI_lt (a := 9) (show 9 < v by omega) (by omega)) c11)
      refine az_er 1 rfl ?_
      refine az_eret rfl rfl rfl ?_
      have e : v = 10 := by omega
      subst e
      exact ⟨rfl, hF⟩
  | succ d ih =>
    intro v x y z tl hh hv hd hx hy hz hF htl
    subst hx
    subst hy
    subst hz
    have hV2 := rt_V_pen hV (show v ≤ 9 by omega)
    rcases htl with rfl | ⟨u9, rfl⟩
    · skip
      rcases vl_ex (fun i => if i = 5 then v else τ i) with hn | ⟨⟨j0, hj0⟩, z1, hz0⟩
      · cases hps : pn_s (fun v => vl_z (fun i => if i = 5 then v else τ i)) v with
        | none =>
          refine az_er 2 rfl ?_
          refine az_ic_gt rfl rfl (fun c11 => absurd c11 (nI_nlt (a := 9) (show v ≤ 9 by omega) (by omega))) (fun c11 => ?_)
          refine az_er 9 rfl ?_
          rw [hF 1 (by omega), c3]
          refine az_ecall rfl rfl rfl rfl (ct_bre (τ := (fun i => if i = 5 then v else τ i)) (rt_So_e (rt_So_c hS (fun j _ h5 => if_neg h5)) (fun a ha => hF a (by omega))) hV2) ?_
          rintro _ h2 ⟨gr, rfl, gI, fF⟩
          have hF2 : ∀ a, (a < 48 ∨ 54 < a) → h2 a = h a := fun a ha => (fF a ha).trans (hF a ha)
          have g9 := gi_r hV2 gI
          refine az_er 3 rfl ?_
          rw [g9.1 hn]
          refine az_ic_le rfl rfl (fun c41 => ?_) (fun c41 => absurd (Int32.le_refl _) c41)
          refine az_er 2 rfl ?_
          exact ih (v + 1) _ _ _ _ h2 (by omega) (by omega) (by rw [pn_s_n (vl_z_n hn), hps] <;> rfl) (by rw [pn_s_n (vl_z_n hn), hps] <;> rfl) (nI_1' v) hF2 (Or.inr ⟨_, rfl⟩)
        | some q9 =>
          obtain ⟨b9, y9⟩ := q9
          have p9 := pn_pen hV (by omega) hps
          refine az_er 2 rfl ?_
          refine az_ic_gt rfl rfl (fun c11 => absurd c11 (nI_nlt (a := 9) (show v ≤ 9 by omega) (by omega))) (fun c11 => ?_)
          refine az_er 9 rfl ?_
          rw [hF 1 (by omega), c3]
          refine az_ecall rfl rfl rfl rfl (ct_bre (τ := (fun i => if i = 5 then v else τ i)) (rt_So_e (rt_So_c hS (fun j _ h5 => if_neg h5)) (fun a ha => hF a (by omega))) hV2) ?_
          rintro _ h2 ⟨gr, rfl, gI, fF⟩
          have hF2 : ∀ a, (a < 48 ∨ 54 < a) → h2 a = h a := fun a ha => (fF a ha).trans (hF a ha)
          have g9 := gi_r hV2 gI
          refine az_er 3 rfl ?_
          rw [g9.1 hn]
          refine az_ic_le rfl rfl (fun c41 => ?_) (fun c41 => absurd (show (-1000000000 : Int32) ≤ iI y9 by rw [no_w]; exact (iI_le (by omega) (by omega)).mpr (by omega)) c41)
          refine az_er 2 rfl ?_
          exact ih (v + 1) _ _ _ _ h2 (by omega) (by omega) (by rw [pn_s_n (vl_z_n hn), hps] <;> rfl) (by rw [pn_s_n (vl_z_n hn), hps] <;> rfl) (nI_1' v) hF2 (Or.inr ⟨_, rfl⟩)
      · obtain ⟨z0, rfl⟩ : ∃ z0, z0 = z1 := ⟨_, rfl⟩
        have z9 := vl_z_b hV2 (vl_z_r hz0)
        cases hps : pn_s (fun v => vl_z (fun i => if i = 5 then v else τ i)) v with
        | none =>
          refine az_er 2 rfl ?_
          refine az_ic_gt rfl rfl (fun c11 => absurd c11 (nI_nlt (a := 9) (show v ≤ 9 by omega) (by omega))) (fun c11 => ?_)
          refine az_er 9 rfl ?_
          rw [hF 1 (by omega), c3]
          refine az_ecall rfl rfl rfl rfl (ct_bre (τ := (fun i => if i = 5 then v else τ i)) (rt_So_e (rt_So_c hS (fun j _ h5 => if_neg h5)) (fun a ha => hF a (by omega))) hV2) ?_
          rintro _ h2 ⟨gr, rfl, gI, fF⟩
          have hF2 : ∀ a, (a < 48 ∨ 54 < a) → h2 a = h a := fun a ha => (fF a ha).trans (hF a ha)
          have g9 := gi_r hV2 gI
          refine az_er 3 rfl ?_
          rw [(g9.2 z0 hz0).1]
          refine az_ic_le rfl rfl (fun c41 => absurd (show iI z0 ≤ (-1000000000 : Int32) from c41) (by rw [no_w]; exact fun q => by have := (iI_le (by omega) (by omega)).mp q; omega)) (fun c41 => ?_)
          refine az_er 6 rfl ?_
          exact ih (v + 1) _ _ _ _ h2 (by omega) (by omega) (by rw [pn_s_0 (vl_z_r hz0) hps] <;> rfl) (by rw [pn_s_0 (vl_z_r hz0) hps] <;> rfl) (nI_1' v) hF2 (Or.inr ⟨_, rfl⟩)
        | some q9 =>
          obtain ⟨b9, y9⟩ := q9
          have p9 := pn_pen hV (by omega) hps
          by_cases hlt : y9 < z0
          · skip
            refine az_er 2 rfl ?_
            refine az_ic_gt rfl rfl (fun c11 => absurd c11 (nI_nlt (a := 9) (show v ≤ 9 by omega) (by omega))) (fun c11 => ?_)
            refine az_er 9 rfl ?_
            rw [hF 1 (by omega), c3]
            refine az_ecall rfl rfl rfl rfl (ct_bre (τ := (fun i => if i = 5 then v else τ i)) (rt_So_e (rt_So_c hS (fun j _ h5 => if_neg h5)) (fun a ha => hF a (by omega))) hV2) ?_
            rintro _ h2 ⟨gr, rfl, gI, fF⟩
            have hF2 : ∀ a, (a < 48 ∨ 54 < a) → h2 a = h a := fun a ha => (fF a ha).trans (hF a ha)
            have g9 := gi_r hV2 gI
            refine az_er 3 rfl ?_
            rw [(g9.2 z0 hz0).1]
            refine az_ic_le rfl rfl (fun c41 => absurd ((iI_le (by omega) (by omega)).mp (show iI z0 ≤ iI y9 from c41)) (by omega)) (fun c41 => ?_)
            refine az_er 6 rfl ?_
            exact ih (v + 1) _ _ _ _ h2 (by omega) (by omega) (by rw [pn_s_s (vl_z_r hz0) hps, if_pos hlt] <;> rfl) (by rw [pn_s_s (vl_z_r hz0) hps, if_pos hlt] <;> rfl) (nI_1' v) hF2 (Or.inr ⟨_, rfl⟩)
          · skip
            refine az_er 2 rfl ?_
            refine az_ic_gt rfl rfl (fun c11 => absurd c11 (nI_nlt (a := 9) (show v ≤ 9 by omega) (by omega))) (fun c11 => ?_)
            refine az_er 9 rfl ?_
            rw [hF 1 (by omega), c3]
            refine az_ecall rfl rfl rfl rfl (ct_bre (τ := (fun i => if i = 5 then v else τ i)) (rt_So_e (rt_So_c hS (fun j _ h5 => if_neg h5)) (fun a ha => hF a (by omega))) hV2) ?_
            rintro _ h2 ⟨gr, rfl, gI, fF⟩
            have hF2 : ∀ a, (a < 48 ∨ 54 < a) → h2 a = h a := fun a ha => (fF a ha).trans (hF a ha)
            have g9 := gi_r hV2 gI
            refine az_er 3 rfl ?_
            rw [(g9.2 z0 hz0).1]
            refine az_ic_le rfl rfl (fun c41 => ?_) (fun c41 => absurd ((iI_le (by omega) (by omega)).mpr (show z0 ≤ y9 by omega)) (show ¬ iI z0 ≤ iI y9 from c41))
            refine az_er 2 rfl ?_
            exact ih (v + 1) _ _ _ _ h2 (by omega) (by omega) (by rw [pn_s_s (vl_z_r hz0) hps, if_neg hlt] <;> rfl) (by rw [pn_s_s (vl_z_r hz0) hps, if_neg hlt] <;> rfl) (nI_1' v) hF2 (Or.inr ⟨_, rfl⟩)
    · skip
      rcases vl_ex (fun i => if i = 5 then v else τ i) with hn | ⟨⟨j0, hj0⟩, z1, hz0⟩
      · cases hps : pn_s (fun v => vl_z (fun i => if i = 5 then v else τ i)) v with
        | none =>
          refine az_er 2 rfl ?_
          refine az_ic_gt rfl rfl (fun c11 => absurd c11 (nI_nlt (a := 9) (show v ≤ 9 by omega) (by omega))) (fun c11 => ?_)
          refine az_er 9 rfl ?_
          rw [hF 1 (by omega), c3]
          refine az_ecall rfl rfl rfl rfl (ct_bre (τ := (fun i => if i = 5 then v else τ i)) (rt_So_e (rt_So_c hS (fun j _ h5 => if_neg h5)) (fun a ha => hF a (by omega))) hV2) ?_
          rintro _ h2 ⟨gr, rfl, gI, fF⟩
          have hF2 : ∀ a, (a < 48 ∨ 54 < a) → h2 a = h a := fun a ha => (fF a ha).trans (hF a ha)
          have g9 := gi_r hV2 gI
          refine az_er 3 rfl ?_
          rw [g9.1 hn]
          refine az_ic_le rfl rfl (fun c41 => ?_) (fun c41 => absurd (Int32.le_refl _) c41)
          refine az_er 2 rfl ?_
          exact ih (v + 1) _ _ _ _ h2 (by omega) (by omega) (by rw [pn_s_n (vl_z_n hn), hps] <;> rfl) (by rw [pn_s_n (vl_z_n hn), hps] <;> rfl) (nI_1' v) hF2 (Or.inr ⟨_, rfl⟩)
        | some q9 =>
          obtain ⟨b9, y9⟩ := q9
          have p9 := pn_pen hV (by omega) hps
          refine az_er 2 rfl ?_
          refine az_ic_gt rfl rfl (fun c11 => absurd c11 (nI_nlt (a := 9) (show v ≤ 9 by omega) (by omega))) (fun c11 => ?_)
          refine az_er 9 rfl ?_
          rw [hF 1 (by omega), c3]
          refine az_ecall rfl rfl rfl rfl (ct_bre (τ := (fun i => if i = 5 then v else τ i)) (rt_So_e (rt_So_c hS (fun j _ h5 => if_neg h5)) (fun a ha => hF a (by omega))) hV2) ?_
          rintro _ h2 ⟨gr, rfl, gI, fF⟩
          have hF2 : ∀ a, (a < 48 ∨ 54 < a) → h2 a = h a := fun a ha => (fF a ha).trans (hF a ha)
          have g9 := gi_r hV2 gI
          refine az_er 3 rfl ?_
          rw [g9.1 hn]
          refine az_ic_le rfl rfl (fun c41 => ?_) (fun c41 => absurd (show (-1000000000 : Int32) ≤ iI y9 by rw [no_w]; exact (iI_le (by omega) (by omega)).mpr (by omega)) c41)
          refine az_er 2 rfl ?_
          exact ih (v + 1) _ _ _ _ h2 (by omega) (by omega) (by rw [pn_s_n (vl_z_n hn), hps] <;> rfl) (by rw [pn_s_n (vl_z_n hn), hps] <;> rfl) (nI_1' v) hF2 (Or.inr ⟨_, rfl⟩)
      · obtain ⟨z0, rfl⟩ : ∃ z0, z0 = z1 := ⟨_, rfl⟩
        have z9 := vl_z_b hV2 (vl_z_r hz0)
        cases hps : pn_s (fun v => vl_z (fun i => if i = 5 then v else τ i)) v with
        | none =>
          refine az_er 2 rfl ?_
          refine az_ic_gt rfl rfl (fun c11 => absurd c11 (nI_nlt (a := 9) (show v ≤ 9 by omega) (by omega))) (fun c11 => ?_)
          refine az_er 9 rfl ?_
          rw [hF 1 (by omega), c3]
          refine az_ecall rfl rfl rfl rfl (ct_bre (τ := (fun i => if i = 5 then v else τ i)) (rt_So_e (rt_So_c hS (fun j _ h5 => if_neg h5)) (fun a ha => hF a (by omega))) hV2) ?_
          rintro _ h2 ⟨gr, rfl, gI, fF⟩
          have hF2 : ∀ a, (a < 48 ∨ 54 < a) → h2 a = h a := fun a ha => (fF a ha).trans (hF a ha)
          have g9 := gi_r hV2 gI
          refine az_er 3 rfl ?_
          rw [(g9.2 z0 hz0).1]
          refine az_ic_le rfl rfl (fun c41 => absurd (show iI z0 ≤ (-1000000000 : Int32) from c41) (by rw [no_w]; exact fun q => by have := (iI_le (by omega) (by omega)).mp q; omega)) (fun c41 => ?_)
          refine az_er 6 rfl ?_
          exact ih (v + 1) _ _ _ _ h2 (by omega) (by omega) (by rw [pn_s_0 (vl_z_r hz0) hps] <;> rfl) (by rw [pn_s_0 (vl_z_r hz0) hps] <;> rfl) (nI_1' v) hF2 (Or.inr ⟨_, rfl⟩)
        | some q9 =>
          obtain ⟨b9, y9⟩ := q9
          have p9 := pn_pen hV (by omega) hps
          by_cases hlt : y9 < z0
          · skip
            refine az_er 2 rfl ?_
            refine az_ic_gt rfl rfl (fun c11 => absurd c11 (nI_nlt (a := 9) (show v ≤ 9 by omega) (by omega))) (fun c11 => ?_)
            refine az_er 9 rfl ?_
            rw [hF 1 (by omega), c3]
            refine az_ecall rfl rfl rfl rfl (ct_bre (τ := (fun i => if i = 5 then v else τ i)) (rt_So_e (rt_So_c hS (fun j _ h5 => if_neg h5)) (fun a ha => hF a (by omega))) hV2) ?_
            rintro _ h2 ⟨gr, rfl, gI, fF⟩
            have hF2 : ∀ a, (a < 48 ∨ 54 < a) → h2 a = h a := fun a ha => (fF a ha).trans (hF a ha)
            have g9 := gi_r hV2 gI
            refine az_er 3 rfl ?_
            rw [(g9.2 z0 hz0).1]
            refine az_ic_le rfl rfl (fun c41 => absurd ((iI_le (by omega) (by omega)).mp (show iI z0 ≤ iI y9 from c41)) (by omega)) (fun c41 => ?_)
            refine az_er 6 rfl ?_
            exact ih (v + 1) _ _ _ _ h2 (by omega) (by omega) (by rw [pn_s_s (vl_z_r hz0) hps, if_pos hlt] <;> rfl) (by rw [pn_s_s (vl_z_r hz0) hps, if_pos hlt] <;> rfl) (nI_1' v) hF2 (Or.inr ⟨_, rfl⟩)
          · skip
            refine az_er 2 rfl ?_
            refine az_ic_gt rfl rfl (fun c11 => absurd c11 (nI_nlt (a := 9) (show v ≤ 9 by omega) (by omega))) (fun c11 => ?_)
            refine az_er 9 rfl ?_
            rw [hF 1 (by omega), c3]
            refine az_ecall rfl rfl rfl rfl (ct_bre (τ := (fun i => if i = 5 then v else τ i)) (rt_So_e (rt_So_c hS (fun j _ h5 => if_neg h5)) (fun a ha => hF a (by omega))) hV2) ?_
            rintro _ h2 ⟨gr, rfl, gI, fF⟩
            have hF2 : ∀ a, (a < 48 ∨ 54 < a) → h2 a = h a := fun a ha => (fF a ha).trans (hF a ha)
            have g9 := gi_r hV2 gI
            refine az_er 3 rfl ?_
            rw [(g9.2 z0 hz0).1]
            refine az_ic_le rfl rfl (fun c41 => ?_) (fun c41 => absurd ((iI_le (by omega) (by omega)).mpr (show z0 ≤ y9 by omega)) (show ¬ iI z0 ≤ iI y9 from c41))
            refine az_er 2 rfl ?_
            exact ih (v + 1) _ _ _ _ h2 (by omega) (by omega) (by rw [pn_s_s (vl_z_r hz0) hps, if_neg hlt] <;> rfl) (by rw [pn_s_s (vl_z_r hz0) hps, if_neg hlt] <;> rfl) (nI_1' v) hF2 (Or.inr ⟨_, rfl⟩)
set_option maxRecDepth 100000 in
theorem ct_pen {sc : az_S} {h : az_H} {τ : Nat → Nat} (hS : rt_So τ h) (hV : rt_V τ) (c3 : h 1 3 = nI (τ 2)) (c4 : h 1 4 = nI (τ 5)) : az_E sc az_m_X7_pennies 0 [.ref 0] [] h (fun v9 h' => v9 = some (.int (pn_b (pn_s (fun v => vl_z (fun i => if i = 5 then v else τ i)) 10))) ∧ ∀ a, (a < 48 ∨ 54 < a) → h' a = h a) := by
  refine az_er 6 rfl ?_
  exact lp_pen hS hV c3 c4 10 0 _ _ _ [] h (by omega) (by omega) rfl rfl rfl (fun _ _ => rfl) (Or.inl rfl)
set_option maxRecDepth 100000 in
theorem lm_pen {sc : az_S} {h : az_H} {τ : Nat → Nat} {wa : Int32} (hV : rt_V τ) (hwa : wa = nI (τ 5)) : ∀ (d v : Nat) (x y z : Int32) (u : Nat) (hh : az_H), v ≤ 10 → 10 - v = d → x = pn_b (pn_s (fun v => vl_z (fun i => if i = 5 then v else τ i)) v) → y = pn_y 0 (pn_s (fun v => vl_z (fun i => if i = 5 then v else τ i)) v) → z = nI v → rt_M 61 (fun i => if i = 5 then u else τ i) hh → (∀ a, a ≠ 59 → a ≠ 61 → a ≠ 71 → a ≠ 72 → hh a = h a) → (∀ j, (j < 18 ∨ 23 < j) → hh 59 j = h 59 j) → az_E sc az_m_X8_pennies 15 [.ref 59, .int wa, .int x, .int y, .int z] [] hh (fun v9 h' => v9 = some (.int (pn_b (pn_s (fun v => vl_z (fun i => if i = 5 then v else τ i)) 10))) ∧ rt_M 61 τ h' ∧ (∀ a, a ≠ 59 → a ≠ 61 → a ≠ 71 → a ≠ 72 → h' a = h a) ∧ ∀ j, (j < 18 ∨ 23 < j) → h' 59 j = h 59 j) := by
  subst hwa
  intro d
  induction d with
  | zero =>
    intro v x y z u hh hv hd hx hy hz hM hF hf
    subst hx
    subst hy
    subst hz
    refine az_er 2 rfl ?_
    refine az_ic_ge rfl rfl (fun c19 => ?_) (fun c19 => absurd (nI_le (a := 10) (show 10 ≤ v by omega) (by omega)) c19)
    refine az_er 4 rfl ?_
    refine az_iasI rfl rfl (show _ = nI 5 from rfl) (show 5 < 70 by omega) (by decide) ?_
    refine az_er 1 rfl ?_
    refine az_eret rfl rfl rfl ?_
    have e : v = 10 := by omega
    subst e
    exact ⟨rfl, rt_M_up hM (fun i _ hi => (if_neg hi).symm) rfl, fun a p q r s => by rw [az_up_o q]; exact hF a p q r s, fun j hj => by rw [az_up_o (by decide)]; exact hf j hj⟩
  | succ d ih =>
    intro v x y z u hh hv hd hx hy hz hM hF hf
    subst hx
    subst hy
    subst hz
    have hV2 := rt_V_pen hV (show v ≤ 9 by omega)
    rcases vl_ex (fun i => if i = 5 then v else τ i) with hn | ⟨⟨j0, hj0⟩, z1, hz0⟩
    · cases hps : pn_s (fun v => vl_z (fun i => if i = 5 then v else τ i)) v with
      | none =>
        refine az_er 2 rfl ?_
        refine az_ic_ge rfl rfl (fun c19 => absurd c19 (nI_ge (b := 10) (show v < 10 by omega) (by omega))) (fun c19 => ?_)
        refine az_er 4 rfl ?_
        refine az_iasI rfl rfl (show _ = nI 5 from rfl) (show 5 < 70 by omega) (by decide) ?_
        refine az_er 1 rfl ?_
        refine az_ecall rfl rfl rfl rfl (cm_gt (τ := (fun i => if i = 5 then v else τ i)) (rt_M_up hM (fun i _ hi => (if_neg hi).trans (if_neg hi).symm) (congrArg nI (if_pos rfl).symm)) hV2 (pX_b hV2)) ?_
        rintro _ h2 ⟨rfl, gB, gR, gF⟩
        have hM2 : rt_M 61 (fun i => if i = 5 then v else τ i) h2 := gF.M (rt_M_up hM (fun i _ hi => (if_neg hi).trans (if_neg hi).symm) (congrArg nI (if_pos rfl).symm))
        have hF2 : ∀ a, a ≠ 59 → a ≠ 61 → a ≠ 71 → a ≠ 72 → h2 a = h a := fun a p q r s => by rw [gF.1 a p r s, az_up_o q]; exact hF a p q r s
        have hf2 : ∀ j, (j < 18 ∨ 23 < j) → h2 59 j = h 59 j := fun j hj => by rw [gF.2 j hj, az_up_o (by decide)]; exact hf j hj
        refine az_er 2 rfl ?_
        rw [gt_R_0 gR hn]
        refine az_if_le rfl rfl (fun c38 => ?_) (fun c38 => absurd (show nI 0 ≤ 0 by decide) c38)
        refine az_er 2 rfl ?_
        exact ih (v + 1) _ _ _ _ h2 (by omega) (by omega) (by rw [pn_s_n (vl_z_n hn), hps] <;> rfl) (by rw [pn_s_n (vl_z_n hn), hps] <;> rfl) (nI_1' v) hM2 hF2 hf2
      | some q9 =>
        obtain ⟨b9, y9⟩ := q9
        have p9 := pn_pen hV (by omega) hps
        refine az_er 2 rfl ?_
        refine az_ic_ge rfl rfl (fun c19 => absurd c19 (nI_ge (b := 10) (show v < 10 by omega) (by omega))) (fun c19 => ?_)
        refine az_er 4 rfl ?_
        refine az_iasI rfl rfl (show _ = nI 5 from rfl) (show 5 < 70 by omega) (by decide) ?_
        refine az_er 1 rfl ?_
        refine az_ecall rfl rfl rfl rfl (cm_gt (τ := (fun i => if i = 5 then v else τ i)) (rt_M_up hM (fun i _ hi => (if_neg hi).trans (if_neg hi).symm) (congrArg nI (if_pos rfl).symm)) hV2 (pX_b hV2)) ?_
        rintro _ h2 ⟨rfl, gB, gR, gF⟩
        have hM2 : rt_M 61 (fun i => if i = 5 then v else τ i) h2 := gF.M (rt_M_up hM (fun i _ hi => (if_neg hi).trans (if_neg hi).symm) (congrArg nI (if_pos rfl).symm))
        have hF2 : ∀ a, a ≠ 59 → a ≠ 61 → a ≠ 71 → a ≠ 72 → h2 a = h a := fun a p q r s => by rw [gF.1 a p r s, az_up_o q]; exact hF a p q r s
        have hf2 : ∀ j, (j < 18 ∨ 23 < j) → h2 59 j = h 59 j := fun j hj => by rw [gF.2 j hj, az_up_o (by decide)]; exact hf j hj
        refine az_er 2 rfl ?_
        rw [gt_R_0 gR hn]
        refine az_if_le rfl rfl (fun c38 => ?_) (fun c38 => absurd (show nI 0 ≤ 0 by decide) c38)
        refine az_er 2 rfl ?_
        exact ih (v + 1) _ _ _ _ h2 (by omega) (by omega) (by rw [pn_s_n (vl_z_n hn), hps] <;> rfl) (by rw [pn_s_n (vl_z_n hn), hps] <;> rfl) (nI_1' v) hM2 hF2 hf2
    · obtain ⟨z0, rfl⟩ : ∃ z0, z0 = z1 := ⟨_, rfl⟩
      have z9 := vl_z_b hV2 (vl_z_r hz0)
      cases hps : pn_s (fun v => vl_z (fun i => if i = 5 then v else τ i)) v with
      | none =>
        refine az_er 2 rfl ?_
        refine az_ic_ge rfl rfl (fun c19 => absurd c19 (nI_ge (b := 10) (show v < 10 by omega) (by omega))) (fun c19 => ?_)
        refine az_er 4 rfl ?_
        refine az_iasI rfl rfl (show _ = nI 5 from rfl) (show 5 < 70 by omega) (by decide) ?_
        refine az_er 1 rfl ?_
        refine az_ecall rfl rfl rfl rfl (cm_gt (τ := (fun i => if i = 5 then v else τ i)) (rt_M_up hM (fun i _ hi => (if_neg hi).trans (if_neg hi).symm) (congrArg nI (if_pos rfl).symm)) hV2 (pX_b hV2)) ?_
        rintro _ h2 ⟨rfl, gB, gR, gF⟩
        have hM2 : rt_M 61 (fun i => if i = 5 then v else τ i) h2 := gF.M (rt_M_up hM (fun i _ hi => (if_neg hi).trans (if_neg hi).symm) (congrArg nI (if_pos rfl).symm))
        have hF2 : ∀ a, a ≠ 59 → a ≠ 61 → a ≠ 71 → a ≠ 72 → h2 a = h a := fun a p q r s => by rw [gF.1 a p r s, az_up_o q]; exact hF a p q r s
        have hf2 : ∀ j, (j < 18 ∨ 23 < j) → h2 59 j = h 59 j := fun j hj => by rw [gF.2 j hj, az_up_o (by decide)]; exact hf j hj
        refine az_er 2 rfl ?_
        obtain ⟨⟨n9, n1, n2, e18⟩, e20, e72, e19⟩ := gt_R_v hV2 gR hj0 hz0
        rw [e18]
        refine az_if_le rfl rfl (fun c38 => absurd c38 (nI_nle (by omega) (by omega))) (fun c38 => ?_)
        refine az_er 2 rfl ?_
        refine az_ic_eq rfl rfl (fun c44 => ?_) (fun c44 => absurd rfl c44)
        refine az_er 7 rfl ?_
        exact ih (v + 1) _ _ _ _ h2 (by omega) (by omega) (by rw [pn_s_0 (vl_z_r hz0) hps] <;> rfl) (by rw [pn_s_0 (vl_z_r hz0) hps] <;> exact e19) (nI_1' v) hM2 hF2 hf2
      | some q9 =>
        obtain ⟨b9, y9⟩ := q9
        have p9 := pn_pen hV (by omega) hps
        by_cases hlt : y9 < z0
        · skip
          refine az_er 2 rfl ?_
          refine az_ic_ge rfl rfl (fun c19 => absurd c19 (nI_ge (b := 10) (show v < 10 by omega) (by omega))) (fun c19 => ?_)
          refine az_er 4 rfl ?_
          refine az_iasI rfl rfl (show _ = nI 5 from rfl) (show 5 < 70 by omega) (by decide) ?_
          refine az_er 1 rfl ?_
          refine az_ecall rfl rfl rfl rfl (cm_gt (τ := (fun i => if i = 5 then v else τ i)) (rt_M_up hM (fun i _ hi => (if_neg hi).trans (if_neg hi).symm) (congrArg nI (if_pos rfl).symm)) hV2 (pX_b hV2)) ?_
          rintro _ h2 ⟨rfl, gB, gR, gF⟩
          have hM2 : rt_M 61 (fun i => if i = 5 then v else τ i) h2 := gF.M (rt_M_up hM (fun i _ hi => (if_neg hi).trans (if_neg hi).symm) (congrArg nI (if_pos rfl).symm))
          have hF2 : ∀ a, a ≠ 59 → a ≠ 61 → a ≠ 71 → a ≠ 72 → h2 a = h a := fun a p q r s => by rw [gF.1 a p r s, az_up_o q]; exact hF a p q r s
          have hf2 : ∀ j, (j < 18 ∨ 23 < j) → h2 59 j = h 59 j := fun j hj => by rw [gF.2 j hj, az_up_o (by decide)]; exact hf j hj
          refine az_er 2 rfl ?_
          obtain ⟨⟨n9, n1, n2, e18⟩, e20, e72, e19⟩ := gt_R_v hV2 gR hj0 hz0
          rw [e18]
          refine az_if_le rfl rfl (fun c38 => absurd c38 (nI_nle (by omega) (by omega))) (fun c38 => ?_)
          refine az_er 2 rfl ?_
          refine az_ic_eq rfl rfl (fun c44 => absurd c44 (pn_9 (by omega))) (fun c44 => ?_)
          refine az_er 3 rfl ?_
          rw [e19]
          refine az_ic_le rfl rfl (fun c52 => absurd ((iI_le (by omega) (by omega)).mp (show iI z0 ≤ iI y9 from c52)) (by omega)) (fun c52 => ?_)
          refine az_er 7 rfl ?_
          exact ih (v + 1) _ _ _ _ h2 (by omega) (by omega) (by rw [pn_s_s (vl_z_r hz0) hps, if_pos hlt] <;> rfl) (by rw [pn_s_s (vl_z_r hz0) hps, if_pos hlt] <;> exact e19) (nI_1' v) hM2 hF2 hf2
        · skip
          refine az_er 2 rfl ?_
          refine az_ic_ge rfl rfl (fun c19 => absurd c19 (nI_ge (b := 10) (show v < 10 by omega) (by omega))) (fun c19 => ?_)
          refine az_er 4 rfl ?_
          refine az_iasI rfl rfl (show _ = nI 5 from rfl) (show 5 < 70 by omega) (by decide) ?_
          refine az_er 1 rfl ?_
          refine az_ecall rfl rfl rfl rfl (cm_gt (τ := (fun i => if i = 5 then v else τ i)) (rt_M_up hM (fun i _ hi => (if_neg hi).trans (if_neg hi).symm) (congrArg nI (if_pos rfl).symm)) hV2 (pX_b hV2)) ?_
          rintro _ h2 ⟨rfl, gB, gR, gF⟩
          have hM2 : rt_M 61 (fun i => if i = 5 then v else τ i) h2 := gF.M (rt_M_up hM (fun i _ hi => (if_neg hi).trans (if_neg hi).symm) (congrArg nI (if_pos rfl).symm))
          have hF2 : ∀ a, a ≠ 59 → a ≠ 61 → a ≠ 71 → a ≠ 72 → h2 a = h a := fun a p q r s => by rw [gF.1 a p r s, az_up_o q]; exact hF a p q r s
          have hf2 : ∀ j, (j < 18 ∨ 23 < j) → h2 59 j = h 59 j := fun j hj => by rw [gF.2 j hj, az_up_o (by decide)]; exact hf j hj
          refine az_er 2 rfl ?_
          obtain ⟨⟨n9, n1, n2, e18⟩, e20, e72, e19⟩ := gt_R_v hV2 gR hj0 hz0
          rw [e18]
          refine az_if_le rfl rfl (fun c38 => absurd c38 (nI_nle (by omega) (by omega))) (fun c38 => ?_)
          refine az_er 2 rfl ?_
          refine az_ic_eq rfl rfl (fun c44 => absurd c44 (pn_9 (by omega))) (fun c44 => ?_)
          refine az_er 3 rfl ?_
          rw [e19]
          refine az_ic_le rfl rfl (fun c52 => ?_) (fun c52 => absurd ((iI_le (by omega) (by omega)).mpr (show z0 ≤ y9 by omega)) (show ¬ iI z0 ≤ iI y9 from c52))
          refine az_er 2 rfl ?_
          exact ih (v + 1) _ _ _ _ h2 (by omega) (by omega) (by rw [pn_s_s (vl_z_r hz0) hps, if_neg hlt] <;> rfl) (by rw [pn_s_s (vl_z_r hz0) hps, if_neg hlt] <;> rfl) (nI_1' v) hM2 hF2 hf2
set_option maxRecDepth 100000 in
theorem cm_pen {sc : az_S} {h : az_H} {τ : Nat → Nat} (hV : rt_V τ) (hM : rt_M 61 τ h) : az_E sc az_m_X8_pennies 0 [.ref 59] [] h (fun v9 h' => v9 = some (.int (pn_b (pn_s (fun v => vl_z (fun i => if i = 5 then v else τ i)) 10))) ∧ rt_M 61 τ h' ∧ (∀ a, a ≠ 59 → a ≠ 61 → a ≠ 71 → a ≠ 72 → h' a = h a) ∧ ∀ j, (j < 18 ∨ 23 < j) → h' 59 j = h 59 j) := by
  refine az_er 3 rfl ?_
  refine az_iaI rfl rfl (show _ = nI 5 from rfl) (show 5 < 70 by omega) (by decide) (hM 5 (by omega)) ?_
  refine az_er 7 rfl ?_
  exact lm_pen hV rfl 10 0 _ _ _ (τ 5) h (by omega) (by omega) rfl rfl rfl (rt_M_cong hM (fun i _ => by by_cases q : i = 5; exact (if_pos q).trans (congrArg τ q).symm; exact if_neg q)) (fun _ _ _ _ _ => rfl) (fun _ _ => rfl)
set_option maxRecDepth 100000 in
theorem op_pennies  : rt_op az_m_X7_pennies az_m_X8_pennies [] := by
  intro sc σ h hC hW
  have hS := rt_C_So hC
  have c3 : h 1 3 = nI (σ.1 2) := hC.1.1.1
  have c4 : h 1 4 = nI (σ.1 5) := hC.1.1.2.1
  have h04 := hW.1.1
  refine ⟨pn_b (pn_s (fun v => vl_z (fun i => if i = 5 then v else σ.1 i)) 10), σ, hW, ?_, ?_⟩
  · refine az_E.mono (ct_pen hS hW.1 c3 c4) ?_
    rintro v h2 ⟨rfl, fF⟩
    exact ⟨rfl, rt_C_p hC fF, fun a ha => fF a (by omega)⟩
  · intro h1 hR
    refine az_E.mono (cm_pen hW.1 hR.1) ?_
    rintro v h2 ⟨rfl, m1, m2, m3⟩
    exact ⟨rfl, rt_R_P hR m1 m2 m3, fun a ha => m2 a (by omega) (by omega) (by omega) (by omega)⟩
theorem pn_cha {τ : Nat → Nat} (hV : rt_V τ) {v b : Nat} {y : Int} (hv : v ≤ 61) (h : pn_s (fun v => vl_p (fun i => if i = 2 then v else τ i)) v = some (b, y)) : b < v ∧ -2000 ≤ y ∧ y ≤ 2000 ∧ 0 ≤ y := by
  have key : ∀ v b y, v ≤ 61 → pn_s (fun v => vl_p (fun i => if i = 2 then v else τ i)) v = some (b, y) → b < v ∧ -2000 ≤ y ∧ y ≤ 2000 ∧ 0 ≤ y := by
    intro v
    induction v with
    | zero => intro b y _ h; cases h
    | succ v ih =>
      intro b y hv h
      cases hf : vl_p (fun i => if i = 2 then v else τ i) with
      | none =>
        rw [pn_s_n hf] at h
        have := ih b y (by omega) h
        omega
      | some z =>
        have hz := vl_p_b (rt_V_chp hV (show v ≤ 60 by omega)) hf
        cases hp : pn_s (fun v => vl_p (fun i => if i = 2 then v else τ i)) v with
        | none =>
          rw [pn_s_0 hf hp] at h
          cases h
          omega
        | some q =>
          obtain ⟨b2, y2⟩ := q
          rw [pn_s_s hf hp] at h
          have h9 := ih b2 y2 (by omega) hp
          by_cases hlt : y2 < z
          · rw [if_pos hlt] at h; cases h; omega
          · rw [if_neg hlt] at h; cases h; omega
  exact key v b y hv h
set_option maxRecDepth 100000 in
theorem lp_cha {sc : az_S} {h : az_H} {τ : Nat → Nat} (hS : rt_So τ h) (hV : rt_V τ) (c3 : h 1 3 = nI (τ 2)) (c4 : h 1 4 = nI (τ 5)) : ∀ (d v : Nat) (x y z : Int32) (tl : List Value) (hh : az_H), v ≤ 61 → 61 - v = d → x = pn_b (pn_s (fun v => vl_p (fun i => if i = 2 then v else τ i)) v) → y = pn_y (-1) (pn_s (fun v => vl_p (fun i => if i = 2 then v else τ i)) v) → z = nI v → (∀ a, (a < 48 ∨ 54 < a) → hh a = h a) → (tl = [] ∨ False) → az_E sc az_m_X7_chairs 7 (.ref 0 :: .int x :: .int y :: .int z :: tl) [] hh (fun v9 h' => v9 = some (.int (pn_b (pn_s (fun v => vl_p (fun i => if i = 2 then v else τ i)) 61))) ∧ ∀ a, (a < 48 ∨ 54 < a) → h' a = h a) := by
  intro d
  induction d with
  | zero =>
    intro v x y z tl hh hv hd hx hy hz hF htl
    subst hx
    subst hy
    subst hz
    rcases htl with rfl | hfalse
    · skip
      refine az_er 2 rfl ?_
      refine az_ic_gt rfl rfl (fun c10 => ?_) (fun c10 => absurd (nI_lt (a := 60) (show 60 < v by omega) (by omega)) c10)
      refine az_er 1 rfl ?_
      refine az_eret rfl rfl rfl ?_
      have e : v = 61 := by omega
      subst e
      exact ⟨rfl, hF⟩
    · exact hfalse.elim
  | succ d ih =>
    intro v x y z tl hh hv hd hx hy hz hF htl
    subst hx
    subst hy
    subst hz
    have hV2 := rt_V_chp hV (show v ≤ 60 by omega)
    rcases htl with rfl | hfalse
    · skip
      rcases vl_ex (fun i => if i = 2 then v else τ i) with hn | ⟨⟨j0, hj0⟩, z1, hz0⟩
      · cases hps : pn_s (fun v => vl_p (fun i => if i = 2 then v else τ i)) v with
        | none =>
          refine az_er 2 rfl ?_
          refine az_ic_gt rfl rfl (fun c10 => absurd c10 (nI_nlt (a := 60) (show v ≤ 60 by omega) (by omega))) (fun c10 => ?_)
          refine az_er 9 rfl ?_
          rw [hF 1 (by omega), c4]
          refine az_ecall rfl rfl rfl rfl (ct_ffr (τ := (fun i => if i = 2 then v else τ i)) (rt_So_e (rt_So_c hS (fun j h2 _ => if_neg h2)) (fun a ha => hF a (by omega))) hV2) ?_
          rintro _ h2 ⟨rfl, fI, fF⟩
          have hF2 : ∀ a, (a < 48 ∨ 54 < a) → h2 a = h a := fun a ha => (fF a ha).trans (hF a ha)
          have g9 := fs_v hV2 fI
          rw [g9.1 hn]
          refine az_if_eq rfl rfl (fun c35 => ?_) (fun c35 => absurd rfl c35)
          refine az_er 2 rfl ?_
          exact ih (v + 1) _ _ _ _ h2 (by omega) (by omega) (by rw [pn_s_n (vl_p_n hn), hps] <;> rfl) (by rw [pn_s_n (vl_p_n hn), hps] <;> rfl) (nI_1' v) hF2 (Or.inl rfl)
        | some q9 =>
          obtain ⟨b9, y9⟩ := q9
          have p9 := pn_cha hV (by omega) hps
          refine az_er 2 rfl ?_
          refine az_ic_gt rfl rfl (fun c10 => absurd c10 (nI_nlt (a := 60) (show v ≤ 60 by omega) (by omega))) (fun c10 => ?_)
          refine az_er 9 rfl ?_
          rw [hF 1 (by omega), c4]
          refine az_ecall rfl rfl rfl rfl (ct_ffr (τ := (fun i => if i = 2 then v else τ i)) (rt_So_e (rt_So_c hS (fun j h2 _ => if_neg h2)) (fun a ha => hF a (by omega))) hV2) ?_
          rintro _ h2 ⟨rfl, fI, fF⟩
          have hF2 : ∀ a, (a < 48 ∨ 54 < a) → h2 a = h a := fun a ha => (fF a ha).trans (hF a ha)
          have g9 := fs_v hV2 fI
          rw [g9.1 hn]
          refine az_if_eq rfl rfl (fun c35 => ?_) (fun c35 => absurd rfl c35)
          refine az_er 2 rfl ?_
          exact ih (v + 1) _ _ _ _ h2 (by omega) (by omega) (by rw [pn_s_n (vl_p_n hn), hps] <;> rfl) (by rw [pn_s_n (vl_p_n hn), hps] <;> rfl) (nI_1' v) hF2 (Or.inl rfl)
      · have z9 := vl_p_b hV2 (vl_p_f hj0)
        have z8 : ((pl_sn (pX (fun i => if i = 2 then v else τ i) j0) (τ 0) : Nat) : Int) ≤ 36 ∧ 0 ≤ ((pl_sn (pX (fun i => if i = 2 then v else τ i) j0) (τ 0) : Nat) : Int) := ⟨z9.2, z9.1⟩
        cases hps : pn_s (fun v => vl_p (fun i => if i = 2 then v else τ i)) v with
        | none =>
          refine az_er 2 rfl ?_
          refine az_ic_gt rfl rfl (fun c10 => absurd c10 (nI_nlt (a := 60) (show v ≤ 60 by omega) (by omega))) (fun c10 => ?_)
          refine az_er 9 rfl ?_
          rw [hF 1 (by omega), c4]
          refine az_ecall rfl rfl rfl rfl (ct_ffr (τ := (fun i => if i = 2 then v else τ i)) (rt_So_e (rt_So_c hS (fun j h2 _ => if_neg h2)) (fun a ha => hF a (by omega))) hV2) ?_
          rintro _ h2 ⟨rfl, fI, fF⟩
          have hF2 : ∀ a, (a < 48 ∨ 54 < a) → h2 a = h a := fun a ha => (fF a ha).trans (hF a ha)
          have g9 := fs_v hV2 fI
          have v1 := g9.2 _ hj0
          rw [v1.1]
          refine az_if_eq rfl rfl (fun c35 => absurd c35 (by decide)) (fun c35 => ?_)
          refine az_er 2 rfl ?_
          refine az_ecallF rfl rfl rfl rfl (ct_pof v1.2.1 hV2.1 v1.2.2) ?_
          refine az_er 1 rfl ?_
          refine az_ic_le rfl rfl (fun c46 => absurd c46 (fun q => absurd (Int32.le_trans (nI_pos' (n := pl_sn (pX (fun i => if i = 2 then v else τ i) j0) (τ 0)) (by omega)) q) (by decide))) (fun c46 => ?_)
          refine az_er 2 rfl ?_
          refine az_ecallF rfl rfl rfl rfl (ct_pof v1.2.1 hV2.1 v1.2.2) ?_
          refine az_er 5 rfl ?_
          exact ih (v + 1) _ _ _ _ h2 (by omega) (by omega) (by rw [show pn_s (fun v => vl_p (fun i => if i = 2 then v else τ i)) (v + 1) = some (v, ((pl_sn (pX (fun i => if i = 2 then v else τ i) j0) (τ 0) : Nat) : Int)) from pn_s_0 (vl_p_f hj0) hps] <;> rfl) (by rw [show pn_s (fun v => vl_p (fun i => if i = 2 then v else τ i)) (v + 1) = some (v, ((pl_sn (pX (fun i => if i = 2 then v else τ i) j0) (τ 0) : Nat) : Int)) from pn_s_0 (vl_p_f hj0) hps] <;> exact iI_n _) (nI_1' v) hF2 (Or.inl rfl)
        | some q9 =>
          obtain ⟨b9, y9⟩ := q9
          have p9 := pn_cha hV (by omega) hps
          by_cases hlt : y9 < ((pl_sn (pX (fun i => if i = 2 then v else τ i) j0) (τ 0) : Nat) : Int)
          · skip
            refine az_er 2 rfl ?_
            refine az_ic_gt rfl rfl (fun c10 => absurd c10 (nI_nlt (a := 60) (show v ≤ 60 by omega) (by omega))) (fun c10 => ?_)
            refine az_er 9 rfl ?_
            rw [hF 1 (by omega), c4]
            refine az_ecall rfl rfl rfl rfl (ct_ffr (τ := (fun i => if i = 2 then v else τ i)) (rt_So_e (rt_So_c hS (fun j h2 _ => if_neg h2)) (fun a ha => hF a (by omega))) hV2) ?_
            rintro _ h2 ⟨rfl, fI, fF⟩
            have hF2 : ∀ a, (a < 48 ∨ 54 < a) → h2 a = h a := fun a ha => (fF a ha).trans (hF a ha)
            have g9 := fs_v hV2 fI
            have v1 := g9.2 _ hj0
            rw [v1.1]
            refine az_if_eq rfl rfl (fun c35 => absurd c35 (by decide)) (fun c35 => ?_)
            refine az_er 2 rfl ?_
            refine az_ecallF rfl rfl rfl rfl (ct_pof v1.2.1 hV2.1 v1.2.2) ?_
            refine az_er 1 rfl ?_
            refine az_ic_le rfl rfl (fun c46 => absurd ((nI_iI (by omega) (by omega)).mp (show nI (pl_sn (pX (fun i => if i = 2 then v else τ i) j0) (τ 0)) ≤ iI y9 from c46)) (by omega)) (fun c46 => ?_)
            refine az_er 2 rfl ?_
            refine az_ecallF rfl rfl rfl rfl (ct_pof v1.2.1 hV2.1 v1.2.2) ?_
            refine az_er 5 rfl ?_
            exact ih (v + 1) _ _ _ _ h2 (by omega) (by omega) (by rw [show pn_s (fun v => vl_p (fun i => if i = 2 then v else τ i)) (v + 1) = some (v, ((pl_sn (pX (fun i => if i = 2 then v else τ i) j0) (τ 0) : Nat) : Int)) from (pn_s_s (vl_p_f hj0) hps).trans (if_pos hlt)] <;> rfl) (by rw [show pn_s (fun v => vl_p (fun i => if i = 2 then v else τ i)) (v + 1) = some (v, ((pl_sn (pX (fun i => if i = 2 then v else τ i) j0) (τ 0) : Nat) : Int)) from (pn_s_s (vl_p_f hj0) hps).trans (if_pos hlt)] <;> exact iI_n _) (nI_1' v) hF2 (Or.inl rfl)
          · skip
            refine az_er 2 rfl ?_
            refine az_ic_gt rfl rfl (fun c10 => absurd c10 (nI_nlt (a := 60) (show v ≤ 60 by omega) (by omega))) (fun c10 => ?_)
            refine az_er 9 rfl ?_
            rw [hF 1 (by omega), c4]
            refine az_ecall rfl rfl rfl rfl (ct_ffr (τ := (fun i => if i = 2 then v else τ i)) (rt_So_e (rt_So_c hS (fun j h2 _ => if_neg h2)) (fun a ha => hF a (by omega))) hV2) ?_
            rintro _ h2 ⟨rfl, fI, fF⟩
            have hF2 : ∀ a, (a < 48 ∨ 54 < a) → h2 a = h a := fun a ha => (fF a ha).trans (hF a ha)
            have g9 := fs_v hV2 fI
            have v1 := g9.2 _ hj0
            rw [v1.1]
            refine az_if_eq rfl rfl (fun c35 => absurd c35 (by decide)) (fun c35 => ?_)
            refine az_er 2 rfl ?_
            refine az_ecallF rfl rfl rfl rfl (ct_pof v1.2.1 hV2.1 v1.2.2) ?_
            refine az_er 1 rfl ?_
            refine az_ic_le rfl rfl (fun c46 => ?_) (fun c46 => absurd ((nI_iI (by omega) (by omega)).mpr (show ((pl_sn (pX (fun i => if i = 2 then v else τ i) j0) (τ 0) : Nat) : Int) ≤ y9 by omega)) (show ¬ nI (pl_sn (pX (fun i => if i = 2 then v else τ i) j0) (τ 0)) ≤ iI y9 from c46))
            refine az_er 2 rfl ?_
            exact ih (v + 1) _ _ _ _ h2 (by omega) (by omega) (by rw [show pn_s (fun v => vl_p (fun i => if i = 2 then v else τ i)) (v + 1) = some (b9, y9) from (pn_s_s (vl_p_f hj0) hps).trans (if_neg hlt)] <;> rfl) (by rw [show pn_s (fun v => vl_p (fun i => if i = 2 then v else τ i)) (v + 1) = some (b9, y9) from (pn_s_s (vl_p_f hj0) hps).trans (if_neg hlt)] <;> rfl) (nI_1' v) hF2 (Or.inl rfl)
    · exact hfalse.elim
set_option maxRecDepth 100000 in
theorem ct_cha {sc : az_S} {h : az_H} {τ : Nat → Nat} (hS : rt_So τ h) (hV : rt_V τ) (c3 : h 1 3 = nI (τ 2)) (c4 : h 1 4 = nI (τ 5)) : az_E sc az_m_X7_chairs 0 [.ref 0] [] h (fun v9 h' => v9 = some (.int (pn_b (pn_s (fun v => vl_p (fun i => if i = 2 then v else τ i)) 61))) ∧ ∀ a, (a < 48 ∨ 54 < a) → h' a = h a) := by
  refine az_er 6 rfl ?_
  exact lp_cha hS hV c3 c4 61 0 _ _ _ [] h (by omega) (by omega) rfl rfl rfl (fun _ _ => rfl) (Or.inl rfl)
set_option maxRecDepth 100000 in
theorem lm_cha {sc : az_S} {h : az_H} {τ : Nat → Nat} {wa : Int32} (hV : rt_V τ) (hwa : wa = nI (τ 2)) : ∀ (d v : Nat) (x y z : Int32) (u : Nat) (hh : az_H), v ≤ 61 → 61 - v = d → x = pn_b (pn_s (fun v => vl_p (fun i => if i = 2 then v else τ i)) v) → y = pn_y 0 (pn_s (fun v => vl_p (fun i => if i = 2 then v else τ i)) v) → z = nI v → rt_M 61 (fun i => if i = 2 then u else τ i) hh → (∀ a, a ≠ 59 → a ≠ 61 → a ≠ 71 → a ≠ 72 → hh a = h a) → (∀ j, (j < 18 ∨ 23 < j) → hh 59 j = h 59 j) → az_E sc az_m_X8_chairs 15 [.ref 59, .int wa, .int x, .int y, .int z] [] hh (fun v9 h' => v9 = some (.int (pn_b (pn_s (fun v => vl_p (fun i => if i = 2 then v else τ i)) 61))) ∧ rt_M 61 τ h' ∧ (∀ a, a ≠ 59 → a ≠ 61 → a ≠ 71 → a ≠ 72 → h' a = h a) ∧ ∀ j, (j < 18 ∨ 23 < j) → h' 59 j = h 59 j) := by
  subst hwa
  intro d
  induction d with
  | zero =>
    intro v x y z u hh hv hd hx hy hz hM hF hf
    subst hx
    subst hy
    subst hz
    refine az_er 2 rfl ?_
    refine az_ic_gt rfl rfl (fun c19 => ?_) (fun c19 => absurd (nI_lt (a := 60) (show 60 < v by omega) (by omega)) c19)
    refine az_er 4 rfl ?_
    refine az_iasI rfl rfl (show _ = nI 2 from rfl) (show 2 < 70 by omega) (by decide) ?_
    refine az_er 1 rfl ?_
    refine az_eret rfl rfl rfl ?_
    have e : v = 61 := by omega
    subst e
    exact ⟨rfl, rt_M_up hM (fun i _ hi => (if_neg hi).symm) rfl, fun a p q r s => by rw [az_up_o q]; exact hF a p q r s, fun j hj => by rw [az_up_o (by decide)]; exact hf j hj⟩
  | succ d ih =>
    intro v x y z u hh hv hd hx hy hz hM hF hf
    subst hx
    subst hy
    subst hz
    have hV2 := rt_V_chp hV (show v ≤ 60 by omega)
    rcases vl_ex (fun i => if i = 2 then v else τ i) with hn | ⟨⟨j0, hj0⟩, z1, hz0⟩
    · cases hps : pn_s (fun v => vl_p (fun i => if i = 2 then v else τ i)) v with
      | none =>
        refine az_er 2 rfl ?_
        refine az_ic_gt rfl rfl (fun c19 => absurd c19 (nI_nlt (a := 60) (show v ≤ 60 by omega) (by omega))) (fun c19 => ?_)
        refine az_er 4 rfl ?_
        refine az_iasI rfl rfl (show _ = nI 2 from rfl) (show 2 < 70 by omega) (by decide) ?_
        refine az_er 1 rfl ?_
        refine az_ecall rfl rfl rfl rfl (cm_gt (τ := (fun i => if i = 2 then v else τ i)) (rt_M_up hM (fun i _ hi => (if_neg hi).trans (if_neg hi).symm) (congrArg nI (if_pos rfl).symm)) hV2 (pX_b hV2)) ?_
        rintro _ h2 ⟨rfl, gB, gR, gF⟩
        have hM2 : rt_M 61 (fun i => if i = 2 then v else τ i) h2 := gF.M (rt_M_up hM (fun i _ hi => (if_neg hi).trans (if_neg hi).symm) (congrArg nI (if_pos rfl).symm))
        have hF2 : ∀ a, a ≠ 59 → a ≠ 61 → a ≠ 71 → a ≠ 72 → h2 a = h a := fun a p q r s => by rw [gF.1 a p r s, az_up_o q]; exact hF a p q r s
        have hf2 : ∀ j, (j < 18 ∨ 23 < j) → h2 59 j = h 59 j := fun j hj => by rw [gF.2 j hj, az_up_o (by decide)]; exact hf j hj
        refine az_er 2 rfl ?_
        rw [gt_R_0 gR hn]
        refine az_if_le rfl rfl (fun c38 => ?_) (fun c38 => absurd (show nI 0 ≤ 0 by decide) c38)
        refine az_er 2 rfl ?_
        exact ih (v + 1) _ _ _ _ h2 (by omega) (by omega) (by rw [pn_s_n (vl_p_n hn), hps] <;> rfl) (by rw [pn_s_n (vl_p_n hn), hps] <;> rfl) (nI_1' v) hM2 hF2 hf2
      | some q9 =>
        obtain ⟨b9, y9⟩ := q9
        have p9 := pn_cha hV (by omega) hps
        refine az_er 2 rfl ?_
        refine az_ic_gt rfl rfl (fun c19 => absurd c19 (nI_nlt (a := 60) (show v ≤ 60 by omega) (by omega))) (fun c19 => ?_)
        refine az_er 4 rfl ?_
        refine az_iasI rfl rfl (show _ = nI 2 from rfl) (show 2 < 70 by omega) (by decide) ?_
        refine az_er 1 rfl ?_
        refine az_ecall rfl rfl rfl rfl (cm_gt (τ := (fun i => if i = 2 then v else τ i)) (rt_M_up hM (fun i _ hi => (if_neg hi).trans (if_neg hi).symm) (congrArg nI (if_pos rfl).symm)) hV2 (pX_b hV2)) ?_
        rintro _ h2 ⟨rfl, gB, gR, gF⟩
        have hM2 : rt_M 61 (fun i => if i = 2 then v else τ i) h2 := gF.M (rt_M_up hM (fun i _ hi => (if_neg hi).trans (if_neg hi).symm) (congrArg nI (if_pos rfl).symm))
        have hF2 : ∀ a, a ≠ 59 → a ≠ 61 → a ≠ 71 → a ≠ 72 → h2 a = h a := fun a p q r s => by rw [gF.1 a p r s, az_up_o q]; exact hF a p q r s
        have hf2 : ∀ j, (j < 18 ∨ 23 < j) → h2 59 j = h 59 j := fun j hj => by rw [gF.2 j hj, az_up_o (by decide)]; exact hf j hj
        refine az_er 2 rfl ?_
        rw [gt_R_0 gR hn]
        refine az_if_le rfl rfl (fun c38 => ?_) (fun c38 => absurd (show nI 0 ≤ 0 by decide) c38)
        refine az_er 2 rfl ?_
        exact ih (v + 1) _ _ _ _ h2 (by omega) (by omega) (by rw [pn_s_n (vl_p_n hn), hps] <;> rfl) (by rw [pn_s_n (vl_p_n hn), hps] <;> rfl) (nI_1' v) hM2 hF2 hf2
    · have z9 := vl_p_b hV2 (vl_p_f hj0)
      have z8 : ((pl_sn (pX (fun i => if i = 2 then v else τ i) j0) (τ 0) : Nat) : Int) ≤ 36 ∧ 0 ≤ ((pl_sn (pX (fun i => if i = 2 then v else τ i) j0) (τ 0) : Nat) : Int) := ⟨z9.2, z9.1⟩
      cases hps : pn_s (fun v => vl_p (fun i => if i = 2 then v else τ i)) v with
      | none =>
        refine az_er 2 rfl ?_
        refine az_ic_gt rfl rfl (fun c19 => absurd c19 (nI_nlt (a := 60) (show v ≤ 60 by omega) (by omega))) (fun c19 => ?_)
        refine az_er 4 rfl ?_
        refine az_iasI rfl rfl (show _ = nI 2 from rfl) (show 2 < 70 by omega) (by decide) ?_
        refine az_er 1 rfl ?_
        refine az_ecall rfl rfl rfl rfl (cm_gt (τ := (fun i => if i = 2 then v else τ i)) (rt_M_up hM (fun i _ hi => (if_neg hi).trans (if_neg hi).symm) (congrArg nI (if_pos rfl).symm)) hV2 (pX_b hV2)) ?_
        rintro _ h2 ⟨rfl, gB, gR, gF⟩
        have hM2 : rt_M 61 (fun i => if i = 2 then v else τ i) h2 := gF.M (rt_M_up hM (fun i _ hi => (if_neg hi).trans (if_neg hi).symm) (congrArg nI (if_pos rfl).symm))
        have hF2 : ∀ a, a ≠ 59 → a ≠ 61 → a ≠ 71 → a ≠ 72 → h2 a = h a := fun a p q r s => by rw [gF.1 a p r s, az_up_o q]; exact hF a p q r s
        have hf2 : ∀ j, (j < 18 ∨ 23 < j) → h2 59 j = h 59 j := fun j hj => by rw [gF.2 j hj, az_up_o (by decide)]; exact hf j hj
        refine az_er 2 rfl ?_
        obtain ⟨⟨n9, n1, n2, e18⟩, e20, e72, e19⟩ := gt_R_v hV2 gR hj0 hz0
        rw [e18]
        refine az_if_le rfl rfl (fun c38 => absurd c38 (nI_nle (by omega) (by omega))) (fun c38 => ?_)
        refine az_er 2 rfl ?_
        refine az_ic_eq rfl rfl (fun c44 => ?_) (fun c44 => absurd rfl c44)
        refine az_er 7 rfl ?_
        exact ih (v + 1) _ _ _ _ h2 (by omega) (by omega) (by rw [show pn_s (fun v => vl_p (fun i => if i = 2 then v else τ i)) (v + 1) = some (v, ((pl_sn (pX (fun i => if i = 2 then v else τ i) j0) (τ 0) : Nat) : Int)) from pn_s_0 (vl_p_f hj0) hps] <;> rfl) (by rw [show pn_s (fun v => vl_p (fun i => if i = 2 then v else τ i)) (v + 1) = some (v, ((pl_sn (pX (fun i => if i = 2 then v else τ i) j0) (τ 0) : Nat) : Int)) from pn_s_0 (vl_p_f hj0) hps] <;> exact e20.trans (iI_n _)) (nI_1' v) hM2 hF2 hf2
      | some q9 =>
        obtain ⟨b9, y9⟩ := q9
        have p9 := pn_cha hV (by omega) hps
        by_cases hlt : y9 < ((pl_sn (pX (fun i => if i = 2 then v else τ i) j0) (τ 0) : Nat) : Int)
        · skip
          refine az_er 2 rfl ?_
          refine az_ic_gt rfl rfl (fun c19 => absurd c19 (nI_nlt (a := 60) (show v ≤ 60 by omega) (by omega))) (fun c19 => ?_)
          refine az_er 4 rfl ?_
          refine az_iasI rfl rfl (show _ = nI 2 from rfl) (show 2 < 70 by omega) (by decide) ?_
          refine az_er 1 rfl ?_
          refine az_ecall rfl rfl rfl rfl (cm_gt (τ := (fun i => if i = 2 then v else τ i)) (rt_M_up hM (fun i _ hi => (if_neg hi).trans (if_neg hi).symm) (congrArg nI (if_pos rfl).symm)) hV2 (pX_b hV2)) ?_
          rintro _ h2 ⟨rfl, gB, gR, gF⟩
          have hM2 : rt_M 61 (fun i => if i = 2 then v else τ i) h2 := gF.M (rt_M_up hM (fun i _ hi => (if_neg hi).trans (if_neg hi).symm) (congrArg nI (if_pos rfl).symm))
          have hF2 : ∀ a, a ≠ 59 → a ≠ 61 → a ≠ 71 → a ≠ 72 → h2 a = h a := fun a p q r s => by rw [gF.1 a p r s, az_up_o q]; exact hF a p q r s
          have hf2 : ∀ j, (j < 18 ∨ 23 < j) → h2 59 j = h 59 j := fun j hj => by rw [gF.2 j hj, az_up_o (by decide)]; exact hf j hj
          refine az_er 2 rfl ?_
          obtain ⟨⟨n9, n1, n2, e18⟩, e20, e72, e19⟩ := gt_R_v hV2 gR hj0 hz0
          rw [e18]
          refine az_if_le rfl rfl (fun c38 => absurd c38 (nI_nle (by omega) (by omega))) (fun c38 => ?_)
          refine az_er 2 rfl ?_
          refine az_ic_eq rfl rfl (fun c44 => absurd c44 (pn_9 (by omega))) (fun c44 => ?_)
          refine az_er 3 rfl ?_
          rw [e20]
          refine az_ic_le rfl rfl (fun c52 => absurd ((nI_iI (by omega) (by omega)).mp (show nI (pl_sn (pX (fun i => if i = 2 then v else τ i) j0) (τ 0)) ≤ iI y9 from c52)) (by omega)) (fun c52 => ?_)
          refine az_er 7 rfl ?_
          exact ih (v + 1) _ _ _ _ h2 (by omega) (by omega) (by rw [show pn_s (fun v => vl_p (fun i => if i = 2 then v else τ i)) (v + 1) = some (v, ((pl_sn (pX (fun i => if i = 2 then v else τ i) j0) (τ 0) : Nat) : Int)) from (pn_s_s (vl_p_f hj0) hps).trans (if_pos hlt)] <;> rfl) (by rw [show pn_s (fun v => vl_p (fun i => if i = 2 then v else τ i)) (v + 1) = some (v, ((pl_sn (pX (fun i => if i = 2 then v else τ i) j0) (τ 0) : Nat) : Int)) from (pn_s_s (vl_p_f hj0) hps).trans (if_pos hlt)] <;> exact e20.trans (iI_n _)) (nI_1' v) hM2 hF2 hf2
        · skip
          refine az_er 2 rfl ?_
          refine az_ic_gt rfl rfl (fun c19 => absurd c19 (nI_nlt (a := 60) (show v ≤ 60 by omega) (by omega))) (fun c19 => ?_)
          refine az_er 4 rfl ?_
          refine az_iasI rfl rfl (show _ = nI 2 from rfl) (show 2 < 70 by omega) (by decide) ?_
          refine az_er 1 rfl ?_
          refine az_ecall rfl rfl rfl rfl (cm_gt (τ := (fun i => if i = 2 then v else τ i)) (rt_M_up hM (fun i _ hi => (if_neg hi).trans (if_neg hi).symm) (congrArg nI (if_pos rfl).symm)) hV2 (pX_b hV2)) ?_
          rintro _ h2 ⟨rfl, gB, gR, gF⟩
          have hM2 : rt_M 61 (fun i => if i = 2 then v else τ i) h2 := gF.M (rt_M_up hM (fun i _ hi => (if_neg hi).trans (if_neg hi).symm) (congrArg nI (if_pos rfl).symm))
          have hF2 : ∀ a, a ≠ 59 → a ≠ 61 → a ≠ 71 → a ≠ 72 → h2 a = h a := fun a p q r s => by rw [gF.1 a p r s, az_up_o q]; exact hF a p q r s
          have hf2 : ∀ j, (j < 18 ∨ 23 < j) → h2 59 j = h 59 j := fun j hj => by rw [gF.2 j hj, az_up_o (by decide)]; exact hf j hj
          refine az_er 2 rfl ?_
          obtain ⟨⟨n9, n1, n2, e18⟩, e20, e72, e19⟩ := gt_R_v hV2 gR hj0 hz0
          rw [e18]
          refine az_if_le rfl rfl (fun c38 => absurd c38 (nI_nle (by omega) (by omega))) (fun c38 => ?_)
          refine az_er 2 rfl ?_
          refine az_ic_eq rfl rfl (fun c44 => absurd c44 (pn_9 (by omega))) (fun c44 => ?_)
          refine az_er 3 rfl ?_
          rw [e20]
          refine az_ic_le rfl rfl (fun c52 => ?_) (fun c52 => absurd ((nI_iI (by omega) (by omega)).mpr (show ((pl_sn (pX (fun i => if i = 2 then v else τ i) j0) (τ 0) : Nat) : Int) ≤ y9 by omega)) (show ¬ nI (pl_sn (pX (fun i => if i = 2 then v else τ i) j0) (τ 0)) ≤ iI y9 from c52))
          refine az_er 2 rfl ?_
          exact ih (v + 1) _ _ _ _ h2 (by omega) (by omega) (by rw [show pn_s (fun v => vl_p (fun i => if i = 2 then v else τ i)) (v + 1) = some (b9, y9) from (pn_s_s (vl_p_f hj0) hps).trans (if_neg hlt)] <;> rfl) (by rw [show pn_s (fun v => vl_p (fun i => if i = 2 then v else τ i)) (v + 1) = some (b9, y9) from (pn_s_s (vl_p_f hj0) hps).trans (if_neg hlt)] <;> rfl) (nI_1' v) hM2 hF2 hf2
set_option maxRecDepth 100000 in
theorem cm_cha {sc : az_S} {h : az_H} {τ : Nat → Nat} (hV : rt_V τ) (hM : rt_M 61 τ h) : az_E sc az_m_X8_chairs 0 [.ref 59] [] h (fun v9 h' => v9 = some (.int (pn_b (pn_s (fun v => vl_p (fun i => if i = 2 then v else τ i)) 61))) ∧ rt_M 61 τ h' ∧ (∀ a, a ≠ 59 → a ≠ 61 → a ≠ 71 → a ≠ 72 → h' a = h a) ∧ ∀ j, (j < 18 ∨ 23 < j) → h' 59 j = h 59 j) := by
  refine az_er 3 rfl ?_
  refine az_iaI rfl rfl (show _ = nI 2 from rfl) (show 2 < 70 by omega) (by decide) (hM 2 (by omega)) ?_
  refine az_er 7 rfl ?_
  exact lm_cha hV rfl 61 0 _ _ _ (τ 2) h (by omega) (by omega) rfl rfl rfl (rt_M_cong hM (fun i _ => by by_cases q : i = 2; exact (if_pos q).trans (congrArg τ q).symm; exact if_neg q)) (fun _ _ _ _ _ => rfl) (fun _ _ => rfl)
set_option maxRecDepth 100000 in
theorem op_chairs  : rt_op az_m_X7_chairs az_m_X8_chairs [] := by
  intro sc σ h hC hW
  have hS := rt_C_So hC
  have c3 : h 1 3 = nI (σ.1 2) := hC.1.1.1
  have c4 : h 1 4 = nI (σ.1 5) := hC.1.1.2.1
  have h04 := hW.1.1
  refine ⟨pn_b (pn_s (fun v => vl_p (fun i => if i = 2 then v else σ.1 i)) 61), σ, hW, ?_, ?_⟩
  · refine az_E.mono (ct_cha hS hW.1 c3 c4) ?_
    rintro v h2 ⟨rfl, fF⟩
    exact ⟨rfl, rt_C_p hC fF, fun a ha => fF a (by omega)⟩
  · intro h1 hR
    refine az_E.mono (cm_cha hW.1 hR.1) ?_
    rintro v h2 ⟨rfl, m1, m2, m3⟩
    exact ⟨rfl, rt_R_P hR m1 m2 m3, fun a ha => m2 a (by omega) (by omega) (by omega) (by omega)⟩
