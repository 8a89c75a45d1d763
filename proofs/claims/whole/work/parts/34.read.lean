/-! THE REFERENCE READS A TOWN -/
def rp_H (h h' : az_H) : Prop := (∀ a, a ≠ 59 → a ≠ 61 → a ≠ 68 → h' a = h a) ∧ ∀ j, j ≠ 7 → j ≠ 8 → j ≠ 12 → h' 59 j = h 59 j
theorem rp_H.rf {h : az_H} : rp_H h h := ⟨fun _ _ _ _ => rfl, fun _ _ _ _ => rfl⟩
theorem rp_H.tr {h h1 h2 : az_H} (a : rp_H h h1) (b : rp_H h1 h2) : rp_H h h2 := ⟨fun k x y z => (b.1 k x y z).trans (a.1 k x y z), fun j x y z => (b.2 j x y z).trans (a.2 j x y z)⟩
theorem rp_G.rf {h : az_H} : rp_G h h := ⟨fun _ _ _ => rfl, fun _ _ _ _ => rfl⟩
theorem rp_G.tr {h h1 h2 : az_H} (a : rp_G h h1) (b : rp_G h1 h2) : rp_G h h2 := ⟨fun k x z => (b.1 k x z).trans (a.1 k x z), fun j x y z => (b.2 j x y z).trans (a.2 j x y z)⟩
theorem rp_G.up {h h1 : az_H} {j : Nat} {v : Int32} (a : rp_G h h1) (hj : j = 7 ∨ j = 8) : rp_G h (az_up h1 59 j v) := ⟨fun k x z => by rw [az_up_o x]; exact a.1 k x z, fun i x y z => by rw [az_up_n (by omega)]; exact a.2 i x y z⟩
theorem rp_H.of {h h1 : az_H} (a : rp_G h h1) : rp_H h h1 := ⟨fun k x _ z => a.1 k x z, a.2⟩
theorem rp_H.up {h h1 : az_H} {j : Nat} {v : Int32} (a : rp_H h h1) (hj : j = 7 ∨ j = 8) : rp_H h (az_up h1 59 j v) := ⟨fun k x y z => by rw [az_up_o x]; exact a.1 k x y z, fun i x y z => by rw [az_up_n (by omega)]; exact a.2 i x y z⟩
theorem rp_H.T {L : Nat → Nat} {n : Nat} {h h1 : az_H} (a : rp_H h h1) (hT : rp_T L n h) : rp_T L n h1 := ⟨hT.1, hT.2.1, by rw [a.2 6 (by decide) (by decide) (by decide)]; exact hT.2.2.1, by rw [a.1 64 (by decide) (by decide) (by decide)]; exact hT.2.2.2⟩
theorem rp_H.K {h h1 : az_H} (a : rp_H h h1) (hK : rp_K h) : rp_K h1 := ⟨by rw [a.1 65 (by decide) (by decide) (by decide)]; exact hK.1, by rw [a.1 66 (by decide) (by decide) (by decide)]; exact hK.2.1, by rw [a.1 67 (by decide) (by decide) (by decide)]; exact hK.2.2⟩
theorem rt_M_ar {τ : Nat → Nat} {h : az_H} {c kd sp : Nat} {x0 x1 x2 y : Int32} (hM : rt_M c τ h) (h6 : τ 1 < 6) (hx0 : x0 = nI kd) (hx1 : x1 = nI sp) (hx2 : x2 = nI 0) (hy : y = nI (τ 1 + 1)) : rt_M c (sq_ar τ kd sp) (az_up (az_up (az_up (az_up h c (40 + 3 * τ 1) x0) c (40 + 3 * τ 1 + 1) x1) c (40 + 3 * τ 1 + 2) x2) c 1 y) := by
  intro j hj
  unfold sq_ar
  by_cases h1 : j = 1
  · subst h1; rw [if_pos rfl, az_up_s, hy]
  · rw [if_neg h1, az_up_n h1]
    by_cases h2 : j = 40 + 3 * τ 1
    · rw [if_pos h2, az_up_n (by omega), az_up_n (by omega), h2, az_up_s, hx0]
    · rw [if_neg h2]
      by_cases h3 : j = 41 + 3 * τ 1
      · rw [if_pos h3, az_up_n (by omega), show j = 40 + 3 * τ 1 + 1 by omega, az_up_s, hx1]
      · rw [if_neg h3]
        by_cases h4 : j = 42 + 3 * τ 1
        · rw [if_pos h4, show j = 40 + 3 * τ 1 + 2 by omega, az_up_s, hx2]
        · rw [if_neg h4, az_up_n (by omega), az_up_n (by omega), az_up_n (by omega)]
          exact hM j hj
theorem sq_ap_01 {τ f : Nat → Nat} {k : Nat} : (sq_ap τ k f 0 = τ 0 + if k = 1 then 1 else 0) ∧ (sq_ap τ k f 1 = τ 1 + if k = 2 then 1 else 0) := by
  unfold sq_ap
  by_cases h0 : k = 0
  · subst h0; exact ⟨rfl, rfl⟩
  · rw [if_neg h0]
    by_cases h1 : k = 1
    · subst h1
      rw [if_pos rfl]
      exact ⟨by rw [sq_as, if_pos rfl]; rfl, by rw [sq_as, if_neg (by decide), if_neg (by omega)]; rfl⟩
    · rw [if_neg h1]
      by_cases h2 : k = 2
      · subst h2
        rw [if_pos rfl]
        exact ⟨by rw [sq_ar, if_neg (by decide), if_neg (by omega), if_neg (by omega), if_neg (by omega)]; rfl, by rw [sq_ar, if_pos rfl]; rfl⟩
      · rw [if_neg h2, if_neg h1, if_neg h2]
        exact ⟨rfl, rfl⟩
set_option maxRecDepth 100000 in
theorem cm_mu1 {sc : az_S} {h : az_H} {s r : Nat} {f : Nat → Nat} {x y : Int32} (hx : x = nI s) (hy : y = nI r) (hs4 : s ≤ 99) (hr4 : r ≤ 99) (hf9 : ∀ j, f j ≤ 999) (h12 : h 59 12 = nI 1) (hF : ∀ j, j < sq_fn 1 → h 68 j = nI (f j)) : az_F sc az_m_X8_isAsItMustBe [.ref 59, .int x, .int y] h (some (.int (sq_b (sq_va s r 1 f)))) h := by
  subst hx
  subst hy
  have f0 := hf9 0
  have f1 := hf9 1
  have f2 := hf9 2
  refine az_F.of ?_
  refine az_er 2 rfl ?_
  rw [h12]
  refine az_er 4 rfl ?_
  refine az_iaI rfl rfl (show _ = nI 0 from rfl) (show 0 < 6 by omega) (by decide) (hF 0 (by decide)) ?_
  refine az_er 1 rfl ?_
  refine az_ic_lt rfl rfl (fun c39 => ?_) (fun c39 => ?_)
  · refine az_er 1 rfl ?_
    refine az_zret rfl rfl (by first | exact Or.inl rfl | exact Or.inr rfl) ?_
    first | replace c39 := (nI_ltI (b := 1) (by omega) (by omega)).mp c39 | replace c39 := mt (nI_ltI (b := 1) (by omega) (by omega)).mpr c39 | skip
    first | replace c44 := (nI_leI (a := 4) (by omega) (by omega)).mp c44 | replace c44 := mt (nI_leI (a := 4) (by omega) (by omega)).mpr c44 | skip
    first | replace c54 := (nI_eq (b := 2) (by omega) (by omega)).mp c54 | replace c54 := mt (nI_eq (b := 2) (by omega) (by omega)).mpr c54 | skip
    first | replace c64 := (nI_eq (b := 3) (by omega) (by omega)).mp c64 | replace c64 := mt (nI_eq (b := 3) (by omega) (by omega)).mpr c64 | skip
    first | replace c74 := (nI_leI (by omega) (by omega)).mp c74 | replace c74 := mt (nI_leI (by omega) (by omega)).mpr c74 | skip
    rw [sq_va]
    first | exact ⟨congrArg (fun z => some (Value.int z)) (show _ = sq_b (decide _) from (sq_bt (by omega)).symm), rfl⟩ | exact ⟨congrArg (fun z => some (Value.int z)) (show _ = sq_b (decide _) from (sq_bf (by omega)).symm), rfl⟩
  · refine az_er 2 rfl ?_
    refine az_ic_ge rfl rfl (fun c44 => ?_) (fun c44 => ?_)
    · refine az_er 1 rfl ?_
      refine az_zret rfl rfl (by first | exact Or.inl rfl | exact Or.inr rfl) ?_
      first | replace c39 := (nI_ltI (b := 1) (by omega) (by omega)).mp c39 | replace c39 := mt (nI_ltI (b := 1) (by omega) (by omega)).mpr c39 | skip
      first | replace c44 := (nI_leI (a := 4) (by omega) (by omega)).mp c44 | replace c44 := mt (nI_leI (a := 4) (by omega) (by omega)).mpr c44 | skip
      first | replace c54 := (nI_eq (b := 2) (by omega) (by omega)).mp c54 | replace c54 := mt (nI_eq (b := 2) (by omega) (by omega)).mpr c54 | skip
      first | replace c64 := (nI_eq (b := 3) (by omega) (by omega)).mp c64 | replace c64 := mt (nI_eq (b := 3) (by omega) (by omega)).mpr c64 | skip
      first | replace c74 := (nI_leI (by omega) (by omega)).mp c74 | replace c74 := mt (nI_leI (by omega) (by omega)).mpr c74 | skip
      rw [sq_va]
      first | exact ⟨congrArg (fun z => some (Value.int z)) (show _ = sq_b (decide _) from (sq_bt (by omega)).symm), rfl⟩ | exact ⟨congrArg (fun z => some (Value.int z)) (show _ = sq_b (decide _) from (sq_bf (by omega)).symm), rfl⟩
    · refine az_er 3 rfl ?_
      refine az_iaI rfl rfl (show _ = nI 1 from rfl) (show 1 < 6 by omega) (by decide) (hF 1 (by decide)) ?_
      refine az_er 1 rfl ?_
      refine az_ic_eq rfl rfl (fun c54 => ?_) (fun c54 => ?_)
      · refine az_er 3 rfl ?_
        refine az_iaI rfl rfl (show _ = nI 2 from rfl) (show 2 < 6 by omega) (by decide) (hF 2 (by decide)) ?_
        refine az_er 1 rfl ?_
        refine az_ic_ge rfl rfl (fun c74 => ?_) (fun c74 => ?_)
        · refine az_er 1 rfl ?_
          refine az_zret rfl rfl (by first | exact Or.inl rfl | exact Or.inr rfl) ?_
          first | replace c39 := (nI_ltI (b := 1) (by omega) (by omega)).mp c39 | replace c39 := mt (nI_ltI (b := 1) (by omega) (by omega)).mpr c39 | skip
          first | replace c44 := (nI_leI (a := 4) (by omega) (by omega)).mp c44 | replace c44 := mt (nI_leI (a := 4) (by omega) (by omega)).mpr c44 | skip
          first | replace c54 := (nI_eq (b := 2) (by omega) (by omega)).mp c54 | replace c54 := mt (nI_eq (b := 2) (by omega) (by omega)).mpr c54 | skip
          first | replace c64 := (nI_eq (b := 3) (by omega) (by omega)).mp c64 | replace c64 := mt (nI_eq (b := 3) (by omega) (by omega)).mpr c64 | skip
          first | replace c74 := (nI_leI (by omega) (by omega)).mp c74 | replace c74 := mt (nI_leI (by omega) (by omega)).mpr c74 | skip
          rw [sq_va]
          first | exact ⟨congrArg (fun z => some (Value.int z)) (show _ = sq_b (decide _) from (sq_bt (by omega)).symm), rfl⟩ | exact ⟨congrArg (fun z => some (Value.int z)) (show _ = sq_b (decide _) from (sq_bf (by omega)).symm), rfl⟩
        · refine az_er 2 rfl ?_
          refine az_zret rfl rfl (by first | exact Or.inl rfl | exact Or.inr rfl) ?_
          first | replace c39 := (nI_ltI (b := 1) (by omega) (by omega)).mp c39 | replace c39 := mt (nI_ltI (b := 1) (by omega) (by omega)).mpr c39 | skip
          first | replace c44 := (nI_leI (a := 4) (by omega) (by omega)).mp c44 | replace c44 := mt (nI_leI (a := 4) (by omega) (by omega)).mpr c44 | skip
          first | replace c54 := (nI_eq (b := 2) (by omega) (by omega)).mp c54 | replace c54 := mt (nI_eq (b := 2) (by omega) (by omega)).mpr c54 | skip
          first | replace c64 := (nI_eq (b := 3) (by omega) (by omega)).mp c64 | replace c64 := mt (nI_eq (b := 3) (by omega) (by omega)).mpr c64 | skip
          first | replace c74 := (nI_leI (by omega) (by omega)).mp c74 | replace c74 := mt (nI_leI (by omega) (by omega)).mpr c74 | skip
          rw [sq_va]
          first | exact ⟨congrArg (fun z => some (Value.int z)) (show _ = sq_b (decide _) from (sq_bt (by omega)).symm), rfl⟩ | exact ⟨congrArg (fun z => some (Value.int z)) (show _ = sq_b (decide _) from (sq_bf (by omega)).symm), rfl⟩
      · refine az_er 3 rfl ?_
        refine az_iaI rfl rfl (show _ = nI 1 from rfl) (show 1 < 6 by omega) (by decide) (hF 1 (by decide)) ?_
        refine az_er 1 rfl ?_
        refine az_ic_ne rfl rfl (fun c64 => ?_) (fun c64 => ?_)
        · refine az_er 2 rfl ?_
          refine az_zret rfl rfl (by first | exact Or.inl rfl | exact Or.inr rfl) ?_
          first | replace c39 := (nI_ltI (b := 1) (by omega) (by omega)).mp c39 | replace c39 := mt (nI_ltI (b := 1) (by omega) (by omega)).mpr c39 | skip
          first | replace c44 := (nI_leI (a := 4) (by omega) (by omega)).mp c44 | replace c44 := mt (nI_leI (a := 4) (by omega) (by omega)).mpr c44 | skip
          first | replace c54 := (nI_eq (b := 2) (by omega) (by omega)).mp c54 | replace c54 := mt (nI_eq (b := 2) (by omega) (by omega)).mpr c54 | skip
          first | replace c64 := (nI_eq (b := 3) (by omega) (by omega)).mp c64 | replace c64 := mt (nI_eq (b := 3) (by omega) (by omega)).mpr c64 | skip
          first | replace c74 := (nI_leI (by omega) (by omega)).mp c74 | replace c74 := mt (nI_leI (by omega) (by omega)).mpr c74 | skip
          rw [sq_va]
          first | exact ⟨congrArg (fun z => some (Value.int z)) (show _ = sq_b (decide _) from (sq_bt (by omega)).symm), rfl⟩ | exact ⟨congrArg (fun z => some (Value.int z)) (show _ = sq_b (decide _) from (sq_bf (by omega)).symm), rfl⟩
        · refine az_er 3 rfl ?_
          refine az_iaI rfl rfl (show _ = nI 2 from rfl) (show 2 < 6 by omega) (by decide) (hF 2 (by decide)) ?_
          refine az_er 1 rfl ?_
          refine az_ic_ge rfl rfl (fun c74 => ?_) (fun c74 => ?_)
          · refine az_er 1 rfl ?_
            refine az_zret rfl rfl (by first | exact Or.inl rfl | exact Or.inr rfl) ?_
            first | replace c39 := (nI_ltI (b := 1) (by omega) (by omega)).mp c39 | replace c39 := mt (nI_ltI (b := 1) (by omega) (by omega)).mpr c39 | skip
            first | replace c44 := (nI_leI (a := 4) (by omega) (by omega)).mp c44 | replace c44 := mt (nI_leI (a := 4) (by omega) (by omega)).mpr c44 | skip
            first | replace c54 := (nI_eq (b := 2) (by omega) (by omega)).mp c54 | replace c54 := mt (nI_eq (b := 2) (by omega) (by omega)).mpr c54 | skip
            first | replace c64 := (nI_eq (b := 3) (by omega) (by omega)).mp c64 | replace c64 := mt (nI_eq (b := 3) (by omega) (by omega)).mpr c64 | skip
            first | replace c74 := (nI_leI (by omega) (by omega)).mp c74 | replace c74 := mt (nI_leI (by omega) (by omega)).mpr c74 | skip
            rw [sq_va]
            first | exact ⟨congrArg (fun z => some (Value.int z)) (show _ = sq_b (decide _) from (sq_bt (by omega)).symm), rfl⟩ | exact ⟨congrArg (fun z => some (Value.int z)) (show _ = sq_b (decide _) from (sq_bf (by omega)).symm), rfl⟩
          · refine az_er 2 rfl ?_
            refine az_zret rfl rfl (by first | exact Or.inl rfl | exact Or.inr rfl) ?_
            first | replace c39 := (nI_ltI (b := 1) (by omega) (by omega)).mp c39 | replace c39 := mt (nI_ltI (b := 1) (by omega) (by omega)).mpr c39 | skip
            first | replace c44 := (nI_leI (a := 4) (by omega) (by omega)).mp c44 | replace c44 := mt (nI_leI (a := 4) (by omega) (by omega)).mpr c44 | skip
            first | replace c54 := (nI_eq (b := 2) (by omega) (by omega)).mp c54 | replace c54 := mt (nI_eq (b := 2) (by omega) (by omega)).mpr c54 | skip
            first | replace c64 := (nI_eq (b := 3) (by omega) (by omega)).mp c64 | replace c64 := mt (nI_eq (b := 3) (by omega) (by omega)).mpr c64 | skip
            first | replace c74 := (nI_leI (by omega) (by omega)).mp c74 | replace c74 := mt (nI_leI (by omega) (by omega)).mpr c74 | skip
            rw [sq_va]
            first | exact ⟨congrArg (fun z => some (Value.int z)) (show _ = sq_b (decide _) from (sq_bt (by omega)).symm), rfl⟩ | exact ⟨congrArg (fun z => some (Value.int z)) (show _ = sq_b (decide _) from (sq_bf (by omega)).symm), rfl⟩
set_option maxRecDepth 100000 in
theorem cm_mu2 {sc : az_S} {h : az_H} {s r : Nat} {f : Nat → Nat} {x y : Int32} (hx : x = nI s) (hy : y = nI r) (hs4 : s ≤ 99) (hr4 : r ≤ 99) (hf9 : ∀ j, f j ≤ 999) (h12 : h 59 12 = nI 2) (hF : ∀ j, j < sq_fn 2 → h 68 j = nI (f j)) : az_F sc az_m_X8_isAsItMustBe [.ref 59, .int x, .int y] h (some (.int (sq_b (sq_va s r 2 f)))) h := by
  subst hx
  subst hy
  have f0 := hf9 0
  have f1 := hf9 1
  have f2 := hf9 2
  refine az_F.of ?_
  refine az_er 2 rfl ?_
  rw [h12]
  refine az_er 4 rfl ?_
  refine az_iaI rfl rfl (show _ = nI 1 from rfl) (show 1 < 6 by omega) (by decide) (hF 1 (by decide)) ?_
  refine az_er 1 rfl ?_
  refine az_ic_lt rfl rfl (fun c90 => ?_) (fun c90 => ?_)
  · refine az_er 1 rfl ?_
    refine az_zret rfl rfl (by first | exact Or.inl rfl | exact Or.inr rfl) ?_
    first | replace c90 := (nI_ltI (b := 1) (by omega) (by omega)).mp c90 | replace c90 := mt (nI_ltI (b := 1) (by omega) (by omega)).mpr c90 | skip
    first | replace c101 := (nI_ltI (a := 6) (by omega) (by omega)).mp c101 | replace c101 := mt (nI_ltI (a := 6) (by omega) (by omega)).mpr c101 | skip
    first | replace c107 := (nI_leI (a := 6) (by omega) (by omega)).mp c107 | replace c107 := mt (nI_leI (a := 6) (by omega) (by omega)).mpr c107 | skip
    rw [sq_va]
    first | exact ⟨congrArg (fun z => some (Value.int z)) (show _ = sq_b (decide _) from (sq_bt (by omega)).symm), rfl⟩ | exact ⟨congrArg (fun z => some (Value.int z)) (show _ = sq_b (decide _) from (sq_bf (by omega)).symm), rfl⟩
  · refine az_er 3 rfl ?_
    refine az_iaI rfl rfl (show _ = nI 1 from rfl) (show 1 < 6 by omega) (by decide) (hF 1 (by decide)) ?_
    refine az_er 1 rfl ?_
    refine az_ic_gt rfl rfl (fun c101 => ?_) (fun c101 => ?_)
    · refine az_er 1 rfl ?_
      refine az_zret rfl rfl (by first | exact Or.inl rfl | exact Or.inr rfl) ?_
      first | replace c90 := (nI_ltI (b := 1) (by omega) (by omega)).mp c90 | replace c90 := mt (nI_ltI (b := 1) (by omega) (by omega)).mpr c90 | skip
      first | replace c101 := (nI_ltI (a := 6) (by omega) (by omega)).mp c101 | replace c101 := mt (nI_ltI (a := 6) (by omega) (by omega)).mpr c101 | skip
      first | replace c107 := (nI_leI (a := 6) (by omega) (by omega)).mp c107 | replace c107 := mt (nI_leI (a := 6) (by omega) (by omega)).mpr c107 | skip
      rw [sq_va]
      first | exact ⟨congrArg (fun z => some (Value.int z)) (show _ = sq_b (decide _) from (sq_bt (by omega)).symm), rfl⟩ | exact ⟨congrArg (fun z => some (Value.int z)) (show _ = sq_b (decide _) from (sq_bf (by omega)).symm), rfl⟩
    · refine az_er 2 rfl ?_
      refine az_ic_ge rfl rfl (fun c107 => ?_) (fun c107 => ?_)
      · refine az_er 1 rfl ?_
        refine az_zret rfl rfl (by first | exact Or.inl rfl | exact Or.inr rfl) ?_
        first | replace c90 := (nI_ltI (b := 1) (by omega) (by omega)).mp c90 | replace c90 := mt (nI_ltI (b := 1) (by omega) (by omega)).mpr c90 | skip
        first | replace c101 := (nI_ltI (a := 6) (by omega) (by omega)).mp c101 | replace c101 := mt (nI_ltI (a := 6) (by omega) (by omega)).mpr c101 | skip
        first | replace c107 := (nI_leI (a := 6) (by omega) (by omega)).mp c107 | replace c107 := mt (nI_leI (a := 6) (by omega) (by omega)).mpr c107 | skip
        rw [sq_va]
        first | exact ⟨congrArg (fun z => some (Value.int z)) (show _ = sq_b (decide _) from (sq_bt (by omega)).symm), rfl⟩ | exact ⟨congrArg (fun z => some (Value.int z)) (show _ = sq_b (decide _) from (sq_bf (by omega)).symm), rfl⟩
      · refine az_er 2 rfl ?_
        refine az_zret rfl rfl (by first | exact Or.inl rfl | exact Or.inr rfl) ?_
        first | replace c90 := (nI_ltI (b := 1) (by omega) (by omega)).mp c90 | replace c90 := mt (nI_ltI (b := 1) (by omega) (by omega)).mpr c90 | skip
        first | replace c101 := (nI_ltI (a := 6) (by omega) (by omega)).mp c101 | replace c101 := mt (nI_ltI (a := 6) (by omega) (by omega)).mpr c101 | skip
        first | replace c107 := (nI_leI (a := 6) (by omega) (by omega)).mp c107 | replace c107 := mt (nI_leI (a := 6) (by omega) (by omega)).mpr c107 | skip
        rw [sq_va]
        first | exact ⟨congrArg (fun z => some (Value.int z)) (show _ = sq_b (decide _) from (sq_bt (by omega)).symm), rfl⟩ | exact ⟨congrArg (fun z => some (Value.int z)) (show _ = sq_b (decide _) from (sq_bf (by omega)).symm), rfl⟩
set_option maxRecDepth 100000 in
theorem cm_mu0 {sc : az_S} {h : az_H} {s r : Nat} {f : Nat → Nat} {x y : Int32} (hx : x = nI s) (hy : y = nI r) (hs4 : s ≤ 99) (hr4 : r ≤ 99) (hf9 : ∀ j, f j ≤ 999) (h12 : h 59 12 = nI 0) (hF : ∀ j, j < sq_fn 0 → h 68 j = nI (f j)) : az_F sc az_m_X8_isAsItMustBe [.ref 59, .int x, .int y] h (some (.int (sq_b (sq_va s r 0 f)))) h := by
  subst hx
  subst hy
  have f0 := hf9 0
  have f1 := hf9 1
  have f2 := hf9 2
  refine az_F.of ?_
  refine az_er 2 rfl ?_
  rw [h12]
  refine az_er 4 rfl ?_
  refine az_iaI rfl rfl (show _ = nI 0 from rfl) (show 0 < 6 by omega) (by decide) (hF 0 (by decide)) ?_
  refine az_er 1 rfl ?_
  refine az_ic_gt rfl rfl (fun c124 => ?_) (fun c124 => ?_)
  · refine az_er 1 rfl ?_
    refine az_zret rfl rfl (by first | exact Or.inl rfl | exact Or.inr rfl) ?_
    first | replace c124 := (nI_ltI (a := 60) (by omega) (by omega)).mp c124 | replace c124 := mt (nI_ltI (a := 60) (by omega) (by omega)).mpr c124 | skip
    rw [sq_va]
    first | exact ⟨congrArg (fun z => some (Value.int z)) (show _ = sq_b (decide _) from (sq_bt (by omega)).symm), rfl⟩ | exact ⟨congrArg (fun z => some (Value.int z)) (show _ = sq_b (decide _) from (sq_bf (by omega)).symm), rfl⟩
  · refine az_er 2 rfl ?_
    refine az_zret rfl rfl (by first | exact Or.inl rfl | exact Or.inr rfl) ?_
    first | replace c124 := (nI_ltI (a := 60) (by omega) (by omega)).mp c124 | replace c124 := mt (nI_ltI (a := 60) (by omega) (by omega)).mpr c124 | skip
    rw [sq_va]
    first | exact ⟨congrArg (fun z => some (Value.int z)) (show _ = sq_b (decide _) from (sq_bt (by omega)).symm), rfl⟩ | exact ⟨congrArg (fun z => some (Value.int z)) (show _ = sq_b (decide _) from (sq_bf (by omega)).symm), rfl⟩
set_option maxRecDepth 100000 in
theorem cm_mu3 {sc : az_S} {h : az_H} {s r : Nat} {f : Nat → Nat} {x y : Int32} (hx : x = nI s) (hy : y = nI r) (hs4 : s ≤ 99) (hr4 : r ≤ 99) (hf9 : ∀ j, f j ≤ 999) (h12 : h 59 12 = nI 3) (hF : ∀ j, j < sq_fn 3 → h 68 j = nI (f j)) : az_F sc az_m_X8_isAsItMustBe [.ref 59, .int x, .int y] h (some (.int (sq_b (sq_va s r 3 f)))) h := by
  subst hx
  subst hy
  have f0 := hf9 0
  have f1 := hf9 1
  have f2 := hf9 2
  refine az_F.of ?_
  refine az_er 2 rfl ?_
  rw [h12]
  refine az_er 4 rfl ?_
  refine az_iaI rfl rfl (show _ = nI 0 from rfl) (show 0 < 6 by omega) (by decide) (hF 0 (by decide)) ?_
  refine az_er 1 rfl ?_
  refine az_ic_gt rfl rfl (fun c124 => ?_) (fun c124 => ?_)
  · refine az_er 1 rfl ?_
    refine az_zret rfl rfl (by first | exact Or.inl rfl | exact Or.inr rfl) ?_
    first | replace c124 := (nI_ltI (a := 60) (by omega) (by omega)).mp c124 | replace c124 := mt (nI_ltI (a := 60) (by omega) (by omega)).mpr c124 | skip
    rw [sq_va]
    first | exact ⟨congrArg (fun z => some (Value.int z)) (show _ = sq_b (decide _) from (sq_bt (by omega)).symm), rfl⟩ | exact ⟨congrArg (fun z => some (Value.int z)) (show _ = sq_b (decide _) from (sq_bf (by omega)).symm), rfl⟩
  · refine az_er 2 rfl ?_
    refine az_zret rfl rfl (by first | exact Or.inl rfl | exact Or.inr rfl) ?_
    first | replace c124 := (nI_ltI (a := 60) (by omega) (by omega)).mp c124 | replace c124 := mt (nI_ltI (a := 60) (by omega) (by omega)).mpr c124 | skip
    rw [sq_va]
    first | exact ⟨congrArg (fun z => some (Value.int z)) (show _ = sq_b (decide _) from (sq_bt (by omega)).symm), rfl⟩ | exact ⟨congrArg (fun z => some (Value.int z)) (show _ = sq_b (decide _) from (sq_bf (by omega)).symm), rfl⟩
set_option maxRecDepth 100000 in
theorem cm_must {sc : az_S} {h : az_H} {s r : Nat} {f : Nat → Nat} {x y : Int32} (hx : x = nI s) (hy : y = nI r) (hs4 : s ≤ 99) (hr4 : r ≤ 99) (hf9 : ∀ j, f j ≤ 999) {k : Nat} (hk : k < 4) (h12 : h 59 12 = nI k) (hF : ∀ j, j < sq_fn k → h 68 j = nI (f j)) : az_F sc az_m_X8_isAsItMustBe [.ref 59, .int x, .int y] h (some (.int (sq_b (sq_va s r k f)))) h := by
  rcases (show k = 0 ∨ k = 1 ∨ k = 2 ∨ k = 3 by omega) with rfl | rfl | rfl | rfl
  · exact cm_mu0 hx hy hs4 hr4 hf9 h12 hF
  · exact cm_mu1 hx hy hs4 hr4 hf9 h12 hF
  · exact cm_mu2 hx hy hs4 hr4 hf9 h12 hF
  · exact cm_mu3 hx hy hs4 hr4 hf9 h12 hF
set_option maxRecDepth 100000 in
theorem cm_co0 {sc : az_S} {h : az_H} {τ f : Nat → Nat} (hM : rt_M 61 τ h) (hV : rt_V τ) (h12 : h 59 12 = nI 0) (hF : ∀ j, j < sq_fn 0 → h 68 j = nI (f j)) : az_E sc az_m_X8_come 0 [.ref 59] [] h (fun v h' => v = none ∧ rt_M 61 (sq_ap τ 0 f) h' ∧ ∀ a, a ≠ 61 → h' a = h a) := by
  refine az_er 2 rfl ?_
  rw [h12]
  refine az_er 7 rfl ?_
  refine az_iaI rfl rfl (show _ = nI 0 from rfl) (show 0 < 6 by omega) (by decide) (hF 0 (by decide)) ?_
  refine az_iasI rfl rfl (show _ = nI 2 from rfl) (show 2 < 70 by omega) (by decide) ?_
  refine az_er 1 rfl ?_
  refine az_eret rfl rfl rfl ?_
  exact ⟨rfl, rt_M_set hM rfl, fun a ha => az_up_o ha⟩
set_option maxRecDepth 100000 in
theorem cm_co3 {sc : az_S} {h : az_H} {τ f : Nat → Nat} (hM : rt_M 61 τ h) (hV : rt_V τ) (h12 : h 59 12 = nI 3) (hF : ∀ j, j < sq_fn 3 → h 68 j = nI (f j)) : az_E sc az_m_X8_come 0 [.ref 59] [] h (fun v h' => v = none ∧ rt_M 61 (sq_ap τ 3 f) h' ∧ ∀ a, a ≠ 61 → h' a = h a) := by
  refine az_er 2 rfl ?_
  rw [h12]
  refine az_er 5 rfl ?_
  refine az_iaI rfl rfl (show _ = nI 0 from rfl) (show 0 < 6 by omega) (by decide) (hF 0 (by decide)) ?_
  refine az_ecall rfl rfl rfl rfl (cm_remember hM rfl hV.2.2.2.1) ?_
  rintro _ h1 ⟨rfl, g1, g2⟩
  refine az_eret rfl rfl rfl ?_
  exact ⟨rfl, g1, g2⟩
set_option maxRecDepth 100000 in
theorem cm_co2 {sc : az_S} {h : az_H} {τ f : Nat → Nat} (hM : rt_M 61 τ h) (hV : rt_V τ) (h6 : τ 1 < 6) (h12 : h 59 12 = nI 2) (hF : ∀ j, j < sq_fn 2 → h 68 j = nI (f j)) : az_E sc az_m_X8_come 0 [.ref 59] [] h (fun v h' => v = none ∧ rt_M 61 (sq_ap τ 2 f) h' ∧ ∀ a, a ≠ 61 → h' a = h a) := by
  have hF2 : ∀ j, j < 2 → ∀ g : Nat → Int32, g = h 68 → g j = nI (f j) := fun j hj g e => by rw [e]; exact hF j hj
  refine az_er 2 rfl ?_
  rw [h12]
  refine az_er 8 rfl ?_
  refine az_iaI rfl rfl (show _ = nI 1 from rfl) (show 1 < 70 by omega) (by decide) (show _ = nI (τ 1) by (repeat (rw [az_up_n (by omega)])); exact hM 1 (by omega)) ?_
  refine az_er 5 rfl ?_
  refine az_iaI rfl rfl (show _ = nI 0 from rfl) (show 0 < 6 by omega) (by decide) (hF2 0 (by decide) _ (by simp only [az_up, if_neg (show ¬ (68 : Nat) = 61 by decide)])) ?_
  refine az_iasI rfl rfl (ix_r rfl) (show 40 + 3 * τ 1 < 70 by omega) (by decide) ?_
  refine az_er 7 rfl ?_
  refine az_iaI rfl rfl (show _ = nI 1 from rfl) (show 1 < 70 by omega) (by decide) (show _ = nI (τ 1) by (repeat (rw [az_up_n (by omega)])); exact hM 1 (by omega)) ?_
  refine az_er 7 rfl ?_
  refine az_iaI rfl rfl (show _ = nI 1 from rfl) (show 1 < 6 by omega) (by decide) (hF2 1 (by decide) _ (by simp only [az_up, if_neg (show ¬ (68 : Nat) = 61 by decide)])) ?_
  refine az_iasI rfl rfl (ix_rk (k := 1) rfl rfl) (show 40 + 3 * τ 1 + 1 < 70 by omega) (by decide) ?_
  refine az_er 7 rfl ?_
  refine az_iaI rfl rfl (show _ = nI 1 from rfl) (show 1 < 70 by omega) (by decide) (show _ = nI (τ 1) by (repeat (rw [az_up_n (by omega)])); exact hM 1 (by omega)) ?_
  refine az_er 5 rfl ?_
  refine az_iasI rfl rfl (ix_rk (k := 2) rfl rfl) (show 40 + 3 * τ 1 + 2 < 70 by omega) (by decide) ?_
  refine az_er 4 rfl ?_
  refine az_iaI rfl rfl (show _ = nI 1 from rfl) (show 1 < 70 by omega) (by decide) (show _ = nI (τ 1) by (repeat (rw [az_up_n (by omega)])); exact hM 1 (by omega)) ?_
  refine az_er 2 rfl ?_
  refine az_iasI rfl rfl (show _ = nI 1 from rfl) (show 1 < 70 by omega) (by decide) ?_
  refine az_er 1 rfl ?_
  refine az_eret rfl rfl rfl ?_
  exact ⟨rfl, rt_M_ar hM h6 rfl rfl rfl (nI_1' _), fun a ha => by rw [az_up_o ha, az_up_o ha, az_up_o ha, az_up_o ha]⟩
set_option maxRecDepth 100000 in
theorem cm_co1 {sc : az_S} {h : az_H} {τ f : Nat → Nat} (hM : rt_M 61 τ h) (hV : rt_V τ) (h4 : τ 0 < 4) (h12 : h 59 12 = nI 1) (hF : ∀ j, j < sq_fn 1 → h 68 j = nI (f j)) : az_E sc az_m_X8_come 0 [.ref 59] [] h (fun v h' => v = none ∧ rt_M 61 (sq_ap τ 1 f) h' ∧ ∀ a, a ≠ 61 → h' a = h a) := by
  have hF2 : ∀ j, j < 6 → ∀ g : Nat → Int32, g = h 68 → g j = nI (f j) := fun j hj g e => by rw [e]; exact hF j hj
  refine az_er 2 rfl ?_
  rw [h12]
  refine az_er 3 rfl ?_
  refine az_er 2 rfl ?_
  refine az_ic_ge rfl rfl (fun c52 => absurd c52 (by decide)) (fun c52 => ?_)
  refine az_er 7 rfl ?_
  refine az_iaI rfl rfl (show _ = nI 0 from rfl) (show 0 < 70 by omega) (by decide) (show _ = nI (τ 0) by (repeat (rw [az_up_n (by omega)])); exact hM 0 (by omega)) ?_
  refine az_er 7 rfl ?_
  refine az_iaI rfl rfl (show _ = nI 0 from rfl) (show 0 < 6 by omega) (by decide) (hF2 0 (by decide) _ (by simp only [az_up, if_neg (show ¬ (68 : Nat) = 61 by decide)])) ?_
  refine az_iasI rfl rfl (ix_of rfl (show _ = nI 0 from rfl)) (show 10 + 6 * τ 0 + 0 < 70 by omega) (by decide) ?_
  refine az_er 2 rfl ?_
  refine az_er 2 rfl ?_
  refine az_ic_ge rfl rfl (fun c52 => absurd c52 (by decide)) (fun c52 => ?_)
  refine az_er 7 rfl ?_
  refine az_iaI rfl rfl (show _ = nI 0 from rfl) (show 0 < 70 by omega) (by decide) (show _ = nI (τ 0) by (repeat (rw [az_up_n (by omega)])); exact hM 0 (by omega)) ?_
  refine az_er 7 rfl ?_
  refine az_iaI rfl rfl (show _ = nI 1 from rfl) (show 1 < 6 by omega) (by decide) (hF2 1 (by decide) _ (by simp only [az_up, if_neg (show ¬ (68 : Nat) = 61 by decide)])) ?_
  refine az_iasI rfl rfl (ix_of rfl (show _ = nI 1 from rfl)) (show 10 + 6 * τ 0 + 1 < 70 by omega) (by decide) ?_
  refine az_er 2 rfl ?_
  refine az_er 2 rfl ?_
  refine az_ic_ge rfl rfl (fun c52 => absurd c52 (by decide)) (fun c52 => ?_)
  refine az_er 7 rfl ?_
  refine az_iaI rfl rfl (show _ = nI 0 from rfl) (show 0 < 70 by omega) (by decide) (show _ = nI (τ 0) by (repeat (rw [az_up_n (by omega)])); exact hM 0 (by omega)) ?_
  refine az_er 7 rfl ?_
  refine az_iaI rfl rfl (show _ = nI 2 from rfl) (show 2 < 6 by omega) (by decide) (hF2 2 (by decide) _ (by simp only [az_up, if_neg (show ¬ (68 : Nat) = 61 by decide)])) ?_
  refine az_iasI rfl rfl (ix_of rfl (show _ = nI 2 from rfl)) (show 10 + 6 * τ 0 + 2 < 70 by omega) (by decide) ?_
  refine az_er 2 rfl ?_
  refine az_er 2 rfl ?_
  refine az_ic_ge rfl rfl (fun c52 => absurd c52 (by decide)) (fun c52 => ?_)
  refine az_er 7 rfl ?_
  refine az_iaI rfl rfl (show _ = nI 0 from rfl) (show 0 < 70 by omega) (by decide) (show _ = nI (τ 0) by (repeat (rw [az_up_n (by omega)])); exact hM 0 (by omega)) ?_
  refine az_er 7 rfl ?_
  refine az_iaI rfl rfl (show _ = nI 3 from rfl) (show 3 < 6 by omega) (by decide) (hF2 3 (by decide) _ (by simp only [az_up, if_neg (show ¬ (68 : Nat) = 61 by decide)])) ?_
  refine az_iasI rfl rfl (ix_of rfl (show _ = nI 3 from rfl)) (show 10 + 6 * τ 0 + 3 < 70 by omega) (by decide) ?_
  refine az_er 2 rfl ?_
  refine az_er 2 rfl ?_
  refine az_ic_ge rfl rfl (fun c52 => absurd c52 (by decide)) (fun c52 => ?_)
  refine az_er 7 rfl ?_
  refine az_iaI rfl rfl (show _ = nI 0 from rfl) (show 0 < 70 by omega) (by decide) (show _ = nI (τ 0) by (repeat (rw [az_up_n (by omega)])); exact hM 0 (by omega)) ?_
  refine az_er 7 rfl ?_
  refine az_iaI rfl rfl (show _ = nI 4 from rfl) (show 4 < 6 by omega) (by decide) (hF2 4 (by decide) _ (by simp only [az_up, if_neg (show ¬ (68 : Nat) = 61 by decide)])) ?_
  refine az_iasI rfl rfl (ix_of rfl (show _ = nI 4 from rfl)) (show 10 + 6 * τ 0 + 4 < 70 by omega) (by decide) ?_
  refine az_er 2 rfl ?_
  refine az_er 2 rfl ?_
  refine az_ic_ge rfl rfl (fun c52 => absurd c52 (by decide)) (fun c52 => ?_)
  refine az_er 7 rfl ?_
  refine az_iaI rfl rfl (show _ = nI 0 from rfl) (show 0 < 70 by omega) (by decide) (show _ = nI (τ 0) by (repeat (rw [az_up_n (by omega)])); exact hM 0 (by omega)) ?_
  refine az_er 7 rfl ?_
  refine az_iaI rfl rfl (show _ = nI 5 from rfl) (show 5 < 6 by omega) (by decide) (hF2 5 (by decide) _ (by simp only [az_up, if_neg (show ¬ (68 : Nat) = 61 by decide)])) ?_
  refine az_iasI rfl rfl (ix_of rfl (show _ = nI 5 from rfl)) (show 10 + 6 * τ 0 + 5 < 70 by omega) (by decide) ?_
  refine az_er 2 rfl ?_
  refine az_er 2 rfl ?_
  refine az_ic_ge rfl rfl (fun c52 => ?_) (fun c52 => absurd (by decide) c52)
  refine az_er 4 rfl ?_
  refine az_iaI rfl rfl (show _ = nI 0 from rfl) (show 0 < 70 by omega) (by decide) (show _ = nI (τ 0) by (repeat (rw [az_up_n (by omega)])); exact hM 0 (by omega)) ?_
  refine az_er 2 rfl ?_
  refine az_iasI rfl rfl (show _ = nI 0 from rfl) (show 0 < 70 by omega) (by decide) ?_
  refine az_er 1 rfl ?_
  refine az_eret rfl rfl rfl ?_
  exact ⟨rfl, rt_M_as hM h4 rfl rfl rfl rfl rfl rfl (nI_1' _), fun a ha => by rw [az_up_o ha, az_up_o ha, az_up_o ha, az_up_o ha, az_up_o ha, az_up_o ha, az_up_o ha]⟩
set_option maxRecDepth 100000 in
theorem cm_come {sc : az_S} {h : az_H} {τ f : Nat → Nat} (hM : rt_M 61 τ h) (hV : rt_V τ) {k s r : Nat} (hk : k < 4) (hv : sq_va (τ 0) (τ 1) k f = true) (h12 : h 59 12 = nI k) (hF : ∀ j, j < sq_fn k → h 68 j = nI (f j)) : az_E sc az_m_X8_come 0 [.ref 59] [] h (fun v h' => v = none ∧ rt_M 61 (sq_ap τ k f) h' ∧ ∀ a, a ≠ 61 → h' a = h a) := by
  rcases (show k = 0 ∨ k = 1 ∨ k = 2 ∨ k = 3 by omega) with rfl | rfl | rfl | rfl
  · exact cm_co0 hM hV h12 hF
  · exact cm_co1 hM hV (of_decide_eq_true (show decide _ = true from hv)).2.1 h12 hF
  · exact cm_co2 hM hV (of_decide_eq_true (show decide _ = true from hv)).2.2 h12 hF
  · exact cm_co3 hM hV h12 hF
set_option maxRecDepth 100000 in
theorem lm_rd1 {sc : az_S} {h : az_H} {L : Nat → Nat} {n : Nat} (hT : rp_T L n h) (hK : rp_K h) {Q : Option Value → az_H → Prop} : ∀ (d p k : Nat) (x : Int32) (hh : az_H), n ≤ p + d → p < n → rp_G h hh → hh 59 7 = nI p → hh 59 8 = sq_b true → x = nI k → ((sq_p1 L n d p k).2.2 = true → ∀ y h1, y = nI (sq_p1 L n d p k).1 → rp_G h h1 → h1 59 7 = nI (sq_p1 L n d p k).2.1 → h1 59 8 = sq_b true → n ≤ (sq_p1 L n d p k).2.1 → az_E sc az_m_X8_read 53 [.ref 59, .int y] [] h1 Q) → ((sq_p1 L n d p k).2.2 = false → ∀ (v : Int32) h1, v = -1000 - nI (sq_p1 L n d p k).2.1 → rp_G h h1 → Q (some (.int v)) h1) → az_E sc az_m_X8_read 12 [.ref 59, .int x] [] hh Q := by
  have h80 := hT.1
  intro d
  induction d with
  | zero => intro p k x hh h1 h2; omega
  | succ d ih =>
    intro p k x hh hd hpn hH h7 h8 hx K B
    have hb := sq_e_b (L := L) (n := n) (p := p)
    obtain ⟨q, w, he⟩ : ∃ q w, sq_e L n p = (q, w) := ⟨_, _, rfl⟩
    have hb2 : w = true → p + 1 ≤ q := fun e => by
      have := sq_e_le (L := L) (n := n) (p := p) (by rw [he]; exact e)
      rw [he] at this
      exact this.1
    rw [he] at hb
    cases w with
    | false =>
      refine az_er 1 rfl ?_
      refine az_ecall rfl rfl rfl rfl (cm_st ((rp_H.of hH).T hT) ((rp_H.of hH).K hK) h7 h8 hpn) ?_
      rintro _ h2 ⟨rfl, s2, s3, s4, s5⟩
      have hH2 := hH.tr s4
      replace s2 : h2 59 7 = nI q := by rw [he] at s2; exact s2
      replace s3 : h2 59 8 = sq_b false := by rw [he] at s3; exact s3
      refine az_er 3 rfl ?_
      rw [s3]
      refine az_if_eq rfl rfl (fun c23 => ?_) (fun c23 => absurd rfl c23)
      refine az_er 2 rfl ?_
      rw [s3]
      refine az_if_ne rfl rfl (fun c41 => absurd rfl c41) (fun c41 => ?_)
      refine az_er 4 rfl ?_
      refine az_eret rfl rfl rfl ?_
      have e9 := sq_p1_f (d := d) (k := k) hpn he
      rw [s2]
      exact B (by rw [e9]) _ _ (by rw [e9]; rfl) hH2
    | true =>
      have hb3 := hb2 rfl
      by_cases hq : q < n
      · skip
        refine az_er 1 rfl ?_
        refine az_ecall rfl rfl rfl rfl (cm_st ((rp_H.of hH).T hT) ((rp_H.of hH).K hK) h7 h8 hpn) ?_
        rintro _ h2 ⟨rfl, s2, s3, s4, s5⟩
        have hH2 := hH.tr s4
        replace s2 : h2 59 7 = nI q := by rw [he] at s2; exact s2
        replace s3 : h2 59 8 = sq_b true := by rw [he] at s3; exact s3
        refine az_er 3 rfl ?_
        rw [s3]
        refine az_if_eq rfl rfl (fun c23 => absurd c23 (by decide)) (fun c23 => ?_)
        refine az_er 4 rfl ?_
        rw [s2, ((rp_H.of hH2).T hT).2.2.1]
        refine az_ic_lt rfl rfl (fun c34 => ?_) (fun c34 => absurd (nI_lt hq (by omega)) c34)
        have e9 := sq_p1_t (d := d) (k := k) hpn he
        exact ih q (k + 1) _ h2 (by omega) (by omega) hH2 s2 s3 (by rw [hx]; exact nI_1' k) (fun w v hh u1 u2 u3 u4 u5 => K (by rw [e9]; exact w) v hh (by rw [e9]; exact u1) u2 (by rw [e9]; exact u3) u4 (by rw [e9]; exact u5)) (fun w v h9 u1 u2 => B (by rw [e9]; exact w) v h9 (by rw [e9]; exact u1) u2)
      · skip
        refine az_er 1 rfl ?_
        refine az_ecall rfl rfl rfl rfl (cm_st ((rp_H.of hH).T hT) ((rp_H.of hH).K hK) h7 h8 hpn) ?_
        rintro _ h2 ⟨rfl, s2, s3, s4, s5⟩
        have hH2 := hH.tr s4
        replace s2 : h2 59 7 = nI q := by rw [he] at s2; exact s2
        replace s3 : h2 59 8 = sq_b true := by rw [he] at s3; exact s3
        refine az_er 3 rfl ?_
        rw [s3]
        refine az_if_eq rfl rfl (fun c23 => absurd c23 (by decide)) (fun c23 => ?_)
        refine az_er 4 rfl ?_
        rw [s2, ((rp_H.of hH2).T hT).2.2.1]
        refine az_ic_lt rfl rfl (fun c34 => absurd c34 (nI_nlt (by omega) (by omega))) (fun c34 => ?_)
        refine az_er 2 rfl ?_
        rw [s3]
        refine az_if_ne rfl rfl (fun c41 => ?_) (fun c41 => absurd c41 (by decide))
        have e9 : sq_p1 L n (d + 1) p k = (k + 1, q, true) := (sq_p1_t (d := d) (k := k) hpn he).trans (sq_p1_e (by omega))
        exact K (by rw [e9]) _ h2 (by rw [hx, e9]; exact nI_1' k) hH2 (by rw [e9]; exact s2) s3 (by rw [e9]; show n ≤ q; omega)
theorem sq_k_lt {L : Nat → Nat} {p : Nat} : sq_k L p < 4 := by
  unfold sq_k
  repeat' split
  all_goals omega
theorem sq_kj6 {ks : Nat → Nat} {c : Nat} : sq_kj ks c 6 0 ≤ 6 := by have := sq_kj_le (ks := ks) (c := c) 6 0; omega
theorem sq_f_le {L : Nat → Nat} {n p : Nat} (hL : ∀ i, i < n → L i ≤ 255) (he : (sq_e L n p).2 = true) : ∀ j, sq_f L n p j ≤ 999 := by
  intro j
  rcases sq_e_k he with hs | hs | hs | hs
  · have h1 := sq_e_n (Or.inl hs) he
    have := sq_nm_le h1.1
    rw [sq_f, if_neg (by omega), if_neg (by omega)]
    show (if j = 0 then sq_nm L n (p + 1) else 0) ≤ 999
    split <;> omega
  · have h1 := sq_e_n (Or.inr hs) he
    have := sq_nm_le h1.1
    rw [sq_f, if_neg (by omega), if_neg (by omega)]
    show (if j = 0 then sq_nm L n (p + 1) else 0) ≤ 999
    split <;> omega
  · obtain ⟨b1, b2, b3, b4, b5, b6, b7, b8, b9⟩ := sq_e_s hs he
    have d1 := sq_dgt b1
    have d3 := sq_dgt b3
    have d5 := sq_dgt b5
    have d6 := sq_dgt b6
    have d7 := sq_dgt b7
    have k6 := sq_kj6 (ks := sq_kg) (c := L (p + 2))
    rw [sq_f, if_pos hs]
    try dsimp only
    repeat' split
    all_goals omega
  · obtain ⟨b1, b2, b3, b4⟩ := sq_e_r hs he
    have d2 := sq_dgt b2
    have k6 := sq_kj6 (ks := sq_kr) (c := L (p + 1))
    rw [sq_f, if_neg (by omega), if_pos hs]
    try dsimp only
    repeat' split
    all_goals omega
set_option maxRecDepth 100000 in
theorem lm_rd2 {sc : az_S} {h : az_H} {L : Nat → Nat} {n : Nat} (hT : rp_T L n h) (hK : rp_K h) {Q : Option Value → az_H → Prop} {c : Int32} : ∀ (d p k : Nat) (τ : Nat → Nat) (a b : Int32) (tl : List Value) (hh : az_H), n ≤ p + d → p ≤ 100 → (sq_p1 L n d p k).2.2 = true → rt_V τ → rp_G h hh → hh 59 7 = nI p → hh 59 8 = sq_b true → a = nI (τ 0) → b = nI (τ 1) → (tl = [] ∨ ∃ z, tl = [.int z]) → ((sq_al L n d p τ).2.1 = true → ∀ a b tl h1, rp_G h h1 → h1 59 8 = sq_b true → (tl = [] ∨ ∃ z, tl = [.int z]) → n ≤ (sq_al L n d p τ).1 → az_E sc az_m_X8_read 144 (.ref 59 :: .int c :: .int a :: .int b :: tl) [] h1 Q) → ((sq_al L n d p τ).2.1 = false → ∀ (v : Int32) h1, v = -2000 - nI (sq_al L n d p τ).1 → rp_G h h1 → Q (some (.int v)) h1) → az_E sc az_m_X8_read 72 (.ref 59 :: .int c :: .int a :: .int b :: tl) [] hh Q := by
  have h80 := hT.1
  intro d
  induction d with
  | zero =>
    intro p k τ a b tl hh hd hp9 hw hV hH h7 h8 ha hb htl K B
    rcases htl with rfl | ⟨z9, rfl⟩
    · skip
      refine az_er 4 rfl ?_
      rw [h7, ((rp_H.of hH).T hT).2.2.1]
      refine az_ic_ge rfl rfl (fun c80 => ?_) (fun c80 => absurd (nI_le (by omega) (by omega)) c80)
      exact K (by rw [sq_al_e (by omega)]) _ _ _ _ hH h8 (Or.inl rfl) (by rw [sq_al_e (by omega)]; show n ≤ p; omega)
    · skip
      refine az_er 4 rfl ?_
      rw [h7, ((rp_H.of hH).T hT).2.2.1]
      refine az_ic_ge rfl rfl (fun c80 => ?_) (fun c80 => absurd (nI_le (by omega) (by omega)) c80)
      exact K (by rw [sq_al_e (by omega)]) _ _ _ _ hH h8 (Or.inr ⟨_, rfl⟩) (by rw [sq_al_e (by omega)]; show n ≤ p; omega)
  | succ d ih =>
    intro p k τ a b tl hh hd hp9 hw hV hH h7 h8 ha hb htl K B
    by_cases hpn : p < n
    · obtain ⟨he, h1⟩ := sq_p1_w hpn hw
      rw [h1] at hw
      have hle := sq_e_le he
      have hk4 := sq_k_lt (L := L) (p := p)
      have hf9 := sq_f_le hT.2.1 he
      rcases htl with rfl | ⟨z9, rfl⟩
      · skip
        refine az_er 4 rfl ?_
        rw [h7, ((rp_H.of hH).T hT).2.2.1]
        refine az_ic_ge rfl rfl (fun c80 => absurd c80 (nI_ge hpn (by omega))) (fun c80 => ?_)
        refine az_er 4 rfl ?_
        refine az_ecall rfl rfl rfl rfl (cm_st ((rp_H.of hH).T hT) ((rp_H.of hH).K hK) h7 h8 hpn) ?_
        rintro _ h2 ⟨rfl, s2, s3, s4, s5⟩
        have hH2 := hH.tr s4
        replace s3 : h2 59 8 = sq_b true := by rw [he] at s3; exact s3
        obtain ⟨s6, s7⟩ := s5 he
        refine az_er 3 rfl ?_
        refine az_ecallF rfl rfl rfl rfl (cm_must ha hb (by have := hV.1; omega) (by have := hV.2.1; omega) hf9 hk4 s6 s7) ?_
        cases hv : sq_va (τ 0) (τ 1) (sq_k L p) (sq_f L n p) with
        | false =>
          refine az_if_ne rfl rfl (fun c99 => absurd rfl c99) (fun c99 => ?_)
          refine az_er 3 rfl ?_
          refine az_eret rfl rfl rfl ?_
          have ha9 : sq_al L n (d + 1) p τ = (p, false, τ) := by rw [sq_al, if_pos hpn, if_neg (by rw [hv]; decide)]
          exact B (by rw [ha9]) _ _ (by rw [ha9, h7]; rfl) hH2
        | true =>
          have ha9 : sq_al L n (d + 1) p τ = sq_al L n d (sq_e L n p).1 (sq_ap τ (sq_k L p) (sq_f L n p)) := by rw [sq_al, if_pos hpn, if_pos hv]
          by_cases k1 : sq_k L p = 1
          · skip
            refine az_if_ne rfl rfl (fun c99 => ?_) (fun c99 => absurd c99 (by decide))
            refine az_er 4 rfl ?_
            rw [s6, k1]
            refine az_ic_ne rfl rfl (fun c115 => absurd rfl c115) (fun c115 => ?_)
            refine az_er 8 rfl ?_
            rw [s6, k1]
            refine az_ic_ne rfl rfl (fun c131 => ?_) (fun c131 => absurd c131 (by decide))
            refine az_er 4 rfl ?_
            exact ih (sq_e L n p).1 (k + 1) (sq_ap τ (sq_k L p) (sq_f L n p)) _ _ _ h2 (by omega) (by omega) hw (rt_V_ap hV he hv) hH2 s2 s3 (by rw [ha, sq_ap_01.1, if_pos k1]; exact nI_1' _) (by rw [hb, sq_ap_01.2, if_neg (by omega)]; exact Int32.add_zero _) (Or.inr ⟨_, rfl⟩) (fun q a b tl h1 u1 u0 u2 u3 => K (by rw [ha9]; exact q) a b tl h1 u1 u0 u2 (by rw [ha9]; exact u3)) (fun q v h1 u1 u2 => B (by rw [ha9]; exact q) v h1 (by rw [ha9]; exact u1) u2)
          · by_cases k2 : sq_k L p = 2
            · skip
              refine az_if_ne rfl rfl (fun c99 => ?_) (fun c99 => absurd c99 (by decide))
              refine az_er 4 rfl ?_
              rw [s6, k2]
              refine az_ic_ne rfl rfl (fun c115 => ?_) (fun c115 => absurd c115 (by decide))
              refine az_er 7 rfl ?_
              rw [s6, k2]
              refine az_ic_ne rfl rfl (fun c131 => absurd rfl c131) (fun c131 => ?_)
              refine az_er 5 rfl ?_
              exact ih (sq_e L n p).1 (k + 1) (sq_ap τ (sq_k L p) (sq_f L n p)) _ _ _ h2 (by omega) (by omega) hw (rt_V_ap hV he hv) hH2 s2 s3 (by rw [ha, sq_ap_01.1, if_neg k1]; exact Int32.add_zero _) (by rw [hb, sq_ap_01.2, if_pos k2]; exact nI_1' _) (Or.inr ⟨_, rfl⟩) (fun q a b tl h1 u1 u0 u2 u3 => K (by rw [ha9]; exact q) a b tl h1 u1 u0 u2 (by rw [ha9]; exact u3)) (fun q v h1 u1 u2 => B (by rw [ha9]; exact q) v h1 (by rw [ha9]; exact u1) u2)
            · skip
              refine az_if_ne rfl rfl (fun c99 => ?_) (fun c99 => absurd c99 (by decide))
              refine az_er 4 rfl ?_
              rw [s6]
              refine az_ic_ne rfl rfl (fun c115 => ?_) (fun c115 => k1 ((nI_eq (b := 1) (by omega) (by omega)).mp c115) |>.elim)
              refine az_er 7 rfl ?_
              rw [s6]
              refine az_ic_ne rfl rfl (fun c131 => ?_) (fun c131 => k2 ((nI_eq (b := 2) (by omega) (by omega)).mp c131) |>.elim)
              refine az_er 4 rfl ?_
              exact ih (sq_e L n p).1 (k + 1) (sq_ap τ (sq_k L p) (sq_f L n p)) _ _ _ h2 (by omega) (by omega) hw (rt_V_ap hV he hv) hH2 s2 s3 (by rw [ha, sq_ap_01.1, if_neg k1]; exact Int32.add_zero _) (by rw [hb, sq_ap_01.2, if_neg k2]; exact Int32.add_zero _) (Or.inr ⟨_, rfl⟩) (fun q a b tl h1 u1 u0 u2 u3 => K (by rw [ha9]; exact q) a b tl h1 u1 u0 u2 (by rw [ha9]; exact u3)) (fun q v h1 u1 u2 => B (by rw [ha9]; exact q) v h1 (by rw [ha9]; exact u1) u2)
      · skip
        refine az_er 4 rfl ?_
        rw [h7, ((rp_H.of hH).T hT).2.2.1]
        refine az_ic_ge rfl rfl (fun c80 => absurd c80 (nI_ge hpn (by omega))) (fun c80 => ?_)
        refine az_er 4 rfl ?_
        refine az_ecall rfl rfl rfl rfl (cm_st ((rp_H.of hH).T hT) ((rp_H.of hH).K hK) h7 h8 hpn) ?_
        rintro _ h2 ⟨rfl, s2, s3, s4, s5⟩
        have hH2 := hH.tr s4
        replace s3 : h2 59 8 = sq_b true := by rw [he] at s3; exact s3
        obtain ⟨s6, s7⟩ := s5 he
        refine az_er 3 rfl ?_
        refine az_ecallF rfl rfl rfl rfl (cm_must ha hb (by have := hV.1; omega) (by have := hV.2.1; omega) hf9 hk4 s6 s7) ?_
        cases hv : sq_va (τ 0) (τ 1) (sq_k L p) (sq_f L n p) with
        | false =>
          refine az_if_ne rfl rfl (fun c99 => absurd rfl c99) (fun c99 => ?_)
          refine az_er 3 rfl ?_
          refine az_eret rfl rfl rfl ?_
          have ha9 : sq_al L n (d + 1) p τ = (p, false, τ) := by rw [sq_al, if_pos hpn, if_neg (by rw [hv]; decide)]
          exact B (by rw [ha9]) _ _ (by rw [ha9, h7]; rfl) hH2
        | true =>
          have ha9 : sq_al L n (d + 1) p τ = sq_al L n d (sq_e L n p).1 (sq_ap τ (sq_k L p) (sq_f L n p)) := by rw [sq_al, if_pos hpn, if_pos hv]
          by_cases k1 : sq_k L p = 1
          · skip
            refine az_if_ne rfl rfl (fun c99 => ?_) (fun c99 => absurd c99 (by decide))
            refine az_er 4 rfl ?_
            rw [s6, k1]
            refine az_ic_ne rfl rfl (fun c115 => absurd rfl c115) (fun c115 => ?_)
            refine az_er 8 rfl ?_
            rw [s6, k1]
            refine az_ic_ne rfl rfl (fun c131 => ?_) (fun c131 => absurd c131 (by decide))
            refine az_er 4 rfl ?_
            exact ih (sq_e L n p).1 (k + 1) (sq_ap τ (sq_k L p) (sq_f L n p)) _ _ _ h2 (by omega) (by omega) hw (rt_V_ap hV he hv) hH2 s2 s3 (by rw [ha, sq_ap_01.1, if_pos k1]; exact nI_1' _) (by rw [hb, sq_ap_01.2, if_neg (by omega)]; exact Int32.add_zero _) (Or.inr ⟨_, rfl⟩) (fun q a b tl h1 u1 u0 u2 u3 => K (by rw [ha9]; exact q) a b tl h1 u1 u0 u2 (by rw [ha9]; exact u3)) (fun q v h1 u1 u2 => B (by rw [ha9]; exact q) v h1 (by rw [ha9]; exact u1) u2)
          · by_cases k2 : sq_k L p = 2
            · skip
              refine az_if_ne rfl rfl (fun c99 => ?_) (fun c99 => absurd c99 (by decide))
              refine az_er 4 rfl ?_
              rw [s6, k2]
              refine az_ic_ne rfl rfl (fun c115 => ?_) (fun c115 => absurd c115 (by decide))
              refine az_er 7 rfl ?_
              rw [s6, k2]
              refine az_ic_ne rfl rfl (fun c131 => absurd rfl c131) (fun c131 => ?_)
              refine az_er 5 rfl ?_
              exact ih (sq_e L n p).1 (k + 1) (sq_ap τ (sq_k L p) (sq_f L n p)) _ _ _ h2 (by omega) (by omega) hw (rt_V_ap hV he hv) hH2 s2 s3 (by rw [ha, sq_ap_01.1, if_neg k1]; exact Int32.add_zero _) (by rw [hb, sq_ap_01.2, if_pos k2]; exact nI_1' _) (Or.inr ⟨_, rfl⟩) (fun q a b tl h1 u1 u0 u2 u3 => K (by rw [ha9]; exact q) a b tl h1 u1 u0 u2 (by rw [ha9]; exact u3)) (fun q v h1 u1 u2 => B (by rw [ha9]; exact q) v h1 (by rw [ha9]; exact u1) u2)
            · skip
              refine az_if_ne rfl rfl (fun c99 => ?_) (fun c99 => absurd c99 (by decide))
              refine az_er 4 rfl ?_
              rw [s6]
              refine az_ic_ne rfl rfl (fun c115 => ?_) (fun c115 => k1 ((nI_eq (b := 1) (by omega) (by omega)).mp c115) |>.elim)
              refine az_er 7 rfl ?_
              rw [s6]
              refine az_ic_ne rfl rfl (fun c131 => ?_) (fun c131 => k2 ((nI_eq (b := 2) (by omega) (by omega)).mp c131) |>.elim)
              refine az_er 4 rfl ?_
              exact ih (sq_e L n p).1 (k + 1) (sq_ap τ (sq_k L p) (sq_f L n p)) _ _ _ h2 (by omega) (by omega) hw (rt_V_ap hV he hv) hH2 s2 s3 (by rw [ha, sq_ap_01.1, if_neg k1]; exact Int32.add_zero _) (by rw [hb, sq_ap_01.2, if_neg k2]; exact Int32.add_zero _) (Or.inr ⟨_, rfl⟩) (fun q a b tl h1 u1 u0 u2 u3 => K (by rw [ha9]; exact q) a b tl h1 u1 u0 u2 (by rw [ha9]; exact u3)) (fun q v h1 u1 u2 => B (by rw [ha9]; exact q) v h1 (by rw [ha9]; exact u1) u2)
    · skip
      rcases htl with rfl | ⟨z9, rfl⟩
      · skip
        refine az_er 4 rfl ?_
        rw [h7, ((rp_H.of hH).T hT).2.2.1]
        refine az_ic_ge rfl rfl (fun c80 => ?_) (fun c80 => absurd (nI_le (by omega) (by omega)) c80)
        exact K (by rw [sq_al_e (by omega)]) _ _ _ _ hH h8 (Or.inl rfl) (by rw [sq_al_e (by omega)]; show n ≤ p; omega)
      · skip
        refine az_er 4 rfl ?_
        rw [h7, ((rp_H.of hH).T hT).2.2.1]
        refine az_ic_ge rfl rfl (fun c80 => ?_) (fun c80 => absurd (nI_le (by omega) (by omega)) c80)
        exact K (by rw [sq_al_e (by omega)]) _ _ _ _ hH h8 (Or.inr ⟨_, rfl⟩) (by rw [sq_al_e (by omega)]; show n ≤ p; omega)
set_option maxRecDepth 100000 in
theorem lm_rd3 {sc : az_S} {h : az_H} {L : Nat → Nat} {n : Nat} (hT : rp_T L n h) (hK : rp_K h) {c : Int32} {tl : List Value} : ∀ (d p k : Nat) (τ : Nat → Nat) (hh : az_H), n ≤ p + d → p ≤ 100 → (sq_p1 L n d p k).2.2 = true → rt_V τ → (sq_al L n d p τ).2.1 = true → rp_H h hh → hh 59 7 = nI p → hh 59 8 = sq_b true → rt_M 61 τ hh → az_E sc az_m_X8_read 149 (.ref 59 :: .int c :: tl) [] hh (fun v h1 => v = some (.int c) ∧ rt_M 61 (sq_al L n d p τ).2.2 h1 ∧ rp_H h h1) := by
  have h80 := hT.1
  intro d
  induction d with
  | zero =>
    intro p k τ hh hd hp9 hw hV hal hH h7 h8 hM
    refine az_er 4 rfl ?_
    rw [h7, (hH.T hT).2.2.1]
    refine az_ic_ge rfl rfl (fun c157 => ?_) (fun c157 => absurd (nI_le (by omega) (by omega)) c157)
    refine az_er 1 rfl ?_
    refine az_eret rfl rfl rfl ?_
    exact ⟨rfl, by rw [sq_al_e (by omega)]; exact hM, hH⟩
  | succ d ih =>
    intro p k τ hh hd hp9 hw hV hal hH h7 h8 hM
    by_cases hpn : p < n
    · obtain ⟨he, h1⟩ := sq_p1_w hpn hw
      rw [h1] at hw
      have hle := sq_e_le he
      have hk4 := sq_k_lt (L := L) (p := p)
      have hv : sq_va (τ 0) (τ 1) (sq_k L p) (sq_f L n p) = true := by
        cases hv : sq_va (τ 0) (τ 1) (sq_k L p) (sq_f L n p) with
        | true => rfl
        | false => rw [sq_al, if_pos hpn, if_neg (by rw [hv]; decide)] at hal; exact absurd hal (by simp)
      have ha9 : sq_al L n (d + 1) p τ = sq_al L n d (sq_e L n p).1 (sq_ap τ (sq_k L p) (sq_f L n p)) := by rw [sq_al, if_pos hpn, if_pos hv]
      rw [ha9] at hal
      refine az_er 4 rfl ?_
      rw [h7, (hH.T hT).2.2.1]
      refine az_ic_ge rfl rfl (fun c157 => absurd c157 (nI_ge hpn (by omega))) (fun c157 => ?_)
      refine az_er 1 rfl ?_
      refine az_ecall rfl rfl rfl rfl (cm_st (hH.T hT) (hH.K hK) h7 h8 hpn) ?_
      rintro _ h2 ⟨rfl, s2, s3, s4, s5⟩
      have hH2 := hH.tr (rp_H.of s4)
      replace s3 : h2 59 8 = sq_b true := by rw [he] at s3; exact s3
      obtain ⟨s6, s7⟩ := s5 he
      refine az_er 1 rfl ?_
      refine az_ecall rfl rfl rfl rfl (cm_come (s := 0) (r := 0) (rt_M_h hM (s4.1 61 (by decide) (by decide))) hV hk4 hv s6 s7) ?_
      rintro _ h3 ⟨rfl, t1, t2⟩
      have hH3 : rp_H h h3 := hH2.tr ⟨fun k x y z => t2 k y, fun j x y z => by rw [t2 59 (by decide)]⟩
      refine az_er 1 rfl ?_
      refine az_E.mono (ih (sq_e L n p).1 (k + 1) (sq_ap τ (sq_k L p) (sq_f L n p)) h3 (by omega) (by omega) hw (rt_V_ap hV he hv) hal hH3 (by rw [t2 59 (by decide)]; exact s2) (by rw [t2 59 (by decide)]; exact s3) t1) ?_
      rw [ha9]
      exact fun _ _ q => q
    · skip
      refine az_er 4 rfl ?_
      rw [h7, (hH.T hT).2.2.1]
      refine az_ic_ge rfl rfl (fun c157 => ?_) (fun c157 => absurd (nI_le (by omega) (by omega)) c157)
      refine az_er 1 rfl ?_
      refine az_eret rfl rfl rfl ?_
      exact ⟨rfl, by rw [sq_al_e (by omega)]; exact hM, hH⟩
set_option maxRecDepth 100000 in
theorem cm_read {sc : az_S} {h : az_H} {L : Nat → Nat} {n : Nat} (hT : rp_T L n h) (hK : rp_K h) {τ : Nat → Nat} (hM : rt_M 61 τ h) (hV : rt_V τ) : az_E sc az_m_X8_read 0 [.ref 59] [] h (fun v h1 => v = some (.int (sq_tw L n τ).1) ∧ rt_M 61 (sq_tw L n τ).2 h1 ∧ rp_H h h1) := by
  have h80 := hT.1
  have hG : rp_G h (az_up (az_up h 59 7 (Int32.ofInt 0)) 59 8 (Int32.ofInt 1)) := (rp_G.rf.up (Or.inl rfl)).up (Or.inr rfl)
  by_cases h0 : n = 0
  · skip
    refine az_er 9 rfl ?_
    refine az_ecall rfl rfl rfl rfl (cm_stn (p := 0) ((rp_H.of hG).T hT) ((rp_H.of hG).K hK) (by rw [az_up_n (by decide)]; exact az_up_s) az_up_s (by omega) (by rw [h0]; rfl)) ?_
    rintro _ h2 ⟨rfl, s2, s3, s4⟩
    have hG2 := hG.tr s4
    refine az_er 3 rfl ?_
    rw [s3]
    refine az_if_eq rfl rfl (fun c23 => ?_) (fun c23 => absurd rfl c23)
    refine az_er 2 rfl ?_
    rw [s3]
    refine az_if_ne rfl rfl (fun c41 => absurd rfl c41) (fun c41 => ?_)
    refine az_er 4 rfl ?_
    refine az_eret rfl rfl rfl ?_
    rw [s2, sq_tw, if_pos h0]
    exact ⟨rfl, rt_M_h hM (hG2.1 61 (by decide) (by decide)), rp_H.of hG2⟩
  · skip
    refine az_er 8 rfl ?_
    refine lm_rd1 hT hK n 0 0 _ _ (by omega) (by omega) hG (by rw [az_up_n (by decide)]; exact az_up_s) az_up_s rfl (fun hw y h1 hy hG1 a7 a8 a9 => ?_) (fun hw v h1 hv hG1 => ?_)
    · have hM1 := rt_M_h hM (hG1.1 61 (by decide) (by decide))
      refine az_er 6 rfl ?_
      refine az_iaI rfl rfl (show _ = nI 0 from rfl) (show 0 < 70 by omega) (by decide) (show _ = nI (τ 0) by rw [az_up_o (by decide)]; exact hM1 0 (by omega)) ?_
      refine az_er 4 rfl ?_
      refine az_iaI rfl rfl (show _ = nI 1 from rfl) (show 1 < 70 by omega) (by decide) (show _ = nI (τ 1) by rw [az_up_o (by decide)]; exact hM1 1 (by omega)) ?_
      refine az_er 1 rfl ?_
      refine lm_rd2 hT hK n 0 0 τ _ _ [] _ (by omega) (by omega) hw hV (hG1.up (Or.inl rfl)) az_up_s (by rw [az_up_n (by decide)]; exact a8) rfl rfl (Or.inl rfl) (fun ha a b tl h2 hG2 b8 htl a9 => ?_) (fun ha v h2 hv hG2 => ?_)
      · rcases htl with rfl | ⟨z9, rfl⟩
        · skip
          refine az_er 3 rfl ?_
          refine az_E.mono (lm_rd3 hT hK n 0 0 τ _ (by omega) (by omega) hw hV ha (rp_H.of (hG2.up (Or.inl rfl))) az_up_s (by rw [az_up_n (by decide)]; exact b8) (rt_M_h hM ((hG2.up (Or.inl rfl)).1 61 (by decide) (by decide)))) ?_
          rintro v h3 ⟨rfl, m1, m2⟩
          rw [sq_tw, if_neg h0, if_pos hw, if_pos ha]
          exact ⟨by rw [hy], m1, m2⟩
        · skip
          refine az_er 3 rfl ?_
          refine az_E.mono (lm_rd3 hT hK n 0 0 τ _ (by omega) (by omega) hw hV ha (rp_H.of (hG2.up (Or.inl rfl))) az_up_s (by rw [az_up_n (by decide)]; exact b8) (rt_M_h hM ((hG2.up (Or.inl rfl)).1 61 (by decide) (by decide)))) ?_
          rintro v h3 ⟨rfl, m1, m2⟩
          rw [sq_tw, if_neg h0, if_pos hw, if_pos ha]
          exact ⟨by rw [hy], m1, m2⟩
      · rw [hv, sq_tw, if_neg h0, if_pos hw, if_neg (by rw [ha]; decide)]
        exact ⟨rfl, rt_M_h hM (hG2.1 61 (by decide) (by decide)), rp_H.of hG2⟩
    · rw [hv, sq_tw, if_neg h0, if_neg (by rw [hw]; decide)]
      exact ⟨rfl, rt_M_h hM (hG1.1 61 (by decide) (by decide)), rp_H.of hG1⟩
theorem rt_R_tw {σ : rt_S} {τ : Nat → Nat} {h h1 : az_H} {v : Int32} (hR : rt_R σ h) (hH : rp_H h h1) (hT : rt_M 61 τ h1) (hv : v = 0) : rt_R (τ, σ.2.1, σ.2.2.1, (0, σ.2.2.2.1.2), σ.2.2.2.2) (az_up h1 59 6 v) := by
  obtain ⟨t, k0, kt, l, r, f⟩ := hR
  refine ⟨rt_M_h hT (az_up_o (by decide)), by rw [az_up_n (by decide), hH.2 4 (by decide) (by decide) (by decide)]; exact k0, fun q => rt_M_h (kt q) (by rw [az_up_o (by decide)]; exact hH.1 62 (by decide) (by decide) (by decide)), ⟨by rw [az_up_s]; exact hv, fun i hi => absurd hi (Nat.not_lt_zero i)⟩, ?_, ?_⟩
  · rw [az_up_n (by decide), az_up_o (by decide), hH.2 26 (by decide) (by decide) (by decide), hH.1 74 (by decide) (by decide) (by decide)]; exact r
  · rw [az_up_o (by decide), hH.1 60 (by decide) (by decide) (by decide)]; exact f
set_option maxRecDepth 100000 in
theorem op_town : ∀ (sc : az_S) (σ : rt_S) (h : az_H), rt_C σ h → rt_W σ → ∃ (A : Int32) (σ2 : rt_S), rt_W σ2 ∧ az_E sc az_m_X7_town 0 [.ref 0] [] h (rt_oc A σ2 h) ∧ ∀ h1, rt_R σ h1 → rp_K h1 → az_E sc az_m_X8_town 0 [.ref 59] [] h1 (rt_or A σ2 h1) := by
  intro sc σ h hC hW
  refine ⟨(sq_tw σ.2.2.2.1.2 σ.2.2.2.1.1 σ.1).1, ((sq_tw σ.2.2.2.1.2 σ.2.2.2.1.1 σ.1).2, σ.2.1, σ.2.2.1, (0, σ.2.2.2.1.2), σ.2.2.2.2), ⟨rt_W_tw hW.1, hW.2.1, ⟨Nat.zero_le _, fun i hi => absurd hi (Nat.not_lt_zero i)⟩, hW.2.2.2⟩, ct_town hC hW, ?_⟩
  intro h1 hR hK
  have hT : rp_T σ.2.2.2.1.2 σ.2.2.2.1.1 h1 := ⟨hW.2.2.1.1, hW.2.2.1.2, hR.2.2.2.1.1, hR.2.2.2.1.2⟩
  refine az_er 1 rfl ?_
  refine az_ecall rfl rfl rfl rfl (cm_read hT hK hR.1 hW.1) ?_
  rintro _ h2 ⟨rfl, m1, m2⟩
  refine az_er 5 rfl ?_
  refine az_eret rfl rfl rfl ?_
  exact ⟨rfl, rt_R_tw hR m2 m1 rfl, fun a ha => by rw [az_up_o (by omega)]; exact m2.1 a (by omega) (by omega) (by omega)⟩
