/-! FORMS -/
theorem i32_ne {x : Int32} {k : Nat} (hk : k < 2 ^ 31) (h : ¬ x = nI k) : ¬ ((k : Int) = x.toInt) := fun q => h (Int32.toInt_inj.mp (by rw [nI_toInt hk]; exact q.symm))
theorem az_lkd {sc : az_S} {M : az_M} {d : Int} {ps : Array (Int × Int)} {n pc t : Nat} {ls st : List Value} {h : az_H} {x : Int32} (hs : (ps.toList.zip (ps.toList.drop 1)).all (fun q => decide (q.1.1 < q.2.1)) = true) (ho : Op.lookupswitch.offset ps.toList d x.toInt = d) (ht : az_tgt pc d = some t) : az_stp sc M (.lookupswitch d ps) n pc ls (.int x :: st) h = some (t, ls, st, h) := by
  simp only [az_stp, hs, ho, cond_true, az_jmp, ht]
def sq_s (c : Nat → Bool) (s : Nat × Bool) : Nat × Bool := if (s.2 && c s.1) = true then (s.1 + 1, true) else (s.1, false)
theorem sq_s_t {c : Nat → Bool} {q : Nat} (h : c q = true) : sq_s c (q, true) = (q + 1, true) := by simp [sq_s, h]
theorem sq_s_f {c : Nat → Bool} {q : Nat} (h : c q = false) : sq_s c (q, true) = (q, false) := by simp [sq_s, h]
theorem sq_s_n {c : Nat → Bool} {q : Nat} : sq_s c (q, false) = (q, false) := by simp [sq_s]
def sq_fm (L : Nat → Nat) (n p : Nat) : Nat := if L p = 99 ∨ L p = 119 then (if sq_dg L n (p + 2) = true then 0 else 1) else if L p = 115 then 2 else if L p = 114 then 3 else 4
def sq_S (L : Nat → Nat) (n p : Nat) : Nat → Nat × Bool
  | 0 => sq_s (sq_ch L n 59) (sq_s (sq_dg L n) (sq_s (sq_dg L n) (p + 1, true)))
  | 1 => sq_s (sq_ch L n 59) (sq_s (sq_dg L n) (p + 1, true))
  | 2 => sq_s (sq_ch L n 59) (sq_s (sq_dg L n) (sq_s (sq_dg L n) (sq_s (sq_dg L n) (sq_s (sq_ch L n 44) (sq_s (sq_dg L n) (sq_s (sq_kn L n sq_kg 6) (sq_s (sq_dg L n) (p + 1, true))))))))
  | 3 => sq_s (sq_ch L n 59) (sq_s (sq_dg L n) (sq_s (sq_kn L n sq_kr 6) (p + 1, true)))
  | _ => (p, false)
def sq_e (L : Nat → Nat) (n p : Nat) : Nat × Bool := sq_S L n p (sq_fm L n p)
theorem sq_kx_n {L : Nat → Nat} {n p : Nat} {ks : Nat → Nat} : sq_kx L n ks p < 0 ↔ sq_kn L n ks 6 p = false := by
  unfold sq_kx sq_kn sq_ia
  by_cases h1 : p < n
  · rw [if_pos h1]
    by_cases h2 : sq_kj ks (L p) 6 0 < 6
    · rw [if_pos h2]
      simp [h1, h2]
      exact Int32.not_lt.mp (nI_pos (by omega))
    · rw [if_neg h2]
      simp [h1, h2]
  · rw [if_neg h1]
    simp [h1]
set_option maxRecDepth 100000 in
theorem ct_fit35 {sc : az_S} {h : az_H} {L : Nat → Nat} {n p : Nat} {x : Int32} (hL : rt_L L n h) (hp : x = nI p) (hp9 : p ≤ 200) : az_F sc az_m_X5_fits [.ref 46, .int x, .int (nI 35)] h (some (.int (sq_b (sq_dg L n p)))) h := by
  refine az_F.of ?_
  refine az_er 4 rfl ?_
  refine az_ecallF rfl rfl rfl rfl (ct_isd hL hp hp9) ?_
  refine az_zret rfl rfl ((by cases sq_dg L n p with | true => exact Or.inr rfl | false => exact Or.inl rfl)) ?_
  exact ⟨rfl, rfl⟩
set_option maxRecDepth 100000 in
theorem ct_fit107 {sc : az_S} {h : az_H} {L : Nat → Nat} {n p : Nat} {x : Int32} (hL : rt_L L n h) (hp : x = nI p) (hp9 : p ≤ 200) : az_F sc az_m_X5_fits [.ref 46, .int x, .int (nI 107)] h (some (.int (sq_b (sq_kn L n sq_kg 6 p)))) h := by
  refine az_F.of ?_
  refine az_er 5 rfl ?_
  refine az_ecallF rfl rfl rfl rfl (ct_kat5 hL hp hp9) ?_
  refine az_if_lt rfl rfl (fun c49 => ?_) (fun c49 => ?_)
  · refine az_er 1 rfl ?_
    refine az_eret rfl rfl rfl ?_
    first | exact ⟨by rw [sq_kx_n.mp c49]; rfl, rfl⟩ | (have h9 : sq_kn L n sq_kg 6 p = true := (by cases h8 : sq_kn L n sq_kg 6 p with | true => rfl | false => exact absurd (sq_kx_n.mpr h8) c49); exact ⟨by rw [h9]; rfl, rfl⟩)
  · refine az_er 2 rfl ?_
    refine az_eret rfl rfl rfl ?_
    first | exact ⟨by rw [sq_kx_n.mp c49]; rfl, rfl⟩ | (have h9 : sq_kn L n sq_kg 6 p = true := (by cases h8 : sq_kn L n sq_kg 6 p with | true => rfl | false => exact absurd (sq_kx_n.mpr h8) c49); exact ⟨by rw [h9]; rfl, rfl⟩)
set_option maxRecDepth 100000 in
theorem ct_fit102 {sc : az_S} {h : az_H} {L : Nat → Nat} {n p : Nat} {x : Int32} (hL : rt_L L n h) (hp : x = nI p) (hp9 : p ≤ 200) : az_F sc az_m_X5_fits [.ref 46, .int x, .int (nI 102)] h (some (.int (sq_b (sq_kn L n sq_kr 6 p)))) h := by
  refine az_F.of ?_
  refine az_er 5 rfl ?_
  refine az_ecallF rfl rfl rfl rfl (ct_kat6 hL hp hp9) ?_
  refine az_if_lt rfl rfl (fun c65 => ?_) (fun c65 => ?_)
  · refine az_er 1 rfl ?_
    refine az_eret rfl rfl rfl ?_
    first | exact ⟨by rw [sq_kx_n.mp c65]; rfl, rfl⟩ | (have h9 : sq_kn L n sq_kr 6 p = true := (by cases h8 : sq_kn L n sq_kr 6 p with | true => rfl | false => exact absurd (sq_kx_n.mpr h8) c65); exact ⟨by rw [h9]; rfl, rfl⟩)
  · refine az_er 2 rfl ?_
    refine az_eret rfl rfl rfl ?_
    first | exact ⟨by rw [sq_kx_n.mp c65]; rfl, rfl⟩ | (have h9 : sq_kn L n sq_kr 6 p = true := (by cases h8 : sq_kn L n sq_kr 6 p with | true => rfl | false => exact absurd (sq_kx_n.mpr h8) c65); exact ⟨by rw [h9]; rfl, rfl⟩)
set_option maxRecDepth 100000 in
theorem ct_fit44 {sc : az_S} {h : az_H} {L : Nat → Nat} {n p : Nat} {x : Int32} (hL : rt_L L n h) (hp : x = nI p) (hp9 : p ≤ 200) : az_F sc az_m_X5_fits [.ref 46, .int x, .int (nI 44)] h (some (.int (sq_b (sq_ch L n 44 p)))) h := by
  refine az_F.of ?_
  refine az_er 4 rfl ?_
  refine az_ecallF rfl rfl rfl rfl (ct_lat hL hp hp9) ?_
  refine az_er 1 rfl ?_
  refine az_ic_ne rfl rfl (fun c80 => ?_) (fun c80 => ?_)
  · refine az_er 1 rfl ?_
    refine az_eret rfl rfl rfl ?_
    first
    | exact ⟨by rw [(sq_lt_c hL (k := 44) (by decide)).mp c80]; rfl, rfl⟩
    | (have h9 : sq_ch L n 44 p = false := Bool.eq_false_iff.mpr (fun q => absurd ((sq_lt_c hL (by decide)).mpr q) c80)
       exact ⟨by rw [h9]; rfl, rfl⟩)
  · refine az_er 2 rfl ?_
    refine az_eret rfl rfl rfl ?_
    first
    | exact ⟨by rw [(sq_lt_c hL (k := 44) (by decide)).mp c80]; rfl, rfl⟩
    | (have h9 : sq_ch L n 44 p = false := Bool.eq_false_iff.mpr (fun q => absurd ((sq_lt_c hL (by decide)).mpr q) c80)
       exact ⟨by rw [h9]; rfl, rfl⟩)
set_option maxRecDepth 100000 in
theorem ct_fit59 {sc : az_S} {h : az_H} {L : Nat → Nat} {n p : Nat} {x : Int32} (hL : rt_L L n h) (hp : x = nI p) (hp9 : p ≤ 200) : az_F sc az_m_X5_fits [.ref 46, .int x, .int (nI 59)] h (some (.int (sq_b (sq_ch L n 59 p)))) h := by
  refine az_F.of ?_
  refine az_er 4 rfl ?_
  refine az_ecallF rfl rfl rfl rfl (ct_lat hL hp hp9) ?_
  refine az_er 1 rfl ?_
  refine az_ic_ne rfl rfl (fun c80 => ?_) (fun c80 => ?_)
  · refine az_er 1 rfl ?_
    refine az_eret rfl rfl rfl ?_
    first
    | exact ⟨by rw [(sq_lt_c hL (k := 59) (by decide)).mp c80]; rfl, rfl⟩
    | (have h9 : sq_ch L n 59 p = false := Bool.eq_false_iff.mpr (fun q => absurd ((sq_lt_c hL (by decide)).mpr q) c80)
       exact ⟨by rw [h9]; rfl, rfl⟩)
  · refine az_er 2 rfl ?_
    refine az_eret rfl rfl rfl ?_
    first
    | exact ⟨by rw [(sq_lt_c hL (k := 59) (by decide)).mp c80]; rfl, rfl⟩
    | (have h9 : sq_ch L n 59 p = false := Bool.eq_false_iff.mpr (fun q => absurd ((sq_lt_c hL (by decide)).mpr q) c80)
       exact ⟨by rw [h9]; rfl, rfl⟩)
set_option maxRecDepth 100000 in
theorem ct_nform {sc : az_S} {h : az_H} {L : Nat → Nat} {n p : Nat} {x : Int32} (hL : rt_L L n h) (hp : x = nI p) (hp9 : p ≤ 190) : az_F sc az_m_X5_numberForm [.ref 46, .int x] h (some (.ref (if sq_dg L n (p + 2) = true then 1000 else 1001))) h := by
  refine az_F.of ?_
  cases h2 : sq_dg L n (p + 2)
  · refine az_er 4 rfl ?_
    refine az_ecallF rfl rfl rfl rfl ((ct_isd hL (show _ = nI (p + 2) by rw [hp]; exact nI_add p 2) (by omega)).eq (by rw [h2]) rfl) ?_
    refine az_if_eq rfl rfl (fun c7 => ?_) (fun c7 => absurd rfl c7)
    refine az_er 1 rfl ?_
    refine az_eret rfl rfl rfl ?_
    exact ⟨rfl, rfl⟩
  · refine az_er 4 rfl ?_
    refine az_ecallF rfl rfl rfl rfl ((ct_isd hL (show _ = nI (p + 2) by rw [hp]; exact nI_add p 2) (by omega)).eq (by rw [h2]) rfl) ?_
    refine az_if_eq rfl rfl (fun c7 => absurd c7 (by decide)) (fun c7 => ?_)
    refine az_er 2 rfl ?_
    refine az_eret rfl rfl rfl ?_
    exact ⟨rfl, rfl⟩
set_option maxRecDepth 100000 in
theorem ct_form {sc : az_S} {h : az_H} {L : Nat → Nat} {n p : Nat} {x : Int32} (hL : rt_L L n h) (hp : x = nI p) (hpn : p < n) : az_F sc az_m_X5_formAt [.ref 46, .int x] h (some (.ref (1000 + sq_fm L n p))) h := by
  have h80 := hL.1
  have h255 := hL.2.1 p hpn
  refine az_F.of ?_
  by_cases h99 : L p = 99
  · refine az_er 2 rfl ?_
    refine az_ecallF rfl rfl rfl rfl ((ct_lat1 hL hp hpn).eq (by rw [h99]) rfl) ?_
    refine az_er 3 rfl ?_
    refine az_ecallF rfl rfl rfl rfl (ct_nform hL hp (by omega)) ?_
    refine az_eret rfl rfl rfl ?_
    refine ⟨?_, rfl⟩
    rw [sq_fm, if_pos (Or.inl h99)]
    cases h2 : sq_dg L n (p + 2) with
    | true => rw [if_pos rfl, if_pos rfl]
    | false => rw [if_neg (by decide), if_neg (by decide)]
  by_cases h119 : L p = 119
  · refine az_er 2 rfl ?_
    refine az_ecallF rfl rfl rfl rfl ((ct_lat1 hL hp hpn).eq (by rw [h119]) rfl) ?_
    refine az_er 3 rfl ?_
    refine az_ecallF rfl rfl rfl rfl (ct_nform hL hp (by omega)) ?_
    refine az_eret rfl rfl rfl ?_
    refine ⟨?_, rfl⟩
    rw [sq_fm, if_pos (Or.inr h119)]
    cases h2 : sq_dg L n (p + 2) with
    | true => rw [if_pos rfl, if_pos rfl]
    | false => rw [if_neg (by decide), if_neg (by decide)]
  by_cases h115 : L p = 115
  · refine az_er 2 rfl ?_
    refine az_ecallF rfl rfl rfl rfl ((ct_lat1 hL hp hpn).eq (by rw [h115]) rfl) ?_
    refine az_er 2 rfl ?_
    refine az_eret rfl rfl rfl ?_
    exact ⟨by rw [sq_fm, if_neg (by omega), if_pos h115], rfl⟩
  by_cases h114 : L p = 114
  · refine az_er 2 rfl ?_
    refine az_ecallF rfl rfl rfl rfl ((ct_lat1 hL hp hpn).eq (by rw [h114]) rfl) ?_
    refine az_er 2 rfl ?_
    refine az_eret rfl rfl rfl ?_
    exact ⟨by rw [sq_fm, if_neg (by omega), if_neg (by omega), if_pos h114], rfl⟩
  · skip
    refine az_er 2 rfl ?_
    refine az_ecallF rfl rfl rfl rfl (ct_lat1 hL hp hpn) ?_
    have e : ∀ k, k < 128 → ¬ L p = k → ¬ ((k : Int) = (nI (L p)).toInt) := fun k h1 h2 => i32_ne (by omega) (fun q => h2 ((nI_eq (by omega) (by omega)).mp q))
    refine az_e1 (pc' := 66) rfl rfl rfl (az_lkd rfl (by have e1 : ¬ ((99 : Int) = (nI (L p)).toInt) := e 99 (by decide) h99; have e2 : ¬ ((114 : Int) = (nI (L p)).toInt) := e 114 (by decide) h114; have e3 : ¬ ((115 : Int) = (nI (L p)).toInt) := e 115 (by decide) h115; have e4 : ¬ ((119 : Int) = (nI (L p)).toInt) := e 119 (by decide) h119; simp [Op.lookupswitch.offset, e1, e2, e3, e4]) rfl) ?_
    refine az_er 1 rfl ?_
    refine az_eret rfl rfl rfl ?_
    exact ⟨by rw [sq_fm, if_neg (by omega), if_neg h115, if_neg h114], rfl⟩
set_option maxRecDepth 100000 in
theorem bpE0 {sc : az_S} {h : az_H} {Q : Option Value → az_H → Prop} {x y : Int32} (hy : y = nI 3) (K : ∀ y, az_E sc az_m_X5_badPlace 73 [.ref 46, .int x, .ref 1000, .int y] [] h Q) : az_E sc az_m_X5_badPlace 36 [.ref 46, .int x, .ref 1000, .int y] [] h Q := by
  refine az_er 2 rfl ?_
  refine az_ecallF rfl rfl rfl rfl (⟨20, rfl⟩ : az_F sc az_m_J0_length_8abf5 [.ref 1000] h (some (.int (nI 3))) h) ?_
  refine az_ic_ge rfl rfl (fun c41 => ?_) (fun c41 => absurd (by rw [hy]; decide) c41)
  exact K y
set_option maxRecDepth 100000 in
theorem bpS0 {sc : az_S} {h : az_H} {Q : Option Value → az_H → Prop} {x y sg : Int32} {i p : Nat} {b : Bool} (hx : x = nI p) (hy : y = nI i) (hi : i < 3) (hc : ∀ y, y = nI i → az_F sc az_m_J0_charAt_5068e [.ref 1000, .int y] h (some (.int sg)) h) (hf : ∀ q, q = nI (p + 1 + i) → az_F sc az_m_X5_fits [.ref 46, .int q, .int sg] h (some (.int (sq_b b))) h) (K : b = true → ∀ y, y = nI (i + 1) → az_E sc az_m_X5_badPlace 36 [.ref 46, .int x, .ref 1000, .int y] [] h Q) (B : b = false → Q (some (.int (nI (p + 1 + i)))) h) : az_E sc az_m_X5_badPlace 36 [.ref 46, .int x, .ref 1000, .int y] [] h Q := by
  refine az_er 2 rfl ?_
  refine az_ecallF rfl rfl rfl rfl (⟨20, rfl⟩ : az_F sc az_m_J0_length_8abf5 [.ref 1000] h (some (.int (nI 3))) h) ?_
  refine az_ic_ge rfl rfl (fun c41 => absurd c41 (by rw [hy]; exact nI_ge (b := 3) hi (by decide))) (fun c41 => ?_)
  refine az_er 8 rfl ?_
  refine az_ecallF rfl rfl rfl rfl (hc y hy) ?_
  refine az_ecallF rfl rfl rfl rfl (hf _ (by rw [hx, hy]; exact (congrArg (fun q => q + nI i) (nI_1' p)).trans (nI_add (p + 1) i))) ?_
  refine az_if_ne rfl rfl (fun c58 => ?_) (fun c58 => ?_)
  · refine az_er 2 rfl ?_
    exact K (sq_b1 c58) _ (by rw [hy]; exact nI_1' i)
  · refine az_er 5 rfl ?_
    refine az_eret rfl rfl rfl ?_
    have hb : b = false := sq_b0 c58
    exact (congrArg (fun q => Q (some (Value.int q)) h) (show x + Int32.ofInt 1 + y = nI (p + 1 + i) by rw [hx, hy]; exact (congrArg (fun q => q + nI i) (nI_1' p)).trans (nI_add (p + 1) i))).mpr (B hb)
set_option maxRecDepth 100000 in
theorem bpA0 {sc : az_S} {h : az_H} {Q : Option Value → az_H → Prop} {L : Nat → Nat} {n p : Nat} {x y : Int32} (hL : rt_L L n h) (hpn : p < n) (hx : x = nI p) (hy : y = nI 0) (K : ∀ y, sq_S L n p 0 = (p + 1 + 1 + 1 + 1, true) → az_E sc az_m_X5_badPlace 73 [.ref 46, .int x, .ref 1000, .int y] [] h Q) (B : ∀ {r}, sq_S L n p 0 = (r, false) → Q (some (.int (nI r))) h) : az_E sc az_m_X5_badPlace 36 [.ref 46, .int x, .ref 1000, .int y] [] h Q := by
  have h80 := hL.1
  refine bpS0 (i := 0) (sg := nI 35) (b := sq_dg L n (p + 1)) hx hy (by decide) (fun y hy => by subst hy; exact ⟨40, rfl⟩) (fun q hq => ct_fit35 hL hq (by omega)) (fun h0 y0 hy0 => ?_) (fun q => B (show sq_S L n p 0 = (p + 1, false) by rw [sq_S, sq_s_f q, sq_s_n, sq_s_n]))
  refine bpS0 (i := 1) (sg := nI 35) (b := sq_dg L n (p + 1 + 1)) hx hy0 (by decide) (fun y hy => by subst hy; exact ⟨40, rfl⟩) (fun q hq => ct_fit35 hL hq (by omega)) (fun h1 y1 hy1 => ?_) (fun q => B (show sq_S L n p 0 = (p + 1 + 1, false) by rw [sq_S, sq_s_t h0, sq_s_f q, sq_s_n]))
  refine bpS0 (i := 2) (sg := nI 59) (b := sq_ch L n 59 (p + 1 + 1 + 1)) hx hy1 (by decide) (fun y hy => by subst hy; exact ⟨40, rfl⟩) (fun q hq => ct_fit59 hL hq (by omega)) (fun h2 y2 hy2 => ?_) (fun q => B (show sq_S L n p 0 = (p + 1 + 1 + 1, false) by rw [sq_S, sq_s_t h0, sq_s_t h1, sq_s_f q]))
  exact bpE0 hy2 (fun y => K y (by rw [sq_S, sq_s_t h0, sq_s_t h1, sq_s_t h2]))
set_option maxRecDepth 100000 in
theorem bpE1 {sc : az_S} {h : az_H} {Q : Option Value → az_H → Prop} {x y : Int32} (hy : y = nI 2) (K : ∀ y, az_E sc az_m_X5_badPlace 73 [.ref 46, .int x, .ref 1001, .int y] [] h Q) : az_E sc az_m_X5_badPlace 36 [.ref 46, .int x, .ref 1001, .int y] [] h Q := by
  refine az_er 2 rfl ?_
  refine az_ecallF rfl rfl rfl rfl (⟨20, rfl⟩ : az_F sc az_m_J0_length_8abf5 [.ref 1001] h (some (.int (nI 2))) h) ?_
  refine az_ic_ge rfl rfl (fun c41 => ?_) (fun c41 => absurd (by rw [hy]; decide) c41)
  exact K y
set_option maxRecDepth 100000 in
theorem bpS1 {sc : az_S} {h : az_H} {Q : Option Value → az_H → Prop} {x y sg : Int32} {i p : Nat} {b : Bool} (hx : x = nI p) (hy : y = nI i) (hi : i < 2) (hc : ∀ y, y = nI i → az_F sc az_m_J0_charAt_5068e [.ref 1001, .int y] h (some (.int sg)) h) (hf : ∀ q, q = nI (p + 1 + i) → az_F sc az_m_X5_fits [.ref 46, .int q, .int sg] h (some (.int (sq_b b))) h) (K : b = true → ∀ y, y = nI (i + 1) → az_E sc az_m_X5_badPlace 36 [.ref 46, .int x, .ref 1001, .int y] [] h Q) (B : b = false → Q (some (.int (nI (p + 1 + i)))) h) : az_E sc az_m_X5_badPlace 36 [.ref 46, .int x, .ref 1001, .int y] [] h Q := by
  refine az_er 2 rfl ?_
  refine az_ecallF rfl rfl rfl rfl (⟨20, rfl⟩ : az_F sc az_m_J0_length_8abf5 [.ref 1001] h (some (.int (nI 2))) h) ?_
  refine az_ic_ge rfl rfl (fun c41 => absurd c41 (by rw [hy]; exact nI_ge (b := 2) hi (by decide))) (fun c41 => ?_)
  refine az_er 8 rfl ?_
  refine az_ecallF rfl rfl rfl rfl (hc y hy) ?_
  refine az_ecallF rfl rfl rfl rfl (hf _ (by rw [hx, hy]; exact (congrArg (fun q => q + nI i) (nI_1' p)).trans (nI_add (p + 1) i))) ?_
  refine az_if_ne rfl rfl (fun c58 => ?_) (fun c58 => ?_)
  · refine az_er 2 rfl ?_
    exact K (sq_b1 c58) _ (by rw [hy]; exact nI_1' i)
  · refine az_er 5 rfl ?_
    refine az_eret rfl rfl rfl ?_
    have hb : b = false := sq_b0 c58
    exact (congrArg (fun q => Q (some (Value.int q)) h) (show x + Int32.ofInt 1 + y = nI (p + 1 + i) by rw [hx, hy]; exact (congrArg (fun q => q + nI i) (nI_1' p)).trans (nI_add (p + 1) i))).mpr (B hb)
set_option maxRecDepth 100000 in
theorem bpA1 {sc : az_S} {h : az_H} {Q : Option Value → az_H → Prop} {L : Nat → Nat} {n p : Nat} {x y : Int32} (hL : rt_L L n h) (hpn : p < n) (hx : x = nI p) (hy : y = nI 0) (K : ∀ y, sq_S L n p 1 = (p + 1 + 1 + 1, true) → az_E sc az_m_X5_badPlace 73 [.ref 46, .int x, .ref 1001, .int y] [] h Q) (B : ∀ {r}, sq_S L n p 1 = (r, false) → Q (some (.int (nI r))) h) : az_E sc az_m_X5_badPlace 36 [.ref 46, .int x, .ref 1001, .int y] [] h Q := by
  have h80 := hL.1
  refine bpS1 (i := 0) (sg := nI 35) (b := sq_dg L n (p + 1)) hx hy (by decide) (fun y hy => by subst hy; exact ⟨40, rfl⟩) (fun q hq => ct_fit35 hL hq (by omega)) (fun h0 y0 hy0 => ?_) (fun q => B (show sq_S L n p 1 = (p + 1, false) by rw [sq_S, sq_s_f q, sq_s_n]))
  refine bpS1 (i := 1) (sg := nI 59) (b := sq_ch L n 59 (p + 1 + 1)) hx hy0 (by decide) (fun y hy => by subst hy; exact ⟨40, rfl⟩) (fun q hq => ct_fit59 hL hq (by omega)) (fun h1 y1 hy1 => ?_) (fun q => B (show sq_S L n p 1 = (p + 1 + 1, false) by rw [sq_S, sq_s_t h0, sq_s_f q]))
  exact bpE1 hy1 (fun y => K y (by rw [sq_S, sq_s_t h0, sq_s_t h1]))
set_option maxRecDepth 100000 in
theorem bpE2 {sc : az_S} {h : az_H} {Q : Option Value → az_H → Prop} {x y : Int32} (hy : y = nI 8) (K : ∀ y, az_E sc az_m_X5_badPlace 73 [.ref 46, .int x, .ref 1002, .int y] [] h Q) : az_E sc az_m_X5_badPlace 36 [.ref 46, .int x, .ref 1002, .int y] [] h Q := by
  refine az_er 2 rfl ?_
  refine az_ecallF rfl rfl rfl rfl (⟨20, rfl⟩ : az_F sc az_m_J0_length_8abf5 [.ref 1002] h (some (.int (nI 8))) h) ?_
  refine az_ic_ge rfl rfl (fun c41 => ?_) (fun c41 => absurd (by rw [hy]; decide) c41)
  exact K y
set_option maxRecDepth 100000 in
theorem bpS2 {sc : az_S} {h : az_H} {Q : Option Value → az_H → Prop} {x y sg : Int32} {i p : Nat} {b : Bool} (hx : x = nI p) (hy : y = nI i) (hi : i < 8) (hc : ∀ y, y = nI i → az_F sc az_m_J0_charAt_5068e [.ref 1002, .int y] h (some (.int sg)) h) (hf : ∀ q, q = nI (p + 1 + i) → az_F sc az_m_X5_fits [.ref 46, .int q, .int sg] h (some (.int (sq_b b))) h) (K : b = true → ∀ y, y = nI (i + 1) → az_E sc az_m_X5_badPlace 36 [.ref 46, .int x, .ref 1002, .int y] [] h Q) (B : b = false → Q (some (.int (nI (p + 1 + i)))) h) : az_E sc az_m_X5_badPlace 36 [.ref 46, .int x, .ref 1002, .int y] [] h Q := by
  refine az_er 2 rfl ?_
  refine az_ecallF rfl rfl rfl rfl (⟨20, rfl⟩ : az_F sc az_m_J0_length_8abf5 [.ref 1002] h (some (.int (nI 8))) h) ?_
  refine az_ic_ge rfl rfl (fun c41 => absurd c41 (by rw [hy]; exact nI_ge (b := 8) hi (by decide))) (fun c41 => ?_)
  refine az_er 8 rfl ?_
  refine az_ecallF rfl rfl rfl rfl (hc y hy) ?_
  refine az_ecallF rfl rfl rfl rfl (hf _ (by rw [hx, hy]; exact (congrArg (fun q => q + nI i) (nI_1' p)).trans (nI_add (p + 1) i))) ?_
  refine az_if_ne rfl rfl (fun c58 => ?_) (fun c58 => ?_)
  · refine az_er 2 rfl ?_
    exact K (sq_b1 c58) _ (by rw [hy]; exact nI_1' i)
  · refine az_er 5 rfl ?_
    refine az_eret rfl rfl rfl ?_
    have hb : b = false := sq_b0 c58
    exact (congrArg (fun q => Q (some (Value.int q)) h) (show x + Int32.ofInt 1 + y = nI (p + 1 + i) by rw [hx, hy]; exact (congrArg (fun q => q + nI i) (nI_1' p)).trans (nI_add (p + 1) i))).mpr (B hb)
set_option maxRecDepth 100000 in
theorem bpA2 {sc : az_S} {h : az_H} {Q : Option Value → az_H → Prop} {L : Nat → Nat} {n p : Nat} {x y : Int32} (hL : rt_L L n h) (hpn : p < n) (hx : x = nI p) (hy : y = nI 0) (K : ∀ y, sq_S L n p 2 = (p + 1 + 1 + 1 + 1 + 1 + 1 + 1 + 1 + 1, true) → az_E sc az_m_X5_badPlace 73 [.ref 46, .int x, .ref 1002, .int y] [] h Q) (B : ∀ {r}, sq_S L n p 2 = (r, false) → Q (some (.int (nI r))) h) : az_E sc az_m_X5_badPlace 36 [.ref 46, .int x, .ref 1002, .int y] [] h Q := by
  have h80 := hL.1
  refine bpS2 (i := 0) (sg := nI 35) (b := sq_dg L n (p + 1)) hx hy (by decide) (fun y hy => by subst hy; exact ⟨40, rfl⟩) (fun q hq => ct_fit35 hL hq (by omega)) (fun h0 y0 hy0 => ?_) (fun q => B (show sq_S L n p 2 = (p + 1, false) by rw [sq_S, sq_s_f q, sq_s_n, sq_s_n, sq_s_n, sq_s_n, sq_s_n, sq_s_n, sq_s_n]))
  refine bpS2 (i := 1) (sg := nI 107) (b := sq_kn L n sq_kg 6 (p + 1 + 1)) hx hy0 (by decide) (fun y hy => by subst hy; exact ⟨40, rfl⟩) (fun q hq => ct_fit107 hL hq (by omega)) (fun h1 y1 hy1 => ?_) (fun q => B (show sq_S L n p 2 = (p + 1 + 1, false) by rw [sq_S, sq_s_t h0, sq_s_f q, sq_s_n, sq_s_n, sq_s_n, sq_s_n, sq_s_n, sq_s_n]))
  refine bpS2 (i := 2) (sg := nI 35) (b := sq_dg L n (p + 1 + 1 + 1)) hx hy1 (by decide) (fun y hy => by subst hy; exact ⟨40, rfl⟩) (fun q hq => ct_fit35 hL hq (by omega)) (fun h2 y2 hy2 => ?_) (fun q => B (show sq_S L n p 2 = (p + 1 + 1 + 1, false) by rw [sq_S, sq_s_t h0, sq_s_t h1, sq_s_f q, sq_s_n, sq_s_n, sq_s_n, sq_s_n, sq_s_n]))
  refine bpS2 (i := 3) (sg := nI 44) (b := sq_ch L n 44 (p + 1 + 1 + 1 + 1)) hx hy2 (by decide) (fun y hy => by subst hy; exact ⟨40, rfl⟩) (fun q hq => ct_fit44 hL hq (by omega)) (fun h3 y3 hy3 => ?_) (fun q => B (show sq_S L n p 2 = (p + 1 + 1 + 1 + 1, false) by rw [sq_S, sq_s_t h0, sq_s_t h1, sq_s_t h2, sq_s_f q, sq_s_n, sq_s_n, sq_s_n, sq_s_n]))
  refine bpS2 (i := 4) (sg := nI 35) (b := sq_dg L n (p + 1 + 1 + 1 + 1 + 1)) hx hy3 (by decide) (fun y hy => by subst hy; exact ⟨40, rfl⟩) (fun q hq => ct_fit35 hL hq (by omega)) (fun h4 y4 hy4 => ?_) (fun q => B (show sq_S L n p 2 = (p + 1 + 1 + 1 + 1 + 1, false) by rw [sq_S, sq_s_t h0, sq_s_t h1, sq_s_t h2, sq_s_t h3, sq_s_f q, sq_s_n, sq_s_n, sq_s_n]))
  refine bpS2 (i := 5) (sg := nI 35) (b := sq_dg L n (p + 1 + 1 + 1 + 1 + 1 + 1)) hx hy4 (by decide) (fun y hy => by subst hy; exact ⟨40, rfl⟩) (fun q hq => ct_fit35 hL hq (by omega)) (fun h5 y5 hy5 => ?_) (fun q => B (show sq_S L n p 2 = (p + 1 + 1 + 1 + 1 + 1 + 1, false) by rw [sq_S, sq_s_t h0, sq_s_t h1, sq_s_t h2, sq_s_t h3, sq_s_t h4, sq_s_f q, sq_s_n, sq_s_n]))
  refine bpS2 (i := 6) (sg := nI 35) (b := sq_dg L n (p + 1 + 1 + 1 + 1 + 1 + 1 + 1)) hx hy5 (by decide) (fun y hy => by subst hy; exact ⟨40, rfl⟩) (fun q hq => ct_fit35 hL hq (by omega)) (fun h6 y6 hy6 => ?_) (fun q => B (show sq_S L n p 2 = (p + 1 + 1 + 1 + 1 + 1 + 1 + 1, false) by rw [sq_S, sq_s_t h0, sq_s_t h1, sq_s_t h2, sq_s_t h3, sq_s_t h4, sq_s_t h5, sq_s_f q, sq_s_n]))
  refine bpS2 (i := 7) (sg := nI 59) (b := sq_ch L n 59 (p + 1 + 1 + 1 + 1 + 1 + 1 + 1 + 1)) hx hy6 (by decide) (fun y hy => by subst hy; exact ⟨40, rfl⟩) (fun q hq => ct_fit59 hL hq (by omega)) (fun h7 y7 hy7 => ?_) (fun q => B (show sq_S L n p 2 = (p + 1 + 1 + 1 + 1 + 1 + 1 + 1 + 1, false) by rw [sq_S, sq_s_t h0, sq_s_t h1, sq_s_t h2, sq_s_t h3, sq_s_t h4, sq_s_t h5, sq_s_t h6, sq_s_f q]))
  exact bpE2 hy7 (fun y => K y (by rw [sq_S, sq_s_t h0, sq_s_t h1, sq_s_t h2, sq_s_t h3, sq_s_t h4, sq_s_t h5, sq_s_t h6, sq_s_t h7]))
set_option maxRecDepth 100000 in
theorem bpE3 {sc : az_S} {h : az_H} {Q : Option Value → az_H → Prop} {x y : Int32} (hy : y = nI 3) (K : ∀ y, az_E sc az_m_X5_badPlace 73 [.ref 46, .int x, .ref 1003, .int y] [] h Q) : az_E sc az_m_X5_badPlace 36 [.ref 46, .int x, .ref 1003, .int y] [] h Q := by
  refine az_er 2 rfl ?_
  refine az_ecallF rfl rfl rfl rfl (⟨20, rfl⟩ : az_F sc az_m_J0_length_8abf5 [.ref 1003] h (some (.int (nI 3))) h) ?_
  refine az_ic_ge rfl rfl (fun c41 => ?_) (fun c41 => absurd (by rw [hy]; decide) c41)
  exact K y
set_option maxRecDepth 100000 in
theorem bpS3 {sc : az_S} {h : az_H} {Q : Option Value → az_H → Prop} {x y sg : Int32} {i p : Nat} {b : Bool} (hx : x = nI p) (hy : y = nI i) (hi : i < 3) (hc : ∀ y, y = nI i → az_F sc az_m_J0_charAt_5068e [.ref 1003, .int y] h (some (.int sg)) h) (hf : ∀ q, q = nI (p + 1 + i) → az_F sc az_m_X5_fits [.ref 46, .int q, .int sg] h (some (.int (sq_b b))) h) (K : b = true → ∀ y, y = nI (i + 1) → az_E sc az_m_X5_badPlace 36 [.ref 46, .int x, .ref 1003, .int y] [] h Q) (B : b = false → Q (some (.int (nI (p + 1 + i)))) h) : az_E sc az_m_X5_badPlace 36 [.ref 46, .int x, .ref 1003, .int y] [] h Q := by
  refine az_er 2 rfl ?_
  refine az_ecallF rfl rfl rfl rfl (⟨20, rfl⟩ : az_F sc az_m_J0_length_8abf5 [.ref 1003] h (some (.int (nI 3))) h) ?_
  refine az_ic_ge rfl rfl (fun c41 => absurd c41 (by rw [hy]; exact nI_ge (b := 3) hi (by decide))) (fun c41 => ?_)
  refine az_er 8 rfl ?_
  refine az_ecallF rfl rfl rfl rfl (hc y hy) ?_
  refine az_ecallF rfl rfl rfl rfl (hf _ (by rw [hx, hy]; exact (congrArg (fun q => q + nI i) (nI_1' p)).trans (nI_add (p + 1) i))) ?_
  refine az_if_ne rfl rfl (fun c58 => ?_) (fun c58 => ?_)
  · refine az_er 2 rfl ?_
    exact K (sq_b1 c58) _ (by rw [hy]; exact nI_1' i)
  · refine az_er 5 rfl ?_
    refine az_eret rfl rfl rfl ?_
    have hb : b = false := sq_b0 c58
    exact (congrArg (fun q => Q (some (Value.int q)) h) (show x + Int32.ofInt 1 + y = nI (p + 1 + i) by rw [hx, hy]; exact (congrArg (fun q => q + nI i) (nI_1' p)).trans (nI_add (p + 1) i))).mpr (B hb)
set_option maxRecDepth 100000 in
theorem bpA3 {sc : az_S} {h : az_H} {Q : Option Value → az_H → Prop} {L : Nat → Nat} {n p : Nat} {x y : Int32} (hL : rt_L L n h) (hpn : p < n) (hx : x = nI p) (hy : y = nI 0) (K : ∀ y, sq_S L n p 3 = (p + 1 + 1 + 1 + 1, true) → az_E sc az_m_X5_badPlace 73 [.ref 46, .int x, .ref 1003, .int y] [] h Q) (B : ∀ {r}, sq_S L n p 3 = (r, false) → Q (some (.int (nI r))) h) : az_E sc az_m_X5_badPlace 36 [.ref 46, .int x, .ref 1003, .int y] [] h Q := by
  have h80 := hL.1
  refine bpS3 (i := 0) (sg := nI 102) (b := sq_kn L n sq_kr 6 (p + 1)) hx hy (by decide) (fun y hy => by subst hy; exact ⟨40, rfl⟩) (fun q hq => ct_fit102 hL hq (by omega)) (fun h0 y0 hy0 => ?_) (fun q => B (show sq_S L n p 3 = (p + 1, false) by rw [sq_S, sq_s_f q, sq_s_n, sq_s_n]))
  refine bpS3 (i := 1) (sg := nI 35) (b := sq_dg L n (p + 1 + 1)) hx hy0 (by decide) (fun y hy => by subst hy; exact ⟨40, rfl⟩) (fun q hq => ct_fit35 hL hq (by omega)) (fun h1 y1 hy1 => ?_) (fun q => B (show sq_S L n p 3 = (p + 1 + 1, false) by rw [sq_S, sq_s_t h0, sq_s_f q, sq_s_n]))
  refine bpS3 (i := 2) (sg := nI 59) (b := sq_ch L n 59 (p + 1 + 1 + 1)) hx hy1 (by decide) (fun y hy => by subst hy; exact ⟨40, rfl⟩) (fun q hq => ct_fit59 hL hq (by omega)) (fun h2 y2 hy2 => ?_) (fun q => B (show sq_S L n p 3 = (p + 1 + 1 + 1, false) by rw [sq_S, sq_s_t h0, sq_s_t h1, sq_s_f q]))
  exact bpE3 hy2 (fun y => K y (by rw [sq_S, sq_s_t h0, sq_s_t h1, sq_s_t h2]))
