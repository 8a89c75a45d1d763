/-! LETTERS -/
def sq_dg (L : Nat → Nat) (n p : Nat) : Bool := decide (p < n) && (decide (48 ≤ L p) && decide (L p ≤ 57))
def sq_ch (L : Nat → Nat) (n c p : Nat) : Bool := decide (p < n) && decide (L p = c)
def sq_kg : Nat → Nat
  | 0 => 97
  | 1 => 110
  | 2 => 114
  | 3 => 104
  | 4 => 117
  | _ => 101
def sq_kr : Nat → Nat
  | 0 => 108
  | 1 => 111
  | 2 => 109
  | 3 => 116
  | 4 => 98
  | _ => 102
def sq_kb : Nat → Nat
  | 0 => 99
  | 1 => 115
  | 2 => 114
  | _ => 119
/-- the first place from i on, among d, at which ks has c; else where they end -/
def sq_kj (ks : Nat → Nat) (c : Nat) : Nat → Nat → Nat
  | 0, i => i
  | d + 1, i => if c = ks i then i else sq_kj ks c d (i + 1)
theorem sq_kj_ge {ks : Nat → Nat} {c : Nat} : ∀ d i, i ≤ sq_kj ks c d i
  | 0, _ => Nat.le_refl _
  | d + 1, i => by
    rw [sq_kj]
    split
    · exact Nat.le_refl _
    · exact Nat.le_trans (Nat.le_succ i) (sq_kj_ge d (i + 1))
theorem sq_kj_le {ks : Nat → Nat} {c : Nat} : ∀ d i, sq_kj ks c d i ≤ i + d
  | 0, _ => Nat.le_refl _
  | d + 1, i => by
    rw [sq_kj]
    split
    · omega
    · have := sq_kj_le (ks := ks) (c := c) d (i + 1)
      omega
def sq_kn (L : Nat → Nat) (n : Nat) (ks : Nat → Nat) (m p : Nat) : Bool := decide (p < n) && decide (sq_kj ks (L p) m 0 < m)
theorem by8a : ∀ c, c < 256 → (c < 128 ∧ (nI c).toInt8.toInt32 = nI c) ∨ (128 ≤ c ∧ (nI c).toInt8.toInt32 < 0) := by decide +kernel
theorem by8 (c : Nat) (hc : c < 256) (k : Nat) (hk : k < 128) : (nI c).toInt8.toInt32 = nI k ↔ c = k := by
  rcases by8a c hc with ⟨h1, h2⟩ | ⟨h1, h2⟩
  · rw [h2]
    exact nI_eq (by omega) (by omega)
  · constructor
    · intro h
      rw [h] at h2
      exact absurd h2 (nI_pos (by omega))
    · intro h
      omega
section AZT
variable {sc : az_S} {M : az_M} {pc : Nat} {ls st : List Value} {h : az_H} {Q : Option Value → az_H → Prop} {n : Nat}
theorem az_bt {t N j : Nat} {i v : Int32} (hl : az_look (az_cd M) pc = some (.baload, n)) (hw : az_wd[1100 + t]? = none) (hB : az_isB (1100 + t) = true) (hN : az_tl t = N) (hi : i = nI j) (hj : j < N) (hNs : N < 2 ^ 31) (hv : az_tb t j = v) (K : az_E sc M (pc + n) ls (.int v :: st) h Q) : az_E sc M pc ls (.int i :: .ref (1100 + t) :: st) h Q := by
  subst hi
  refine az_e1 hl rfl rfl ?_ K
  have h3 : az_oob (nI j) (az_tl t) = false := by rw [hN]; exact az_oobF (vp_in_nI hj hNs)
  have h4 : 1100 + t - 1100 = t := by omega
  have h5 : Nat.beq (1100 + t) 2000 = false := by
    cases hq : Nat.beq (1100 + t) 2000 with
    | false => rfl
    | true =>
      have : t = 900 := by have := Nat.eq_of_beq_eq_true hq; omega
      subst this
      exact absurd hB (by decide)
  simp [az_stp, az_ald, hw, hB, h4, h3, h5, nI_clamp (show j < 2 ^ 31 by omega), hv]
end AZT
theorem tb_g : ∀ j, j < 6 → az_tb 5 j = nI (sq_kg j) := by decide
theorem tb_r : ∀ j, j < 6 → az_tb 6 j = nI (sq_kr j) := by decide
theorem kg_lt : ∀ j, sq_kg j < 128 := fun j => by unfold sq_kg; split <;> omega
theorem kr_lt : ∀ j, sq_kr j < 128 := fun j => by unfold sq_kr; split <;> omega
/-- the class's letters -/
def rt_L (L : Nat → Nat) (n : Nat) (h : az_H) : Prop := n ≤ 80 ∧ (∀ i, i < n → L i ≤ 255) ∧ h 46 1 = nI n ∧ ∀ i, i < n → h 47 i = nI (L i)
def sq_ia (ks : Nat → Nat) (c : Nat) : Int32 := if sq_kj ks c 6 0 < 6 then nI (sq_kj ks c 6 0) else -1
set_option maxRecDepth 100000 in
theorem lp_ix5 {sc : az_S} {h : az_H} {ks : Nat → Nat} {c : Nat} (hc : c < 256) (hk : ∀ j, ks j < 128) (hb : ∀ j, j < 6 → az_tb 5 j = nI (ks j)) : ∀ (d i : Nat) (y : Int32), i ≤ 6 → 6 - i = d → sq_kj ks c 6 0 = sq_kj ks c d i → y = nI i → az_E sc az_m_J1_indexOfChar_4cfef 7 [.ref 1105, .int (nI c), .int 0, .int 6, .int (nI c).toInt8.toInt32, .int y] [] h (fun v h1 => v = some (.int (if sq_kj ks c 6 0 < 6 then nI (sq_kj ks c 6 0) else -1)) ∧ h1 = h) := by
  intro d
  induction d with
  | zero =>
    intro i y hi hd hz hy
    have he : i = 6 := by omega
    refine az_er 2 rfl ?_
    refine az_ic_ge rfl rfl (fun c10 => ?_) (fun c10 => absurd (by rw [hy, he]; decide) c10)
    refine az_er 1 rfl ?_
    refine az_eret rfl rfl rfl ?_
    exact ⟨by rw [hz, show sq_kj ks c 0 i = 6 by rw [sq_kj]; exact he, if_neg (by decide)]; rfl, rfl⟩
  | succ d ih =>
    intro i y hi hd hz hy
    refine az_er 2 rfl ?_
    refine az_ic_ge rfl rfl (fun c10 => absurd c10 (by rw [hy]; exact nI_ge (b := 6) (by omega) (by omega))) (fun c10 => ?_)
    refine az_er 2 rfl ?_
    refine az_bt (t := 5) (N := 6) rfl rfl rfl rfl hy (show i < 6 by omega) (by decide) (hb i (by omega)) ?_
    refine az_er 1 rfl ?_
    refine az_ic_ne rfl rfl (fun c19 => ?_) (fun c19 => ?_)
    · refine az_er 2 rfl ?_
      have h9 : ¬ c = ks i := fun q => c19 ((by8 c hc _ (hk i)).mpr q).symm
      exact ih (i + 1) _ (by omega) (by omega) (by rw [hz, sq_kj, if_neg h9]) (by rw [hy]; exact nI_1' i)
    · refine az_er 1 rfl ?_
      refine az_eret rfl rfl rfl ?_
      have h9 : c = ks i := (by8 c hc _ (hk i)).mp c19.symm
      exact ⟨by rw [hz, sq_kj, if_pos h9, if_pos (show i < 6 by omega), hy], rfl⟩
set_option maxRecDepth 100000 in
theorem lp_ix6 {sc : az_S} {h : az_H} {ks : Nat → Nat} {c : Nat} (hc : c < 256) (hk : ∀ j, ks j < 128) (hb : ∀ j, j < 6 → az_tb 6 j = nI (ks j)) : ∀ (d i : Nat) (y : Int32), i ≤ 6 → 6 - i = d → sq_kj ks c 6 0 = sq_kj ks c d i → y = nI i → az_E sc az_m_J1_indexOfChar_4cfef 7 [.ref 1106, .int (nI c), .int 0, .int 6, .int (nI c).toInt8.toInt32, .int y] [] h (fun v h1 => v = some (.int (if sq_kj ks c 6 0 < 6 then nI (sq_kj ks c 6 0) else -1)) ∧ h1 = h) := by
  intro d
  induction d with
  | zero =>
    intro i y hi hd hz hy
    have he : i = 6 := by omega
    refine az_er 2 rfl ?_
    refine az_ic_ge rfl rfl (fun c10 => ?_) (fun c10 => absurd (by rw [hy, he]; decide) c10)
    refine az_er 1 rfl ?_
    refine az_eret rfl rfl rfl ?_
    exact ⟨by rw [hz, show sq_kj ks c 0 i = 6 by rw [sq_kj]; exact he, if_neg (by decide)]; rfl, rfl⟩
  | succ d ih =>
    intro i y hi hd hz hy
    refine az_er 2 rfl ?_
    refine az_ic_ge rfl rfl (fun c10 => absurd c10 (by rw [hy]; exact nI_ge (b := 6) (by omega) (by omega))) (fun c10 => ?_)
    refine az_er 2 rfl ?_
    refine az_bt (t := 6) (N := 6) rfl rfl rfl rfl hy (show i < 6 by omega) (by decide) (hb i (by omega)) ?_
    refine az_er 1 rfl ?_
    refine az_ic_ne rfl rfl (fun c19 => ?_) (fun c19 => ?_)
    · refine az_er 2 rfl ?_
      have h9 : ¬ c = ks i := fun q => c19 ((by8 c hc _ (hk i)).mpr q).symm
      exact ih (i + 1) _ (by omega) (by omega) (by rw [hz, sq_kj, if_neg h9]) (by rw [hy]; exact nI_1' i)
    · refine az_er 1 rfl ?_
      refine az_eret rfl rfl rfl ?_
      have h9 : c = ks i := (by8 c hc _ (hk i)).mp c19.symm
      exact ⟨by rw [hz, sq_kj, if_pos h9, if_pos (show i < 6 by omega), hy], rfl⟩
set_option maxRecDepth 100000 in
theorem ct_canE {sc : az_S} {h : az_H} {c : Nat} (hc : c < 256) : az_F sc az_m_J1_canEncode_9a6ad [.int (nI c)] h (some (.int 1)) h := by
  refine az_F.of ?_
  refine az_er 1 rfl ?_
  refine az_if_lt rfl rfl (fun c1 => absurd c1 (nI_pos (by omega))) (fun c1 => ?_)
  refine az_er 2 rfl ?_
  refine az_ic_gt rfl rfl (fun c8 => absurd c8 (nI_nlt (a := 255) (by omega) (by omega))) (fun c8 => ?_)
  refine az_er 2 rfl ?_
  refine az_eret rfl rfl rfl ?_
  exact ⟨rfl, rfl⟩
set_option maxRecDepth 100000 in
theorem ct_ixc5 {sc : az_S} {h : az_H} {c : Nat} (hc : c < 256) : az_F sc az_m_J1_indexOfChar_4cfef [.ref 1105, .int (nI c), .int 0, .int 6] h (some (.int (sq_ia sq_kg c))) h := by
  refine az_F.of ?_
  refine az_er 5 rfl ?_
  exact lp_ix5 hc kg_lt tb_g 6 0 0 (by decide) rfl rfl rfl
set_option maxRecDepth 100000 in
theorem ct_ixo5 {sc : az_S} {h : az_H} {c : Nat} (hc : c < 256) : az_F sc az_m_J1_indexOf_4cfef [.ref 1105, .int (nI c), .int 0, .int 6] h (some (.int (sq_ia sq_kg c))) h := by
  refine az_F.of ?_
  refine az_er 1 rfl ?_
  refine az_ecallF rfl rfl rfl rfl (ct_canE hc) ?_
  refine az_if_ne rfl rfl (fun c4 => ?_) (fun c4 => absurd c4 (by decide))
  refine az_er 2 rfl ?_
  refine az_er 5 rfl ?_
  refine az_er 4 rfl ?_
  refine az_ic_lt rfl rfl (fun c24 => ?_) (fun c24 => absurd (by decide) c24)
  refine az_er 4 rfl ?_
  refine az_ecallF rfl rfl rfl rfl (ct_ixc5 hc) ?_
  refine az_eret rfl rfl rfl ?_
  exact ⟨rfl, rfl⟩
set_option maxRecDepth 100000 in
theorem ct_io5 {sc : az_S} {h : az_H} {c : Nat} (hc : c < 256) : az_F sc az_m_J0_indexOf_7cf53 [.ref 1005, .int (nI c), .int 0] h (some (.int (sq_ia sq_kg c))) h := by
  refine az_F.of ?_
  refine az_er 1 rfl ?_
  refine az_ecallF rfl rfl rfl rfl (⟨20, rfl⟩ : az_F sc az_m_J0_isLatin1_aae02 [.ref 1005] h (some (.int 1)) h) ?_
  refine az_if_eq rfl rfl (fun c4 => absurd c4 (by decide)) (fun c4 => ?_)
  refine az_er 5 rfl ?_
  refine az_ecallF rfl rfl rfl rfl (⟨20, rfl⟩ : az_F sc az_m_J0_length_8abf5 [.ref 1005] h (some (.int 6)) h) ?_
  refine az_ecallF rfl rfl rfl rfl (ct_ixo5 hc) ?_
  refine az_er 1 rfl ?_
  refine az_eret rfl rfl rfl ?_
  exact ⟨rfl, rfl⟩
set_option maxRecDepth 100000 in
theorem ct_in5 {sc : az_S} {h : az_H} {c : Nat} (hc : c < 256) : az_F sc az_m_J0_indexOf_0f7a4 [.ref 1005, .int (nI c)] h (some (.int (sq_ia sq_kg c))) h := by
  refine az_F.of ?_
  refine az_er 3 rfl ?_
  refine az_ecallF rfl rfl rfl rfl (ct_io5 hc) ?_
  refine az_eret rfl rfl rfl ?_
  exact ⟨rfl, rfl⟩
set_option maxRecDepth 100000 in
theorem ct_ixc6 {sc : az_S} {h : az_H} {c : Nat} (hc : c < 256) : az_F sc az_m_J1_indexOfChar_4cfef [.ref 1106, .int (nI c), .int 0, .int 6] h (some (.int (sq_ia sq_kr c))) h := by
  refine az_F.of ?_
  refine az_er 5 rfl ?_
  exact lp_ix6 hc kr_lt tb_r 6 0 0 (by decide) rfl rfl rfl
set_option maxRecDepth 100000 in
theorem ct_ixo6 {sc : az_S} {h : az_H} {c : Nat} (hc : c < 256) : az_F sc az_m_J1_indexOf_4cfef [.ref 1106, .int (nI c), .int 0, .int 6] h (some (.int (sq_ia sq_kr c))) h := by
  refine az_F.of ?_
  refine az_er 1 rfl ?_
  refine az_ecallF rfl rfl rfl rfl (ct_canE hc) ?_
  refine az_if_ne rfl rfl (fun c4 => ?_) (fun c4 => absurd c4 (by decide))
  refine az_er 2 rfl ?_
  refine az_er 5 rfl ?_
  refine az_er 4 rfl ?_
  refine az_ic_lt rfl rfl (fun c24 => ?_) (fun c24 => absurd (by decide) c24)
  refine az_er 4 rfl ?_
  refine az_ecallF rfl rfl rfl rfl (ct_ixc6 hc) ?_
  refine az_eret rfl rfl rfl ?_
  exact ⟨rfl, rfl⟩
set_option maxRecDepth 100000 in
theorem ct_io6 {sc : az_S} {h : az_H} {c : Nat} (hc : c < 256) : az_F sc az_m_J0_indexOf_7cf53 [.ref 1006, .int (nI c), .int 0] h (some (.int (sq_ia sq_kr c))) h := by
  refine az_F.of ?_
  refine az_er 1 rfl ?_
  refine az_ecallF rfl rfl rfl rfl (⟨20, rfl⟩ : az_F sc az_m_J0_isLatin1_aae02 [.ref 1006] h (some (.int 1)) h) ?_
  refine az_if_eq rfl rfl (fun c4 => absurd c4 (by decide)) (fun c4 => ?_)
  refine az_er 5 rfl ?_
  refine az_ecallF rfl rfl rfl rfl (⟨20, rfl⟩ : az_F sc az_m_J0_length_8abf5 [.ref 1006] h (some (.int 6)) h) ?_
  refine az_ecallF rfl rfl rfl rfl (ct_ixo6 hc) ?_
  refine az_er 1 rfl ?_
  refine az_eret rfl rfl rfl ?_
  exact ⟨rfl, rfl⟩
set_option maxRecDepth 100000 in
theorem ct_in6 {sc : az_S} {h : az_H} {c : Nat} (hc : c < 256) : az_F sc az_m_J0_indexOf_0f7a4 [.ref 1006, .int (nI c)] h (some (.int (sq_ia sq_kr c))) h := by
  refine az_F.of ?_
  refine az_er 3 rfl ?_
  refine az_ecallF rfl rfl rfl rfl (ct_io6 hc) ?_
  refine az_eret rfl rfl rfl ?_
  exact ⟨rfl, rfl⟩
set_option maxRecDepth 100000 in
theorem ct_lat1 {sc : az_S} {h : az_H} {L : Nat → Nat} {n p : Nat} {x : Int32} (hL : rt_L L n h) (hp : x = nI p) (hpn : p < n) : az_F sc az_m_X5_letterAt [.ref 46, .int x] h (some (.int (nI (L p)))) h := by
  refine az_F.of ?_
  refine az_er 1 rfl ?_
  refine az_if_lt rfl rfl (fun c1 => absurd c1 (by rw [hp]; exact nI_pos (by have := hL.1; omega))) (fun c1 => ?_)
  refine az_er 3 rfl ?_
  rw [hL.2.2.1]
  refine az_ic_ge rfl rfl (fun c9 => absurd c9 (by rw [hp]; exact nI_ge hpn (by have := hL.1; omega))) (fun c9 => ?_)
  refine az_er 3 rfl ?_
  refine az_len rfl rfl ?_
  refine az_ic_ge rfl rfl (fun c18 => absurd c18 (by rw [hp]; exact nI_ge (b := 80) (show p < 80 by have := hL.1; omega) (by omega))) (fun c18 => ?_)
  refine az_er 3 rfl ?_
  refine az_ia rfl rfl (by rw [hp]; exact vp_in_nI (show p < 80 by have := hL.1; omega) (by decide)) ?_
  refine az_er 1 rfl ?_
  refine az_eret rfl rfl rfl ?_
  exact ⟨by rw [hp, nI_clamp (by have := hL.1; omega), hL.2.2.2 p hpn], rfl⟩
set_option maxRecDepth 100000 in
theorem ct_lat0 {sc : az_S} {h : az_H} {L : Nat → Nat} {n p : Nat} {x : Int32} (hL : rt_L L n h) (hp : x = nI p) (hpn : n ≤ p) (hp9 : p ≤ 200) : az_F sc az_m_X5_letterAt [.ref 46, .int x] h (some (.int (-1))) h := by
  refine az_F.of ?_
  refine az_er 1 rfl ?_
  refine az_if_lt rfl rfl (fun c1 => absurd c1 (by rw [hp]; exact nI_pos (by omega))) (fun c1 => ?_)
  refine az_er 3 rfl ?_
  rw [hL.2.2.1]
  refine az_ic_ge rfl rfl (fun c9 => ?_) (fun c9 => absurd (by rw [hp]; exact nI_le hpn (by omega)) c9)
  refine az_er 1 rfl ?_
  refine az_eret rfl rfl rfl ?_
  exact ⟨rfl, rfl⟩
def sq_lt (L : Nat → Nat) (n p : Nat) : Int32 := if p < n then nI (L p) else -1
theorem ct_lat {sc : az_S} {h : az_H} {L : Nat → Nat} {n p : Nat} {x : Int32} (hL : rt_L L n h) (hp : x = nI p) (hp9 : p ≤ 200) : az_F sc az_m_X5_letterAt [.ref 46, .int x] h (some (.int (sq_lt L n p))) h := by
  unfold sq_lt
  by_cases h1 : p < n
  · rw [if_pos h1]; exact ct_lat1 hL hp h1
  · rw [if_neg h1]; exact ct_lat0 hL hp (by omega) hp9
theorem sq_lt_d {L : Nat → Nat} {n p : Nat} {h : az_H} (hL : rt_L L n h) : (48 ≤ sq_lt L n p ∧ sq_lt L n p ≤ 57) ↔ sq_dg L n p = true := by
  unfold sq_lt sq_dg
  by_cases h1 : p < n
  · have := hL.2.1 p h1
    rw [if_pos h1, show (48 : Int32) = nI 48 from rfl, show (57 : Int32) = nI 57 from rfl, nI_leI (by omega) (by omega), nI_leI (by omega) (by omega)]
    simp [h1]
  · rw [if_neg h1]
    simp [h1]
    all_goals (intro q; exact absurd q (by decide))
theorem sq_lt_c {L : Nat → Nat} {n p k : Nat} {h : az_H} (hL : rt_L L n h) (hk : k < 256) : sq_lt L n p = nI k ↔ sq_ch L n k p = true := by
  unfold sq_lt sq_ch
  by_cases h1 : p < n
  · have := hL.2.1 p h1
    rw [if_pos h1, nI_eq (by omega) (by omega)]
    simp [h1]
  · rw [if_neg h1]
    simp [h1]
    all_goals intro q
    all_goals exact absurd (q ▸ nI_pos (n := k) (by omega)) (by decide)
set_option maxRecDepth 100000 in
theorem ct_isd {sc : az_S} {h : az_H} {L : Nat → Nat} {n p : Nat} {x : Int32} (hL : rt_L L n h) (hp : x = nI p) (hp9 : p ≤ 200) : az_F sc az_m_X5_isDigit [.ref 46, .int x] h (some (.int (sq_b (sq_dg L n p)))) h := by
  refine az_F.of ?_
  refine az_er 2 rfl ?_
  refine az_ecallF rfl rfl rfl rfl (ct_lat hL hp (by omega)) ?_
  refine az_er 1 rfl ?_
  refine az_ic_lt rfl rfl (fun c7 => ?_) (fun c7 => ?_)
  · refine az_er 1 rfl ?_
    refine az_eret rfl rfl rfl ?_
    first
    | exact ⟨by rw [(sq_lt_d hL).mp ⟨Int32.not_lt.mp c7, Int32.not_lt.mp c17⟩]; rfl, rfl⟩
    | (have h9 : sq_dg L n p = false := Bool.eq_false_iff.mpr (fun q => absurd ((sq_lt_d hL).mpr q).2 (Int32.not_le.mpr c17))
       exact ⟨by rw [h9]; rfl, rfl⟩)
    | (have h9 : sq_dg L n p = false := Bool.eq_false_iff.mpr (fun q => absurd ((sq_lt_d hL).mpr q).1 (Int32.not_le.mpr c7))
       exact ⟨by rw [h9]; rfl, rfl⟩)
  · refine az_er 2 rfl ?_
    refine az_ecallF rfl rfl rfl rfl (ct_lat hL hp (by omega)) ?_
    refine az_er 1 rfl ?_
    refine az_ic_gt rfl rfl (fun c17 => ?_) (fun c17 => ?_)
    · refine az_er 1 rfl ?_
      refine az_eret rfl rfl rfl ?_
      first
      | exact ⟨by rw [(sq_lt_d hL).mp ⟨Int32.not_lt.mp c7, Int32.not_lt.mp c17⟩]; rfl, rfl⟩
      | (have h9 : sq_dg L n p = false := Bool.eq_false_iff.mpr (fun q => absurd ((sq_lt_d hL).mpr q).2 (Int32.not_le.mpr c17))
         exact ⟨by rw [h9]; rfl, rfl⟩)
      | (have h9 : sq_dg L n p = false := Bool.eq_false_iff.mpr (fun q => absurd ((sq_lt_d hL).mpr q).1 (Int32.not_le.mpr c7))
         exact ⟨by rw [h9]; rfl, rfl⟩)
    · refine az_er 2 rfl ?_
      refine az_eret rfl rfl rfl ?_
      first
      | exact ⟨by rw [(sq_lt_d hL).mp ⟨Int32.not_lt.mp c7, Int32.not_lt.mp c17⟩]; rfl, rfl⟩
      | (have h9 : sq_dg L n p = false := Bool.eq_false_iff.mpr (fun q => absurd ((sq_lt_d hL).mpr q).2 (Int32.not_le.mpr c17))
         exact ⟨by rw [h9]; rfl, rfl⟩)
      | (have h9 : sq_dg L n p = false := Bool.eq_false_iff.mpr (fun q => absurd ((sq_lt_d hL).mpr q).1 (Int32.not_le.mpr c7))
         exact ⟨by rw [h9]; rfl, rfl⟩)
theorem sq_dgt {L : Nat → Nat} {n p : Nat} (hd : sq_dg L n p = true) : p < n ∧ 48 ≤ L p ∧ L p ≤ 57 := by
  unfold sq_dg at hd
  simpa using hd
def sq_nm (L : Nat → Nat) (n p : Nat) : Nat := if sq_dg L n (p + 1) = true then 10 * (L p - 48) + (L (p + 1) - 48) else L p - 48
set_option maxRecDepth 100000 in
theorem ct_dig {sc : az_S} {h : az_H} {L : Nat → Nat} {n p : Nat} {x : Int32} (hL : rt_L L n h) (hp : x = nI p) (hd : sq_dg L n p = true) : az_F sc az_m_X5_digitAt [.ref 46, .int x] h (some (.int (nI (L p - 48)))) h := by
  have h1 := sq_dgt hd
  refine az_F.of ?_
  refine az_er 2 rfl ?_
  refine az_ecallF rfl rfl rfl rfl (ct_lat1 hL hp h1.1) ?_
  refine az_er 2 rfl ?_
  refine az_eret rfl rfl rfl ?_
  exact ⟨congrArg some (congrArg Value.int (nI_sb (b := 48) h1.2.1)), rfl⟩
set_option maxRecDepth 100000 in
theorem ct_num {sc : az_S} {h : az_H} {L : Nat → Nat} {n p : Nat} {x : Int32} (hL : rt_L L n h) (hp : x = nI p) (hp9 : p ≤ 199) (hd : sq_dg L n p = true) : az_F sc az_m_X5_numberAt [.ref 46, .int x] h (some (.int (nI (sq_nm L n p)))) h := by
  refine az_F.of ?_
  cases h2 : sq_dg L n (p + 1)
  · refine az_er 2 rfl ?_
    refine az_ecallF rfl rfl rfl rfl (ct_dig hL hp hd) ?_
    refine az_er 5 rfl ?_
    refine az_ecallF rfl rfl rfl rfl ((ct_isd hL (show _ = nI (p + 1) by rw [hp]; exact nI_1' p) (by omega)).eq (by rw [h2]) rfl) ?_
    refine az_if_eq rfl rfl (fun c13 => ?_) (fun c13 => absurd rfl c13)
    refine az_er 1 rfl ?_
    refine az_eret rfl rfl rfl ?_
    exact ⟨by rw [sq_nm, if_neg (by rw [h2]; decide)], rfl⟩
  · refine az_er 2 rfl ?_
    refine az_ecallF rfl rfl rfl rfl (ct_dig hL hp hd) ?_
    refine az_er 5 rfl ?_
    refine az_ecallF rfl rfl rfl rfl ((ct_isd hL (show _ = nI (p + 1) by rw [hp]; exact nI_1' p) (by omega)).eq (by rw [h2]) rfl) ?_
    refine az_if_eq rfl rfl (fun c13 => absurd c13 (by decide)) (fun c13 => ?_)
    refine az_er 7 rfl ?_
    refine az_ecallF rfl rfl rfl rfl (ct_dig hL (show _ = nI (p + 1) by rw [hp]; exact nI_1' p) h2) ?_
    refine az_er 2 rfl ?_
    refine az_eret rfl rfl rfl ?_
    exact ⟨by rw [sq_nm, if_pos h2]; exact congrArg some (congrArg Value.int (show nI 10 * nI (L p - 48) + nI (L (p + 1) - 48) = _ by rw [pk_mul, nI_add])), rfl⟩
theorem i2c_8 : ∀ c, c < 256 → ((nI c).toUInt32 % 65536).toInt32 = nI c := by decide +kernel
def sq_kx (L : Nat → Nat) (n : Nat) (ks : Nat → Nat) (p : Nat) : Int32 := if p < n then sq_ia ks (L p) else -1
set_option maxRecDepth 100000 in
theorem ct_kat5 {sc : az_S} {h : az_H} {L : Nat → Nat} {n p : Nat} {x : Int32} (hL : rt_L L n h) (hp : x = nI p) (hp9 : p ≤ 200) : az_F sc az_m_X5_kindAt [.ref 46, .int x, .ref 1005] h (some (.int (sq_kx L n sq_kg p))) h := by
  refine az_F.of ?_
  by_cases h1 : p < n
  · have h255 := hL.2.1 p h1
    refine az_er 2 rfl ?_
    refine az_ecallF rfl rfl rfl rfl (ct_lat hL hp (by omega)) ?_
    refine az_er 2 rfl ?_
    rw [show sq_lt L n p = nI (L p) from if_pos h1]
    refine az_if_ge rfl rfl (fun c7 => ?_) (fun c7 => absurd (nI_pos' (by omega)) c7)
    refine az_er 3 rfl ?_
    rw [i2c_8 (L p) (by omega)]
    refine az_ecallF rfl rfl rfl rfl (ct_in5 (by omega)) ?_
    refine az_eret rfl rfl rfl ?_
    exact ⟨by rw [sq_kx, if_pos h1], rfl⟩
  · refine az_er 2 rfl ?_
    refine az_ecallF rfl rfl rfl rfl (ct_lat hL hp (by omega)) ?_
    refine az_er 2 rfl ?_
    rw [show sq_lt L n p = -1 from if_neg h1]
    refine az_if_ge rfl rfl (fun c7 => absurd c7 (by decide)) (fun c7 => ?_)
    refine az_er 2 rfl ?_
    refine az_eret rfl rfl rfl ?_
    exact ⟨by rw [sq_kx, if_neg h1]; rfl, rfl⟩
set_option maxRecDepth 100000 in
theorem ct_kat6 {sc : az_S} {h : az_H} {L : Nat → Nat} {n p : Nat} {x : Int32} (hL : rt_L L n h) (hp : x = nI p) (hp9 : p ≤ 200) : az_F sc az_m_X5_kindAt [.ref 46, .int x, .ref 1006] h (some (.int (sq_kx L n sq_kr p))) h := by
  refine az_F.of ?_
  by_cases h1 : p < n
  · have h255 := hL.2.1 p h1
    refine az_er 2 rfl ?_
    refine az_ecallF rfl rfl rfl rfl (ct_lat hL hp (by omega)) ?_
    refine az_er 2 rfl ?_
    rw [show sq_lt L n p = nI (L p) from if_pos h1]
    refine az_if_ge rfl rfl (fun c7 => ?_) (fun c7 => absurd (nI_pos' (by omega)) c7)
    refine az_er 3 rfl ?_
    rw [i2c_8 (L p) (by omega)]
    refine az_ecallF rfl rfl rfl rfl (ct_in6 (by omega)) ?_
    refine az_eret rfl rfl rfl ?_
    exact ⟨by rw [sq_kx, if_pos h1], rfl⟩
  · refine az_er 2 rfl ?_
    refine az_ecallF rfl rfl rfl rfl (ct_lat hL hp (by omega)) ?_
    refine az_er 2 rfl ?_
    rw [show sq_lt L n p = -1 from if_neg h1]
    refine az_if_ge rfl rfl (fun c7 => absurd c7 (by decide)) (fun c7 => ?_)
    refine az_er 2 rfl ?_
    refine az_eret rfl rfl rfl ?_
    exact ⟨by rw [sq_kx, if_neg h1]; rfl, rfl⟩
