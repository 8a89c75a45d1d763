/-! THE REFERENCE READS LETTERS -/
def rp_T (L : Nat → Nat) (n : Nat) (h : az_H) : Prop := n ≤ 80 ∧ (∀ i, i < n → L i ≤ 255) ∧ h 59 6 = nI n ∧ ∀ i, i < n → h 64 i = nI (L i)
def rp_F (h h' : az_H) : Prop := (∀ a, a ≠ 59 → h' a = h a) ∧ ∀ j, j ≠ 7 → j ≠ 8 → h' 59 j = h 59 j
def rp_Q (h : az_H) (s : Nat × Bool) (h' : az_H) : Prop := h' 59 7 = nI s.1 ∧ h' 59 8 = sq_b s.2 ∧ rp_F h h'
theorem rp_Q0 {h : az_H} {q : Nat} {s : Nat × Bool} (h7 : h 59 7 = nI q) (e : s = (q, false)) : rp_Q h s (az_up h 59 8 0) := by
  subst e
  exact ⟨by rw [az_up_n (by decide)]; exact h7, by rw [az_up_s]; rfl, fun a ha => az_up_o ha, fun j h1 h2 => az_up_n h2⟩
theorem rp_Q1 {h : az_H} {q : Nat} {s : Nat × Bool} {v : Int32} (h8 : h 59 8 = 1) (e : s = (q + 1, true)) (hv : v = nI (q + 1)) : rp_Q h s (az_up h 59 7 v) := by
  subst e
  exact ⟨by rw [az_up_s]; exact hv, by rw [az_up_n (by decide)]; exact h8, fun a ha => az_up_o ha, fun j h1 h2 => az_up_n h1⟩
theorem rp_T_F {L : Nat → Nat} {n : Nat} {h h' : az_H} (hT : rp_T L n h) (hF : rp_F h h') : rp_T L n h' := ⟨hT.1, hT.2.1, by rw [hF.2 6 (by decide) (by decide)]; exact hT.2.2.1, by rw [hF.1 64 (by decide)]; exact hT.2.2.2⟩
theorem rp_F.tr {h h1 h2 : az_H} (a : rp_F h h1) (b : rp_F h1 h2) : rp_F h h2 := ⟨fun k hk => (b.1 k hk).trans (a.1 k hk), fun j x y => (b.2 j x y).trans (a.2 j x y)⟩
theorem rp_F.rf {h : az_H} : rp_F h h := ⟨fun _ _ => rfl, fun _ _ _ => rfl⟩
def rp_kv (ks : Nat → Nat) (m : Nat) (L : Nat → Nat) (n : Nat) (s : Nat × Bool) : Int32 := if (s.2 && sq_kn L n ks m s.1) = true then nI (sq_kj ks (L s.1) m 0) else 0
def rp_dv (L : Nat → Nat) (n : Nat) (s : Nat × Bool) : Int32 := if (s.2 && sq_dg L n s.1) = true then nI (L s.1 - 48) else 0
def rp_nv (L : Nat → Nat) (n : Nat) (s : Nat × Bool) : Int32 := if (s.2 && sq_dg L n s.1) = true then nI (sq_nm L n s.1) else 0
/-- one figure or two -/
def rp_s2 (L : Nat → Nat) (n : Nat) (s : Nat × Bool) : Nat × Bool := if (s.2 && sq_dg L n s.1) = true then (if sq_dg L n (s.1 + 1) = true then (s.1 + 2, true) else (s.1 + 1, true)) else (s.1, false)
theorem sq_s_e {c : Nat → Bool} {q : Nat} {w : Bool} (h : (w && c q) = false) : sq_s c (q, w) = (q, false) := by
  unfold sq_s
  rw [show ((q, w).2 && c (q, w).1) = false from h]
  rfl
set_option maxRecDepth 100000 in
theorem cm_exp {sc : az_S} {h : az_H} {L : Nat → Nat} {n q : Nat} (hT : rp_T L n h) (h7 : h 59 7 = nI q) {w : Bool} (hq9 : q ≤ 200) (h8 : h 59 8 = sq_b w) {c : Int32} {k : Nat} (hc : c = nI k) (hk9 : k < 256) : az_E sc az_m_X8_expect 0 [.ref 59, .int c] [] h (fun v h' => v = none ∧ rp_Q h (sq_s (sq_ch L n k) (q, w)) h') := by
  cases w with
  | false =>
    refine az_er 2 rfl ?_
    rw [h8]
    refine az_if_eq rfl rfl (fun c4 => ?_) (fun c4 => absurd rfl c4)
    refine az_er 3 rfl ?_
    refine az_eret rfl rfl rfl ?_
    exact ⟨rfl, rp_Q0 h7 (sq_s_e rfl)⟩
  | true =>
    rw [show sq_b true = 1 from rfl] at h8
    by_cases hqn : q < n
    · by_cases hk : L q = k
      · skip
        refine az_er 2 rfl ?_
        rw [h8]
        refine az_if_eq rfl rfl (fun c4 => absurd c4 (by decide)) (fun c4 => ?_)
        refine az_er 4 rfl ?_
        rw [h7, hT.2.2.1]
        refine az_ic_ge rfl rfl (fun c15 => absurd c15 (nI_ge hqn (by have := hT.1; omega))) (fun c15 => ?_)
        refine az_er 4 rfl ?_
        refine az_iaI rfl rfl h7 (show q < 80 by have := hT.1; omega) (by decide) (hT.2.2.2 q hqn) ?_
        refine az_er 1 rfl ?_
        refine az_ic_ne rfl rfl (fun c28 => absurd (by rw [hc, hk]) c28) (fun c28 => ?_)
        refine az_er 7 rfl ?_
        refine az_eret rfl rfl rfl ?_
        exact ⟨rfl, rp_Q1 h8 (sq_s_t (by simp [sq_ch, hqn, hk])) (by rw [h7]; exact nI_1' q)⟩
      · skip
        refine az_er 2 rfl ?_
        rw [h8]
        refine az_if_eq rfl rfl (fun c4 => absurd c4 (by decide)) (fun c4 => ?_)
        refine az_er 4 rfl ?_
        rw [h7, hT.2.2.1]
        refine az_ic_ge rfl rfl (fun c15 => absurd c15 (nI_ge hqn (by have := hT.1; omega))) (fun c15 => ?_)
        refine az_er 4 rfl ?_
        refine az_iaI rfl rfl h7 (show q < 80 by have := hT.1; omega) (by decide) (hT.2.2.2 q hqn) ?_
        refine az_er 1 rfl ?_
        refine az_ic_ne rfl rfl (fun c28 => ?_) (fun c28 => (hk ((nI_eq (by have := hT.2.1 q hqn; omega) (by omega)).mp (c28.trans hc))).elim)
        refine az_er 3 rfl ?_
        refine az_eret rfl rfl rfl ?_
        exact ⟨rfl, rp_Q0 h7 (sq_s_e (by simp [sq_ch, hk]))⟩
    · skip
      refine az_er 2 rfl ?_
      rw [h8]
      refine az_if_eq rfl rfl (fun c4 => absurd c4 (by decide)) (fun c4 => ?_)
      refine az_er 4 rfl ?_
      rw [h7, hT.2.2.1]
      refine az_ic_ge rfl rfl (fun c15 => ?_) (fun c15 => absurd (nI_le (Nat.le_of_not_lt hqn) (by omega)) c15)
      refine az_er 3 rfl ?_
      refine az_eret rfl rfl rfl ?_
      exact ⟨rfl, rp_Q0 h7 (sq_s_e (by simp [sq_ch, hqn]))⟩
theorem kb_lt : ∀ j, sq_kb j < 128 := fun j => by unfold sq_kb; split <;> omega
set_option maxRecDepth 100000 in
theorem lm_no65 {sc : az_S} {h : az_H} {L : Nat → Nat} {n q : Nat} (hT : rp_T L n h) (h7 : h 59 7 = nI q) {w : Bool} {x y : Int32} (hx : x = -1) (hf : (w && sq_kn L n sq_kb 4 q) = false) : az_E sc az_m_X8_oneOf 55 [.ref 59, .ref 65, .int x, .int y] [] h (fun v h' => v = some (.int (rp_kv sq_kb 4 L n (q, w))) ∧ rp_Q h (sq_s (sq_kn L n sq_kb 4) (q, w)) h') := by
  refine az_er 1 rfl ?_
  rw [hx]
  refine az_if_ge rfl rfl (fun c56 => absurd c56 (by decide)) (fun c56 => ?_)
  refine az_er 4 rfl ?_
  refine az_eret rfl rfl rfl ?_
  exact ⟨by rw [rp_kv, if_neg (by rw [hf]; decide)]; rfl, rp_Q0 h7 (sq_s_e hf)⟩
set_option maxRecDepth 100000 in
theorem lm_fd65 {sc : az_S} {h : az_H} {L : Nat → Nat} {n q : Nat} (hT : rp_T L n h) (h7 : h 59 7 = nI q) (h8 : h 59 8 = 1) {x y : Int32} {j : Nat} (hx : x = nI j) (hj9 : j < 4) (hj : sq_kj sq_kb (L q) 4 0 = j) (hf : sq_kn L n sq_kb 4 q = true) : az_E sc az_m_X8_oneOf 55 [.ref 59, .ref 65, .int x, .int y] [] h (fun v h' => v = some (.int (rp_kv sq_kb 4 L n (q, true))) ∧ rp_Q h (sq_s (sq_kn L n sq_kb 4) (q, true)) h') := by
  refine az_er 1 rfl ?_
  rw [hx]
  refine az_if_ge rfl rfl (fun c56 => ?_) (fun c56 => absurd (nI_pos' (by omega)) c56)
  refine az_er 7 rfl ?_
  refine az_eret rfl rfl rfl ?_
  exact ⟨by rw [rp_kv, if_pos (show (true && sq_kn L n sq_kb 4 q) = true from hf), hj], rp_Q1 h8 (sq_s_t hf) (by rw [h7]; exact nI_1' q)⟩
set_option maxRecDepth 100000 in
theorem lm_nl65 {sc : az_S} {h : az_H} {L : Nat → Nat} {n q : Nat} (hT : rp_T L n h) (h7 : h 59 7 = nI q) (hK : ∀ i, i < 4 → h 65 i = nI (sq_kb i)) (hq9 : q ≤ 200) (h8 : h 59 8 = 1) (hqn : ¬ q < n) : ∀ (d i : Nat) (x y : Int32), i ≤ 4 → 4 - i = d → x = -1 → y = nI i → az_E sc az_m_X8_oneOf 4 [.ref 59, .ref 65, .int x, .int y] [] h (fun v h' => v = some (.int (rp_kv sq_kb 4 L n (q, true))) ∧ rp_Q h (sq_s (sq_kn L n sq_kb 4) (q, true)) h') := by
  intro d
  induction d with
  | zero =>
    intro i x y hi hd hx hy
    refine az_er 2 rfl ?_
    refine az_len rfl rfl ?_
    refine az_ic_ge rfl rfl (fun c7 => ?_) (fun c7 => absurd (by rw [hy, show i = 4 by omega]; exact nI_le (Nat.le_refl _) (by decide)) c7)
    exact lm_no65 hT h7 hx (by simp [sq_kn, hqn])
  | succ d ih =>
    intro i x y hi hd hx hy
    refine az_er 2 rfl ?_
    refine az_len rfl rfl ?_
    refine az_ic_ge rfl rfl (fun c7 => absurd c7 (by rw [hy]; exact nI_ge (show i < 4 by omega) (by decide))) (fun c7 => ?_)
    refine az_er 2 rfl ?_
    rw [h8]
    refine az_if_eq rfl rfl (fun c14 => absurd c14 (by decide)) (fun c14 => ?_)
    refine az_er 1 rfl ?_
    rw [hx]
    refine az_if_ge rfl rfl (fun c18 => absurd c18 (by decide)) (fun c18 => ?_)
    refine az_er 4 rfl ?_
    rw [h7, hT.2.2.1]
    refine az_ic_ge rfl rfl (fun c29 => ?_) (fun c29 => absurd (nI_le (Nat.le_of_not_lt hqn) (by omega)) c29)
    refine az_er 2 rfl ?_
    exact ih (i + 1) _ _ (by omega) (by omega) rfl (by rw [hy]; exact nI_1' i)
set_option maxRecDepth 100000 in
theorem lm_lt65 {sc : az_S} {h : az_H} {L : Nat → Nat} {n q : Nat} (hT : rp_T L n h) (h7 : h 59 7 = nI q) (hK : ∀ i, i < 4 → h 65 i = nI (sq_kb i)) (h8 : h 59 8 = 1) (hqn : q < n) : ∀ (d i : Nat) (x y : Int32), i ≤ 4 → 4 - i = d → x = -1 → y = nI i → sq_kj sq_kb (L q) 4 0 = sq_kj sq_kb (L q) d i → az_E sc az_m_X8_oneOf 4 [.ref 59, .ref 65, .int x, .int y] [] h (fun v h' => v = some (.int (rp_kv sq_kb 4 L n (q, true))) ∧ rp_Q h (sq_s (sq_kn L n sq_kb 4) (q, true)) h') := by
  intro d
  induction d with
  | zero =>
    intro i x y hi hd hx hy hj
    refine az_er 2 rfl ?_
    refine az_len rfl rfl ?_
    refine az_ic_ge rfl rfl (fun c7 => ?_) (fun c7 => absurd (by rw [hy, show i = 4 by omega]; exact nI_le (Nat.le_refl _) (by decide)) c7)
    exact lm_no65 hT h7 hx (by rw [Bool.true_and, sq_kn, hj, sq_kj, show i = 4 by omega]; simp)
  | succ d ih =>
    intro i x y hi hd hx hy hj
    by_cases he : L q = sq_kb i
    · have hj2 : sq_kj sq_kb (L q) 4 0 = i := by rw [hj, sq_kj, if_pos he]
      refine az_er 2 rfl ?_
      refine az_len rfl rfl ?_
      refine az_ic_ge rfl rfl (fun c7 => absurd c7 (by rw [hy]; exact nI_ge (show i < 4 by omega) (by decide))) (fun c7 => ?_)
      refine az_er 2 rfl ?_
      rw [h8]
      refine az_if_eq rfl rfl (fun c14 => absurd c14 (by decide)) (fun c14 => ?_)
      refine az_er 1 rfl ?_
      rw [hx]
      refine az_if_ge rfl rfl (fun c18 => absurd c18 (by decide)) (fun c18 => ?_)
      refine az_er 4 rfl ?_
      rw [h7, hT.2.2.1]
      refine az_ic_ge rfl rfl (fun c29 => absurd c29 (nI_ge hqn (by have := hT.1; omega))) (fun c29 => ?_)
      refine az_er 4 rfl ?_
      refine az_iaI rfl rfl h7 (show q < 80 by have := hT.1; omega) (by decide) (hT.2.2.2 q hqn) ?_
      refine az_er 2 rfl ?_
      refine az_caI rfl rfl hy (show i < 4 by omega) (by decide) (hK i (by omega)) ?_
      refine az_ic_ne rfl rfl (fun c44 => absurd (by rw [he]) c44) (fun c44 => ?_)
      refine az_er 4 rfl ?_
      refine az_er 2 rfl ?_
      refine az_len rfl rfl ?_
      refine az_ic_ge rfl rfl (fun c7 => ?_) (fun c7 => ?_)
      · exact lm_fd65 hT h7 h8 hy (by omega) hj2 (by simp [sq_kn, hqn, hj2]; omega)
      · refine az_er 2 rfl ?_
        rw [h8]
        refine az_if_eq rfl rfl (fun c14 => absurd c14 (by decide)) (fun c14 => ?_)
        refine az_er 1 rfl ?_
        refine az_if_ge rfl rfl (fun c18 => ?_) (fun c18 => absurd (by rw [hy]; exact nI_pos' (by omega)) c18)
        exact lm_fd65 hT h7 h8 hy (by omega) hj2 (by simp [sq_kn, hqn, hj2]; omega)
    · skip
      refine az_er 2 rfl ?_
      refine az_len rfl rfl ?_
      refine az_ic_ge rfl rfl (fun c7 => absurd c7 (by rw [hy]; exact nI_ge (show i < 4 by omega) (by decide))) (fun c7 => ?_)
      refine az_er 2 rfl ?_
      rw [h8]
      refine az_if_eq rfl rfl (fun c14 => absurd c14 (by decide)) (fun c14 => ?_)
      refine az_er 1 rfl ?_
      rw [hx]
      refine az_if_ge rfl rfl (fun c18 => absurd c18 (by decide)) (fun c18 => ?_)
      refine az_er 4 rfl ?_
      rw [h7, hT.2.2.1]
      refine az_ic_ge rfl rfl (fun c29 => absurd c29 (nI_ge hqn (by have := hT.1; omega))) (fun c29 => ?_)
      refine az_er 4 rfl ?_
      refine az_iaI rfl rfl h7 (show q < 80 by have := hT.1; omega) (by decide) (hT.2.2.2 q hqn) ?_
      refine az_er 2 rfl ?_
      refine az_caI rfl rfl hy (show i < 4 by omega) (by decide) (hK i (by omega)) ?_
      refine az_ic_ne rfl rfl (fun c44 => ?_) (fun c44 => (he ((nI_eq (by have := hT.2.1 q hqn; omega) (by have := kb_lt i; omega)).mp c44)).elim)
      refine az_er 2 rfl ?_
      exact ih (i + 1) _ _ (by omega) (by omega) rfl (by rw [hy]; exact nI_1' i) (by rw [hj, sq_kj, if_neg he])
set_option maxRecDepth 100000 in
theorem cm_one65 {sc : az_S} {h : az_H} {L : Nat → Nat} {n q : Nat} (hT : rp_T L n h) (h7 : h 59 7 = nI q) (hK : ∀ i, i < 4 → h 65 i = nI (sq_kb i)) {w : Bool} (hq9 : q ≤ 200) (h8 : h 59 8 = sq_b w) : az_E sc az_m_X8_oneOf 0 [.ref 59, .ref 65] [] h (fun v h' => v = some (.int (rp_kv sq_kb 4 L n (q, w))) ∧ rp_Q h (sq_s (sq_kn L n sq_kb 4) (q, w)) h') := by
  cases w with
  | false =>
    refine az_er 6 rfl ?_
    refine az_len rfl rfl ?_
    refine az_ic_ge rfl rfl (fun c7 => absurd c7 (by decide)) (fun c7 => ?_)
    refine az_er 2 rfl ?_
    rw [h8]
    refine az_if_eq rfl rfl (fun c14 => ?_) (fun c14 => absurd rfl c14)
    exact lm_no65 hT h7 rfl rfl
  | true =>
    rw [show sq_b true = 1 from rfl] at h8
    by_cases hqn : q < n
    · skip
      refine az_er 4 rfl ?_
      exact lm_lt65 hT h7 hK h8 hqn 4 0 _ _ (by omega) (by omega) rfl rfl rfl
    · skip
      refine az_er 4 rfl ?_
      exact lm_nl65 hT h7 hK hq9 h8 hqn 4 0 _ _ (by omega) (by omega) rfl rfl
set_option maxRecDepth 100000 in
theorem lm_no66 {sc : az_S} {h : az_H} {L : Nat → Nat} {n q : Nat} (hT : rp_T L n h) (h7 : h 59 7 = nI q) {w : Bool} {x y : Int32} (hx : x = -1) (hf : (w && sq_kn L n sq_kg 6 q) = false) : az_E sc az_m_X8_oneOf 55 [.ref 59, .ref 66, .int x, .int y] [] h (fun v h' => v = some (.int (rp_kv sq_kg 6 L n (q, w))) ∧ rp_Q h (sq_s (sq_kn L n sq_kg 6) (q, w)) h') := by
  refine az_er 1 rfl ?_
  rw [hx]
  refine az_if_ge rfl rfl (fun c56 => absurd c56 (by decide)) (fun c56 => ?_)
  refine az_er 4 rfl ?_
  refine az_eret rfl rfl rfl ?_
  exact ⟨by rw [rp_kv, if_neg (by rw [hf]; decide)]; rfl, rp_Q0 h7 (sq_s_e hf)⟩
set_option maxRecDepth 100000 in
theorem lm_fd66 {sc : az_S} {h : az_H} {L : Nat → Nat} {n q : Nat} (hT : rp_T L n h) (h7 : h 59 7 = nI q) (h8 : h 59 8 = 1) {x y : Int32} {j : Nat} (hx : x = nI j) (hj9 : j < 6) (hj : sq_kj sq_kg (L q) 6 0 = j) (hf : sq_kn L n sq_kg 6 q = true) : az_E sc az_m_X8_oneOf 55 [.ref 59, .ref 66, .int x, .int y] [] h (fun v h' => v = some (.int (rp_kv sq_kg 6 L n (q, true))) ∧ rp_Q h (sq_s (sq_kn L n sq_kg 6) (q, true)) h') := by
  refine az_er 1 rfl ?_
  rw [hx]
  refine az_if_ge rfl rfl (fun c56 => ?_) (fun c56 => absurd (nI_pos' (by omega)) c56)
  refine az_er 7 rfl ?_
  refine az_eret rfl rfl rfl ?_
  exact ⟨by rw [rp_kv, if_pos (show (true && sq_kn L n sq_kg 6 q) = true from hf), hj], rp_Q1 h8 (sq_s_t hf) (by rw [h7]; exact nI_1' q)⟩
set_option maxRecDepth 100000 in
theorem lm_nl66 {sc : az_S} {h : az_H} {L : Nat → Nat} {n q : Nat} (hT : rp_T L n h) (h7 : h 59 7 = nI q) (hK : ∀ i, i < 6 → h 66 i = nI (sq_kg i)) (hq9 : q ≤ 200) (h8 : h 59 8 = 1) (hqn : ¬ q < n) : ∀ (d i : Nat) (x y : Int32), i ≤ 6 → 6 - i = d → x = -1 → y = nI i → az_E sc az_m_X8_oneOf 4 [.ref 59, .ref 66, .int x, .int y] [] h (fun v h' => v = some (.int (rp_kv sq_kg 6 L n (q, true))) ∧ rp_Q h (sq_s (sq_kn L n sq_kg 6) (q, true)) h') := by
  intro d
  induction d with
  | zero =>
    intro i x y hi hd hx hy
    refine az_er 2 rfl ?_
    refine az_len rfl rfl ?_
    refine az_ic_ge rfl rfl (fun c7 => ?_) (fun c7 => absurd (by rw [hy, show i = 6 by omega]; exact nI_le (Nat.le_refl _) (by decide)) c7)
    exact lm_no66 hT h7 hx (by simp [sq_kn, hqn])
  | succ d ih =>
    intro i x y hi hd hx hy
    refine az_er 2 rfl ?_
    refine az_len rfl rfl ?_
    refine az_ic_ge rfl rfl (fun c7 => absurd c7 (by rw [hy]; exact nI_ge (show i < 6 by omega) (by decide))) (fun c7 => ?_)
    refine az_er 2 rfl ?_
    rw [h8]
    refine az_if_eq rfl rfl (fun c14 => absurd c14 (by decide)) (fun c14 => ?_)
    refine az_er 1 rfl ?_
    rw [hx]
    refine az_if_ge rfl rfl (fun c18 => absurd c18 (by decide)) (fun c18 => ?_)
    refine az_er 4 rfl ?_
    rw [h7, hT.2.2.1]
    refine az_ic_ge rfl rfl (fun c29 => ?_) (fun c29 => absurd (nI_le (Nat.le_of_not_lt hqn) (by omega)) c29)
    refine az_er 2 rfl ?_
    exact ih (i + 1) _ _ (by omega) (by omega) rfl (by rw [hy]; exact nI_1' i)
set_option maxRecDepth 100000 in
theorem lm_lt66 {sc : az_S} {h : az_H} {L : Nat → Nat} {n q : Nat} (hT : rp_T L n h) (h7 : h 59 7 = nI q) (hK : ∀ i, i < 6 → h 66 i = nI (sq_kg i)) (h8 : h 59 8 = 1) (hqn : q < n) : ∀ (d i : Nat) (x y : Int32), i ≤ 6 → 6 - i = d → x = -1 → y = nI i → sq_kj sq_kg (L q) 6 0 = sq_kj sq_kg (L q) d i → az_E sc az_m_X8_oneOf 4 [.ref 59, .ref 66, .int x, .int y] [] h (fun v h' => v = some (.int (rp_kv sq_kg 6 L n (q, true))) ∧ rp_Q h (sq_s (sq_kn L n sq_kg 6) (q, true)) h') := by
  intro d
  induction d with
  | zero =>
    intro i x y hi hd hx hy hj
    refine az_er 2 rfl ?_
    refine az_len rfl rfl ?_
    refine az_ic_ge rfl rfl (fun c7 => ?_) (fun c7 => absurd (by rw [hy, show i = 6 by omega]; exact nI_le (Nat.le_refl _) (by decide)) c7)
    exact lm_no66 hT h7 hx (by rw [Bool.true_and, sq_kn, hj, sq_kj, show i = 6 by omega]; simp)
  | succ d ih =>
    intro i x y hi hd hx hy hj
    by_cases he : L q = sq_kg i
    · have hj2 : sq_kj sq_kg (L q) 6 0 = i := by rw [hj, sq_kj, if_pos he]
      refine az_er 2 rfl ?_
      refine az_len rfl rfl ?_
      refine az_ic_ge rfl rfl (fun c7 => absurd c7 (by rw [hy]; exact nI_ge (show i < 6 by omega) (by decide))) (fun c7 => ?_)
      refine az_er 2 rfl ?_
      rw [h8]
      refine az_if_eq rfl rfl (fun c14 => absurd c14 (by decide)) (fun c14 => ?_)
      refine az_er 1 rfl ?_
      rw [hx]
      refine az_if_ge rfl rfl (fun c18 => absurd c18 (by decide)) (fun c18 => ?_)
      refine az_er 4 rfl ?_
      rw [h7, hT.2.2.1]
      refine az_ic_ge rfl rfl (fun c29 => absurd c29 (nI_ge hqn (by have := hT.1; omega))) (fun c29 => ?_)
      refine az_er 4 rfl ?_
      refine az_iaI rfl rfl h7 (show q < 80 by have := hT.1; omega) (by decide) (hT.2.2.2 q hqn) ?_
      refine az_er 2 rfl ?_
      refine az_caI rfl rfl hy (show i < 6 by omega) (by decide) (hK i (by omega)) ?_
      refine az_ic_ne rfl rfl (fun c44 => absurd (by rw [he]) c44) (fun c44 => ?_)
      refine az_er 4 rfl ?_
      refine az_er 2 rfl ?_
      refine az_len rfl rfl ?_
      refine az_ic_ge rfl rfl (fun c7 => ?_) (fun c7 => ?_)
      · exact lm_fd66 hT h7 h8 hy (by omega) hj2 (by simp [sq_kn, hqn, hj2]; omega)
      · refine az_er 2 rfl ?_
        rw [h8]
        refine az_if_eq rfl rfl (fun c14 => absurd c14 (by decide)) (fun c14 => ?_)
        refine az_er 1 rfl ?_
        refine az_if_ge rfl rfl (fun c18 => ?_) (fun c18 => absurd (by rw [hy]; exact nI_pos' (by omega)) c18)
        exact lm_fd66 hT h7 h8 hy (by omega) hj2 (by simp [sq_kn, hqn, hj2]; omega)
    · skip
      refine az_er 2 rfl ?_
      refine az_len rfl rfl ?_
      refine az_ic_ge rfl rfl (fun c7 => absurd c7 (by rw [hy]; exact nI_ge (show i < 6 by omega) (by decide))) (fun c7 => ?_)
      refine az_er 2 rfl ?_
      rw [h8]
      refine az_if_eq rfl rfl (fun c14 => absurd c14 (by decide)) (fun c14 => ?_)
      refine az_er 1 rfl ?_
      rw [hx]
      refine az_if_ge rfl rfl (fun c18 => absurd c18 (by decide)) (fun c18 => ?_)
      refine az_er 4 rfl ?_
      rw [h7, hT.2.2.1]
      refine az_ic_ge rfl rfl (fun c29 => absurd c29 (nI_ge hqn (by have := hT.1; omega))) (fun c29 => ?_)
      refine az_er 4 rfl ?_
      refine az_iaI rfl rfl h7 (show q < 80 by have := hT.1; omega) (by decide) (hT.2.2.2 q hqn) ?_
      refine az_er 2 rfl ?_
      refine az_caI rfl rfl hy (show i < 6 by omega) (by decide) (hK i (by omega)) ?_
      refine az_ic_ne rfl rfl (fun c44 => ?_) (fun c44 => (he ((nI_eq (by have := hT.2.1 q hqn; omega) (by have := kg_lt i; omega)).mp c44)).elim)
      refine az_er 2 rfl ?_
      exact ih (i + 1) _ _ (by omega) (by omega) rfl (by rw [hy]; exact nI_1' i) (by rw [hj, sq_kj, if_neg he])
set_option maxRecDepth 100000 in
theorem cm_one66 {sc : az_S} {h : az_H} {L : Nat → Nat} {n q : Nat} (hT : rp_T L n h) (h7 : h 59 7 = nI q) (hK : ∀ i, i < 6 → h 66 i = nI (sq_kg i)) {w : Bool} (hq9 : q ≤ 200) (h8 : h 59 8 = sq_b w) : az_E sc az_m_X8_oneOf 0 [.ref 59, .ref 66] [] h (fun v h' => v = some (.int (rp_kv sq_kg 6 L n (q, w))) ∧ rp_Q h (sq_s (sq_kn L n sq_kg 6) (q, w)) h') := by
  cases w with
  | false =>
    refine az_er 6 rfl ?_
    refine az_len rfl rfl ?_
    refine az_ic_ge rfl rfl (fun c7 => absurd c7 (by decide)) (fun c7 => ?_)
    refine az_er 2 rfl ?_
    rw [h8]
    refine az_if_eq rfl rfl (fun c14 => ?_) (fun c14 => absurd rfl c14)
    exact lm_no66 hT h7 rfl rfl
  | true =>
    rw [show sq_b true = 1 from rfl] at h8
    by_cases hqn : q < n
    · skip
      refine az_er 4 rfl ?_
      exact lm_lt66 hT h7 hK h8 hqn 6 0 _ _ (by omega) (by omega) rfl rfl rfl
    · skip
      refine az_er 4 rfl ?_
      exact lm_nl66 hT h7 hK hq9 h8 hqn 6 0 _ _ (by omega) (by omega) rfl rfl
set_option maxRecDepth 100000 in
theorem lm_no67 {sc : az_S} {h : az_H} {L : Nat → Nat} {n q : Nat} (hT : rp_T L n h) (h7 : h 59 7 = nI q) {w : Bool} {x y : Int32} (hx : x = -1) (hf : (w && sq_kn L n sq_kr 6 q) = false) : az_E sc az_m_X8_oneOf 55 [.ref 59, .ref 67, .int x, .int y] [] h (fun v h' => v = some (.int (rp_kv sq_kr 6 L n (q, w))) ∧ rp_Q h (sq_s (sq_kn L n sq_kr 6) (q, w)) h') := by
  refine az_er 1 rfl ?_
  rw [hx]
  refine az_if_ge rfl rfl (fun c56 => absurd c56 (by decide)) (fun c56 => ?_)
  refine az_er 4 rfl ?_
  refine az_eret rfl rfl rfl ?_
  exact ⟨by rw [rp_kv, if_neg (by rw [hf]; decide)]; rfl, rp_Q0 h7 (sq_s_e hf)⟩
set_option maxRecDepth 100000 in
theorem lm_fd67 {sc : az_S} {h : az_H} {L : Nat → Nat} {n q : Nat} (hT : rp_T L n h) (h7 : h 59 7 = nI q) (h8 : h 59 8 = 1) {x y : Int32} {j : Nat} (hx : x = nI j) (hj9 : j < 6) (hj : sq_kj sq_kr (L q) 6 0 = j) (hf : sq_kn L n sq_kr 6 q = true) : az_E sc az_m_X8_oneOf 55 [.ref 59, .ref 67, .int x, .int y] [] h (fun v h' => v = some (.int (rp_kv sq_kr 6 L n (q, true))) ∧ rp_Q h (sq_s (sq_kn L n sq_kr 6) (q, true)) h') := by
  refine az_er 1 rfl ?_
  rw [hx]
  refine az_if_ge rfl rfl (fun c56 => ?_) (fun c56 => absurd (nI_pos' (by omega)) c56)
  refine az_er 7 rfl ?_
  refine az_eret rfl rfl rfl ?_
  exact ⟨by rw [rp_kv, if_pos (show (true && sq_kn L n sq_kr 6 q) = true from hf), hj], rp_Q1 h8 (sq_s_t hf) (by rw [h7]; exact nI_1' q)⟩
set_option maxRecDepth 100000 in
theorem lm_nl67 {sc : az_S} {h : az_H} {L : Nat → Nat} {n q : Nat} (hT : rp_T L n h) (h7 : h 59 7 = nI q) (hK : ∀ i, i < 6 → h 67 i = nI (sq_kr i)) (hq9 : q ≤ 200) (h8 : h 59 8 = 1) (hqn : ¬ q < n) : ∀ (d i : Nat) (x y : Int32), i ≤ 6 → 6 - i = d → x = -1 → y = nI i → az_E sc az_m_X8_oneOf 4 [.ref 59, .ref 67, .int x, .int y] [] h (fun v h' => v = some (.int (rp_kv sq_kr 6 L n (q, true))) ∧ rp_Q h (sq_s (sq_kn L n sq_kr 6) (q, true)) h') := by
  intro d
  induction d with
  | zero =>
    intro i x y hi hd hx hy
    refine az_er 2 rfl ?_
    refine az_len rfl rfl ?_
    refine az_ic_ge rfl rfl (fun c7 => ?_) (fun c7 => absurd (by rw [hy, show i = 6 by omega]; exact nI_le (Nat.le_refl _) (by decide)) c7)
    exact lm_no67 hT h7 hx (by simp [sq_kn, hqn])
  | succ d ih =>
    intro i x y hi hd hx hy
    refine az_er 2 rfl ?_
    refine az_len rfl rfl ?_
    refine az_ic_ge rfl rfl (fun c7 => absurd c7 (by rw [hy]; exact nI_ge (show i < 6 by omega) (by decide))) (fun c7 => ?_)
    refine az_er 2 rfl ?_
    rw [h8]
    refine az_if_eq rfl rfl (fun c14 => absurd c14 (by decide)) (fun c14 => ?_)
    refine az_er 1 rfl ?_
    rw [hx]
    refine az_if_ge rfl rfl (fun c18 => absurd c18 (by decide)) (fun c18 => ?_)
    refine az_er 4 rfl ?_
    rw [h7, hT.2.2.1]
    refine az_ic_ge rfl rfl (fun c29 => ?_) (fun c29 => absurd (nI_le (Nat.le_of_not_lt hqn) (by omega)) c29)
    refine az_er 2 rfl ?_
    exact ih (i + 1) _ _ (by omega) (by omega) rfl (by rw [hy]; exact nI_1' i)
set_option maxRecDepth 100000 in
theorem lm_lt67 {sc : az_S} {h : az_H} {L : Nat → Nat} {n q : Nat} (hT : rp_T L n h) (h7 : h 59 7 = nI q) (hK : ∀ i, i < 6 → h 67 i = nI (sq_kr i)) (h8 : h 59 8 = 1) (hqn : q < n) : ∀ (d i : Nat) (x y : Int32), i ≤ 6 → 6 - i = d → x = -1 → y = nI i → sq_kj sq_kr (L q) 6 0 = sq_kj sq_kr (L q) d i → az_E sc az_m_X8_oneOf 4 [.ref 59, .ref 67, .int x, .int y] [] h (fun v h' => v = some (.int (rp_kv sq_kr 6 L n (q, true))) ∧ rp_Q h (sq_s (sq_kn L n sq_kr 6) (q, true)) h') := by
  intro d
  induction d with
  | zero =>
    intro i x y hi hd hx hy hj
    refine az_er 2 rfl ?_
    refine az_len rfl rfl ?_
    refine az_ic_ge rfl rfl (fun c7 => ?_) (fun c7 => absurd (by rw [hy, show i = 6 by omega]; exact nI_le (Nat.le_refl _) (by decide)) c7)
    exact lm_no67 hT h7 hx (by rw [Bool.true_and, sq_kn, hj, sq_kj, show i = 6 by omega]; simp)
  | succ d ih =>
    intro i x y hi hd hx hy hj
    by_cases he : L q = sq_kr i
    · have hj2 : sq_kj sq_kr (L q) 6 0 = i := by rw [hj, sq_kj, if_pos he]
      refine az_er 2 rfl ?_
      refine az_len rfl rfl ?_
      refine az_ic_ge rfl rfl (fun c7 => absurd c7 (by rw [hy]; exact nI_ge (show i < 6 by omega) (by decide))) (fun c7 => ?_)
      refine az_er 2 rfl ?_
      rw [h8]
      refine az_if_eq rfl rfl (fun c14 => absurd c14 (by decide)) (fun c14 => ?_)
      refine az_er 1 rfl ?_
      rw [hx]
      refine az_if_ge rfl rfl (fun c18 => absurd c18 (by decide)) (fun c18 => ?_)
      refine az_er 4 rfl ?_
      rw [h7, hT.2.2.1]
      refine az_ic_ge rfl rfl (fun c29 => absurd c29 (nI_ge hqn (by have := hT.1; omega))) (fun c29 => ?_)
      refine az_er 4 rfl ?_
      refine az_iaI rfl rfl h7 (show q < 80 by have := hT.1; omega) (by decide) (hT.2.2.2 q hqn) ?_
      refine az_er 2 rfl ?_
      refine az_caI rfl rfl hy (show i < 6 by omega) (by decide) (hK i (by omega)) ?_
      refine az_ic_ne rfl rfl (fun c44 => absurd (by rw [he]) c44) (fun c44 => ?_)
      refine az_er 4 rfl ?_
      refine az_er 2 rfl ?_
      refine az_len rfl rfl ?_
      refine az_ic_ge rfl rfl (fun c7 => ?_) (fun c7 => ?_)
      · exact lm_fd67 hT h7 h8 hy (by omega) hj2 (by simp [sq_kn, hqn, hj2]; omega)
      · refine az_er 2 rfl ?_
        rw [h8]
        refine az_if_eq rfl rfl (fun c14 => absurd c14 (by decide)) (fun c14 => ?_)
        refine az_er 1 rfl ?_
        refine az_if_ge rfl rfl (fun c18 => ?_) (fun c18 => absurd (by rw [hy]; exact nI_pos' (by omega)) c18)
        exact lm_fd67 hT h7 h8 hy (by omega) hj2 (by simp [sq_kn, hqn, hj2]; omega)
    · skip
      refine az_er 2 rfl ?_
      refine az_len rfl rfl ?_
      refine az_ic_ge rfl rfl (fun c7 => absurd c7 (by rw [hy]; exact nI_ge (show i < 6 by omega) (by decide))) (fun c7 => ?_)
      refine az_er 2 rfl ?_
      rw [h8]
      refine az_if_eq rfl rfl (fun c14 => absurd c14 (by decide)) (fun c14 => ?_)
      refine az_er 1 rfl ?_
      rw [hx]
      refine az_if_ge rfl rfl (fun c18 => absurd c18 (by decide)) (fun c18 => ?_)
      refine az_er 4 rfl ?_
      rw [h7, hT.2.2.1]
      refine az_ic_ge rfl rfl (fun c29 => absurd c29 (nI_ge hqn (by have := hT.1; omega))) (fun c29 => ?_)
      refine az_er 4 rfl ?_
      refine az_iaI rfl rfl h7 (show q < 80 by have := hT.1; omega) (by decide) (hT.2.2.2 q hqn) ?_
      refine az_er 2 rfl ?_
      refine az_caI rfl rfl hy (show i < 6 by omega) (by decide) (hK i (by omega)) ?_
      refine az_ic_ne rfl rfl (fun c44 => ?_) (fun c44 => (he ((nI_eq (by have := hT.2.1 q hqn; omega) (by have := kr_lt i; omega)).mp c44)).elim)
      refine az_er 2 rfl ?_
      exact ih (i + 1) _ _ (by omega) (by omega) rfl (by rw [hy]; exact nI_1' i) (by rw [hj, sq_kj, if_neg he])
set_option maxRecDepth 100000 in
theorem cm_one67 {sc : az_S} {h : az_H} {L : Nat → Nat} {n q : Nat} (hT : rp_T L n h) (h7 : h 59 7 = nI q) (hK : ∀ i, i < 6 → h 67 i = nI (sq_kr i)) {w : Bool} (hq9 : q ≤ 200) (h8 : h 59 8 = sq_b w) : az_E sc az_m_X8_oneOf 0 [.ref 59, .ref 67] [] h (fun v h' => v = some (.int (rp_kv sq_kr 6 L n (q, w))) ∧ rp_Q h (sq_s (sq_kn L n sq_kr 6) (q, w)) h') := by
  cases w with
  | false =>
    refine az_er 6 rfl ?_
    refine az_len rfl rfl ?_
    refine az_ic_ge rfl rfl (fun c7 => absurd c7 (by decide)) (fun c7 => ?_)
    refine az_er 2 rfl ?_
    rw [h8]
    refine az_if_eq rfl rfl (fun c14 => ?_) (fun c14 => absurd rfl c14)
    exact lm_no67 hT h7 rfl rfl
  | true =>
    rw [show sq_b true = 1 from rfl] at h8
    by_cases hqn : q < n
    · skip
      refine az_er 4 rfl ?_
      exact lm_lt67 hT h7 hK h8 hqn 6 0 _ _ (by omega) (by omega) rfl rfl rfl
    · skip
      refine az_er 4 rfl ?_
      exact lm_nl67 hT h7 hK hq9 h8 hqn 6 0 _ _ (by omega) (by omega) rfl rfl
set_option maxRecDepth 100000 in
theorem lm_fst {sc : az_S} {h : az_H} {L : Nat → Nat} {n q : Nat} (hT : rp_T L n h) (h7 : h 59 7 = nI q) {Q : Option Value → az_H → Prop} {v c m : Int32} (h8 : h 59 8 = 1) (hd9 : sq_dg L n q = true) (hcm : ¬ m ≤ c) (K : ∀ v' c' h', v' = Int8.toInt32 (Int8.ofInt 10) * v + nI (L q) - Int8.toInt32 (Int8.ofInt 48) ∧ c' = c + Int32.ofInt 1 → h' = az_up h 59 7 (nI (q + 1)) → az_E sc az_m_X8_figures 4 [.ref 59, .int m, .int v', .int c'] [] h' Q) : az_E sc az_m_X8_figures 4 [.ref 59, .int m, .int v, .int c] [] h Q := by
  obtain ⟨hqn, hd⟩ := sq_dgt hd9
  have h255 := hT.2.1 q hqn
  refine az_er 2 rfl ?_
  rw [h8]
  refine az_if_eq rfl rfl (fun c8 => absurd c8 (by decide)) (fun c8 => ?_)
  refine az_er 2 rfl ?_
  refine az_ic_ge rfl rfl (fun c13 => absurd c13 hcm) (fun c13 => ?_)
  refine az_er 4 rfl ?_
  rw [h7, hT.2.2.1]
  refine az_ic_ge rfl rfl (fun c24 => absurd c24 (nI_ge hqn (by have := hT.1; omega))) (fun c24 => ?_)
  refine az_er 4 rfl ?_
  refine az_iaI rfl rfl h7 (show q < 80 by have := hT.1; omega) (by decide) (hT.2.2.2 q hqn) ?_
  refine az_er 1 rfl ?_
  refine az_ic_lt rfl rfl (fun c38 => absurd c38 (nI_nlt (b := 48) hd.1 (by omega))) (fun c38 => ?_)
  refine az_er 4 rfl ?_
  refine az_iaI rfl rfl h7 (show q < 80 by have := hT.1; omega) (by decide) (hT.2.2.2 q hqn) ?_
  refine az_er 1 rfl ?_
  refine az_ic_gt rfl rfl (fun c52 => absurd c52 (nI_nlt (a := 57) hd.2 (by omega))) (fun c52 => ?_)
  refine az_er 7 rfl ?_
  refine az_iaI rfl rfl h7 (show q < 80 by have := hT.1; omega) (by decide) (hT.2.2.2 q hqn) ?_
  refine az_er 12 rfl ?_
  exact K _ _ _ ⟨rfl, rfl⟩ (by rw [h7]; exact congrArg (az_up h 59 7) (nI_1' q))
set_option maxRecDepth 100000 in
theorem lm_fen {sc : az_S} {h : az_H} {L : Nat → Nat} {n q : Nat} (hT : rp_T L n h) (h7 : h 59 7 = nI q) {Q : Option Value → az_H → Prop} {w : Bool} {v c m : Int32} (hq9 : q ≤ 200) (h8 : h 59 8 = sq_b w) (hz : m ≤ c ∨ (w && sq_dg L n q) = false) (K : az_E sc az_m_X8_figures 89 [.ref 59, .int m, .int v, .int c] [] h Q) : az_E sc az_m_X8_figures 4 [.ref 59, .int m, .int v, .int c] [] h Q := by
  cases w with
  | false =>
    refine az_er 2 rfl ?_
    rw [h8]
    refine az_if_eq rfl rfl (fun c8 => ?_) (fun c8 => absurd rfl c8)
    exact K
  | true =>
    rw [show sq_b true = 1 from rfl] at h8
    by_cases hcm : m ≤ c
    · skip
      refine az_er 2 rfl ?_
      rw [h8]
      refine az_if_eq rfl rfl (fun c8 => absurd c8 (by decide)) (fun c8 => ?_)
      refine az_er 2 rfl ?_
      refine az_ic_ge rfl rfl (fun c13 => ?_) (fun c13 => absurd hcm c13)
      exact K
    · have hz2 : sq_dg L n q = false := by simpa [hcm] using hz
      by_cases hqn : q < n
      · have h255 := hT.2.1 q hqn
        by_cases hd1 : L q < 48
        · skip
          refine az_er 2 rfl ?_
          rw [h8]
          refine az_if_eq rfl rfl (fun c8 => absurd c8 (by decide)) (fun c8 => ?_)
          refine az_er 2 rfl ?_
          refine az_ic_ge rfl rfl (fun c13 => absurd c13 hcm) (fun c13 => ?_)
          refine az_er 4 rfl ?_
          rw [h7, hT.2.2.1]
          refine az_ic_ge rfl rfl (fun c24 => absurd c24 (nI_ge hqn (by have := hT.1; omega))) (fun c24 => ?_)
          refine az_er 4 rfl ?_
          refine az_iaI rfl rfl h7 (show q < 80 by have := hT.1; omega) (by decide) (hT.2.2.2 q hqn) ?_
          refine az_er 1 rfl ?_
          refine az_ic_lt rfl rfl (fun c38 => ?_) (fun c38 => absurd (nI_lt (b := 48) hd1 (by omega)) c38)
          exact K
        · have hd2 : 57 < L q := by
            simp [sq_dg, hqn] at hz2
            omega
          refine az_er 2 rfl ?_
          rw [h8]
          refine az_if_eq rfl rfl (fun c8 => absurd c8 (by decide)) (fun c8 => ?_)
          refine az_er 2 rfl ?_
          refine az_ic_ge rfl rfl (fun c13 => absurd c13 hcm) (fun c13 => ?_)
          refine az_er 4 rfl ?_
          rw [h7, hT.2.2.1]
          refine az_ic_ge rfl rfl (fun c24 => absurd c24 (nI_ge hqn (by have := hT.1; omega))) (fun c24 => ?_)
          refine az_er 4 rfl ?_
          refine az_iaI rfl rfl h7 (show q < 80 by have := hT.1; omega) (by decide) (hT.2.2.2 q hqn) ?_
          refine az_er 1 rfl ?_
          refine az_ic_lt rfl rfl (fun c38 => absurd c38 (nI_nlt (b := 48) (by omega) (by omega))) (fun c38 => ?_)
          refine az_er 4 rfl ?_
          refine az_iaI rfl rfl h7 (show q < 80 by have := hT.1; omega) (by decide) (hT.2.2.2 q hqn) ?_
          refine az_er 1 rfl ?_
          refine az_ic_gt rfl rfl (fun c52 => ?_) (fun c52 => absurd (nI_lt (a := 57) hd2 (by omega)) c52)
          exact K
      · skip
        refine az_er 2 rfl ?_
        rw [h8]
        refine az_if_eq rfl rfl (fun c8 => absurd c8 (by decide)) (fun c8 => ?_)
        refine az_er 2 rfl ?_
        refine az_ic_ge rfl rfl (fun c13 => absurd c13 hcm) (fun c13 => ?_)
        refine az_er 4 rfl ?_
        rw [h7, hT.2.2.1]
        refine az_ic_ge rfl rfl (fun c24 => ?_) (fun c24 => absurd (nI_le (Nat.le_of_not_lt hqn) (by omega)) c24)
        exact K
set_option maxRecDepth 100000 in
theorem lm_f0 {sc : az_S} {h : az_H} {L : Nat → Nat} {n q : Nat} (hT : rp_T L n h) (h7 : h 59 7 = nI q) {v c m : Int32} (hc : c = 0) : az_E sc az_m_X8_figures 89 [.ref 59, .int m, .int v, .int c] [] h (fun v' h' => v' = some (.int v) ∧ rp_Q h (q, false) h') := by
  refine az_er 1 rfl ?_
  rw [hc]
  refine az_if_ne rfl rfl (fun c90 => absurd rfl c90) (fun c90 => ?_)
  refine az_er 4 rfl ?_
  refine az_eret rfl rfl rfl ?_
  exact ⟨rfl, rp_Q0 h7 rfl⟩
set_option maxRecDepth 100000 in
theorem lm_f1 {sc : az_S} {h : az_H} {v c m : Int32} (hc : ¬ c = 0) : az_E sc az_m_X8_figures 89 [.ref 59, .int m, .int v, .int c] [] h (fun v' h' => v' = some (.int v) ∧ h' = h) := by
  refine az_er 1 rfl ?_
  refine az_if_ne rfl rfl (fun c90 => ?_) (fun c90 => absurd c90 hc)
  refine az_er 1 rfl ?_
  refine az_eret rfl rfl rfl ?_
  exact ⟨rfl, rfl⟩
theorem dg_v {q : Nat} {v' v : Int32} {u : Nat} (hv : v = nI u) (e : v' = Int8.toInt32 (Int8.ofInt 10) * v + nI q - Int8.toInt32 (Int8.ofInt 48)) (h : 48 ≤ q) : v' = nI (10 * u + (q - 48)) := by
  have e1 : Int8.toInt32 (Int8.ofInt 10) = nI 10 := rfl
  have e2 : Int8.toInt32 (Int8.ofInt 48) = nI 48 := rfl
  rw [e, hv, e1, e2, pk_mul, nI_add, nI_sb (by omega)]
  exact congrArg nI (by omega)
set_option maxRecDepth 100000 in
theorem cm_fig1 {sc : az_S} {h : az_H} {L : Nat → Nat} {n q : Nat} (hT : rp_T L n h) (h7 : h 59 7 = nI q) {w : Bool} (hq9 : q ≤ 200) (h8 : h 59 8 = sq_b w) : az_E sc az_m_X8_figures 0 [.ref 59, .int (nI 1)] [] h (fun v h' => v = some (.int (rp_dv L n (q, w))) ∧ rp_Q h (sq_s (sq_dg L n) (q, w)) h') := by
  cases hz : (w && sq_dg L n q) with
  | false =>
    refine az_er 4 rfl ?_
    refine lm_fen hT h7 hq9 h8 (Or.inr hz) (az_E.mono (lm_f0 hT h7 rfl) ?_)
    rintro v h' ⟨rfl, h2⟩
    refine ⟨by rw [rp_dv, if_neg (show ¬ (w && sq_dg L n q) = true by rw [hz]; decide)]; rfl, ?_⟩
    rw [sq_s_e hz]; exact h2
  | true =>
    rw [Bool.and_eq_true] at hz
    obtain ⟨rfl, hd9⟩ := hz
    obtain ⟨hqn, hd⟩ := sq_dgt hd9
    have h80 := hT.1
    refine az_er 4 rfl ?_
    refine lm_fst hT h7 h8 hd9 (by decide) (fun v' c' h' e1 e2 => ?_)
    have hT2 : rp_T L n h' := by rw [e2]; exact rp_T_F hT ⟨fun a ha => az_up_o ha, fun j h1 h2 => az_up_n h1⟩
    refine lm_fen (w := true) hT2 (q := q + 1) (by rw [e2, az_up_s]) (by omega) (by rw [e2, az_up_n (by decide)]; exact h8) (Or.inl (by rw [e1.2]; decide)) (az_E.mono (lm_f1 (by rw [e1.2]; decide)) ?_)
    rintro v h9 ⟨rfl, rfl⟩
    refine ⟨by rw [rp_dv, if_pos (show (true && sq_dg L n q) = true from hd9), dg_v (u := 0) rfl e1.1 hd.1]; exact congrArg (fun z => some (Value.int (nI z))) (show 10 * 0 + (L q - 48) = L q - 48 by omega), ?_⟩
    rw [e2]
    exact rp_Q1 h8 (sq_s_t hd9) rfl
set_option maxRecDepth 100000 in
theorem cm_fig2 {sc : az_S} {h : az_H} {L : Nat → Nat} {n q : Nat} (hT : rp_T L n h) (h7 : h 59 7 = nI q) {w : Bool} (hq9 : q ≤ 190) (h8 : h 59 8 = sq_b w) : az_E sc az_m_X8_figures 0 [.ref 59, .int (nI 2)] [] h (fun v h' => v = some (.int (rp_nv L n (q, w))) ∧ rp_Q h (rp_s2 L n (q, w)) h') := by
  cases hz : (w && sq_dg L n q) with
  | false =>
    refine az_er 4 rfl ?_
    refine lm_fen hT h7 (by omega) h8 (Or.inr hz) (az_E.mono (lm_f0 hT h7 rfl) ?_)
    rintro v h' ⟨rfl, h2⟩
    refine ⟨by rw [rp_nv, if_neg (show ¬ (w && sq_dg L n q) = true by rw [hz]; decide)]; rfl, ?_⟩
    rw [rp_s2, if_neg (show ¬ (w && sq_dg L n q) = true by rw [hz]; decide)]; exact h2
  | true =>
    rw [Bool.and_eq_true] at hz
    obtain ⟨rfl, hd9⟩ := hz
    obtain ⟨hqn, hd⟩ := sq_dgt hd9
    have h80 := hT.1
    refine az_er 4 rfl ?_
    refine lm_fst hT h7 h8 hd9 (by decide) (fun v' c' h' e1 e2 => ?_)
    have hF2 : rp_F h h' := by rw [e2]; exact ⟨fun a ha => az_up_o ha, fun j h1 h2 => az_up_n h1⟩
    have hT2 : rp_T L n h' := rp_T_F hT hF2
    have h72 : h' 59 7 = nI (q + 1) := by rw [e2, az_up_s]
    have h82 : h' 59 8 = 1 := by rw [e2, az_up_n (by decide)]; exact h8
    have ev := dg_v (u := 0) rfl e1.1 hd.1
    cases hd8 : sq_dg L n (q + 1) with
    | false =>
      refine lm_fen (w := true) hT2 h72 (by omega) h82 (Or.inr (by rw [hd8]; rfl)) (az_E.mono (lm_f1 (by rw [e1.2]; decide)) ?_)
      rintro v h9 ⟨rfl, rfl⟩
      refine ⟨by rw [rp_nv, if_pos (show (true && sq_dg L n q) = true from hd9), sq_nm, if_neg (show ¬ sq_dg L n (q + 1) = true by rw [hd8]; decide), ev]; exact congrArg (fun z => some (Value.int (nI z))) (show 10 * 0 + (L q - 48) = L q - 48 by omega), ?_⟩
      rw [rp_s2, if_pos (show (true && sq_dg L n q) = true from hd9), if_neg (show ¬ sq_dg L n (q + 1) = true by rw [hd8]; decide)]
      exact ⟨h72, h82, hF2⟩
    | true =>
      obtain ⟨hqn2, hd2⟩ := sq_dgt hd8
      refine lm_fst hT2 h72 h82 hd8 (by rw [e1.2]; decide) (fun v3 c3 h3 f1 f2 => ?_)
      have hF3 : rp_F h' h3 := by rw [f2]; exact ⟨fun a ha => az_up_o ha, fun j h1 h2 => az_up_n h1⟩
      have hT3 : rp_T L n h3 := rp_T_F hT2 hF3
      have h73 : h3 59 7 = nI (q + 1 + 1) := by rw [f2, az_up_s]
      have h83 : h3 59 8 = 1 := by rw [f2, az_up_n (by decide)]; exact h82
      refine lm_fen (w := true) hT3 h73 (by omega) h83 (Or.inl (by rw [f1.2, e1.2]; decide)) (az_E.mono (lm_f1 (by rw [f1.2, e1.2]; decide)) ?_)
      rintro v h9 ⟨rfl, rfl⟩
      refine ⟨by rw [rp_nv, if_pos (show (true && sq_dg L n q) = true from hd9), sq_nm, if_pos hd8, dg_v ev f1.1 hd2.1]; exact congrArg (fun z => some (Value.int (nI z))) (by show _ = 10 * (L q - 48) + (L (q + 1) - 48); omega), ?_⟩
      rw [rp_s2, if_pos (show (true && sq_dg L n q) = true from hd9), if_pos hd8]
      exact ⟨h73, h83, hF2.tr hF3⟩
