/-! BAD PLACES; STATEMENTS TOLD -/
theorem sq_fm_c {L : Nat → Nat} {n p : Nat} : sq_fm L n p = 0 ∨ sq_fm L n p = 1 ∨ sq_fm L n p = 2 ∨ sq_fm L n p = 3 ∨ sq_fm L n p = 4 := by
  unfold sq_fm
  repeat' split
  all_goals omega
/-- statements from p on: how many in all, where it ends or is bad, whether well -/
def sq_p1 (L : Nat → Nat) (n : Nat) : Nat → Nat → Nat → Nat × Nat × Bool
  | 0, p, k => (k, p, true)
  | d + 1, p, k => if p < n then (if (sq_e L n p).2 = true then sq_p1 L n d (sq_e L n p).1 (k + 1) else (k, (sq_e L n p).1, false)) else (k, p, true)
def sq_pv (r : Nat × Nat × Bool) : Int32 := if r.2.2 = true then -1 else nI r.2.1
theorem sq_p1_e {L : Nat → Nat} {n d p k : Nat} (h : n ≤ p) : sq_p1 L n d p k = (k, p, true) := by
  cases d with
  | zero => rfl
  | succ d => rw [sq_p1, if_neg (by omega)]
theorem sq_p1_t {L : Nat → Nat} {n d p k q : Nat} (h : p < n) (e : sq_e L n p = (q, true)) : sq_p1 L n (d + 1) p k = sq_p1 L n d q (k + 1) := by rw [sq_p1, if_pos h, e, if_pos rfl]
theorem sq_p1_f {L : Nat → Nat} {n d p k q : Nat} (h : p < n) (e : sq_e L n p = (q, false)) : sq_p1 L n (d + 1) p k = (k, q, false) := by rw [sq_p1, if_pos h, e, if_neg (by simp)]
theorem sq_s_2 {c : Nat → Bool} {s : Nat × Bool} (h : (sq_s c s).2 = true) : s.2 = true ∧ c s.1 = true ∧ (sq_s c s).1 = s.1 + 1 := by
  unfold sq_s at h ⊢
  split at h
  · rename_i h1
    rw [if_pos h1]
    rw [Bool.and_eq_true] at h1
    exact ⟨h1.1, h1.2, rfl⟩
  · exact absurd h (by simp)
set_option maxRecDepth 100000 in
theorem lp_bp {sc : az_S} {h : az_H} {L : Nat → Nat} {n : Nat} (hL : rt_L L n h) : ∀ (d p k : Nat) (x : Int32) (tl : List Value), n ≤ p + d → p ≤ 100 → x = nI p → (tl = [] ∨ ∃ t y, tl = [.ref t, .int y]) → az_E sc az_m_X5_badPlace 11 (.ref 46 :: .int x :: tl) [] h (fun v h1 => v = some (.int (sq_pv (sq_p1 L n d p k))) ∧ h1 = h) := by
  intro d
  induction d with
  | zero =>
    intro p k x tl hd hp9 hx htl
    have hge : n ≤ p := by omega
    refine az_er 3 rfl ?_
    rw [hL.2.2.1]
    refine az_ic_ge rfl rfl (fun c16 => ?_) (fun c16 => absurd (by rw [hx]; exact nI_le hge (by have := hL.1; omega)) c16)
    refine az_er 1 rfl ?_
    refine az_eret rfl rfl rfl ?_
    exact ⟨by rw [sq_p1_e hge]; rfl, rfl⟩
  | succ d ih =>
    intro p k x tl hd hp9 hx htl
    by_cases hpn : p < n
    · rcases htl with rfl | ⟨t9, y9, rfl⟩
      · skip
        rcases sq_fm_c (L := L) (n := n) (p := p) with hf | hf | hf | hf | hf
        · skip
          refine az_er 3 rfl ?_
          rw [hL.2.2.1]
          refine az_ic_ge rfl rfl (fun c16 => absurd c16 (by rw [hx]; exact nI_ge hpn (by have := hL.1; omega))) (fun c16 => ?_)
          refine az_er 2 rfl ?_
          refine az_ecallF rfl rfl rfl rfl ((ct_form hL hx hpn).eq (by rw [hf]) rfl) ?_
          refine az_er 2 rfl ?_
          refine az_ecallF rfl rfl rfl rfl (⟨20, rfl⟩ : az_F sc az_m_J0_isEmpty_aae02 [.ref 1000] h (some (.int 0)) h) ?_
          refine az_if_eq rfl rfl (fun c29 => ?_) (fun c29 => absurd rfl c29)
          refine az_er 2 rfl ?_
          refine bpA0 hL hpn hx rfl (fun y hS => ?_) (fun hS => ⟨by rw [sq_p1_f hpn (by rw [sq_e, hf]; exact hS)]; rfl, rfl⟩)
          refine az_er 4 rfl ?_
          refine az_ecallF rfl rfl rfl rfl ((ct_form hL hx hpn).eq (by rw [hf]) rfl) ?_
          refine az_ecallF rfl rfl rfl rfl (⟨20, rfl⟩ : az_F sc az_m_J0_length_8abf5 [.ref 1000] h (some (.int (nI 3))) h) ?_
          refine az_er 4 rfl ?_
          rw [sq_p1_t hpn (show sq_e L n p = (p + 1 + 1 + 1 + 1, true) by rw [sq_e, hf]; exact hS)]
          exact ih (p + 1 + 1 + 1 + 1) (k + 1) _ _ (by omega) (by have := hL.1; omega) (by rw [hx]; exact (congrArg (fun q => nI p + q) (nI_add 1 3)).trans (nI_add p (1 + 3))) (Or.inr ⟨_, _, rfl⟩)
        · skip
          refine az_er 3 rfl ?_
          rw [hL.2.2.1]
          refine az_ic_ge rfl rfl (fun c16 => absurd c16 (by rw [hx]; exact nI_ge hpn (by have := hL.1; omega))) (fun c16 => ?_)
          refine az_er 2 rfl ?_
          refine az_ecallF rfl rfl rfl rfl ((ct_form hL hx hpn).eq (by rw [hf]) rfl) ?_
          refine az_er 2 rfl ?_
          refine az_ecallF rfl rfl rfl rfl (⟨20, rfl⟩ : az_F sc az_m_J0_isEmpty_aae02 [.ref 1001] h (some (.int 0)) h) ?_
          refine az_if_eq rfl rfl (fun c29 => ?_) (fun c29 => absurd rfl c29)
          refine az_er 2 rfl ?_
          refine bpA1 hL hpn hx rfl (fun y hS => ?_) (fun hS => ⟨by rw [sq_p1_f hpn (by rw [sq_e, hf]; exact hS)]; rfl, rfl⟩)
          refine az_er 4 rfl ?_
          refine az_ecallF rfl rfl rfl rfl ((ct_form hL hx hpn).eq (by rw [hf]) rfl) ?_
          refine az_ecallF rfl rfl rfl rfl (⟨20, rfl⟩ : az_F sc az_m_J0_length_8abf5 [.ref 1001] h (some (.int (nI 2))) h) ?_
          refine az_er 4 rfl ?_
          rw [sq_p1_t hpn (show sq_e L n p = (p + 1 + 1 + 1, true) by rw [sq_e, hf]; exact hS)]
          exact ih (p + 1 + 1 + 1) (k + 1) _ _ (by omega) (by have := hL.1; omega) (by rw [hx]; exact (congrArg (fun q => nI p + q) (nI_add 1 2)).trans (nI_add p (1 + 2))) (Or.inr ⟨_, _, rfl⟩)
        · skip
          refine az_er 3 rfl ?_
          rw [hL.2.2.1]
          refine az_ic_ge rfl rfl (fun c16 => absurd c16 (by rw [hx]; exact nI_ge hpn (by have := hL.1; omega))) (fun c16 => ?_)
          refine az_er 2 rfl ?_
          refine az_ecallF rfl rfl rfl rfl ((ct_form hL hx hpn).eq (by rw [hf]) rfl) ?_
          refine az_er 2 rfl ?_
          refine az_ecallF rfl rfl rfl rfl (⟨20, rfl⟩ : az_F sc az_m_J0_isEmpty_aae02 [.ref 1002] h (some (.int 0)) h) ?_
          refine az_if_eq rfl rfl (fun c29 => ?_) (fun c29 => absurd rfl c29)
          refine az_er 2 rfl ?_
          refine bpA2 hL hpn hx rfl (fun y hS => ?_) (fun hS => ⟨by rw [sq_p1_f hpn (by rw [sq_e, hf]; exact hS)]; rfl, rfl⟩)
          refine az_er 4 rfl ?_
          refine az_ecallF rfl rfl rfl rfl ((ct_form hL hx hpn).eq (by rw [hf]) rfl) ?_
          refine az_ecallF rfl rfl rfl rfl (⟨20, rfl⟩ : az_F sc az_m_J0_length_8abf5 [.ref 1002] h (some (.int (nI 8))) h) ?_
          refine az_er 4 rfl ?_
          rw [sq_p1_t hpn (show sq_e L n p = (p + 1 + 1 + 1 + 1 + 1 + 1 + 1 + 1 + 1, true) by rw [sq_e, hf]; exact hS)]
          exact ih (p + 1 + 1 + 1 + 1 + 1 + 1 + 1 + 1 + 1) (k + 1) _ _ (by omega) (by have := hL.1; omega) (by rw [hx]; exact (congrArg (fun q => nI p + q) (nI_add 1 8)).trans (nI_add p (1 + 8))) (Or.inr ⟨_, _, rfl⟩)
        · skip
          refine az_er 3 rfl ?_
          rw [hL.2.2.1]
          refine az_ic_ge rfl rfl (fun c16 => absurd c16 (by rw [hx]; exact nI_ge hpn (by have := hL.1; omega))) (fun c16 => ?_)
          refine az_er 2 rfl ?_
          refine az_ecallF rfl rfl rfl rfl ((ct_form hL hx hpn).eq (by rw [hf]) rfl) ?_
          refine az_er 2 rfl ?_
          refine az_ecallF rfl rfl rfl rfl (⟨20, rfl⟩ : az_F sc az_m_J0_isEmpty_aae02 [.ref 1003] h (some (.int 0)) h) ?_
          refine az_if_eq rfl rfl (fun c29 => ?_) (fun c29 => absurd rfl c29)
          refine az_er 2 rfl ?_
          refine bpA3 hL hpn hx rfl (fun y hS => ?_) (fun hS => ⟨by rw [sq_p1_f hpn (by rw [sq_e, hf]; exact hS)]; rfl, rfl⟩)
          refine az_er 4 rfl ?_
          refine az_ecallF rfl rfl rfl rfl ((ct_form hL hx hpn).eq (by rw [hf]) rfl) ?_
          refine az_ecallF rfl rfl rfl rfl (⟨20, rfl⟩ : az_F sc az_m_J0_length_8abf5 [.ref 1003] h (some (.int (nI 3))) h) ?_
          refine az_er 4 rfl ?_
          rw [sq_p1_t hpn (show sq_e L n p = (p + 1 + 1 + 1 + 1, true) by rw [sq_e, hf]; exact hS)]
          exact ih (p + 1 + 1 + 1 + 1) (k + 1) _ _ (by omega) (by have := hL.1; omega) (by rw [hx]; exact (congrArg (fun q => nI p + q) (nI_add 1 3)).trans (nI_add p (1 + 3))) (Or.inr ⟨_, _, rfl⟩)
        · skip
          refine az_er 3 rfl ?_
          rw [hL.2.2.1]
          refine az_ic_ge rfl rfl (fun c16 => absurd c16 (by rw [hx]; exact nI_ge hpn (by have := hL.1; omega))) (fun c16 => ?_)
          refine az_er 2 rfl ?_
          refine az_ecallF rfl rfl rfl rfl ((ct_form hL hx hpn).eq (by rw [hf]) rfl) ?_
          refine az_er 2 rfl ?_
          refine az_ecallF rfl rfl rfl rfl (⟨20, rfl⟩ : az_F sc az_m_J0_isEmpty_aae02 [.ref 1004] h (some (.int 1)) h) ?_
          refine az_if_eq rfl rfl (fun c29 => absurd c29 (by decide)) (fun c29 => ?_)
          refine az_er 1 rfl ?_
          refine az_eret rfl rfl rfl ?_
          exact ⟨by rw [sq_p1_f hpn (show sq_e L n p = (p, false) by rw [sq_e, hf]; rfl), hx]; rfl, rfl⟩
      · skip
        rcases sq_fm_c (L := L) (n := n) (p := p) with hf | hf | hf | hf | hf
        · skip
          refine az_er 3 rfl ?_
          rw [hL.2.2.1]
          refine az_ic_ge rfl rfl (fun c16 => absurd c16 (by rw [hx]; exact nI_ge hpn (by have := hL.1; omega))) (fun c16 => ?_)
          refine az_er 2 rfl ?_
          refine az_ecallF rfl rfl rfl rfl ((ct_form hL hx hpn).eq (by rw [hf]) rfl) ?_
          refine az_er 2 rfl ?_
          refine az_ecallF rfl rfl rfl rfl (⟨20, rfl⟩ : az_F sc az_m_J0_isEmpty_aae02 [.ref 1000] h (some (.int 0)) h) ?_
          refine az_if_eq rfl rfl (fun c29 => ?_) (fun c29 => absurd rfl c29)
          refine az_er 2 rfl ?_
          refine bpA0 hL hpn hx rfl (fun y hS => ?_) (fun hS => ⟨by rw [sq_p1_f hpn (by rw [sq_e, hf]; exact hS)]; rfl, rfl⟩)
          refine az_er 4 rfl ?_
          refine az_ecallF rfl rfl rfl rfl ((ct_form hL hx hpn).eq (by rw [hf]) rfl) ?_
          refine az_ecallF rfl rfl rfl rfl (⟨20, rfl⟩ : az_F sc az_m_J0_length_8abf5 [.ref 1000] h (some (.int (nI 3))) h) ?_
          refine az_er 4 rfl ?_
          rw [sq_p1_t hpn (show sq_e L n p = (p + 1 + 1 + 1 + 1, true) by rw [sq_e, hf]; exact hS)]
          exact ih (p + 1 + 1 + 1 + 1) (k + 1) _ _ (by omega) (by have := hL.1; omega) (by rw [hx]; exact (congrArg (fun q => nI p + q) (nI_add 1 3)).trans (nI_add p (1 + 3))) (Or.inr ⟨_, _, rfl⟩)
        · skip
          refine az_er 3 rfl ?_
          rw [hL.2.2.1]
          refine az_ic_ge rfl rfl (fun c16 => absurd c16 (by rw [hx]; exact nI_ge hpn (by have := hL.1; omega))) (fun c16 => ?_)
          refine az_er 2 rfl ?_
          refine az_ecallF rfl rfl rfl rfl ((ct_form hL hx hpn).eq (by rw [hf]) rfl) ?_
          refine az_er 2 rfl ?_
          refine az_ecallF rfl rfl rfl rfl (⟨20, rfl⟩ : az_F sc az_m_J0_isEmpty_aae02 [.ref 1001] h (some (.int 0)) h) ?_
          refine az_if_eq rfl rfl (fun c29 => ?_) (fun c29 => absurd rfl c29)
          refine az_er 2 rfl ?_
          refine bpA1 hL hpn hx rfl (fun y hS => ?_) (fun hS => ⟨by rw [sq_p1_f hpn (by rw [sq_e, hf]; exact hS)]; rfl, rfl⟩)
          refine az_er 4 rfl ?_
          refine az_ecallF rfl rfl rfl rfl ((ct_form hL hx hpn).eq (by rw [hf]) rfl) ?_
          refine az_ecallF rfl rfl rfl rfl (⟨20, rfl⟩ : az_F sc az_m_J0_length_8abf5 [.ref 1001] h (some (.int (nI 2))) h) ?_
          refine az_er 4 rfl ?_
          rw [sq_p1_t hpn (show sq_e L n p = (p + 1 + 1 + 1, true) by rw [sq_e, hf]; exact hS)]
          exact ih (p + 1 + 1 + 1) (k + 1) _ _ (by omega) (by have := hL.1; omega) (by rw [hx]; exact (congrArg (fun q => nI p + q) (nI_add 1 2)).trans (nI_add p (1 + 2))) (Or.inr ⟨_, _, rfl⟩)
        · skip
          refine az_er 3 rfl ?_
          rw [hL.2.2.1]
          refine az_ic_ge rfl rfl (fun c16 => absurd c16 (by rw [hx]; exact nI_ge hpn (by have := hL.1; omega))) (fun c16 => ?_)
          refine az_er 2 rfl ?_
          refine az_ecallF rfl rfl rfl rfl ((ct_form hL hx hpn).eq (by rw [hf]) rfl) ?_
          refine az_er 2 rfl ?_
          refine az_ecallF rfl rfl rfl rfl (⟨20, rfl⟩ : az_F sc az_m_J0_isEmpty_aae02 [.ref 1002] h (some (.int 0)) h) ?_
          refine az_if_eq rfl rfl (fun c29 => ?_) (fun c29 => absurd rfl c29)
          refine az_er 2 rfl ?_
          refine bpA2 hL hpn hx rfl (fun y hS => ?_) (fun hS => ⟨by rw [sq_p1_f hpn (by rw [sq_e, hf]; exact hS)]; rfl, rfl⟩)
          refine az_er 4 rfl ?_
          refine az_ecallF rfl rfl rfl rfl ((ct_form hL hx hpn).eq (by rw [hf]) rfl) ?_
          refine az_ecallF rfl rfl rfl rfl (⟨20, rfl⟩ : az_F sc az_m_J0_length_8abf5 [.ref 1002] h (some (.int (nI 8))) h) ?_
          refine az_er 4 rfl ?_
          rw [sq_p1_t hpn (show sq_e L n p = (p + 1 + 1 + 1 + 1 + 1 + 1 + 1 + 1 + 1, true) by rw [sq_e, hf]; exact hS)]
          exact ih (p + 1 + 1 + 1 + 1 + 1 + 1 + 1 + 1 + 1) (k + 1) _ _ (by omega) (by have := hL.1; omega) (by rw [hx]; exact (congrArg (fun q => nI p + q) (nI_add 1 8)).trans (nI_add p (1 + 8))) (Or.inr ⟨_, _, rfl⟩)
        · skip
          refine az_er 3 rfl ?_
          rw [hL.2.2.1]
          refine az_ic_ge rfl rfl (fun c16 => absurd c16 (by rw [hx]; exact nI_ge hpn (by have := hL.1; omega))) (fun c16 => ?_)
          refine az_er 2 rfl ?_
          refine az_ecallF rfl rfl rfl rfl ((ct_form hL hx hpn).eq (by rw [hf]) rfl) ?_
          refine az_er 2 rfl ?_
          refine az_ecallF rfl rfl rfl rfl (⟨20, rfl⟩ : az_F sc az_m_J0_isEmpty_aae02 [.ref 1003] h (some (.int 0)) h) ?_
          refine az_if_eq rfl rfl (fun c29 => ?_) (fun c29 => absurd rfl c29)
          refine az_er 2 rfl ?_
          refine bpA3 hL hpn hx rfl (fun y hS => ?_) (fun hS => ⟨by rw [sq_p1_f hpn (by rw [sq_e, hf]; exact hS)]; rfl, rfl⟩)
          refine az_er 4 rfl ?_
          refine az_ecallF rfl rfl rfl rfl ((ct_form hL hx hpn).eq (by rw [hf]) rfl) ?_
          refine az_ecallF rfl rfl rfl rfl (⟨20, rfl⟩ : az_F sc az_m_J0_length_8abf5 [.ref 1003] h (some (.int (nI 3))) h) ?_
          refine az_er 4 rfl ?_
          rw [sq_p1_t hpn (show sq_e L n p = (p + 1 + 1 + 1 + 1, true) by rw [sq_e, hf]; exact hS)]
          exact ih (p + 1 + 1 + 1 + 1) (k + 1) _ _ (by omega) (by have := hL.1; omega) (by rw [hx]; exact (congrArg (fun q => nI p + q) (nI_add 1 3)).trans (nI_add p (1 + 3))) (Or.inr ⟨_, _, rfl⟩)
        · skip
          refine az_er 3 rfl ?_
          rw [hL.2.2.1]
          refine az_ic_ge rfl rfl (fun c16 => absurd c16 (by rw [hx]; exact nI_ge hpn (by have := hL.1; omega))) (fun c16 => ?_)
          refine az_er 2 rfl ?_
          refine az_ecallF rfl rfl rfl rfl ((ct_form hL hx hpn).eq (by rw [hf]) rfl) ?_
          refine az_er 2 rfl ?_
          refine az_ecallF rfl rfl rfl rfl (⟨20, rfl⟩ : az_F sc az_m_J0_isEmpty_aae02 [.ref 1004] h (some (.int 1)) h) ?_
          refine az_if_eq rfl rfl (fun c29 => absurd c29 (by decide)) (fun c29 => ?_)
          refine az_er 1 rfl ?_
          refine az_eret rfl rfl rfl ?_
          exact ⟨by rw [sq_p1_f hpn (show sq_e L n p = (p, false) by rw [sq_e, hf]; rfl), hx]; rfl, rfl⟩
    · have hge : n ≤ p := by omega
      refine az_er 3 rfl ?_
      rw [hL.2.2.1]
      refine az_ic_ge rfl rfl (fun c16 => ?_) (fun c16 => absurd (by rw [hx]; exact nI_le hge (by have := hL.1; omega)) c16)
      refine az_er 1 rfl ?_
      refine az_eret rfl rfl rfl ?_
      exact ⟨by rw [sq_p1_e hge]; rfl, rfl⟩
set_option maxRecDepth 100000 in
theorem ct_bad {sc : az_S} {h : az_H} {L : Nat → Nat} {n : Nat} (hL : rt_L L n h) : az_F sc az_m_X5_badPlace [.ref 46] h (some (.int (if n = 0 then 0 else sq_pv (sq_p1 L n n 0 0)))) h := by
  refine az_F.of ?_
  by_cases h0 : n = 0
  · refine az_er 2 rfl ?_
    rw [hL.2.2.1, h0]
    refine az_if_ne rfl rfl (fun c4 => absurd rfl c4) (fun c4 => ?_)
    refine az_er 1 rfl ?_
    refine az_eret rfl rfl rfl ?_
    exact ⟨rfl, rfl⟩
  · refine az_er 2 rfl ?_
    rw [hL.2.2.1]
    refine az_if_ne rfl rfl (fun c4 => ?_) (fun c4 => absurd c4 (nI_ne0 (by omega) (by have := hL.1; omega)))
    refine az_er 2 rfl ?_
    refine az_E.mono (lp_bp hL n 0 0 0 [] (by omega) (by omega) rfl (Or.inl rfl)) ?_
    rintro _ h3 ⟨rfl, rfl⟩
    exact ⟨by rw [if_neg h0], rfl⟩
/-! statements -/
def sq_k (L : Nat → Nat) (p : Nat) : Nat := if L p = 99 then 0 else if L p = 115 then 1 else if L p = 114 then 2 else 3
def sq_f (L : Nat → Nat) (n p : Nat) : Nat → Nat := if L p = 115 then (fun i => if i = 0 then L (p + 1) - 48 else if i = 1 then sq_kj sq_kg (L (p + 2)) 6 0 else if i = 2 then L (p + 3) - 48 else if i = 3 then L (p + 5) - 48 else if i = 4 then L (p + 6) - 48 else if i = 5 then L (p + 7) - 48 else 0) else if L p = 114 then (fun i => if i = 0 then sq_kj sq_kr (L (p + 1)) 6 0 else if i = 1 then L (p + 2) - 48 else 0) else (fun i => if i = 0 then sq_nm L n (p + 1) else 0)
def sq_va (s r k : Nat) (f : Nat → Nat) : Bool := if k = 1 then decide (1 ≤ f 0 ∧ s < 4 ∧ (f 1 = 2 ∨ f 1 = 3 → f 2 < r)) else if k = 2 then decide (1 ≤ f 1 ∧ f 1 ≤ 6 ∧ r < 6) else decide (f 0 ≤ 60)
def sq_ap (τ : Nat → Nat) (k : Nat) (f : Nat → Nat) : Nat → Nat := if k = 0 then (fun j => if j = 2 then f 0 else τ j) else if k = 1 then sq_as τ f else if k = 2 then sq_ar τ (f 0) (f 1) else sq_mem τ (f 0)
theorem sq_e_s {L : Nat → Nat} {n p : Nat} (hs : L p = 115) (h : (sq_e L n p).2 = true) : sq_dg L n (p + 1) = true ∧ sq_kn L n sq_kg 6 (p + 2) = true ∧ sq_dg L n (p + 3) = true ∧ sq_ch L n 44 (p + 4) = true ∧ sq_dg L n (p + 5) = true ∧ sq_dg L n (p + 6) = true ∧ sq_dg L n (p + 7) = true ∧ sq_ch L n 59 (p + 8) = true ∧ (sq_e L n p).1 = p + 9 := by
  have e : sq_e L n p = sq_S L n p 2 := by rw [sq_e, sq_fm, if_neg (by omega), if_pos hs]
  rw [e, sq_S] at h ⊢
  obtain ⟨h1, a1, b1⟩ := sq_s_2 h
  obtain ⟨h2, a2, b2⟩ := sq_s_2 h1
  obtain ⟨h3, a3, b3⟩ := sq_s_2 h2
  obtain ⟨h4, a4, b4⟩ := sq_s_2 h3
  obtain ⟨h5, a5, b5⟩ := sq_s_2 h4
  obtain ⟨h6, a6, b6⟩ := sq_s_2 h5
  obtain ⟨h7, a7, b7⟩ := sq_s_2 h6
  obtain ⟨h8, a8, b8⟩ := sq_s_2 h7
  rw [b8] at b7 a7
  rw [b7] at b6 a6
  rw [b6] at b5 a5
  rw [b5] at b4 a4
  rw [b4] at b3 a3
  rw [b3] at b2 a2
  rw [b2] at b1 a1
  exact ⟨a8, a7, a6, a5, a4, a3, a2, a1, b1⟩
theorem sq_e_r {L : Nat → Nat} {n p : Nat} (hs : L p = 114) (h : (sq_e L n p).2 = true) : sq_kn L n sq_kr 6 (p + 1) = true ∧ sq_dg L n (p + 2) = true ∧ sq_ch L n 59 (p + 3) = true ∧ (sq_e L n p).1 = p + 4 := by
  have e : sq_e L n p = sq_S L n p 3 := by rw [sq_e, sq_fm, if_neg (by omega), if_neg (by omega), if_pos hs]
  rw [e, sq_S] at h ⊢
  obtain ⟨h1, a1, b1⟩ := sq_s_2 h
  obtain ⟨h2, a2, b2⟩ := sq_s_2 h1
  obtain ⟨h3, a3, b3⟩ := sq_s_2 h2
  rw [b3] at b2 a2
  rw [b2] at b1 a1
  exact ⟨a3, a2, a1, b1⟩
theorem sq_e_n {L : Nat → Nat} {n p : Nat} (hs : L p = 99 ∨ L p = 119) (h : (sq_e L n p).2 = true) : sq_dg L n (p + 1) = true ∧ p + 3 ≤ (sq_e L n p).1 := by
  cases hd : sq_dg L n (p + 2) with
  | true =>
    have e : sq_e L n p = sq_S L n p 0 := by rw [sq_e, sq_fm, if_pos hs, if_pos hd]
    rw [e, sq_S] at h ⊢
    obtain ⟨h1, a1, b1⟩ := sq_s_2 h
    obtain ⟨h2, a2, b2⟩ := sq_s_2 h1
    obtain ⟨h3, a3, b3⟩ := sq_s_2 h2
    exact ⟨a3, by rw [b1, b2, b3]; show p + 3 ≤ p + 1 + 1 + 1 + 1; omega⟩
  | false =>
    have e : sq_e L n p = sq_S L n p 1 := by rw [sq_e, sq_fm, if_pos hs, if_neg (by rw [hd]; decide)]
    rw [e, sq_S] at h ⊢
    obtain ⟨h1, a1, b1⟩ := sq_s_2 h
    obtain ⟨h2, a2, b2⟩ := sq_s_2 h1
    exact ⟨a2, by rw [b1, b2]; show p + 3 ≤ p + 1 + 1 + 1; omega⟩
theorem sq_e_k {L : Nat → Nat} {n p : Nat} (h : (sq_e L n p).2 = true) : L p = 99 ∨ L p = 119 ∨ L p = 115 ∨ L p = 114 := by
  by_cases h1 : L p = 99 ∨ L p = 119
  · omega
  · by_cases h2 : L p = 115
    · omega
    · by_cases h3 : L p = 114
      · omega
      · rw [sq_e, sq_fm, if_neg h1, if_neg h2, if_neg h3] at h
        simp [sq_S] at h
theorem sq_nm_le {L : Nat → Nat} {n p : Nat} (h : sq_dg L n p = true) : sq_nm L n p ≤ 99 := by
  have h1 := sq_dgt h
  unfold sq_nm
  split
  · rename_i h2
    have := sq_dgt h2
    omega
  · omega
theorem sq_knd {L : Nat → Nat} {n p : Nat} {ks : Nat → Nat} (h : sq_kn L n ks 6 p = true) : p < n ∧ sq_kj ks (L p) 6 0 < 6 := by
  unfold sq_kn at h
  simpa using h
theorem sq_kx_v {L : Nat → Nat} {n p : Nat} {ks : Nat → Nat} (h : sq_kn L n ks 6 p = true) : sq_kx L n ks p = nI (sq_kj ks (L p) 6 0) := by
  have h1 := sq_knd h
  rw [sq_kx, if_pos h1.1, sq_ia, if_pos h1.2]
theorem rt_V_ap {L : Nat → Nat} {n p : Nat} {τ : Nat → Nat} (hV : rt_V τ) (he : (sq_e L n p).2 = true) (hv : sq_va (τ 0) (τ 1) (sq_k L p) (sq_f L n p) = true) : rt_V (sq_ap τ (sq_k L p) (sq_f L n p)) := by
  rcases sq_e_k he with hs | hs | hs | hs
  · have h1 := sq_e_n (Or.inl hs) he
    have e1 : sq_k L p = 0 := by rw [sq_k, if_pos hs]
    rw [e1] at hv ⊢
    rw [sq_va, if_neg (by decide), if_neg (by decide)] at hv
    have h2 := of_decide_eq_true hv
    rw [sq_ap, if_pos rfl]
    obtain ⟨a0, a1, a2, a4, a5, as_, as2, ar, ar2, aw⟩ := hV
    refine ⟨a0, a1, h2, a4, a5, fun s h9 => ?_, fun s h9 => ?_, fun r h9 => ?_, fun r h9 => ?_, fun w h9 => ?_⟩
    · simp only [if_neg (show 10 + 6 * s ≠ 2 by omega), if_neg (show 11 + 6 * s ≠ 2 by omega), if_neg (show 12 + 6 * s ≠ 2 by omega), if_neg (show 13 + 6 * s ≠ 2 by omega), if_neg (show 14 + 6 * s ≠ 2 by omega), if_neg (show 15 + 6 * s ≠ 2 by omega)]; exact as_ s h9
    · simp only [if_neg (show 10 + 6 * s ≠ 2 by omega), if_neg (show 11 + 6 * s ≠ 2 by omega), if_neg (show 12 + 6 * s ≠ 2 by omega)]; exact as2 s h9
    · simp only [if_neg (show 40 + 3 * r ≠ 2 by omega), if_neg (show 41 + 3 * r ≠ 2 by omega)]; exact ar r h9
    · simp only [if_neg (show 41 + 3 * r ≠ 2 by omega)]; exact ar2 r h9
    · simp only [if_neg (show 60 + w ≠ 2 by omega)]; exact aw w h9
  · have e1 : sq_k L p = 3 := by rw [sq_k, if_neg (by omega), if_neg (by omega), if_neg (by omega)]
    rw [e1] at hv ⊢
    rw [sq_va, if_neg (by decide), if_neg (by decide)] at hv
    have h2 := of_decide_eq_true hv
    rw [sq_ap, if_neg (by decide), if_neg (by decide), if_neg (by decide)]
    obtain ⟨a0, a1, a2, a4, a5, as_, as2, ar, ar2, aw⟩ := hV
    have e : ∀ j, j ≠ 4 → j < 60 → sq_mem τ (sq_f L n p 0) j = τ j := fun j h1 h2 => by rw [sq_mem, if_neg h1, if_neg (by omega), if_neg (by omega)]
    refine ⟨by rw [e _ (by omega) (by omega)]; exact a0, by rw [e _ (by omega) (by omega)]; exact a1, by rw [e _ (by omega) (by omega)]; exact a2, by rw [sq_mem, if_pos rfl]; omega, by rw [e _ (by omega) (by omega)]; exact a5, fun s h9 => ?_, fun s h9 => ?_, fun r h9 => ?_, fun r h9 => ?_, fun w h9 => ?_⟩
    · rw [e _ (by omega) (by omega), e _ (by omega) (by omega), e _ (by omega) (by omega), e _ (by omega) (by omega), e _ (by omega) (by omega), e _ (by omega) (by omega)]; exact as_ s h9
    · rw [e 0 (by omega) (by omega)] at h9
      have : s < 4 := by omega
      rw [e _ (by omega) (by omega), e _ (by omega) (by omega), e _ (by omega) (by omega), e _ (by omega) (by omega)]; exact as2 s h9
    · rw [e _ (by omega) (by omega), e _ (by omega) (by omega)]; exact ar r h9
    · rw [e 1 (by omega) (by omega)] at h9
      have : r < 6 := by omega
      rw [e _ (by omega) (by omega)]; exact ar2 r h9
    · by_cases h8 : w = 0
      · rw [h8, sq_mem, if_neg (by omega), if_pos rfl]; exact h2
      · rw [sq_mem, if_neg (by omega), if_neg (by omega), if_pos (by omega)]
        have := aw (w - 1) (by omega)
        rw [show 60 + (w - 1) = 60 + w - 1 by omega] at this
        exact this
  · obtain ⟨b1, b2, b3, b4, b5, b6, b7, b8, b9⟩ := sq_e_s hs he
    have e1 : sq_k L p = 1 := by rw [sq_k, if_neg (by omega), if_pos hs]
    rw [e1] at hv ⊢
    rw [sq_va, if_pos rfl] at hv
    have h2 := of_decide_eq_true hv
    have d1 := sq_dgt b1
    have d3 := sq_dgt b3
    have d5 := sq_dgt b5
    have d6 := sq_dgt b6
    have d7 := sq_dgt b7
    have f0 : sq_f L n p 0 = L (p + 1) - 48 := by rw [sq_f, if_pos hs]; rfl
    have f1 : sq_f L n p 1 = sq_kj sq_kg (L (p + 2)) 6 0 := by rw [sq_f, if_pos hs]; rfl
    have f2 : sq_f L n p 2 = L (p + 3) - 48 := by rw [sq_f, if_pos hs]; rfl
    have f3 : sq_f L n p 3 = L (p + 5) - 48 := by rw [sq_f, if_pos hs]; rfl
    have f4 : sq_f L n p 4 = L (p + 6) - 48 := by rw [sq_f, if_pos hs]; rfl
    have f5 : sq_f L n p 5 = L (p + 7) - 48 := by rw [sq_f, if_pos hs]; rfl
    rw [sq_ap, if_neg (by decide), if_pos rfl]
    exact rt_V_as hV h2.2.1 ⟨h2.1, by omega⟩ (by rw [f1]; exact (sq_knd b2).2) (by omega) (by omega) (by omega) (by omega) h2.2.2
  · obtain ⟨b1, b2, b3, b4⟩ := sq_e_r hs he
    have e1 : sq_k L p = 2 := by rw [sq_k, if_neg (by omega), if_neg (by omega), if_pos hs]
    rw [e1] at hv ⊢
    rw [sq_va, if_neg (by decide), if_pos rfl] at hv
    have h2 := of_decide_eq_true hv
    have f0 : sq_f L n p 0 = sq_kj sq_kr (L (p + 1)) 6 0 := by rw [sq_f, if_neg (by omega), if_pos hs]; rfl
    rw [sq_ap, if_neg (by decide), if_neg (by decide), if_pos rfl]
    exact rt_V_ar hV h2.2.2 (by rw [f0]; exact (sq_knd b1).2) ⟨h2.1, h2.2.1⟩
