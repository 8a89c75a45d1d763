/-! THE VALUES: a town is a row of numbers, place by place as the reference's row 'now'; what it does -/
def sq_ag (τ : Nat → Nat) (k : Nat) : Nat := if k ≤ τ 4 then τ (59 + k) else τ 2
def sq_pp (τ : Nat → Nat) : Nat → Nat
  | 0 => 0
  | n + 1 => sq_pp τ n + τ (10 + 6 * n)
def sq_sm (τ : Nat → Nat) : Nat → Nat
  | 0 => 0
  | n + 1 => sq_sm τ n + sq_ag τ (n + 1)
def sq_mx (x y : Int32) : Int32 := if x < y then y else x
def sq_mn (x y : Int32) : Int32 := if y < x then y else x
def sq_fo (τ : Nat → Nat) (kind span : Nat) : Int32 := match kind with
  | 0 => nI (sq_ag τ span)
  | 1 => sq_mx 0 (nI (sq_pp τ (τ 0)) - nI (sq_ag τ span))
  | 2 => nI (sq_sm τ span) / nI span
  | 3 => sq_mx 0 (2 * nI (sq_ag τ 1) - nI (sq_ag τ span))
  | 4 => sq_mx 0 (nI (sq_sm τ span) / nI span - nI span)
  | _ => 10 * nI span
def sq_fb (τ : Nat → Nat) (r : Nat) : Int32 := sq_fo τ (τ (40 + 3 * r)) (τ (41 + 3 * r))
def sq_ok (τ : Nat → Nat) (r : Nat) : Bool := decide (sq_fb τ r ≤ nI (τ 2))
/-- the hat's best among the rules from 'best' on to below r + n -/
def sq_ht (τ : Nat → Nat) : Nat → Nat → Nat → Nat
  | 0, best, _ => best
  | n + 1, best, r => sq_ht τ n (if nI (τ (42 + 3 * best)) < nI (τ (42 + 3 * r)) then r else best) (r + 1)
def sq_hat (τ : Nat → Nat) (from_ : Nat) : Nat := sq_ht τ (τ 1 - (from_ + 1)) from_ (from_ + 1)
def rt_T (b : Nat) (τ : Nat → Nat) (h : az_H) : Prop :=
  (h b 3 = nI (τ 2) ∧ h b 4 = nI (τ 5) ∧ h b 5 = nI (τ 3) ∧ h (b + 1) 6 = nI (τ 0) ∧ h (b + 8) 3 = nI (τ 1) ∧ h (b + 12) 1 = nI (τ 4)) ∧
  (∀ i, i < 4 → h (b + 2) i = nI (τ (10 + 6 * i)) ∧ h (b + 3) i = nI (τ (11 + 6 * i)) ∧ h (b + 4) i = nI (τ (12 + 6 * i)) ∧ h (b + 5) i = nI (τ (13 + 6 * i)) ∧ h (b + 6) i = nI (τ (14 + 6 * i)) ∧ h (b + 7) i = nI (τ (15 + 6 * i))) ∧
  (∀ i, i < 6 → h (b + 9) i = nI (τ (40 + 3 * i)) ∧ h (b + 10) i = nI (τ (41 + 3 * i)) ∧ h (b + 11) i = nI (τ (42 + 3 * i))) ∧
  (∀ i, i < 8 → h (b + 13) i = nI (τ (60 + i)))
def rt_M (c : Nat) (τ : Nat → Nat) (h : az_H) : Prop := ∀ j, j < 70 → h c j = nI (τ j)
def rt_V (τ : Nat → Nat) : Prop := τ 0 ≤ 4 ∧ τ 1 ≤ 6 ∧ τ 2 ≤ 60 ∧ τ 4 ≤ 8 ∧ τ 5 ≤ 9 ∧
  (∀ i, i < 4 → τ (10 + 6 * i) ≤ 9 ∧ τ (11 + 6 * i) < 6 ∧ τ (12 + 6 * i) ≤ 9 ∧ τ (13 + 6 * i) ≤ 9 ∧ τ (14 + 6 * i) ≤ 9 ∧ τ (15 + 6 * i) ≤ 9) ∧
  (∀ i, i < τ 0 → 1 ≤ τ (10 + 6 * i) ∧ (τ (11 + 6 * i) = 2 ∨ τ (11 + 6 * i) = 3 → τ (12 + 6 * i) < τ 1)) ∧
  (∀ i, i < 6 → τ (40 + 3 * i) < 6 ∧ τ (41 + 3 * i) ≤ 6) ∧ (∀ i, i < τ 1 → 1 ≤ τ (41 + 3 * i)) ∧ ∀ i, i < 8 → τ (60 + i) ≤ 60
theorem rt_pp {τ : Nat → Nat} (hV : rt_V τ) : ∀ n, n ≤ 4 → sq_pp τ n ≤ 9 * n
  | 0, _ => Nat.le_refl 0
  | n + 1, h => by
    have h1 := rt_pp hV n (by omega)
    have h2 := (hV.2.2.2.2.2.1 n (by omega)).1
    rw [sq_pp]
    omega
theorem rt_ag {τ : Nat → Nat} (hV : rt_V τ) {k : Nat} (h0 : 1 ≤ k) (hk : k ≤ 8) : sq_ag τ k ≤ 60 := by
  unfold sq_ag
  split
  · have := hV.2.2.2.2.2.2.2.2.2 (k - 1) (by omega)
    rw [show 60 + (k - 1) = 59 + k by omega] at this
    exact this
  · exact hV.2.2.1
theorem nI_1' (a : Nat) : nI a + Int32.ofInt 1 = nI (a + 1) := nI_1 a
/-! the leaves -/
def az_at (n : Nat) (f : Nat → Int32) (i : Int32) : Int32 := if i < 0 then 0 else if nI n ≤ i then 0 else f i.toNatClampNeg
theorem az_vin {i : Int32} {n : Nat} (h0 : ¬ i < 0) (h1 : ¬ nI n ≤ i) (hn : n < 2 ^ 31) : vp_in i n := by
  obtain ⟨j, hj, rfl⟩ := nI_of h0
  refine vp_in_nI ?_ hn
  rw [nI_leI hn hj] at h1
  omega
theorem az_at_in {n j : Nat} {f : Nat → Int32} (hj : j < n) (hn : n < 2 ^ 31) : az_at n f (nI j) = f j := by
  rw [az_at, if_neg (nI_pos (by omega)), if_neg (nI_ge hj hn), nI_clamp (by omega)]
def az_pu (n : Nat) (h : az_H) (k : Nat) (i v : Int32) : az_H := if i < 0 then h else if nI n ≤ i then h else az_up h k i.toNatClampNeg v
theorem az_pu_in {n j k : Nat} {h : az_H} {v : Int32} (hj : j < n) (hn : n < 2 ^ 31) : az_pu n h k (nI j) v = az_up h k j v := by
  rw [az_pu, if_neg (nI_pos (by omega)), if_neg (nI_ge hj hn), nI_clamp (by omega)]
def az_cp (h : az_H) (a b n : Nat) : az_H := fun c => if c = b then (fun j => if j < n then h a j else h b j) else h c
theorem az_up_s {h : az_H} {k j : Nat} {v : Int32} : az_up h k j v k j = v := by simp [az_up, upd]
theorem az_up_n {h : az_H} {k j j' : Nat} {v : Int32} (hj : j' ≠ j) : az_up h k j v k j' = h k j' := by simp [az_up, upd, hj]
theorem az_up_o {h : az_H} {k k' j : Nat} {v : Int32} (hk : k' ≠ k) : az_up h k j v k' = h k' := by simp [az_up, hk]
theorem az_cp_0 {h : az_H} {a b : Nat} : az_cp h a b 0 = h := by
  funext c
  by_cases hc : c = b
  · subst hc; simp [az_cp]
  · simp [az_cp, hc]
theorem az_cp_s {h : az_H} {a b i : Nat} (hab : a ≠ b) : az_up (az_cp h a b i) b i (az_cp h a b i a i) = az_cp h a b (i + 1) := by
  funext c
  by_cases hc : c = b
  · subst hc
    funext j
    by_cases hj : j = i
    · subst hj
      simp [az_up, upd, az_cp, hab]
    · by_cases h1 : j < i
      · simp [az_up, upd, az_cp, hj, h1, show j < i + 1 by omega]
      · simp [az_up, upd, az_cp, hj, h1, show ¬ j < i + 1 by omega]
  · simp [az_up, az_cp, hc]
/-- of a row that may be a 'foretold' -/
def az_puV (n : Nat) (h : az_H) (k : Nat) (i v : Int32) : az_H := if i < 0 then h else if nI n ≤ i then h else az_up h (az_vk k) (az_vj k i.toNatClampNeg) v
set_option maxRecDepth 100000 in
theorem ct_at0 {sc : az_S} {k N : Nat} {i : Int32} {h : az_H} (hw : az_wd[k]? = some (.inr (0, N))) (hN : N < 2 ^ 31) : az_F sc az_m_X7_at [.ref k, .int i] h (some (.int (az_at N (fun j => h (az_vk k) (az_vj k j)) i))) h := by
  refine az_F.of ?_
  refine az_er 1 rfl ?_
  refine az_if_lt rfl rfl (fun c1 => ?_) (fun c1 => ?_)
  · refine az_er 1 rfl ?_
    refine az_eret rfl rfl rfl ?_
    exact ⟨by simp [az_at, *], rfl⟩
  · refine az_er 2 rfl ?_
    refine az_len rfl hw ?_
    refine az_ic_ge rfl rfl (fun c7 => ?_) (fun c7 => ?_)
    · refine az_er 1 rfl ?_
      refine az_eret rfl rfl rfl ?_
      exact ⟨by simp [az_at, *], rfl⟩
    · refine az_er 2 rfl ?_
      refine az_ia0 rfl hw (az_vin c1 c7 hN) ?_
      refine az_er 1 rfl ?_
      refine az_eret rfl rfl rfl ?_
      exact ⟨by simp [az_at, *], rfl⟩
theorem ct_at {sc : az_S} {k N : Nat} {i : Int32} {h : az_H} (hw : az_wd[k]? = some (.inr (0, N))) (hN : N < 2 ^ 31) (hk : k < 75 := by decide) : az_F sc az_m_X7_at [.ref k, .int i] h (some (.int (az_at N (h k) i))) h :=
  (ct_at0 hw hN).eq (by rw [show (fun j => h (az_vk k) (az_vj k j)) = h k from funext fun j => by rw [az_vk_lt hk, az_vj_lt hk]]) rfl
theorem ct_atI {sc : az_S} {k N j : Nat} {i : Int32} {h : az_H} {v : Int32} (hw : az_wd[k]? = some (.inr (0, N))) (hi : i = nI j) (hj : j < N) (hN : N < 2 ^ 31) (hv : h k j = v) (hk : k < 75 := by decide) : az_F sc az_m_X7_at [.ref k, .int i] h (some (.int v)) h := by
  subst hi
  subst hv
  exact (ct_at hw hN hk).eq (by rw [az_at_in hj hN]) rfl
theorem ct_atV {sc : az_S} {k N j : Nat} {i : Int32} {h : az_H} {v : Int32} (hw : az_wd[k]? = some (.inr (0, N))) (hi : i = nI j) (hj : j < N) (hN : N < 2 ^ 31) (hv : h (az_vk k) (az_vj k j) = v) : az_F sc az_m_X7_at [.ref k, .int i] h (some (.int v)) h := by
  subst hi
  subst hv
  exact (ct_at0 hw hN).eq (by rw [az_at_in hj hN]) rfl
set_option maxRecDepth 100000 in
theorem ct_put0 {sc : az_S} {k N : Nat} {i v : Int32} {h : az_H} (hw : az_wd[k]? = some (.inr (0, N))) (hN : N < 2 ^ 31) : az_F sc az_m_X7_put [.ref k, .int i, .int v] h none (az_puV N h k i v) := by
  refine az_F.of ?_
  refine az_er 1 rfl ?_
  refine az_if_lt rfl rfl (fun c1 => ?_) (fun c1 => ?_)
  · refine az_eret rfl rfl rfl ?_
    exact ⟨rfl, by simp [az_puV, *]⟩
  · refine az_er 2 rfl ?_
    refine az_len rfl hw ?_
    refine az_ic_ge rfl rfl (fun c7 => ?_) (fun c7 => ?_)
    · refine az_eret rfl rfl rfl ?_
      exact ⟨rfl, by simp [az_puV, *]⟩
    · refine az_er 3 rfl ?_
      refine az_ias0 rfl hw (az_vin c1 c7 hN) ?_
      refine az_eret rfl rfl rfl ?_
      exact ⟨rfl, by simp [az_puV, *]⟩
theorem ct_put {sc : az_S} {k N : Nat} {i v : Int32} {h : az_H} (hw : az_wd[k]? = some (.inr (0, N))) (hN : N < 2 ^ 31) (hk : k < 75 := by decide) : az_F sc az_m_X7_put [.ref k, .int i, .int v] h none (az_pu N h k i v) :=
  (ct_put0 hw hN).eq rfl (by rw [az_puV, az_pu, az_vk_lt hk, az_vj_lt hk])
theorem ct_putI {sc : az_S} {k N j : Nat} {i v : Int32} {h : az_H} (hw : az_wd[k]? = some (.inr (0, N))) (hi : i = nI j) (hj : j < N) (hN : N < 2 ^ 31) (hk : k < 75 := by decide) : az_F sc az_m_X7_put [.ref k, .int i, .int v] h none (az_up h k j v) := by
  subst hi
  exact (ct_put hw hN hk).eq rfl (az_pu_in hj hN)
theorem ct_putV {sc : az_S} {k N j : Nat} {i v : Int32} {h : az_H} (hw : az_wd[k]? = some (.inr (0, N))) (hi : i = nI j) (hj : j < N) (hN : N < 2 ^ 31) : az_F sc az_m_X7_put [.ref k, .int i, .int v] h none (az_up h (az_vk k) (az_vj k j) v) := by
  subst hi
  exact (ct_put0 hw hN).eq rfl (by rw [az_puV, if_neg (nI_pos (by omega)), if_neg (nI_ge hj hN), nI_clamp (by omega)])
set_option maxRecDepth 100000 in
theorem lp_copyRow {sc : az_S} {ka kb N : Nat} {h : az_H} (hwa : az_wd[ka]? = some (.inr (0, N))) (hwb : az_wd[kb]? = some (.inr (0, N))) (hN : N < 2 ^ 31) (hab : ka ≠ kb) (hka : ka < 75) (hkb : kb < 75) : ∀ (d i : Nat) (x : Int32), i ≤ N → N - i = d → x = nI i → az_E sc az_m_X7_copyRow 2 [.ref ka, .ref kb, .int x] [] (az_cp h ka kb i) (fun v h' => v = none ∧ h' = az_cp h ka kb N) := by
  intro d
  induction d with
  | zero =>
    intro i x hi hd hx
    have he : i = N := by omega
    subst he
    refine az_er 2 rfl ?_
    refine az_len rfl hwa ?_
    refine az_ic_ge rfl rfl (fun c5 => ?_) (fun c5 => absurd (by rw [hx]; exact nI_le (Nat.le_refl _) hN) c5)
    refine az_eret rfl rfl rfl ⟨rfl, rfl⟩
  | succ d ih =>
    intro i x hi hd hx
    have hlt : i < N := by omega
    have hn : ¬ nI N ≤ x := by rw [hx]; exact nI_ge hlt hN
    refine az_er 2 rfl ?_
    refine az_len rfl hwa ?_
    refine az_ic_ge rfl rfl (fun c5 => absurd c5 hn) (fun c5 => ?_)
    refine az_er 2 rfl ?_
    refine az_len rfl hwb ?_
    refine az_ic_ge rfl rfl (fun c11 => absurd c11 hn) (fun c11 => ?_)
    refine az_er 4 rfl ?_
    refine az_ia rfl hwa (by rw [hx]; exact vp_in_nI hlt hN) ?_ hka
    refine az_ias rfl hwb (by rw [hx]; exact vp_in_nI hlt hN) ?_ hkb
    refine az_er 2 rfl ?_
    rw [hx, nI_clamp (by omega), az_cp_s hab]
    exact ih (i + 1) _ (by omega) (by omega) (nI_1' i)
theorem ct_copyRow {sc : az_S} {ka kb N : Nat} {h : az_H} (hwa : az_wd[ka]? = some (.inr (0, N))) (hwb : az_wd[kb]? = some (.inr (0, N))) (hN : N < 2 ^ 31) (hab : ka ≠ kb) (hka : ka < 75 := by decide) (hkb : kb < 75 := by decide) : az_F sc az_m_X7_copyRow [.ref ka, .ref kb] h none (az_cp h ka kb N) := by
  refine az_F.of ?_
  refine az_er 2 rfl ?_
  have := lp_copyRow (sc := sc) (h := h) hwa hwb hN hab hka hkb N 0 0 (Nat.zero_le _) (by omega) rfl
  rw [az_cp_0] at this
  exact this
set_option maxRecDepth 100000 in
theorem ct_quotient {sc : az_S} {x y : Int32} {h : az_H} : az_F sc az_m_X7_quotient [.int x, .int y] h (some (.int (if y ≤ 0 then 0 else x / y))) h := by
  refine az_F.of ?_
  refine az_er 1 rfl ?_
  refine az_if_le rfl rfl (fun c1 => ?_) (fun c1 => ?_)
  · refine az_er 1 rfl ?_
    refine az_eret rfl rfl rfl ?_
    exact ⟨by simp [*], rfl⟩
  · refine az_er 2 rfl ?_
    refine az_div rfl (fun q => by subst q; exact absurd (by decide) c1) ?_
    refine az_er 1 rfl ?_
    refine az_eret rfl rfl rfl ?_
    exact ⟨by simp [*], rfl⟩
set_option maxRecDepth 100000 in
theorem ct_remainder {sc : az_S} {x y : Int32} {h : az_H} : az_F sc az_m_X7_remainder [.int x, .int y] h (some (.int (if y ≤ 0 then 0 else x - x / y * y))) h := by
  refine az_F.of ?_
  refine az_er 1 rfl ?_
  refine az_if_le rfl rfl (fun c1 => ?_) (fun c1 => ?_)
  · refine az_er 1 rfl ?_
    refine az_eret rfl rfl rfl ?_
    exact ⟨by simp [*], rfl⟩
  · refine az_er 2 rfl ?_
    refine az_rem rfl (fun q => by subst q; exact absurd (by decide) c1) ?_
    refine az_er 1 rfl ?_
    refine az_eret rfl rfl rfl ?_
    exact ⟨by simp [*], rfl⟩
set_option maxRecDepth 100000 in
theorem ct_outside {sc : az_S} {x y z : Int32} {h : az_H} : az_F sc az_m_X7_outside [.int x, .int y, .int z] h (some (.int (if y ≤ x then (if x ≤ z then 0 else -6) else -4))) h := by
  refine az_F.of ?_
  refine az_er 2 rfl ?_
  refine az_ic_ge rfl rfl (fun c2 => ?_) (fun c2 => ?_)
  · refine az_er 2 rfl ?_
    refine az_ic_le rfl rfl (fun c10 => ?_) (fun c10 => ?_)
    · refine az_er 1 rfl ?_
      refine az_eret rfl rfl rfl ?_
      exact ⟨by simp [*], rfl⟩
    · refine az_er 2 rfl ?_
      refine az_eret rfl rfl rfl ?_
      exact ⟨by simp [*], rfl⟩
  · refine az_er 1 rfl ?_
    refine az_eret rfl rfl rfl ?_
    exact ⟨by simp [*], rfl⟩
