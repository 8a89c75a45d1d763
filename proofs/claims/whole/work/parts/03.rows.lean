/-! RUNS OF THE ABSTRACT MACHINE, put together -/
theorem az_mono (sc : az_S) : ∀ (f : Nat) (M : az_M) (pc : Nat) (ls st : List Value) (h : az_H) (x : Option Value × az_H), az_ev sc f M pc ls st h = some x → ∀ g, f ≤ g → az_ev sc g M pc ls st h = some x := by
  intro f
  induction f with
  | zero => intro M pc ls st h x e; simp [az_ev] at e
  | succ f ih =>
    intro M pc ls st h x e g hg
    obtain ⟨g, rfl⟩ : ∃ g', g = g' + 1 := ⟨g - 1, by omega⟩
    have hg' : f ≤ g := by omega
    rw [az_ev] at e ⊢
    cases hl : az_look (az_cd M) pc with
    | none => simp [hl] at e
    | some q =>
      obtain ⟨i, n⟩ := q
      simp only [hl] at e ⊢
      cases hc : az_cal M i with
      | some t =>
        obtain ⟨tag, C, k⟩ := t
        simp only [hc] at e ⊢
        cases hp : az_pop k [] st with
        | none => simp [hp] at e
        | some ar =>
          obtain ⟨a, r⟩ := ar
          simp only [hp] at e ⊢
          cases hb : (az_rcv C tag a && Nat.ble r.length 8) with
          | false => simp [hb] at e
          | true =>
            simp only [hb, cond_true] at e ⊢
            cases h1 : az_ev sc f C 0 a [] h with
            | none => simp [h1] at e
            | some vh =>
              obtain ⟨v, hh⟩ := vh
              simp only [h1] at e
              rw [ih _ _ _ _ _ _ h1 g hg']
              exact ih _ _ _ _ _ _ e g hg'
      | none =>
        simp only [hc] at e ⊢
        cases hr : az_ret M i st with
        | some v => simp only [hr] at e ⊢; exact e
        | none =>
          simp only [hr] at e ⊢
          cases hs : az_stp sc M i n pc ls st h with
          | none => simp [hs] at e
          | some K =>
            obtain ⟨pc', ls', st', h'⟩ := K
            simp only [hs] at e ⊢
            exact ih _ _ _ _ _ _ e g hg'
/-- from here the method comes to its return, with Q -/
def az_E (sc : az_S) (M : az_M) (pc : Nat) (ls st : List Value) (h : az_H) (Q : Option Value → az_H → Prop) : Prop := ∃ f v h1, az_ev sc f M pc ls st h = some (v, h1) ∧ Q v h1
/-- a method, from its start: its answer and what it leaves -/
def az_F (sc : az_S) (M : az_M) (a : List Value) (h : az_H) (v : Option Value) (h1 : az_H) : Prop := ∃ f, az_ev sc f M 0 a [] h = some (v, h1)
theorem az_F.of {sc : az_S} {M : az_M} {a : List Value} {h : az_H} {v : Option Value} {h1 : az_H} (k : az_E sc M 0 a [] h (fun v' h' => v' = v ∧ h' = h1)) : az_F sc M a h v h1 := by
  obtain ⟨f, v', h', e, rfl, rfl⟩ := k
  exact ⟨f, e⟩
theorem az_F.eq {sc : az_S} {M : az_M} {a : List Value} {h : az_H} {v v' : Option Value} {h1 h2 : az_H} (k : az_F sc M a h v h1) (ev : v = v') (eh : h1 = h2) : az_F sc M a h v' h2 := by subst ev; subst eh; exact k
theorem az_E.mono {sc : az_S} {M : az_M} {pc : Nat} {ls st : List Value} {h : az_H} {Q Q' : Option Value → az_H → Prop} (k : az_E sc M pc ls st h Q) (q : ∀ v h1, Q v h1 → Q' v h1) : az_E sc M pc ls st h Q' := by
  obtain ⟨f, v, h1, e, hq⟩ := k
  exact ⟨f, v, h1, e, q v h1 hq⟩
section AZE
variable {sc : az_S} {M : az_M} {pc : Nat} {ls st : List Value} {h : az_H} {Q : Option Value → az_H → Prop} {i : Instr} {n : Nat}
theorem az_e1 {pc' : Nat} {ls' st' : List Value} {h' : az_H} (hl : az_look (az_cd M) pc = some (i, n)) (hc : az_cal M i = none) (hr : az_ret M i st = none) (hs : az_stp sc M i n pc ls st h = some (pc', ls', st', h')) (k : az_E sc M pc' ls' st' h' Q) : az_E sc M pc ls st h Q := by
  obtain ⟨f, v, h1, e, hq⟩ := k
  refine ⟨f + 1, v, h1, ?_, hq⟩
  rw [az_ev]
  simp only [hl, hc, hr, hs]
  exact e
theorem az_eret {v : Option Value} (hl : az_look (az_cd M) pc = some (i, n)) (hc : az_cal M i = none) (hr : az_ret M i st = some v) (hq : Q v h) : az_E sc M pc ls st h Q := by
  refine ⟨1, v, h, ?_, hq⟩
  rw [az_ev]
  simp only [hl, hc, hr]
theorem az_ecall {tag k : Nat} {C : az_M} {a r : List Value} {Q1 : Option Value → az_H → Prop} (hl : az_look (az_cd M) pc = some (i, n)) (hc : az_cal M i = some (tag, C, k)) (hp : az_pop k [] st = some (a, r)) (hv : (az_rcv C tag a && Nat.ble r.length 8) = true)
    (hC : az_E sc C 0 a [] h Q1) (kk : ∀ v h1, Q1 v h1 → az_E sc M (pc + n) ls (v.toList ++ r) h1 Q) : az_E sc M pc ls st h Q := by
  obtain ⟨f1, v1, h1, e1, q1⟩ := hC
  obtain ⟨f2, v2, h2, e2, q2⟩ := kk v1 h1 q1
  refine ⟨max f1 f2 + 1, v2, h2, ?_, q2⟩
  rw [az_ev]
  simp only [hl, hc, hp, hv, cond_true]
  rw [az_mono sc f1 _ _ _ _ _ _ e1 (max f1 f2) (Nat.le_max_left _ _)]
  exact az_mono sc f2 _ _ _ _ _ _ e2 (max f1 f2) (Nat.le_max_right _ _)
theorem az_ecallF {tag k : Nat} {C : az_M} {a r : List Value} {v : Option Value} {h1 : az_H} (hl : az_look (az_cd M) pc = some (i, n)) (hc : az_cal M i = some (tag, C, k)) (hp : az_pop k [] st = some (a, r)) (hv : (az_rcv C tag a && Nat.ble r.length 8) = true)
    (hC : az_F sc C a h v h1) (kk : az_E sc M (pc + n) ls (v.toList ++ r) h1 Q) : az_E sc M pc ls st h Q := by
  obtain ⟨f1, e1⟩ := hC
  refine az_ecall (Q1 := fun v' h' => v' = v ∧ h' = h1) hl hc hp hv ⟨f1, v, h1, e1, rfl, rfl⟩ ?_
  rintro _ _ ⟨rfl, rfl⟩
  exact kk
end AZE
/-- k instructions in a row, none of them a call or a return -/
def az_run (sc : az_S) : Nat → az_M → Nat → List Value → List Value → az_H → Option az_K
  | 0, _, pc, ls, st, h => some (pc, ls, st, h)
  | k + 1, M, pc, ls, st, h => match az_look (az_cd M) pc with
    | some (i, n) => (match az_cal M i with
      | none => (match az_ret M i st with
        | none => (match az_stp sc M i n pc ls st h with
          | some (pc', ls', st', h') => az_run sc k M pc' ls' st' h'
          | none => none)
        | some _ => none)
      | some _ => none)
    | none => none
section AZR
variable {sc : az_S} {M : az_M} {Q : Option Value → az_H → Prop}
theorem az_er : ∀ (k : Nat) {pc : Nat} {ls st : List Value} {h : az_H} {pc' : Nat} {ls' st' : List Value} {h' : az_H}, az_run sc k M pc ls st h = some (pc', ls', st', h') → az_E sc M pc' ls' st' h' Q → az_E sc M pc ls st h Q := by
  intro k
  induction k with
  | zero =>
    intro pc ls st h pc' ls' st' h' e kk
    simp only [az_run, Option.some.injEq, Prod.mk.injEq] at e
    obtain ⟨rfl, rfl, rfl, rfl⟩ := e
    exact kk
  | succ k ih =>
    intro pc ls st h pc' ls' st' h' e kk
    rw [az_run] at e
    cases hl : az_look (az_cd M) pc with
    | none => simp [hl] at e
    | some q =>
      obtain ⟨i, n⟩ := q
      simp only [hl] at e
      cases hc : az_cal M i with
      | some t => simp [hc] at e
      | none =>
        simp only [hc] at e
        cases hr : az_ret M i st with
        | some v => simp [hr] at e
        | none =>
          simp only [hr] at e
          cases hs : az_stp sc M i n pc ls st h with
          | none => simp [hs] at e
          | some K =>
            obtain ⟨pc2, ls2, st2, h2⟩ := K
            simp only [hs] at e
            exact az_e1 hl hc hr hs (ih e kk)
end AZR
section AZS
variable {sc : az_S} {M : az_M} {pc : Nat} {ls st : List Value} {h : az_H} {Q : Option Value → az_H → Prop} {n : Nat}
theorem az_if_eq {x : Int32} {off : Int} {t : Nat} (hl : az_look (az_cd M) pc = some (.ifCond .eq off, n)) (ht : az_tgt pc off = some t) (kt : x = 0 → az_E sc M t ls st h Q) (kf : ¬ x = 0 → az_E sc M (pc + n) ls st h Q) : az_E sc M pc ls (.int x :: st) h Q := by
  by_cases hx : x = 0
  · refine az_e1 hl rfl rfl (pc' := t) (ls' := ls) (st' := st) (h' := h) ?_ (kt hx)
    simp [az_stp, az_cnd, hx, az_jmp, ht]
  · refine az_e1 hl rfl rfl (pc' := pc + n) (ls' := ls) (st' := st) (h' := h) ?_ (kf (by simpa using hx))
    have hx' := hx
    (try simp only [Classical.not_not] at hx')
    simp [az_stp, az_cnd, hx']
theorem az_ic_eq {x y : Int32} {off : Int} {t : Nat} (hl : az_look (az_cd M) pc = some (.if_icmp .eq off, n)) (ht : az_tgt pc off = some t) (kt : x = y → az_E sc M t ls st h Q) (kf : ¬ x = y → az_E sc M (pc + n) ls st h Q) : az_E sc M pc ls (.int y :: .int x :: st) h Q := by
  by_cases hx : x = y
  · refine az_e1 hl rfl rfl (pc' := t) (ls' := ls) (st' := st) (h' := h) ?_ (kt hx)
    simp [az_stp, az_cnd, hx, az_jmp, ht]
  · refine az_e1 hl rfl rfl (pc' := pc + n) (ls' := ls) (st' := st) (h' := h) ?_ (kf (by simpa using hx))
    have hx' := hx
    (try simp only [Classical.not_not] at hx')
    simp [az_stp, az_cnd, hx']
theorem az_if_ne {x : Int32} {off : Int} {t : Nat} (hl : az_look (az_cd M) pc = some (.ifCond .ne off, n)) (ht : az_tgt pc off = some t) (kt : ¬ x = 0 → az_E sc M t ls st h Q) (kf : x = 0 → az_E sc M (pc + n) ls st h Q) : az_E sc M pc ls (.int x :: st) h Q := by
  by_cases hx : ¬ x = 0
  · refine az_e1 hl rfl rfl (pc' := t) (ls' := ls) (st' := st) (h' := h) ?_ (kt hx)
    simp [az_stp, az_cnd, hx, az_jmp, ht]
  · refine az_e1 hl rfl rfl (pc' := pc + n) (ls' := ls) (st' := st) (h' := h) ?_ (kf (by simpa using hx))
    have hx' := hx
    (try simp only [Classical.not_not] at hx')
    simp [az_stp, az_cnd, hx']
theorem az_ic_ne {x y : Int32} {off : Int} {t : Nat} (hl : az_look (az_cd M) pc = some (.if_icmp .ne off, n)) (ht : az_tgt pc off = some t) (kt : ¬ x = y → az_E sc M t ls st h Q) (kf : x = y → az_E sc M (pc + n) ls st h Q) : az_E sc M pc ls (.int y :: .int x :: st) h Q := by
  by_cases hx : ¬ x = y
  · refine az_e1 hl rfl rfl (pc' := t) (ls' := ls) (st' := st) (h' := h) ?_ (kt hx)
    simp [az_stp, az_cnd, hx, az_jmp, ht]
  · refine az_e1 hl rfl rfl (pc' := pc + n) (ls' := ls) (st' := st) (h' := h) ?_ (kf (by simpa using hx))
    have hx' := hx
    (try simp only [Classical.not_not] at hx')
    simp [az_stp, az_cnd, hx']
theorem az_if_lt {x : Int32} {off : Int} {t : Nat} (hl : az_look (az_cd M) pc = some (.ifCond .lt off, n)) (ht : az_tgt pc off = some t) (kt : x < 0 → az_E sc M t ls st h Q) (kf : ¬ x < 0 → az_E sc M (pc + n) ls st h Q) : az_E sc M pc ls (.int x :: st) h Q := by
  by_cases hx : x < 0
  · refine az_e1 hl rfl rfl (pc' := t) (ls' := ls) (st' := st) (h' := h) ?_ (kt hx)
    simp [az_stp, az_cnd, hx, az_jmp, ht]
  · refine az_e1 hl rfl rfl (pc' := pc + n) (ls' := ls) (st' := st) (h' := h) ?_ (kf (by simpa using hx))
    have hx' := hx
    (try simp only [Classical.not_not] at hx')
    simp [az_stp, az_cnd, hx']
theorem az_ic_lt {x y : Int32} {off : Int} {t : Nat} (hl : az_look (az_cd M) pc = some (.if_icmp .lt off, n)) (ht : az_tgt pc off = some t) (kt : x < y → az_E sc M t ls st h Q) (kf : ¬ x < y → az_E sc M (pc + n) ls st h Q) : az_E sc M pc ls (.int y :: .int x :: st) h Q := by
  by_cases hx : x < y
  · refine az_e1 hl rfl rfl (pc' := t) (ls' := ls) (st' := st) (h' := h) ?_ (kt hx)
    simp [az_stp, az_cnd, hx, az_jmp, ht]
  · refine az_e1 hl rfl rfl (pc' := pc + n) (ls' := ls) (st' := st) (h' := h) ?_ (kf (by simpa using hx))
    have hx' := hx
    (try simp only [Classical.not_not] at hx')
    simp [az_stp, az_cnd, hx']
theorem az_if_ge {x : Int32} {off : Int} {t : Nat} (hl : az_look (az_cd M) pc = some (.ifCond .ge off, n)) (ht : az_tgt pc off = some t) (kt : 0 ≤ x → az_E sc M t ls st h Q) (kf : ¬ 0 ≤ x → az_E sc M (pc + n) ls st h Q) : az_E sc M pc ls (.int x :: st) h Q := by
  by_cases hx : 0 ≤ x
  · refine az_e1 hl rfl rfl (pc' := t) (ls' := ls) (st' := st) (h' := h) ?_ (kt hx)
    simp [az_stp, az_cnd, hx, az_jmp, ht]
  · refine az_e1 hl rfl rfl (pc' := pc + n) (ls' := ls) (st' := st) (h' := h) ?_ (kf (by simpa using hx))
    have hx' := hx
    (try simp only [Classical.not_not] at hx')
    simp [az_stp, az_cnd, hx']
theorem az_ic_ge {x y : Int32} {off : Int} {t : Nat} (hl : az_look (az_cd M) pc = some (.if_icmp .ge off, n)) (ht : az_tgt pc off = some t) (kt : y ≤ x → az_E sc M t ls st h Q) (kf : ¬ y ≤ x → az_E sc M (pc + n) ls st h Q) : az_E sc M pc ls (.int y :: .int x :: st) h Q := by
  by_cases hx : y ≤ x
  · refine az_e1 hl rfl rfl (pc' := t) (ls' := ls) (st' := st) (h' := h) ?_ (kt hx)
    simp [az_stp, az_cnd, hx, az_jmp, ht]
  · refine az_e1 hl rfl rfl (pc' := pc + n) (ls' := ls) (st' := st) (h' := h) ?_ (kf (by simpa using hx))
    have hx' := hx
    (try simp only [Classical.not_not] at hx')
    simp [az_stp, az_cnd, hx']
theorem az_if_gt {x : Int32} {off : Int} {t : Nat} (hl : az_look (az_cd M) pc = some (.ifCond .gt off, n)) (ht : az_tgt pc off = some t) (kt : 0 < x → az_E sc M t ls st h Q) (kf : ¬ 0 < x → az_E sc M (pc + n) ls st h Q) : az_E sc M pc ls (.int x :: st) h Q := by
  by_cases hx : 0 < x
  · refine az_e1 hl rfl rfl (pc' := t) (ls' := ls) (st' := st) (h' := h) ?_ (kt hx)
    simp [az_stp, az_cnd, hx, az_jmp, ht]
  · refine az_e1 hl rfl rfl (pc' := pc + n) (ls' := ls) (st' := st) (h' := h) ?_ (kf (by simpa using hx))
    have hx' := hx
    (try simp only [Classical.not_not] at hx')
    simp [az_stp, az_cnd, hx']
theorem az_ic_gt {x y : Int32} {off : Int} {t : Nat} (hl : az_look (az_cd M) pc = some (.if_icmp .gt off, n)) (ht : az_tgt pc off = some t) (kt : y < x → az_E sc M t ls st h Q) (kf : ¬ y < x → az_E sc M (pc + n) ls st h Q) : az_E sc M pc ls (.int y :: .int x :: st) h Q := by
  by_cases hx : y < x
  · refine az_e1 hl rfl rfl (pc' := t) (ls' := ls) (st' := st) (h' := h) ?_ (kt hx)
    simp [az_stp, az_cnd, hx, az_jmp, ht]
  · refine az_e1 hl rfl rfl (pc' := pc + n) (ls' := ls) (st' := st) (h' := h) ?_ (kf (by simpa using hx))
    have hx' := hx
    (try simp only [Classical.not_not] at hx')
    simp [az_stp, az_cnd, hx']
theorem az_if_le {x : Int32} {off : Int} {t : Nat} (hl : az_look (az_cd M) pc = some (.ifCond .le off, n)) (ht : az_tgt pc off = some t) (kt : x ≤ 0 → az_E sc M t ls st h Q) (kf : ¬ x ≤ 0 → az_E sc M (pc + n) ls st h Q) : az_E sc M pc ls (.int x :: st) h Q := by
  by_cases hx : x ≤ 0
  · refine az_e1 hl rfl rfl (pc' := t) (ls' := ls) (st' := st) (h' := h) ?_ (kt hx)
    simp [az_stp, az_cnd, hx, az_jmp, ht]
  · refine az_e1 hl rfl rfl (pc' := pc + n) (ls' := ls) (st' := st) (h' := h) ?_ (kf (by simpa using hx))
    have hx' := hx
    (try simp only [Classical.not_not] at hx')
    simp [az_stp, az_cnd, hx']
theorem az_ic_le {x y : Int32} {off : Int} {t : Nat} (hl : az_look (az_cd M) pc = some (.if_icmp .le off, n)) (ht : az_tgt pc off = some t) (kt : x ≤ y → az_E sc M t ls st h Q) (kf : ¬ x ≤ y → az_E sc M (pc + n) ls st h Q) : az_E sc M pc ls (.int y :: .int x :: st) h Q := by
  by_cases hx : x ≤ y
  · refine az_e1 hl rfl rfl (pc' := t) (ls' := ls) (st' := st) (h' := h) ?_ (kt hx)
    simp [az_stp, az_cnd, hx, az_jmp, ht]
  · refine az_e1 hl rfl rfl (pc' := pc + n) (ls' := ls) (st' := st) (h' := h) ?_ (kf (by simpa using hx))
    have hx' := hx
    (try simp only [Classical.not_not] at hx')
    simp [az_stp, az_cnd, hx']
theorem az_oobF {i : Int32} {n : Nat} (h : vp_in i n) : az_oob i n = false := by
  have h1 : ¬ i < 0 := fun q => h (Or.inl q)
  have h2 : ¬ n ≤ i.toNatClampNeg := fun q => h (Or.inr q)
  simp only [az_oob, Bool.or_eq_false_iff, decide_eq_false_iff_not]
  refine ⟨h1, ?_⟩
  cases hb : Nat.ble n i.toNatClampNeg with
  | false => rfl
  | true => exact absurd (Nat.le_of_ble_eq_true hb) h2
theorem az_len {k t N : Nat} (hl : az_look (az_cd M) pc = some (.arraylength, n)) (hw : az_wd[k]? = some (.inr (t, N))) (K : az_E sc M (pc + n) ls (.int (nI N) :: st) h Q) : az_E sc M pc ls (.ref k :: st) h Q := by
  refine az_e1 hl rfl rfl ?_ K
  simp [az_stp, az_alen, hw, nI]
theorem az_ia0 {k N : Nat} {i : Int32} (hl : az_look (az_cd M) pc = some (.iaload, n)) (hw : az_wd[k]? = some (.inr (0, N))) (hi : vp_in i N) (K : az_E sc M (pc + n) ls (.int (h (az_vk k) (az_vj k i.toNatClampNeg)) :: st) h Q) : az_E sc M pc ls (.int i :: .ref k :: st) h Q := by
  refine az_e1 hl rfl rfl ?_ K
  simp [az_stp, az_ald, hw, az_oobF hi]
theorem az_ias0 {k N : Nat} {i x : Int32} (hl : az_look (az_cd M) pc = some (.iastore, n)) (hw : az_wd[k]? = some (.inr (0, N))) (hi : vp_in i N) (K : az_E sc M (pc + n) ls st (az_up h (az_vk k) (az_vj k i.toNatClampNeg) x) Q) : az_E sc M pc ls (.int x :: .int i :: .ref k :: st) h Q := by
  refine az_e1 hl rfl rfl ?_ K
  simp [az_stp, az_ast, hw, az_oobF hi, az_nar]
theorem az_ia {k N : Nat} {i : Int32} (hl : az_look (az_cd M) pc = some (.iaload, n)) (hw : az_wd[k]? = some (.inr (0, N))) (hi : vp_in i N) (K : az_E sc M (pc + n) ls (.int (h k i.toNatClampNeg) :: st) h Q) (hk : k < 75 := by decide) : az_E sc M pc ls (.int i :: .ref k :: st) h Q := by
  refine az_e1 hl rfl rfl ?_ K
  simp [az_stp, az_ald, hw, az_oobF hi, az_vk_lt hk, az_vj_lt hk]
theorem az_is {N : Nat} {i : Int32} (hl : az_look (az_cd M) pc = some (.iaload, n)) (hN : sc.1 = N) (hi : vp_in i N) (K : az_E sc M (pc + n) ls (.int (sc.2 i.toNatClampNeg) :: st) h Q) : az_E sc M pc ls (.int i :: .ref 2000 :: st) h Q := by
  subst hN
  refine az_e1 hl rfl rfl ?_ K
  have : az_wd[2000]? = none := rfl
  simp [az_stp, az_ald, this, az_oobF hi]
theorem az_ba {k N : Nat} {i : Int32} (hl : az_look (az_cd M) pc = some (.baload, n)) (hw : az_wd[k]? = some (.inr (1, N))) (hi : vp_in i N) (K : az_E sc M (pc + n) ls (.int (h k i.toNatClampNeg) :: st) h Q) (hk : k < 75 := by decide) : az_E sc M pc ls (.int i :: .ref k :: st) h Q := by
  refine az_e1 hl rfl rfl ?_ K
  simp [az_stp, az_ald, hw, az_oobF hi, az_vk_lt hk, az_vj_lt hk]
theorem az_ca {k N : Nat} {i : Int32} (hl : az_look (az_cd M) pc = some (.caload, n)) (hw : az_wd[k]? = some (.inr (2, N))) (hi : vp_in i N) (K : az_E sc M (pc + n) ls (.int (h k i.toNatClampNeg) :: st) h Q) (hk : k < 75 := by decide) : az_E sc M pc ls (.int i :: .ref k :: st) h Q := by
  refine az_e1 hl rfl rfl ?_ K
  simp [az_stp, az_ald, hw, az_oobF hi, az_vk_lt hk, az_vj_lt hk]
theorem az_ias {k N : Nat} {i x : Int32} (hl : az_look (az_cd M) pc = some (.iastore, n)) (hw : az_wd[k]? = some (.inr (0, N))) (hi : vp_in i N) (K : az_E sc M (pc + n) ls st (az_up h k i.toNatClampNeg x) Q) (hk : k < 75 := by decide) : az_E sc M pc ls (.int x :: .int i :: .ref k :: st) h Q := by
  refine az_e1 hl rfl rfl ?_ K
  simp [az_stp, az_ast, hw, az_oobF hi, az_vk_lt hk, az_vj_lt hk, az_nar]
theorem az_bas {k N : Nat} {i x : Int32} (hl : az_look (az_cd M) pc = some (.bastore, n)) (hw : az_wd[k]? = some (.inr (1, N))) (hi : vp_in i N) (K : az_E sc M (pc + n) ls st (az_up h k i.toNatClampNeg (vp_nar .boolean x)) Q) (hk : k < 75 := by decide) : az_E sc M pc ls (.int x :: .int i :: .ref k :: st) h Q := by
  refine az_e1 hl rfl rfl ?_ K
  simp [az_stp, az_ast, hw, az_oobF hi, az_vk_lt hk, az_vj_lt hk, az_nar, az_fty]
theorem az_div {x y : Int32} (hl : az_look (az_cd M) pc = some (.idiv, n)) (hy : ¬ y = 0) (K : az_E sc M (pc + n) ls (.int (x / y) :: st) h Q) : az_E sc M pc ls (.int y :: .int x :: st) h Q := by
  refine az_e1 hl rfl rfl ?_ K
  simp [az_stp, hy]
theorem az_rem {x y : Int32} (hl : az_look (az_cd M) pc = some (.irem, n)) (hy : ¬ y = 0) (K : az_E sc M (pc + n) ls (.int (x - x / y * y) :: st) h Q) : az_E sc M pc ls (.int y :: .int x :: st) h Q := by
  refine az_e1 hl rfl rfl ?_ K
  simp [az_stp, hy]
theorem az_zret {x : Int32} (hl : az_look (az_cd M) pc = some (.ireturn, n)) (hr : az_rt M = some .boolean) (hx : x = 0 ∨ x = 1) (hq : Q (some (.int x)) h) : az_E sc M pc ls [.int x] h Q := by
  refine az_eret hl rfl ?_ hq
  rcases hx with rfl | rfl <;> simp [az_ret, hr, az_rok]
end AZS
