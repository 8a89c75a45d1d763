/-! THE ABSTRACT MACHINE IS SOUND: what az_ev answers, the machine answers -/
def az_Pc (D : va_G) (ad : Nat → Nat) (cA : Nat → ClassId) (fo : Value) (sc : az_S) (a : List Value) (h : az_H) (sz : Nat) : Array Value → State → Prop := va_Pc (a.map (az_cv ad fo)) (fun U => U.heap.size = sz ∧ va_P D vwCl (az_ws ad cA h) U.heap ∧ va_D (fun _ => True) (az_ws ad cA h) ∧ az_X D ad cA fo sc (az_A ad sz) U U.heap)
def az_Qc (D : va_G) (ad : Nat → Nat) (cA : Nat → ClassId) (fo : Value) (v : Option Value) (h1 : az_H) (sz : Nat) : Array Value → State → Outcome → State → Prop := fun _ st o t => o = .returned (v.map (az_cv ad fo)) ∧ va_P D vwCl (az_ws ad cA h1) t.heap ∧ va_F (az_A ad sz) st t
/-- what a method returns is of its type -/
def az_retok (M : az_M) : Bool := (az_cd M).all fun q => match q.2.1 with
  | .return_ => (match az_rt M with
    | none => true
    | _ => false)
  | .areturn => (match az_rt M with
    | some (.object _) => true
    | _ => false)
  | _ => true
theorem az_rk_0 : (az_ml_0).all (fun q => az_retok q.2.2.1) = true := by decide +kernel
theorem az_rk_1 : (az_ml_1).all (fun q => az_retok q.2.2.1) = true := by decide +kernel
theorem az_rk_2 : (az_ml_2).all (fun q => az_retok q.2.2.1) = true := by decide +kernel
theorem az_rk_3 : (az_ml_3).all (fun q => az_retok q.2.2.1) = true := by decide +kernel
theorem az_rk_4 : (az_ml_4).all (fun q => az_retok q.2.2.1) = true := by decide +kernel
theorem az_rk_5 : (az_ml_5).all (fun q => az_retok q.2.2.1) = true := by decide +kernel
theorem az_rk_6 : (az_ml_6).all (fun q => az_retok q.2.2.1) = true := by decide +kernel
theorem az_rk_7 : (az_ml_7).all (fun q => az_retok q.2.2.1) = true := by decide +kernel
theorem az_rk_8 : (az_ml_8).all (fun q => az_retok q.2.2.1) = true := by decide +kernel
theorem az_rk_9 : (az_ml_9).all (fun q => az_retok q.2.2.1) = true := by decide +kernel
theorem az_rk_10 : (az_ml_10).all (fun q => az_retok q.2.2.1) = true := by decide +kernel
theorem az_rk_11 : (az_ml_11).all (fun q => az_retok q.2.2.1) = true := by decide +kernel
theorem az_rk_15 : (az_ml_15).all (fun q => az_retok q.2.2.1) = true := by decide +kernel
theorem az_rk {c k tag na : Nat} {C : az_M} (h : az_ml c k = some (tag, C, na)) : az_retok C = true := by
  unfold az_ml at h
  split at h
  · exact List.all_eq_true.mp az_rk_0 _ (az_pool_in h)
  · exact List.all_eq_true.mp az_rk_1 _ (az_pool_in h)
  · exact List.all_eq_true.mp az_rk_2 _ (az_pool_in h)
  · exact List.all_eq_true.mp az_rk_3 _ (az_pool_in h)
  · exact List.all_eq_true.mp az_rk_4 _ (az_pool_in h)
  · exact List.all_eq_true.mp az_rk_5 _ (az_pool_in h)
  · exact List.all_eq_true.mp az_rk_6 _ (az_pool_in h)
  · exact List.all_eq_true.mp az_rk_7 _ (az_pool_in h)
  · exact List.all_eq_true.mp az_rk_8 _ (az_pool_in h)
  · exact List.all_eq_true.mp az_rk_9 _ (az_pool_in h)
  · exact List.all_eq_true.mp az_rk_10 _ (az_pool_in h)
  · exact List.all_eq_true.mp az_rk_11 _ (az_pool_in h)
  · exact List.all_eq_true.mp az_rk_15 _ (az_pool_in h)
  · cases h
def az_wsM (M : az_M) : List Cond := .code (az_y M) (az_by M) (az_nl M) (az_rt M) :: az_wg
def az_rm (M : az_M) : Room := { frames := az_fr M, cells := 0, slots := 0, locals := az_lo M }
theorem az_ws_of {ad : Nat → Nat} {cA : Nat → ClassId} {h : az_H} {k : Nat} {q : Nat × va_E} (hq : (az_ws ad cA h)[k]? = some q) : k < 78 ∧ q.1 = ad k ∧ ∀ h', ∃ q', (az_ws ad cA h')[k]? = some q' ∧ q'.1 = ad k := by
  cases hk : az_wd[k]? with
  | none => rw [az_ws_none hk] at hq; cases hq
  | some kd =>
    rw [az_ws_at hk] at hq
    cases hq
    exact ⟨(List.getElem?_eq_some_iff.mp hk).1, rfl, fun h' => ⟨_, az_ws_at hk, rfl⟩⟩
theorem az_D_h {ad : Nat → Nat} {cA : Nat → ClassId} {h h' : az_H} {A : Nat → Prop} (hD : va_D A (az_ws ad cA h)) : va_D A (az_ws ad cA h') := by
  refine ⟨fun i j x y hx hy hxy => ?_, fun k q hq => ?_⟩
  · obtain ⟨-, e1, k1⟩ := az_ws_of hx
    obtain ⟨-, e2, k2⟩ := az_ws_of hy
    obtain ⟨x', hx', e3⟩ := k1 h
    obtain ⟨y', hy', e4⟩ := k2 h
    exact hD.1 i j x' y' hx' hy' (by rw [e3, e4, ← e1, ← e2, hxy])
  · obtain ⟨-, e1, k1⟩ := az_ws_of hq
    obtain ⟨q', hq', e3⟩ := k1 h
    rw [e1, ← e3]
    exact hD.2 k q' hq'
theorem az_D_A {ad : Nat → Nat} {cA : Nat → ClassId} {h : az_H} {A : Nat → Prop} {sz : Nat} (hD : va_D A (az_ws ad cA h)) : va_D (az_A ad sz) (az_ws ad cA h) :=
  ⟨hD.1, fun k q hq => Or.inl ⟨k, (az_ws_of hq).1, (az_ws_of hq).2.1⟩⟩
theorem az_A_sub {ad : Nat → Nat} {cA : Nat → ClassId} {h : az_H} {A : Nat → Prop} {sz sz0 : Nat} (hD : va_D A (az_ws ad cA h)) (hA : ∀ q, sz0 ≤ q → A q) (hz : sz0 ≤ sz) : ∀ q, az_A ad sz q → A q := by
  rintro q (⟨k, hk, rfl⟩ | hq)
  · have hlt : k < az_wd.length := hk
    have := az_ws_at (ad := ad) (cA := cA) (h := h) (List.getElem?_eq_getElem hlt)
    exact hD.2 k _ this
  · exact hA q (Nat.le_trans hz hq)
theorem az_blind {D : va_G} {ad : Nat → Nat} {cA : Nat → ClassId} {fo : Value} {sc : az_S} {a : List Value} {h : az_H} {sz : Nat} : FrameBlind (az_Pc D ad cA fo sc a h sz) := by
  intro v U g mk q
  obtain ⟨q0, q1, q2, q3, q4⟩ := q
  exact ⟨q0, q1, q2, q3, az_X.vm (s := U) (U := U.calling g mk v) rfl q4⟩
theorem az_pop_ok : ∀ (k : Nat) (acc st : List Value) (a r : List Value), az_pop k acc st = some (a, r) → ∃ b, b.length = k ∧ st = b ++ r ∧ a = b.reverse ++ acc
  | 0, acc, st, a, r, h => by
    simp only [az_pop, Option.some.injEq, Prod.mk.injEq] at h
    obtain ⟨rfl, rfl⟩ := h
    exact ⟨[], rfl, rfl, rfl⟩
  | k + 1, acc, [], a, r, h => by simp [az_pop] at h
  | k + 1, acc, v :: st, a, r, h => by
    obtain ⟨b, h1, h2, h3⟩ := az_pop_ok k (v :: acc) st a r h
    exact ⟨v :: b, by rw [List.length_cons, h1], by rw [h2]; rfl, by rw [h3]; simp⟩
theorem az_cats {ad : Nat → Nat} {fo : Value} (hf : fo = .null ∨ ∃ t, fo = .ref t) : ∀ r : List Value, ((r.map (az_cv ad fo)).map fun v => v.category).sum = r.length
  | [] => rfl
  | a :: t => by simp only [List.map_cons, List.sum_cons, az_cats hf t, az_cv_cat hf, List.length_cons]; omega
theorem az_tagd_ok {v : Bool} {o : Option (Nat × az_M × Nat)} {tag k : Nat} {C : az_M} (h : az_tagd v o = some (tag, C, k)) : o = some (tag, C, k) ∧ (if v then tag < 2 else 2 ≤ tag) := by
  cases o with
  | none => simp [az_tagd] at h
  | some q =>
    obtain ⟨t, C9, k9⟩ := q
    simp only [az_tagd] at h
    cases hb : (bif v then Nat.blt t 2 else Nat.ble 2 t) with
    | false => simp only [hb, cond_false] at h; cases h
    | true =>
      simp only [hb, cond_true, Option.some.injEq, Prod.mk.injEq] at h
      obtain ⟨rfl, rfl, rfl⟩ := h
      refine ⟨rfl, ?_⟩
      cases v with
      | true => exact Nat.le_of_ble_eq_true hb
      | false => exact Nat.le_of_ble_eq_true hb
section AZQ
variable {p : Program} {l : Launch} {e : Env} {R : Room} {s : State} {m : MethodId} {args : Array Value} {below : List Frame} {meth : Method} {c : Code} {cells slots : Nat} {Q : State → Prop} {D : va_G} {ad : Nat → Nat} {cA : Nat → ClassId} {fo : Value} {sc : az_S} {A : Nat → Prop} {M : az_M}
/-- behind a call -/
theorem az_on {H : Heap} {locs : List Loc} {pc : Nat} {lsA : Array Slot} {st0 : List Value} {ls r : List Value} {h hc1 : az_H} {vc : Option Value} {aa : Array Value} (hA : ∀ q, s.heap.size ≤ q → A q) (hD : va_D A (az_ws ad cA h)) (hS : va_S A s.heap H locs) (hM : az_Mt ad fo (az_nl M) lsA ls)
    (hr : va_Run p l e R s m args below meth c H locs cells slots 0 0 (F0 m pc lsA st0) (r.map (az_cv ad fo)) (az_Qc D ad cA fo vc hc1 H.size aa) (az_A ad H.size))
    (K : az_St p l e R s m args below meth c cells slots Q D ad cA fo A (az_nl M) (pc + 3) ls (vc.toList ++ r) hc1) : W p l e R s m args below meth c H locs cells slots Q (F0 m pc lsA st0) := by
  intro T hT X
  obtain ⟨v, st₀, t, T', L, h0, X', hL, e1, e2, ⟨hv, hP1, hz, hk⟩, st⟩ := hr T hT X
  cases hv
  rw [h0] at hz hk
  have hsub := az_A_sub (sz := H.size) hD hA hS.1
  have hS1 : va_S A s.heap T'.heap (locs ++ L) := ⟨Nat.le_trans hS.1 (by rw [e1]; exact hz), fun q h1 h2 => by
      rw [e1, hk q (Nat.lt_of_lt_of_le h1 hS.1) (fun z => h2 (hsub q z))]
      exact hS.2.1 q h1 h2, fun q hq => by
      rcases List.mem_append.mp hq with h | h
      · exact hS.2.2 q h
      · exact hsub _ (hL q h)⟩
  obtain ⟨t2, a1, b1⟩ := K T'.heap (locs ++ L) lsA (by rw [e1]; exact hP1) (az_D_h hD) hS1 hM T' rfl X'
  refine ⟨t2, st t2 ?_, b1⟩
  have e9 : (vc.map (az_cv ad fo)).toList ++ r.map (az_cv ad fo) = (vc.toList ++ r).map (az_cv ad fo) := by cases vc <;> rfl
  rw [e9]
  exact a1
theorem az_pre {H : Heap} {locs : List Loc} {a : List Value} {h : az_H} (hA : ∀ q, s.heap.size ≤ q → A q) (hX : az_X D ad cA fo sc A s s.heap) (hP : va_P D vwCl (az_ws ad cA h) H) (hD : va_D A (az_ws ad cA h)) (hS : va_S A s.heap H locs) : PreS s H (az_Pc D ad cA fo sc a h H.size) (a.map (az_cv ad fo)) := by
  refine ⟨az_blind, fun U hU hW => ⟨rfl, by rw [hU], by rw [hU]; exact hP, hD.weaken (fun _ _ _ _ => trivial), ?_⟩⟩
  rw [hU]
  exact az_X.moved hW (az_X.narrow (az_X.kept hX hS.1 hS.2.1) (az_A_sub hD hA hS.1))
theorem az_recv {H : Heap} {locs : List Loc} {h : az_H} {k ci : Nat} (hX : az_X D ad cA fo sc A s s.heap) (hP : va_P D vwCl (az_ws ad cA h) H) (hS : va_S A s.heap H locs) (hk : az_isA k ci = true) : ∃ cell : Cell, H[ad k]? = some cell ∧ cell.vm.isStatics = false ∧ s.vm.findClass (az_own ci) = some cell.cls := by
  unfold az_isA at hk
  split at hk
  · rename_i c9 fs hw
    obtain rfl := Nat.eq_of_beq_eq_true hk
    obtain ⟨hci, -, -⟩ := az_wok_obj hw
    obtain ⟨hc, -⟩ := az_clp_ok _ hci
    exact va_recv hX.1 hP hc (az_ws_at hw)
  · cases hk
  · simp only [Bool.and_eq_true, az_isT] at hk
    obtain rfl := Nat.eq_of_beq_eq_true hk.1
    obtain ⟨i9, hi9, hq9, -⟩ := az_txi ⟨Nat.le_of_ble_eq_true hk.2.1, Nat.le_of_ble_eq_true hk.2.2⟩
    rw [hq9]
    have := vk_recv (adK := fun j => ad (1000 + j)) (i := i9) hX.2.2.2.2.1 hi9 hS
    exact this
theorem az_call {i : Instr} {n tag k pc : Nat} {C : az_M} {ls st a r : List Value} {h hc1 : az_H} {vc : Option Value} (act : az_act p R s m args c M) (hX : az_X D ad cA fo sc A s s.heap) (hA : ∀ q, s.heap.size ≤ q → A q) (hcr : cells ≤ R.cells ∧ slots ≤ R.slots) (hdg : decode (az_by M) pc = .ok (i, n)) (hin : az_insok pc i n = true) (hro : az_room M i = true) (hcal : az_cal M i = some (tag, C, k)) (hp : az_pop k [] st = some (a, r)) (hv : (az_rcv C tag a && Nat.ble r.length 8) = true)
    (hMet : ∀ sz, Met l (az_y C) (az_wsM C) (az_rm C) (az_Pc D ad cA fo sc a h sz) (az_Qc D ad cA fo vc hc1 sz) 0 0 (az_A ad sz))
    (K : az_St p l e R s m args below meth c cells slots Q D ad cA fo A (az_nl M) (pc + n) ls (vc.toList ++ r) hc1) : az_St p l e R s m args below meth c cells slots Q D ad cA fo A (az_nl M) pc ls st h := by
  intro H locs lsA hP hD hS hM
  obtain ⟨hx, hb, hml, hown, hts, hfr, hlo⟩ := act
  obtain ⟨b, hbl, rfl, hab⟩ := az_pop_ok k [] st a r hp
  rw [List.append_nil] at hab
  have hf := hX.2.2.2.2.2.2.2.2
  simp only [Bool.and_eq_true] at hv
  have hr8 := Nat.le_of_ble_eq_true hv.2
  have hroom : az_fr C + 1 ≤ az_fr M ∧ 8 + (az_nl C + 11) + az_lo C ≤ az_lo M ∧ k ≤ az_nl C := by
    simp only [az_room, hcal, Bool.and_eq_true] at hro
    exact ⟨Nat.le_of_ble_eq_true hro.1, Nat.le_of_ble_eq_true hro.2.1, Nat.le_of_ble_eq_true hro.2.2⟩
  have hR : (az_rm C).frames + 1 ≤ R.frames ∧ 8 + (az_nl C + 11) + (az_rm C).locals ≤ R.locals := ⟨Nat.le_trans hroom.1 hfr, Nat.le_trans hroom.2.1 hlo⟩
  have hWr : 2 * (F0 m pc lsA ((b ++ r).map (az_cv ad fo))).monitorRoom + ((r.map (az_cv ad fo)).map fun v => v.category).sum ≤ 8 := lv_room (by rw [az_cats hf]; exact hr8)
  have hcc : cells + 0 ≤ R.cells ∧ slots + 0 ≤ R.slots := hcr
  have hpre := az_pre (a := a) (h := h) hA hX hP hD hS
  have hsz : lsA.size = az_nl M := hM.1
  have hal : a.length = k := by rw [hab, List.length_reverse, hbl]
  have stk : ((b ++ r).map (az_cv ad fo)) = (a.map (az_cv ad fo)).reverse ++ r.map (az_cv ad fo) := by rw [hab]; simp
  have main : ∀ idx, az_ml M.1 idx = some (tag, C, k) → (i = .invokevirtual idx ∧ tag < 2 ∨ i = .invokestatic idx ∧ 2 ≤ tag) → W p l e R s m args below meth c H locs cells slots Q (F0 m pc lsA ((b ++ r).map (az_cv ad fo))) := by
    intro idx hmx hi
    obtain ⟨np, stc, ⟨w1, w2, w3, w4, w5, w6, w7, w8, w9, -⟩, hlink⟩ := az_ml_ok hmx
    have hG : GoodIn az_wg (az_wsM C) := az_wg_good (fun w hw => by rcases List.mem_cons.mp hw with rfl | hw; exact w1; exact hw)
    have hn3 : n = 3 := by rcases hi with ⟨rfl, -⟩ | ⟨rfl, -⟩ <;> exact Nat.eq_of_beq_eq_true hin
    subst hn3
    have virt : ∀ (hi9 : i = .invokevirtual idx) (hst : stc = false) (hna : k = np + 1) (hl : Cond.methodLink (az_own M.1) idx (az_y C) ∈ az_wg ∨ ∃ host, Cond.methodLinkNest (az_own M.1) idx (az_y C) host ∈ az_nest) (ht2 : tag < 2), W p l e R s m args below meth c H locs cells slots Q (F0 m pc lsA ((b ++ r).map (az_cv ad fo))) := by
      intro hi9 hst hna hl ht2
      subst hi9
      obtain ⟨w81, w82⟩ := w8 hst
      have hrc := hv.1
      unfold az_rcv at hrc
      split at hrc
      · rename_i k9 as9
        have h29 : Nat.ble 2 tag = false := by
          cases hb9 : Nat.ble 2 tag with
          | false => rfl
          | true => exact absurd (Nat.le_of_ble_eq_true hb9) (by omega)
        rw [h29, Bool.false_or] at hrc
        have hrecv := az_recv hX hP hS hrc
        rw [← w4] at hrecv
        have hn : (as9.map (az_cv ad fo)).length = np := by
          rw [List.length_map]
          rw [List.length_cons] at hal
          omega
        have stk9 : ((b ++ r).map (az_cv ad fo)) = (as9.map (az_cv ad fo)).reverse ++ .ref (ad k9) :: r.map (az_cv ad fo) := by
          rw [stk]
          simp [az_cv]
        have hp9 : PreV s H (az_y C).cls (ad k9) (az_Pc D ad cA fo sc (.ref k9 :: as9) h H.size) (as9.map (az_cv ad fo)) := ⟨hpre.1, hrecv, hpre.2⟩
        rcases hl with hl | ⟨host, hl⟩
        · have cw := cwV (R := R) (s := s) (args := args) (Ts := az_wg) (own := az_own M.1) (index := idx) (C := (az_y C).cls) (y := az_y C) (bytes := az_by C) (maxL := az_nl C) (ret := az_rt C) (ws := az_wsM C) (ws' := az_wg) (rm := az_rm C) (mc := 0) (ms := 0) np hts (az_wg_good (fun w hw => by
            rcases List.mem_append.mp (show w ∈ [Cond.methodLink (az_own M.1) idx (az_y C), .instanceMethod (az_y C), .selects (az_y C).cls (az_y C) (az_y C), .initialized (az_y C).cls] ++ az_wsM C from hw) with hw | hw
            · simp only [List.mem_cons, List.not_mem_nil, or_false] at hw
              rcases hw with rfl | rfl | rfl | rfl
              · exact hl
              · exact w81
              · exact w82
              · exact w2
            · exact (hG w hw).1)) rfl rfl rfl ⟨rfl, w5, w6, w3⟩ hR
          exact az_on hA hD hS hM (va_runV (As := as9.map (az_cv ad fo)) (rest := r.map (az_cv ad fo)) ⟨hx, hb, hml, hown, hts⟩ (hMet H.size) cw hp9 rfl hn hsz stk9 hWr hdg hcc) K
        · have cw := va_cnB (R := R) (s := s) (args := args) (Ts := az_wg) (own := az_own M.1) (host := host) (index := idx) (y := az_y C) (bytes := az_by C) (maxL := az_nl C) (ret := az_rt C) (ws := az_wsM C) (ws' := az_wg) (rm := az_rm C) (mc := 0) (ms := 0) np hts hG rfl rfl rfl (hX.2.1 _ hl) (hts _ w2) ⟨w5, w6, w3⟩ hR
          exact az_on hA hD hS hM (va_runVN (As := as9.map (az_cv ad fo)) (rest := r.map (az_cv ad fo)) ⟨hx, hb, hml, hown, hts⟩ (hMet H.size) ⟨cw, hts _ w81, hts _ w82⟩ hp9 rfl hn hsz stk9 hWr hdg hcc) K
      · exact absurd (Nat.le_of_ble_eq_true hrc) (by omega)
    have stat : ∀ (hi9 : i = .invokestatic idx) (hst : stc = true) (hna : k = np) (hl : Cond.methodLink (az_own M.1) idx (az_y C) ∈ az_wg ∨ ∃ host, Cond.methodLinkNest (az_own M.1) idx (az_y C) host ∈ az_nest), W p l e R s m args below meth c H locs cells slots Q (F0 m pc lsA ((b ++ r).map (az_cv ad fo))) := by
      intro hi9 hst hna hl
      subst hi9
      have hn : (a.map (az_cv ad fo)).length = np := by rw [List.length_map, hal, hna]
      rcases hl with hl | ⟨host, hl⟩
      · have cw := callB_of (R := R) (s := s) (args := args) (Ts := az_wg) (own := az_own M.1) (index := idx) (y := az_y C) (bytes := az_by C) (maxL := az_nl C) (ret := az_rt C) (ws := az_wsM C) (ws' := az_wg) (rm := az_rm C) (mc := 0) (ms := 0) np hts hG rfl rfl rfl (hts _ w2) (hts _ hl) ⟨w5, w6, w3⟩ hR
        exact az_on hA hD hS hM (va_runS (As := a.map (az_cv ad fo)) (rest := r.map (az_cv ad fo)) ⟨hx, hb, hml, hown, hts⟩ (hMet H.size) ⟨cw, hts _ (w9 hst)⟩ hpre rfl hn hsz stk hWr hdg hcc) K
      · have cw := va_cnB (R := R) (s := s) (args := args) (Ts := az_wg) (own := az_own M.1) (host := host) (index := idx) (y := az_y C) (bytes := az_by C) (maxL := az_nl C) (ret := az_rt C) (ws := az_wsM C) (ws' := az_wg) (rm := az_rm C) (mc := 0) (ms := 0) np hts hG rfl rfl rfl (hX.2.1 _ hl) (hts _ w2) ⟨w5, w6, w3⟩ hR
        exact az_on hA hD hS hM (va_runSN (As := a.map (az_cv ad fo)) (rest := r.map (az_cv ad fo)) ⟨hx, hb, hml, hown, hts⟩ (hMet H.size) ⟨cw, hts _ (w9 hst), trivial⟩ hpre rfl hn hsz stk hWr hdg hcc) K
    rcases hlink with ⟨q1, q2, q3, q4⟩ | ⟨q1, q2, q3, q4⟩ | ⟨q1, q2, q3, q4⟩ | ⟨q1, q2, q3, q4⟩
    · rcases hi with ⟨hi, -⟩ | ⟨-, hi⟩
      · exact virt hi q2 q3 (Or.inl q4) (by omega)
      · omega
    · rcases hi with ⟨hi, -⟩ | ⟨-, hi⟩
      · exact virt hi q2 q3 (Or.inr q4) (by omega)
      · omega
    · rcases hi with ⟨-, hi⟩ | ⟨hi, -⟩
      · omega
      · exact stat hi q2 q3 (Or.inl q4)
    · rcases hi with ⟨-, hi⟩ | ⟨hi, -⟩
      · omega
      · exact stat hi q2 q3 (Or.inr q4)
  cases i
  case invokevirtual idx =>
    obtain ⟨h1, h2⟩ := az_tagd_ok (show az_tagd true (az_ml M.1 idx) = some (tag, C, k) from hcal)
    exact main idx h1 (Or.inl ⟨rfl, by simpa using h2⟩)
  case invokestatic idx =>
    obtain ⟨h1, h2⟩ := az_tagd_ok (show az_tagd false (az_ml M.1 idx) = some (tag, C, k) from hcal)
    exact main idx h1 (Or.inr ⟨rfl, by simpa using h2⟩)
  all_goals (simp [az_cal] at hcal)
end AZQ
/-- a return -/
theorem az_end {p : Program} {l : Launch} {e : Env} {R : Room} {s : State} {m : MethodId} {args : Array Value} {below : List Frame} {meth : Method} {c : Code} {D : va_G} {ad : Nat → Nat} {cA : Nat → ClassId} {fo : Value} {A : Nat → Prop} {C : az_M} {i : Instr} {n pc : Nat} {ls st : List Value} {h1 : az_H} {v : Option Value} (hx : p.tables.exec = Jvm.exec) (hb : c.code = az_by C) (hr : meth.sig.returnType = az_rt C) (hlocks : meth.locks = false) (hdg : decode (az_by C) pc = .ok (i, n)) (hin : az_insok pc i n = true) (hret : az_ret C i st = some v) (hro : ∀ q, q = (pc, i, n) → (match q.2.1 with
  | .return_ => (match az_rt C with
    | none => true
    | _ => false)
  | .areturn => (match az_rt C with
    | some (.object _) => true
    | _ => false)
  | _ => true) = true) (hA : A = az_A ad s.heap.size) : az_St p l e R s m args below meth c 0 0 (MQ below (az_Qc D ad cA fo v h1 s.heap.size) args s 0 0 (az_A ad s.heap.size)) D ad cA fo A (az_nl C) pc ls st h1 := by
  intro H locs lsA hP hD hS hM
  subst hA
  have hq : ∀ o, o = .returned (v.map (az_cv ad fo)) → ∀ t : State, t.heap = H → s.WarmedH t.vm → az_Qc D ad cA fo v h1 s.heap.size args s o t := fun o ho t ht _ => ⟨ho, by rw [ht]; exact hP, hS.F ht⟩
  unfold az_ret at hret
  split at hret
  · rename_i x
    cases hk : az_rok (az_rt C) x with
    | false => simp only [hk, cond_false] at hret; cases hret
    | true =>
      simp only [hk, cond_true, Option.some.injEq] at hret
      subst hret
      obtain rfl : n = 1 := Nat.eq_of_beq_eq_true hin
      cases hrt : az_rt C with
      | none => rw [hrt] at hk; simp [az_rok] at hk
      | some ty =>
        rw [hrt] at hk hr
        cases ty
        case int => exact W.iret hx hb hr (hq _ rfl) hS.2.2 hdg hlocks
        case boolean =>
          refine W.zret hx hb hr ?_ (hq _ rfl) hS.2.2 hdg hlocks
          simp only [az_rok, Bool.or_eq_true, beq_iff_eq] at hk
          rcases hk with rfl | rfl <;> rfl
        case byte => exact W.zret hx hb hr (of_decide_eq_true hk) (hq _ rfl) hS.2.2 hdg hlocks
        case char => exact W.zret hx hb hr (of_decide_eq_true hk) (hq _ rfl) hS.2.2 hdg hlocks
        all_goals (simp [az_rok] at hk)
  · rename_i k
    simp only [Option.some.injEq] at hret
    subst hret
    obtain rfl : n = 1 := Nat.eq_of_beq_eq_true hin
    have h9 := hro _ rfl
    cases hrt : az_rt C with
    | none => simp [hrt] at h9
    | some ty =>
      rw [hrt] at hr
      cases ty
      case object nm => exact W.aret hx hb hr (Or.inl ⟨nm, rfl⟩) (Or.inr ⟨_, rfl⟩) (hq _ rfl) hS.2.2 hdg hlocks
      all_goals (simp [hrt] at h9)
  · simp only [Option.some.injEq] at hret
    subst hret
    obtain rfl : n = 1 := Nat.eq_of_beq_eq_true hin
    have h9 := hro _ rfl
    cases hrt : az_rt C with
    | none =>
      rw [hrt] at hr
      exact W.vret hx hb hr (hq _ rfl) hS.2.2 hdg hlocks
    | some ty => simp [hrt] at h9
  · cases hret
theorem az_co_at {M : az_M} (hcd : az_codeok M = true) {pc : Nat} {i : Instr} {n : Nat} (hl : az_look (az_cd M) pc = some (i, n)) : decode (az_by M) pc = .ok (i, n) ∧ az_insok pc i n = true ∧ az_room M i = true := by
  have h := List.all_eq_true.mp hcd _ (az_look_in hl)
  simp only [Bool.and_eq_true] at h
  exact ⟨of_decide_eq_true h.1, h.2.1, h.2.2⟩
/-- THE ABSTRACT MACHINE IS SOUND: from where it stands the machine comes to the return that it comes to -/
theorem az_sound (l : Launch) {D : va_G} {ad : Nat → Nat} {cA : Nat → ClassId} {fo : Value} {sc : az_S} : ∀ (f : Nat) (M : az_M), az_codeok M = true → ∀ (pc : Nat) (ls st : List Value) (h : az_H) (v : Option Value) (h1 : az_H), az_ev sc f M pc ls st h = some (v, h1) →
    ∀ {p : Program} {e : Env} {R : Room} {s : State} {m : MethodId} {args : Array Value} {below : List Frame} {meth : Method} {c : Code} {cells slots : Nat} {Q : State → Prop} {A : Nat → Prop}, az_act p R s m args c M → az_X D ad cA fo sc A s s.heap → (∀ q, s.heap.size ≤ q → A q) → cells ≤ R.cells ∧ slots ≤ R.slots →
    (∀ (pc' : Nat) (ls' st' : List Value) (i : Instr) (n : Nat), az_look (az_cd M) pc' = some (i, n) → az_ret M i st' = some v → az_St p l e R s m args below meth c cells slots Q D ad cA fo A (az_nl M) pc' ls' st' h1) →
    az_St p l e R s m args below meth c cells slots Q D ad cA fo A (az_nl M) pc ls st h := by
  intro f
  induction f with
  | zero => intro M hcd pc ls st h v h1 e; simp [az_ev] at e
  | succ f ih =>
    intro M hcd pc ls st h v h1 ev p e R s m args below meth c cells slots Q A act hX hA hcr hret
    rw [az_ev] at ev
    cases hl : az_look (az_cd M) pc with
    | none => simp [hl] at ev
    | some q =>
      obtain ⟨i, n⟩ := q
      obtain ⟨hdg, hin, hro⟩ := az_co_at hcd hl
      simp only [hl] at ev
      cases hc : az_cal M i with
      | none =>
        simp only [hc] at ev
        cases hr : az_ret M i st with
        | some v9 =>
          simp only [hr, Option.some.injEq, Prod.mk.injEq] at ev
          obtain ⟨rfl, rfl⟩ := ev
          exact hret pc ls st i n hl hr
        | none =>
          simp only [hr] at ev
          cases hs : az_stp sc M i n pc ls st h with
          | none => simp [hs] at ev
          | some K =>
            obtain ⟨pc', ls', st', h'⟩ := K
            simp only [hs] at ev
            exact az_stp_ok act hX hcr hdg hin hro hc hs (ih M hcd pc' ls' st' h' v h1 ev act hX hA hcr hret)
      | some t =>
        obtain ⟨tag, C, k⟩ := t
        simp only [hc] at ev
        cases hp : az_pop k [] st with
        | none => simp [hp] at ev
        | some ar =>
          obtain ⟨a, r⟩ := ar
          simp only [hp] at ev
          cases hb9 : (az_rcv C tag a && Nat.ble r.length 8) with
          | false => simp [hb9] at ev
          | true =>
            simp only [hb9, cond_true] at ev
            cases h9 : az_ev sc f C 0 a [] h with
            | none => simp [h9] at ev
            | some vh =>
              obtain ⟨vc, hc1⟩ := vh
              simp only [h9] at ev
              refine az_call act hX hA hcr hdg hin hro hc hp hb9 (hc1 := hc1) (vc := vc) ?_ (ih M hcd (pc + n) ls (vc.toList ++ r) hc1 v h1 ev act hX hA hcr hret)
              have hml : ∃ c9 k9, az_ml c9 k9 = some (tag, C, k) := by
                cases i
                case invokevirtual idx => exact ⟨_, _, (az_tagd_ok (show az_tagd true (az_ml M.1 idx) = some (tag, C, k) from hc)).1⟩
                case invokestatic idx => exact ⟨_, _, (az_tagd_ok (show az_tagd false (az_ml M.1 idx) = some (tag, C, k) from hc)).1⟩
                all_goals (simp [az_cal] at hc)
              obtain ⟨c9, k9, hml⟩ := hml
              obtain ⟨np, stc, ⟨w1, w2, w3, w4, w5, w6, w7, w8, w9, w10⟩, -⟩ := az_ml_ok hml
              have hk : k ≤ az_nl C := by
                simp only [az_room, hc, Bool.and_eq_true] at hro
                exact Nat.le_of_ble_eq_true hro.2.2
              have hal : a.length ≤ az_nl C := by
                obtain ⟨b, hb1, -, hb2⟩ := az_pop_ok k [] st a r hp
                rw [hb2, List.append_nil, List.length_reverse, hb1]
                exact hk
              intro sz
              refine Met.ofW (cc := az_by C) (maxL := az_nl C) (ret := az_rt C) w7 rfl ?_
              intro p2 e2 s2 m2 args2 below2 meth2 c2 s₁ B hml2 hv
              obtain ⟨rfl, hsz, hP, hD0, hX2⟩ := hv
              have hts := atoms_spec (ws := az_wsM C) B.pre
              have hown : s2.vm.findClass (az_own C.1) = some m2.cls := by rw [← w4]; exact findClass_of_methodNamed B.named
              subst hsz
              obtain ⟨lsA, he, hMt⟩ := az_entry hX2.2.2.2.2.2.2.2.2 hal m2
              have hact : az_act p2 (headSpec (az_wsM C) (az_rm C)).room s2 m2 ((a.map (az_cv ad fo)).toArray) c2 C := ⟨B.exec, B.bytes, hml2, hown, fun w hw => hts w (List.mem_cons_of_mem _ hw), Nat.le_refl _, Nat.le_refl _⟩
              rw [he]
              refine ih C w10 0 a [] h vc hc1 h9 hact hX2 (fun q hq => Or.inr hq) ⟨Nat.zero_le _, Nat.zero_le _⟩ ?_ s2.heap [] lsA hP (az_D_A hD0) va_S.rf hMt
              intro pc' ls' st' i' n' hl' hr'
              obtain ⟨hdg', hin', -⟩ := az_co_at w10 hl'
              have hrk := List.all_eq_true.mp (az_rk hml) _ (az_look_in hl')
              exact az_end B.exec B.bytes B.returns B.notSynchronized hdg' hin' hr' (fun q hq => by rw [hq]; exact hrk) rfl
