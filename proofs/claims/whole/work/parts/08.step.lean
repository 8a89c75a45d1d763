/-! EACH STEP of the abstract machine is a step of the machine -/
def az_act (p : Program) (R : Room) (s : State) (m : MethodId) (args : Array Value) (c : Code) (M : az_M) : Prop := p.tables.exec = Jvm.exec ∧ c.code = az_by M ∧ c.maxLocals = az_nl M ∧ s.vm.findClass (az_own M.1) = some m.cls ∧ (∀ w ∈ az_wg, w.before args s = true) ∧ az_fr M ≤ R.frames ∧ az_lo M ≤ R.locals
def az_St (p : Program) (l : Launch) (e : Env) (R : Room) (s : State) (m : MethodId) (args : Array Value) (below : List Frame) (meth : Method) (c : Code) (cells slots : Nat) (Q : State → Prop) (D : va_G) (ad : Nat → Nat) (cA : Nat → ClassId) (fo : Value) (A : Nat → Prop) (nL pc : Nat) (ls st : List Value) (h : az_H) : Prop :=
  ∀ (H : Heap) (locs : List Loc) (lsA : Array Slot), va_P D vwCl (az_ws ad cA h) H → va_D A (az_ws ad cA h) → va_S A s.heap H locs → az_Mt ad fo nL lsA ls → W p l e R s m args below meth c H locs cells slots Q (F0 m pc lsA (st.map (az_cv ad fo)))
theorem az_tgt_ok {pc t : Nat} {off : Int} (h : az_tgt pc off = some t) : (pc : Int) + off = (t : Int) := by
  unfold az_tgt at h
  split at h
  · rename_i t' ht
    cases h
    exact ht
  · cases h
theorem az_jmp_ok {pc : Nat} {off : Int} {ls st : List Value} {h : az_H} {pc' : Nat} {ls' st' : List Value} {h' : az_H} (e : az_jmp pc off ls st h = some (pc', ls', st', h')) : (pc : Int) + off = (pc' : Int) ∧ ls = ls' ∧ st = st' ∧ h = h' := by
  unfold az_jmp at e
  split at e
  · rename_i t ht
    simp only [Option.some.injEq, Prod.mk.injEq] at e
    obtain ⟨rfl, rfl, rfl, rfl⟩ := e
    exact ⟨az_tgt_ok ht, rfl, rfl, rfl⟩
  · cases e
theorem az_oob_in {i : Int32} {n : Nat} (h : az_oob i n = false) : vp_in i n := by
  simp only [az_oob, Bool.or_eq_false_iff, decide_eq_false_iff_not] at h
  rintro (q | q)
  · exact h.1 q
  · rw [Nat.ble_eq_true_of_le q] at h
    exact absurd h.2 (by decide)
theorem az_getf_ok {h : az_H} {ci j k : Nat} {v : Value} (e : az_getf h ci j k = some v) : (∃ fs, az_wd[k]? = some (.inl (ci, fs)) ∧ ((∃ r, fs[j]? = some (some r) ∧ v = .ref r) ∨ (fs[j]? = some none ∧ v = .int (h k j)))) ∨ (ci = 9 ∧ (1000 ≤ k ∧ k ≤ 1006) ∧ ((j = 0 ∧ v = .ref (k + 100)) ∨ (j = 1 ∧ v = .int 0))) := by
  unfold az_getf at e
  split at e
  · rename_i c fs hw
    cases hb : Nat.beq c ci with
    | false => simp [hb] at e
    | true =>
      have := Nat.eq_of_beq_eq_true hb
      subst this
      simp only [hb, cond_true] at e
      refine Or.inl ⟨fs, hw, ?_⟩
      split at e
      · rename_i r hr
        cases e
        exact Or.inl ⟨r, hr, rfl⟩
      · rename_i hr
        cases e
        exact Or.inr ⟨hr, rfl⟩
      · cases e
  · cases e
  · cases hb : (Nat.beq ci 9 && az_isT k) with
    | false => simp [hb] at e
    | true =>
      simp only [hb, cond_true] at e
      simp only [Bool.and_eq_true, az_isT] at hb
      refine Or.inr ⟨Nat.eq_of_beq_eq_true hb.1, ⟨Nat.le_of_ble_eq_true hb.2.1, Nat.le_of_ble_eq_true hb.2.2⟩, ?_⟩
      split at e
      · cases e; exact Or.inl ⟨rfl, rfl⟩
      · cases e; exact Or.inr ⟨rfl, rfl⟩
      · cases e
theorem az_putf_ok {h h' : az_H} {ci j k : Nat} {x : Int32} (e : az_putf h ci j k x = some h') : ∃ fs, az_wd[k]? = some (.inl (ci, fs)) ∧ fs[j]? = some none ∧ h' = az_up h k j x ∧ (az_isZ ci j = true → x = 0 ∨ x = 1) := by
  unfold az_putf at e
  split at e
  · rename_i c fs hw
    cases hb : Nat.beq c ci with
    | false => simp [hb] at e
    | true =>
      have := Nat.eq_of_beq_eq_true hb
      subst this
      simp only [hb, cond_true] at e
      split at e
      · rename_i hr
        refine ⟨fs, hw, hr, ?_⟩
        cases hz : az_isZ c j with
        | true =>
          simp only [hz, cond_true] at e
          cases hx : (x == 0 || x == 1) with
          | false => simp [hx] at e
          | true =>
            simp only [hx, cond_true] at e
            cases e
            simp only [Bool.or_eq_true, beq_iff_eq] at hx
            exact ⟨rfl, fun _ => hx⟩
        | false =>
          simp only [hz, cond_false] at e
          cases e
          exact ⟨rfl, fun q => by cases q⟩
      · cases e
  · cases e
theorem az_txi {q : Nat} (h : 1000 ≤ q ∧ q ≤ 1006) : ∃ i : Nat, i < 7 ∧ q = 1000 + i ∧ q + 100 = 1100 + i := ⟨q - 1000, by omega, by omega, by omega⟩
theorem az_bxi {q : Nat} (h : 1100 ≤ q ∧ q ≤ 1106) : ∃ i : Nat, i < 7 ∧ q = 1100 + i ∧ q - 1100 = i := ⟨q - 1100, by omega, by omega, by omega⟩
theorem az_tlen_eq (i : Nat) : (az_tx.map List.length).getD i 0 = az_tl i := by
  rw [az_tl, List.getD_eq_getElem?_getD, List.getD_eq_getElem?_getD, List.getElem?_map]
  cases az_tx[i]? <;> rfl
theorem az_wok_obj {k ci : Nat} {fs : List (Option Nat)} (hk : az_wd[k]? = some (.inl (ci, fs))) : ci < 9 ∧ fs.length = (az_cl9 ci).2 ∧ ∀ j, fs[j]? = some none → (az_T ci j).2.2.2 = false ∧ ((az_isZ ci j = true ∧ (az_T ci j).2.2.1 = "Z") ∨ (az_isZ ci j = false ∧ (az_T ci j).2.2.1 = "I")) := by
  have h := List.all_eq_true.mp az_wok_ok _ (List.mem_of_getElem? hk)
  simp only [Bool.and_eq_true] at h
  obtain ⟨h1, h2, h3⟩ := h
  have h2' := Nat.eq_of_beq_eq_true h2
  refine ⟨Nat.le_of_ble_eq_true h1, h2', fun j hj => ?_⟩
  have hlt : j < (az_cl9 ci).2 := by rw [← h2']; exact (List.getElem?_eq_some_iff.mp hj).1
  have h4 := List.all_eq_true.mp h3 j (List.mem_range.mpr hlt)
  rw [hj] at h4
  simp only [Bool.and_eq_true, Bool.not_eq_true'] at h4
  refine ⟨h4.1, ?_⟩
  cases hz : az_isZ ci j with
  | true => rw [hz] at h4; exact Or.inl ⟨rfl, of_decide_eq_true h4.2⟩
  | false => rw [hz] at h4; exact Or.inr ⟨rfl, of_decide_eq_true h4.2⟩
theorem az_wok_arr {k t n : Nat} (hk : az_wd[k]? = some (.inr (t, n))) : t < 3 ∧ n < 2147483648 := by
  have h := List.all_eq_true.mp az_wok_ok _ (List.mem_of_getElem? hk)
  simp only [Bool.and_eq_true] at h
  exact ⟨Nat.le_of_ble_eq_true h.1, Nat.le_of_ble_eq_true h.2⟩
theorem az_tys_at {cA : Nat → ClassId} {t : Nat} (ht : t < 3) : (az_tys cA)[t]? = some (cA t, az_fty t) := by
  rcases (show t = 0 ∨ t = 1 ∨ t = 2 by omega) with rfl | rfl | rfl <;> rfl
def az_nn : Cond → Bool
  | .fieldLinkNest _ _ r _ _ _ => decide (r ≠ "java/lang/String")
  | _ => true
theorem az_noN : az_nest.all az_nn = true := by decide +kernel
theorem az_noN9 {a n d host : String} {k : Nat} : ¬ Cond.fieldLinkNest a k "java/lang/String" n d host ∈ az_nest := fun h => by
  have := List.all_eq_true.mp az_noN _ h
  simp [az_nn] at this
section AZP
variable {p : Program} {l : Launch} {e : Env} {R : Room} {s : State} {m : MethodId} {args : Array Value} {below : List Frame} {meth : Method} {c : Code} {cells slots : Nat} {Q : State → Prop} {D : va_G} {ad : Nat → Nat} {cA : Nat → ClassId} {fo : Value} {sc : az_S} {A : Nat → Prop} {M : az_M} {n pc pc' : Nat} {ls ls' st st' : List Value} {h h' : az_H}
theorem az_st_iload_n {i : Fin 4} (act : az_act p R s m args c M) (hX : az_X D ad cA fo sc A s s.heap) (hcr : cells ≤ R.cells ∧ slots ≤ R.slots) (hdg : decode (az_by M) pc = .ok (.iload_n i, n)) (hin : az_insok pc (.iload_n i) n = true) (hro : az_room M (.iload_n i) = true) (hcal : az_cal M (.iload_n i) = none) (hst : az_stp sc M (.iload_n i) n pc ls st h = some (pc', ls', st', h')) (K : az_St p l e R s m args below meth c cells slots Q D ad cA fo A (az_nl M) pc' ls' st' h') : az_St p l e R s m args below meth c cells slots Q D ad cA fo A (az_nl M) pc ls st h := by
  intro H locs lsA hP hD hS hM
  obtain ⟨hx, hb, hml, hown, hts, hfr, hlo⟩ := act
  simp only [az_stp, az_ldi] at hst
  split at hst
  · rename_i x hx'
    simp only [Option.some.injEq, Prod.mk.injEq] at hst
    obtain ⟨rfl, rfl, rfl, rfl⟩ := hst
    have hv := hM.2.2 _ _ hx' (fun z => by simp)
    obtain rfl : n = 1 := Nat.eq_of_beq_eq_true hin
    exact lv_iload_n hx hb hdg rfl hv (K H locs lsA hP hD hS hM)
  · cases hst
theorem az_st_iload {i : Nat} (act : az_act p R s m args c M) (hX : az_X D ad cA fo sc A s s.heap) (hcr : cells ≤ R.cells ∧ slots ≤ R.slots) (hdg : decode (az_by M) pc = .ok (.iload i, n)) (hin : az_insok pc (.iload i) n = true) (hro : az_room M (.iload i) = true) (hcal : az_cal M (.iload i) = none) (hst : az_stp sc M (.iload i) n pc ls st h = some (pc', ls', st', h')) (K : az_St p l e R s m args below meth c cells slots Q D ad cA fo A (az_nl M) pc' ls' st' h') : az_St p l e R s m args below meth c cells slots Q D ad cA fo A (az_nl M) pc ls st h := by
  intro H locs lsA hP hD hS hM
  obtain ⟨hx, hb, hml, hown, hts, hfr, hlo⟩ := act
  simp only [az_stp, az_ldi] at hst
  split at hst
  · rename_i x hx'
    simp only [Option.some.injEq, Prod.mk.injEq] at hst
    obtain ⟨rfl, rfl, rfl, rfl⟩ := hst
    have hv := hM.2.2 _ _ hx' (fun z => by simp)
    obtain rfl : n = 2 := Nat.eq_of_beq_eq_true hin
    exact lv_iload hx hb hdg hv (K H locs lsA hP hD hS hM)
  · cases hst
theorem az_st_aload_n {i : Fin 4} (act : az_act p R s m args c M) (hX : az_X D ad cA fo sc A s s.heap) (hcr : cells ≤ R.cells ∧ slots ≤ R.slots) (hdg : decode (az_by M) pc = .ok (.aload_n i, n)) (hin : az_insok pc (.aload_n i) n = true) (hro : az_room M (.aload_n i) = true) (hcal : az_cal M (.aload_n i) = none) (hst : az_stp sc M (.aload_n i) n pc ls st h = some (pc', ls', st', h')) (K : az_St p l e R s m args below meth c cells slots Q D ad cA fo A (az_nl M) pc' ls' st' h') : az_St p l e R s m args below meth c cells slots Q D ad cA fo A (az_nl M) pc ls st h := by
  intro H locs lsA hP hD hS hM
  obtain ⟨hx, hb, hml, hown, hts, hfr, hlo⟩ := act
  simp only [az_stp, az_ldr] at hst
  split at hst
  · rename_i x hx'
    simp only [Option.some.injEq, Prod.mk.injEq] at hst
    obtain ⟨rfl, rfl, rfl, rfl⟩ := hst
    have hv := hM.2.2 _ _ hx' (fun z => by simp)
    obtain rfl : n = 1 := Nat.eq_of_beq_eq_true hin
    exact lv_aload_n hx hb hdg rfl hv (K H locs lsA hP hD hS hM)
  · cases hst
theorem az_st_aload {i : Nat} (act : az_act p R s m args c M) (hX : az_X D ad cA fo sc A s s.heap) (hcr : cells ≤ R.cells ∧ slots ≤ R.slots) (hdg : decode (az_by M) pc = .ok (.aload i, n)) (hin : az_insok pc (.aload i) n = true) (hro : az_room M (.aload i) = true) (hcal : az_cal M (.aload i) = none) (hst : az_stp sc M (.aload i) n pc ls st h = some (pc', ls', st', h')) (K : az_St p l e R s m args below meth c cells slots Q D ad cA fo A (az_nl M) pc' ls' st' h') : az_St p l e R s m args below meth c cells slots Q D ad cA fo A (az_nl M) pc ls st h := by
  intro H locs lsA hP hD hS hM
  obtain ⟨hx, hb, hml, hown, hts, hfr, hlo⟩ := act
  simp only [az_stp, az_ldr] at hst
  split at hst
  · rename_i x hx'
    simp only [Option.some.injEq, Prod.mk.injEq] at hst
    obtain ⟨rfl, rfl, rfl, rfl⟩ := hst
    have hv := hM.2.2 _ _ hx' (fun z => by simp)
    obtain rfl : n = 2 := Nat.eq_of_beq_eq_true hin
    exact lv_aload hx hb hdg hv (K H locs lsA hP hD hS hM)
  · cases hst
theorem az_st_istore_n {i : Fin 4} (act : az_act p R s m args c M) (hX : az_X D ad cA fo sc A s s.heap) (hcr : cells ≤ R.cells ∧ slots ≤ R.slots) (hdg : decode (az_by M) pc = .ok (.istore_n i, n)) (hin : az_insok pc (.istore_n i) n = true) (hro : az_room M (.istore_n i) = true) (hcal : az_cal M (.istore_n i) = none) (hst : az_stp sc M (.istore_n i) n pc ls st h = some (pc', ls', st', h')) (K : az_St p l e R s m args below meth c cells slots Q D ad cA fo A (az_nl M) pc' ls' st' h') : az_St p l e R s m args below meth c cells slots Q D ad cA fo A (az_nl M) pc ls st h := by
  intro H locs lsA hP hD hS hM
  obtain ⟨hx, hb, hml, hown, hts, hfr, hlo⟩ := act
  simp only [az_stp] at hst
  split at hst
  · cases hlt : Nat.blt i.val (az_nl M) with
    | false => simp [hlt] at hst
    | true =>
      simp only [hlt, cond_true, Option.some.injEq, Prod.mk.injEq] at hst
      obtain ⟨rfl, rfl, rfl, rfl⟩ := hst
      obtain rfl : n = 1 := Nat.eq_of_beq_eq_true hin
      exact lv_istore_n hx hb hdg rfl (az_Mt.has hM) (Nat.le_of_ble_eq_true hlt) rfl (fun ls9 h9 => K H locs ls9 hP hD hS (az_Mt.set hX.2.2.2.2.2.2.2.2 rfl h9))
  · cases hst
theorem az_st_istore {i : Nat} (act : az_act p R s m args c M) (hX : az_X D ad cA fo sc A s s.heap) (hcr : cells ≤ R.cells ∧ slots ≤ R.slots) (hdg : decode (az_by M) pc = .ok (.istore i, n)) (hin : az_insok pc (.istore i) n = true) (hro : az_room M (.istore i) = true) (hcal : az_cal M (.istore i) = none) (hst : az_stp sc M (.istore i) n pc ls st h = some (pc', ls', st', h')) (K : az_St p l e R s m args below meth c cells slots Q D ad cA fo A (az_nl M) pc' ls' st' h') : az_St p l e R s m args below meth c cells slots Q D ad cA fo A (az_nl M) pc ls st h := by
  intro H locs lsA hP hD hS hM
  obtain ⟨hx, hb, hml, hown, hts, hfr, hlo⟩ := act
  simp only [az_stp] at hst
  split at hst
  · cases hlt : Nat.blt i (az_nl M) with
    | false => simp [hlt] at hst
    | true =>
      simp only [hlt, cond_true, Option.some.injEq, Prod.mk.injEq] at hst
      obtain ⟨rfl, rfl, rfl, rfl⟩ := hst
      obtain rfl : n = 2 := Nat.eq_of_beq_eq_true hin
      exact lv_istore hx hb hdg (az_Mt.has hM) (Nat.le_of_ble_eq_true hlt) rfl (fun ls9 h9 => K H locs ls9 hP hD hS (az_Mt.set hX.2.2.2.2.2.2.2.2 rfl h9))
  · cases hst
theorem az_st_astore_n {i : Fin 4} (act : az_act p R s m args c M) (hX : az_X D ad cA fo sc A s s.heap) (hcr : cells ≤ R.cells ∧ slots ≤ R.slots) (hdg : decode (az_by M) pc = .ok (.astore_n i, n)) (hin : az_insok pc (.astore_n i) n = true) (hro : az_room M (.astore_n i) = true) (hcal : az_cal M (.astore_n i) = none) (hst : az_stp sc M (.astore_n i) n pc ls st h = some (pc', ls', st', h')) (K : az_St p l e R s m args below meth c cells slots Q D ad cA fo A (az_nl M) pc' ls' st' h') : az_St p l e R s m args below meth c cells slots Q D ad cA fo A (az_nl M) pc ls st h := by
  intro H locs lsA hP hD hS hM
  obtain ⟨hx, hb, hml, hown, hts, hfr, hlo⟩ := act
  simp only [az_stp] at hst
  split at hst
  · cases hlt : Nat.blt i.val (az_nl M) with
    | false => simp [hlt] at hst
    | true =>
      simp only [hlt, cond_true, Option.some.injEq, Prod.mk.injEq] at hst
      obtain ⟨rfl, rfl, rfl, rfl⟩ := hst
      obtain rfl : n = 1 := Nat.eq_of_beq_eq_true hin
      exact lv_astore_n hx hb hdg rfl (az_Mt.has hM) (Nat.le_of_ble_eq_true hlt) rfl (fun ls9 h9 => K H locs ls9 hP hD hS (az_Mt.set hX.2.2.2.2.2.2.2.2 rfl h9))
  · cases hst
theorem az_st_iinc {i : Nat} {k : Int} (act : az_act p R s m args c M) (hX : az_X D ad cA fo sc A s s.heap) (hcr : cells ≤ R.cells ∧ slots ≤ R.slots) (hdg : decode (az_by M) pc = .ok (.iinc i k, n)) (hin : az_insok pc (.iinc i k) n = true) (hro : az_room M (.iinc i k) = true) (hcal : az_cal M (.iinc i k) = none) (hst : az_stp sc M (.iinc i k) n pc ls st h = some (pc', ls', st', h')) (K : az_St p l e R s m args below meth c cells slots Q D ad cA fo A (az_nl M) pc' ls' st' h') : az_St p l e R s m args below meth c cells slots Q D ad cA fo A (az_nl M) pc ls st h := by
  intro H locs lsA hP hD hS hM
  obtain ⟨hx, hb, hml, hown, hts, hfr, hlo⟩ := act
  simp only [az_stp] at hst
  split at hst
  · rename_i x hx'
    cases hlt : Nat.blt i (az_nl M) with
    | false => simp [hlt] at hst
    | true =>
      simp only [hlt, cond_true, Option.some.injEq, Prod.mk.injEq] at hst
      obtain ⟨rfl, rfl, rfl, rfl⟩ := hst
      obtain rfl : n = 3 := Nat.eq_of_beq_eq_true hin
      obtain ⟨k9, hk9⟩ := List.getElem?_of_mem (az_enc_in (ad := ad) (fo := fo) hx' (fun z => by simp))
      exact lv_iinc hx hb hdg (az_Mt.has hM) hk9 rfl (Nat.le_of_ble_eq_true hlt) rfl (fun ls9 h9 => K H locs ls9 hP hD hS (az_Mt.set hX.2.2.2.2.2.2.2.2 (v := .int (x + Int32.ofInt k)) rfl h9))
  · cases hst
theorem az_st_iconst {i : Int} (act : az_act p R s m args c M) (hX : az_X D ad cA fo sc A s s.heap) (hcr : cells ≤ R.cells ∧ slots ≤ R.slots) (hdg : decode (az_by M) pc = .ok (.iconst i, n)) (hin : az_insok pc (.iconst i) n = true) (hro : az_room M (.iconst i) = true) (hcal : az_cal M (.iconst i) = none) (hst : az_stp sc M (.iconst i) n pc ls st h = some (pc', ls', st', h')) (K : az_St p l e R s m args below meth c cells slots Q D ad cA fo A (az_nl M) pc' ls' st' h') : az_St p l e R s m args below meth c cells slots Q D ad cA fo A (az_nl M) pc ls st h := by
  intro H locs lsA hP hD hS hM
  obtain ⟨hx, hb, hml, hown, hts, hfr, hlo⟩ := act
  simp only [az_stp, Option.some.injEq, Prod.mk.injEq] at hst
  obtain ⟨rfl, rfl, rfl, rfl⟩ := hst
  obtain rfl : n = 1 := Nat.eq_of_beq_eq_true hin
  exact lv_iconst hx hb hdg rfl (K H locs lsA hP hD hS hM)
theorem az_st_bipush {i : Int} (act : az_act p R s m args c M) (hX : az_X D ad cA fo sc A s s.heap) (hcr : cells ≤ R.cells ∧ slots ≤ R.slots) (hdg : decode (az_by M) pc = .ok (.bipush i, n)) (hin : az_insok pc (.bipush i) n = true) (hro : az_room M (.bipush i) = true) (hcal : az_cal M (.bipush i) = none) (hst : az_stp sc M (.bipush i) n pc ls st h = some (pc', ls', st', h')) (K : az_St p l e R s m args below meth c cells slots Q D ad cA fo A (az_nl M) pc' ls' st' h') : az_St p l e R s m args below meth c cells slots Q D ad cA fo A (az_nl M) pc ls st h := by
  intro H locs lsA hP hD hS hM
  obtain ⟨hx, hb, hml, hown, hts, hfr, hlo⟩ := act
  simp only [az_stp, Option.some.injEq, Prod.mk.injEq] at hst
  obtain ⟨rfl, rfl, rfl, rfl⟩ := hst
  obtain rfl : n = 2 := Nat.eq_of_beq_eq_true hin
  exact lv_bipush hx hb hdg rfl (K H locs lsA hP hD hS hM)
theorem az_st_sipush {i : Int} (act : az_act p R s m args c M) (hX : az_X D ad cA fo sc A s s.heap) (hcr : cells ≤ R.cells ∧ slots ≤ R.slots) (hdg : decode (az_by M) pc = .ok (.sipush i, n)) (hin : az_insok pc (.sipush i) n = true) (hro : az_room M (.sipush i) = true) (hcal : az_cal M (.sipush i) = none) (hst : az_stp sc M (.sipush i) n pc ls st h = some (pc', ls', st', h')) (K : az_St p l e R s m args below meth c cells slots Q D ad cA fo A (az_nl M) pc' ls' st' h') : az_St p l e R s m args below meth c cells slots Q D ad cA fo A (az_nl M) pc ls st h := by
  intro H locs lsA hP hD hS hM
  obtain ⟨hx, hb, hml, hown, hts, hfr, hlo⟩ := act
  simp only [az_stp, Option.some.injEq, Prod.mk.injEq] at hst
  obtain ⟨rfl, rfl, rfl, rfl⟩ := hst
  obtain rfl : n = 3 := Nat.eq_of_beq_eq_true hin
  exact lv_sipush hx hb hdg rfl (K H locs lsA hP hD hS hM)
theorem az_st_ldc {k : Nat} (act : az_act p R s m args c M) (hX : az_X D ad cA fo sc A s s.heap) (hcr : cells ≤ R.cells ∧ slots ≤ R.slots) (hdg : decode (az_by M) pc = .ok (.ldc k, n)) (hin : az_insok pc (.ldc k) n = true) (hro : az_room M (.ldc k) = true) (hcal : az_cal M (.ldc k) = none) (hst : az_stp sc M (.ldc k) n pc ls st h = some (pc', ls', st', h')) (K : az_St p l e R s m args below meth c cells slots Q D ad cA fo A (az_nl M) pc' ls' st' h') : az_St p l e R s m args below meth c cells slots Q D ad cA fo A (az_nl M) pc ls st h := by
  intro H locs lsA hP hD hS hM
  obtain ⟨hx, hb, hml, hown, hts, hfr, hlo⟩ := act
  simp only [az_stp] at hst
  split at hst
  · rename_i v hv
    simp only [Option.some.injEq, Prod.mk.injEq] at hst
    obtain ⟨rfl, rfl, rfl, rfl⟩ := hst
    obtain rfl : n = 2 := Nat.eq_of_beq_eq_true hin
    rcases az_ld_ok hv with ⟨x, rfl, hw⟩ | ⟨hc5, tx, a, rfl, hq⟩
    · exact lv_ldc hx hb hown (hts _ hw) hdg (K H locs lsA hP hD hS hM)
    · rw [hc5] at hown
      exact va_ldcS hx hb (own := RX5) hown (hX.2.2.2.2.2.1 _ hq) hdg (K H locs lsA hP hD hS hM)
  · cases hst
theorem az_st_iadd (act : az_act p R s m args c M) (hX : az_X D ad cA fo sc A s s.heap) (hcr : cells ≤ R.cells ∧ slots ≤ R.slots) (hdg : decode (az_by M) pc = .ok (.iadd, n)) (hin : az_insok pc (.iadd) n = true) (hro : az_room M (.iadd) = true) (hcal : az_cal M (.iadd) = none) (hst : az_stp sc M (.iadd) n pc ls st h = some (pc', ls', st', h')) (K : az_St p l e R s m args below meth c cells slots Q D ad cA fo A (az_nl M) pc' ls' st' h') : az_St p l e R s m args below meth c cells slots Q D ad cA fo A (az_nl M) pc ls st h := by
  intro H locs lsA hP hD hS hM
  obtain ⟨hx, hb, hml, hown, hts, hfr, hlo⟩ := act
  simp only [az_stp] at hst
  split at hst
  · simp only [Option.some.injEq, Prod.mk.injEq] at hst
    obtain ⟨rfl, rfl, rfl, rfl⟩ := hst
    obtain rfl : n = 1 := Nat.eq_of_beq_eq_true hin
    exact lv_iadd hx hb hdg (K H locs lsA hP hD hS hM)
  · cases hst
theorem az_st_isub (act : az_act p R s m args c M) (hX : az_X D ad cA fo sc A s s.heap) (hcr : cells ≤ R.cells ∧ slots ≤ R.slots) (hdg : decode (az_by M) pc = .ok (.isub, n)) (hin : az_insok pc (.isub) n = true) (hro : az_room M (.isub) = true) (hcal : az_cal M (.isub) = none) (hst : az_stp sc M (.isub) n pc ls st h = some (pc', ls', st', h')) (K : az_St p l e R s m args below meth c cells slots Q D ad cA fo A (az_nl M) pc' ls' st' h') : az_St p l e R s m args below meth c cells slots Q D ad cA fo A (az_nl M) pc ls st h := by
  intro H locs lsA hP hD hS hM
  obtain ⟨hx, hb, hml, hown, hts, hfr, hlo⟩ := act
  simp only [az_stp] at hst
  split at hst
  · simp only [Option.some.injEq, Prod.mk.injEq] at hst
    obtain ⟨rfl, rfl, rfl, rfl⟩ := hst
    obtain rfl : n = 1 := Nat.eq_of_beq_eq_true hin
    exact lv_isub hx hb hdg (K H locs lsA hP hD hS hM)
  · cases hst
theorem az_st_imul (act : az_act p R s m args c M) (hX : az_X D ad cA fo sc A s s.heap) (hcr : cells ≤ R.cells ∧ slots ≤ R.slots) (hdg : decode (az_by M) pc = .ok (.imul, n)) (hin : az_insok pc (.imul) n = true) (hro : az_room M (.imul) = true) (hcal : az_cal M (.imul) = none) (hst : az_stp sc M (.imul) n pc ls st h = some (pc', ls', st', h')) (K : az_St p l e R s m args below meth c cells slots Q D ad cA fo A (az_nl M) pc' ls' st' h') : az_St p l e R s m args below meth c cells slots Q D ad cA fo A (az_nl M) pc ls st h := by
  intro H locs lsA hP hD hS hM
  obtain ⟨hx, hb, hml, hown, hts, hfr, hlo⟩ := act
  simp only [az_stp] at hst
  split at hst
  · simp only [Option.some.injEq, Prod.mk.injEq] at hst
    obtain ⟨rfl, rfl, rfl, rfl⟩ := hst
    obtain rfl : n = 1 := Nat.eq_of_beq_eq_true hin
    exact lv_imul hx hb hdg (K H locs lsA hP hD hS hM)
  · cases hst
theorem az_st_iand (act : az_act p R s m args c M) (hX : az_X D ad cA fo sc A s s.heap) (hcr : cells ≤ R.cells ∧ slots ≤ R.slots) (hdg : decode (az_by M) pc = .ok (.iand, n)) (hin : az_insok pc (.iand) n = true) (hro : az_room M (.iand) = true) (hcal : az_cal M (.iand) = none) (hst : az_stp sc M (.iand) n pc ls st h = some (pc', ls', st', h')) (K : az_St p l e R s m args below meth c cells slots Q D ad cA fo A (az_nl M) pc' ls' st' h') : az_St p l e R s m args below meth c cells slots Q D ad cA fo A (az_nl M) pc ls st h := by
  intro H locs lsA hP hD hS hM
  obtain ⟨hx, hb, hml, hown, hts, hfr, hlo⟩ := act
  simp only [az_stp] at hst
  split at hst
  · simp only [Option.some.injEq, Prod.mk.injEq] at hst
    obtain ⟨rfl, rfl, rfl, rfl⟩ := hst
    obtain rfl : n = 1 := Nat.eq_of_beq_eq_true hin
    exact lv_iand hx hb hdg (K H locs lsA hP hD hS hM)
  · cases hst
theorem az_st_ior (act : az_act p R s m args c M) (hX : az_X D ad cA fo sc A s s.heap) (hcr : cells ≤ R.cells ∧ slots ≤ R.slots) (hdg : decode (az_by M) pc = .ok (.ior, n)) (hin : az_insok pc (.ior) n = true) (hro : az_room M (.ior) = true) (hcal : az_cal M (.ior) = none) (hst : az_stp sc M (.ior) n pc ls st h = some (pc', ls', st', h')) (K : az_St p l e R s m args below meth c cells slots Q D ad cA fo A (az_nl M) pc' ls' st' h') : az_St p l e R s m args below meth c cells slots Q D ad cA fo A (az_nl M) pc ls st h := by
  intro H locs lsA hP hD hS hM
  obtain ⟨hx, hb, hml, hown, hts, hfr, hlo⟩ := act
  simp only [az_stp] at hst
  split at hst
  · simp only [Option.some.injEq, Prod.mk.injEq] at hst
    obtain ⟨rfl, rfl, rfl, rfl⟩ := hst
    obtain rfl : n = 1 := Nat.eq_of_beq_eq_true hin
    exact lv_ior hx hb hdg (K H locs lsA hP hD hS hM)
  · cases hst
theorem az_st_ishl (act : az_act p R s m args c M) (hX : az_X D ad cA fo sc A s s.heap) (hcr : cells ≤ R.cells ∧ slots ≤ R.slots) (hdg : decode (az_by M) pc = .ok (.ishl, n)) (hin : az_insok pc (.ishl) n = true) (hro : az_room M (.ishl) = true) (hcal : az_cal M (.ishl) = none) (hst : az_stp sc M (.ishl) n pc ls st h = some (pc', ls', st', h')) (K : az_St p l e R s m args below meth c cells slots Q D ad cA fo A (az_nl M) pc' ls' st' h') : az_St p l e R s m args below meth c cells slots Q D ad cA fo A (az_nl M) pc ls st h := by
  intro H locs lsA hP hD hS hM
  obtain ⟨hx, hb, hml, hown, hts, hfr, hlo⟩ := act
  simp only [az_stp] at hst
  split at hst
  · simp only [Option.some.injEq, Prod.mk.injEq] at hst
    obtain ⟨rfl, rfl, rfl, rfl⟩ := hst
    obtain rfl : n = 1 := Nat.eq_of_beq_eq_true hin
    exact lv_ishl hx hb hdg (K H locs lsA hP hD hS hM)
  · cases hst
theorem az_st_ishr (act : az_act p R s m args c M) (hX : az_X D ad cA fo sc A s s.heap) (hcr : cells ≤ R.cells ∧ slots ≤ R.slots) (hdg : decode (az_by M) pc = .ok (.ishr, n)) (hin : az_insok pc (.ishr) n = true) (hro : az_room M (.ishr) = true) (hcal : az_cal M (.ishr) = none) (hst : az_stp sc M (.ishr) n pc ls st h = some (pc', ls', st', h')) (K : az_St p l e R s m args below meth c cells slots Q D ad cA fo A (az_nl M) pc' ls' st' h') : az_St p l e R s m args below meth c cells slots Q D ad cA fo A (az_nl M) pc ls st h := by
  intro H locs lsA hP hD hS hM
  obtain ⟨hx, hb, hml, hown, hts, hfr, hlo⟩ := act
  simp only [az_stp] at hst
  split at hst
  · simp only [Option.some.injEq, Prod.mk.injEq] at hst
    obtain ⟨rfl, rfl, rfl, rfl⟩ := hst
    obtain rfl : n = 1 := Nat.eq_of_beq_eq_true hin
    exact lv_ishr hx hb hdg (K H locs lsA hP hD hS hM)
  · cases hst
theorem az_st_ineg (act : az_act p R s m args c M) (hX : az_X D ad cA fo sc A s s.heap) (hcr : cells ≤ R.cells ∧ slots ≤ R.slots) (hdg : decode (az_by M) pc = .ok (.ineg, n)) (hin : az_insok pc (.ineg) n = true) (hro : az_room M (.ineg) = true) (hcal : az_cal M (.ineg) = none) (hst : az_stp sc M (.ineg) n pc ls st h = some (pc', ls', st', h')) (K : az_St p l e R s m args below meth c cells slots Q D ad cA fo A (az_nl M) pc' ls' st' h') : az_St p l e R s m args below meth c cells slots Q D ad cA fo A (az_nl M) pc ls st h := by
  intro H locs lsA hP hD hS hM
  obtain ⟨hx, hb, hml, hown, hts, hfr, hlo⟩ := act
  simp only [az_stp] at hst
  split at hst
  · simp only [Option.some.injEq, Prod.mk.injEq] at hst
    obtain ⟨rfl, rfl, rfl, rfl⟩ := hst
    obtain rfl : n = 1 := Nat.eq_of_beq_eq_true hin
    exact lv_ineg hx hb hdg (K H locs lsA hP hD hS hM)
  · cases hst
theorem az_st_i2c (act : az_act p R s m args c M) (hX : az_X D ad cA fo sc A s s.heap) (hcr : cells ≤ R.cells ∧ slots ≤ R.slots) (hdg : decode (az_by M) pc = .ok (.i2c, n)) (hin : az_insok pc (.i2c) n = true) (hro : az_room M (.i2c) = true) (hcal : az_cal M (.i2c) = none) (hst : az_stp sc M (.i2c) n pc ls st h = some (pc', ls', st', h')) (K : az_St p l e R s m args below meth c cells slots Q D ad cA fo A (az_nl M) pc' ls' st' h') : az_St p l e R s m args below meth c cells slots Q D ad cA fo A (az_nl M) pc ls st h := by
  intro H locs lsA hP hD hS hM
  obtain ⟨hx, hb, hml, hown, hts, hfr, hlo⟩ := act
  simp only [az_stp] at hst
  split at hst
  · simp only [Option.some.injEq, Prod.mk.injEq] at hst
    obtain ⟨rfl, rfl, rfl, rfl⟩ := hst
    obtain rfl : n = 1 := Nat.eq_of_beq_eq_true hin
    exact lv_i2c hx hb hdg rfl (K H locs lsA hP hD hS hM)
  · cases hst
theorem az_st_i2b (act : az_act p R s m args c M) (hX : az_X D ad cA fo sc A s s.heap) (hcr : cells ≤ R.cells ∧ slots ≤ R.slots) (hdg : decode (az_by M) pc = .ok (.i2b, n)) (hin : az_insok pc (.i2b) n = true) (hro : az_room M (.i2b) = true) (hcal : az_cal M (.i2b) = none) (hst : az_stp sc M (.i2b) n pc ls st h = some (pc', ls', st', h')) (K : az_St p l e R s m args below meth c cells slots Q D ad cA fo A (az_nl M) pc' ls' st' h') : az_St p l e R s m args below meth c cells slots Q D ad cA fo A (az_nl M) pc ls st h := by
  intro H locs lsA hP hD hS hM
  obtain ⟨hx, hb, hml, hown, hts, hfr, hlo⟩ := act
  simp only [az_stp] at hst
  split at hst
  · simp only [Option.some.injEq, Prod.mk.injEq] at hst
    obtain ⟨rfl, rfl, rfl, rfl⟩ := hst
    obtain rfl : n = 1 := Nat.eq_of_beq_eq_true hin
    exact lv_i2b hx hb hdg rfl (K H locs lsA hP hD hS hM)
  · cases hst
theorem az_st_idiv (act : az_act p R s m args c M) (hX : az_X D ad cA fo sc A s s.heap) (hcr : cells ≤ R.cells ∧ slots ≤ R.slots) (hdg : decode (az_by M) pc = .ok (.idiv, n)) (hin : az_insok pc (.idiv) n = true) (hro : az_room M (.idiv) = true) (hcal : az_cal M (.idiv) = none) (hst : az_stp sc M (.idiv) n pc ls st h = some (pc', ls', st', h')) (K : az_St p l e R s m args below meth c cells slots Q D ad cA fo A (az_nl M) pc' ls' st' h') : az_St p l e R s m args below meth c cells slots Q D ad cA fo A (az_nl M) pc ls st h := by
  intro H locs lsA hP hD hS hM
  obtain ⟨hx, hb, hml, hown, hts, hfr, hlo⟩ := act
  simp only [az_stp] at hst
  split at hst
  · rename_i y x r
    by_cases hy : y = 0
    · simp [hy] at hst
    · simp only [hy, decide_false, cond_false, Option.some.injEq, Prod.mk.injEq] at hst
      obtain ⟨rfl, rfl, rfl, rfl⟩ := hst
      obtain rfl : n = 1 := Nat.eq_of_beq_eq_true hin
      exact lv_idiv hx hb hdg hy (K H locs lsA hP hD hS hM)
  · cases hst
theorem az_st_irem (act : az_act p R s m args c M) (hX : az_X D ad cA fo sc A s s.heap) (hcr : cells ≤ R.cells ∧ slots ≤ R.slots) (hdg : decode (az_by M) pc = .ok (.irem, n)) (hin : az_insok pc (.irem) n = true) (hro : az_room M (.irem) = true) (hcal : az_cal M (.irem) = none) (hst : az_stp sc M (.irem) n pc ls st h = some (pc', ls', st', h')) (K : az_St p l e R s m args below meth c cells slots Q D ad cA fo A (az_nl M) pc' ls' st' h') : az_St p l e R s m args below meth c cells slots Q D ad cA fo A (az_nl M) pc ls st h := by
  intro H locs lsA hP hD hS hM
  obtain ⟨hx, hb, hml, hown, hts, hfr, hlo⟩ := act
  simp only [az_stp] at hst
  split at hst
  · rename_i y x r
    by_cases hy : y = 0
    · simp [hy] at hst
    · simp only [hy, decide_false, cond_false, Option.some.injEq, Prod.mk.injEq] at hst
      obtain ⟨rfl, rfl, rfl, rfl⟩ := hst
      obtain rfl : n = 1 := Nat.eq_of_beq_eq_true hin
      exact lv_irem hx hb hdg hy (K H locs lsA hP hD hS hM)
  · cases hst
theorem az_st_dup (act : az_act p R s m args c M) (hX : az_X D ad cA fo sc A s s.heap) (hcr : cells ≤ R.cells ∧ slots ≤ R.slots) (hdg : decode (az_by M) pc = .ok (.dup, n)) (hin : az_insok pc (.dup) n = true) (hro : az_room M (.dup) = true) (hcal : az_cal M (.dup) = none) (hst : az_stp sc M (.dup) n pc ls st h = some (pc', ls', st', h')) (K : az_St p l e R s m args below meth c cells slots Q D ad cA fo A (az_nl M) pc' ls' st' h') : az_St p l e R s m args below meth c cells slots Q D ad cA fo A (az_nl M) pc ls st h := by
  intro H locs lsA hP hD hS hM
  obtain ⟨hx, hb, hml, hown, hts, hfr, hlo⟩ := act
  simp only [az_stp] at hst
  split at hst
  · simp only [Option.some.injEq, Prod.mk.injEq] at hst
    obtain ⟨rfl, rfl, rfl, rfl⟩ := hst
    obtain rfl : n = 1 := Nat.eq_of_beq_eq_true hin
    exact lv_dup hx hb hdg rfl (K H locs lsA hP hD hS hM)
  · simp only [Option.some.injEq, Prod.mk.injEq] at hst
    obtain ⟨rfl, rfl, rfl, rfl⟩ := hst
    obtain rfl : n = 1 := Nat.eq_of_beq_eq_true hin
    exact lv_dup hx hb hdg rfl (K H locs lsA hP hD hS hM)
  · cases hst
theorem az_st_dup2 (act : az_act p R s m args c M) (hX : az_X D ad cA fo sc A s s.heap) (hcr : cells ≤ R.cells ∧ slots ≤ R.slots) (hdg : decode (az_by M) pc = .ok (.dup2, n)) (hin : az_insok pc (.dup2) n = true) (hro : az_room M (.dup2) = true) (hcal : az_cal M (.dup2) = none) (hst : az_stp sc M (.dup2) n pc ls st h = some (pc', ls', st', h')) (K : az_St p l e R s m args below meth c cells slots Q D ad cA fo A (az_nl M) pc' ls' st' h') : az_St p l e R s m args below meth c cells slots Q D ad cA fo A (az_nl M) pc ls st h := by
  intro H locs lsA hP hD hS hM
  obtain ⟨hx, hb, hml, hown, hts, hfr, hlo⟩ := act
  simp only [az_stp] at hst
  split at hst
  · simp only [Option.some.injEq, Prod.mk.injEq] at hst
    obtain ⟨rfl, rfl, rfl, rfl⟩ := hst
    obtain rfl : n = 1 := Nat.eq_of_beq_eq_true hin
    exact lv_dup2_11 hx hb hdg rfl rfl (K H locs lsA hP hD hS hM)
  · cases hst
theorem az_st_pop (act : az_act p R s m args c M) (hX : az_X D ad cA fo sc A s s.heap) (hcr : cells ≤ R.cells ∧ slots ≤ R.slots) (hdg : decode (az_by M) pc = .ok (.pop, n)) (hin : az_insok pc (.pop) n = true) (hro : az_room M (.pop) = true) (hcal : az_cal M (.pop) = none) (hst : az_stp sc M (.pop) n pc ls st h = some (pc', ls', st', h')) (K : az_St p l e R s m args below meth c cells slots Q D ad cA fo A (az_nl M) pc' ls' st' h') : az_St p l e R s m args below meth c cells slots Q D ad cA fo A (az_nl M) pc ls st h := by
  intro H locs lsA hP hD hS hM
  obtain ⟨hx, hb, hml, hown, hts, hfr, hlo⟩ := act
  simp only [az_stp] at hst
  split at hst
  · simp only [Option.some.injEq, Prod.mk.injEq] at hst
    obtain ⟨rfl, rfl, rfl, rfl⟩ := hst
    obtain rfl : n = 1 := Nat.eq_of_beq_eq_true hin
    exact lv_pop hx hb hdg rfl (K H locs lsA hP hD hS hM)
  · cases hst
theorem az_st_goto {off : Int} (act : az_act p R s m args c M) (hX : az_X D ad cA fo sc A s s.heap) (hcr : cells ≤ R.cells ∧ slots ≤ R.slots) (hdg : decode (az_by M) pc = .ok (.goto off, n)) (hin : az_insok pc (.goto off) n = true) (hro : az_room M (.goto off) = true) (hcal : az_cal M (.goto off) = none) (hst : az_stp sc M (.goto off) n pc ls st h = some (pc', ls', st', h')) (K : az_St p l e R s m args below meth c cells slots Q D ad cA fo A (az_nl M) pc' ls' st' h') : az_St p l e R s m args below meth c cells slots Q D ad cA fo A (az_nl M) pc ls st h := by
  intro H locs lsA hP hD hS hM
  obtain ⟨hx, hb, hml, hown, hts, hfr, hlo⟩ := act
  simp only [az_stp] at hst
  obtain ⟨ht, rfl, rfl, rfl⟩ := az_jmp_ok hst
  simp only [az_insok, Bool.and_eq_true] at hin
  obtain rfl : n = 3 := Nat.eq_of_beq_eq_true hin.1
  exact lv_goto hx hb hdg ht (K H locs lsA hP hD hS hM)
theorem az_st_ifCond {k : ClassFile.Cond} {off : Int} (act : az_act p R s m args c M) (hX : az_X D ad cA fo sc A s s.heap) (hcr : cells ≤ R.cells ∧ slots ≤ R.slots) (hdg : decode (az_by M) pc = .ok (.ifCond k off, n)) (hin : az_insok pc (.ifCond k off) n = true) (hro : az_room M (.ifCond k off) = true) (hcal : az_cal M (.ifCond k off) = none) (hst : az_stp sc M (.ifCond k off) n pc ls st h = some (pc', ls', st', h')) (K : az_St p l e R s m args below meth c cells slots Q D ad cA fo A (az_nl M) pc' ls' st' h') : az_St p l e R s m args below meth c cells slots Q D ad cA fo A (az_nl M) pc ls st h := by
  intro H locs lsA hP hD hS hM
  obtain ⟨hx, hb, hml, hown, hts, hfr, hlo⟩ := act
  simp only [az_stp] at hst
  simp only [az_insok, Bool.and_eq_true, decide_eq_true_eq] at hin
  obtain ⟨hn3, hof⟩ := hin
  obtain rfl : n = 3 := Nat.eq_of_beq_eq_true hn3
  split at hst
  · rename_i x r
    cases hc : az_cnd k x 0 with
    | true =>
      simp only [hc, cond_true] at hst
      obtain ⟨ht, rfl, rfl, rfl⟩ := az_jmp_ok hst
      cases k with
      | eq => exact lv_if_eq hx hb hdg ht (fun _ => (K H locs lsA hP hD hS hM)) (fun hn => absurd hn (by simpa [az_cnd] using hc))
      | ne => exact lv_if_ne hx hb hdg ht (fun _ => (K H locs lsA hP hD hS hM)) (fun hn => absurd hn (by simpa [az_cnd] using hc))
      | lt => exact lv_if_lt hx hb hdg ht (fun _ => (K H locs lsA hP hD hS hM)) (fun hn => absurd hn (by simpa [az_cnd] using hc))
      | ge => exact lv_if_ge hx hb hdg ht (fun _ => (K H locs lsA hP hD hS hM)) (fun hn => absurd hn (by simpa [az_cnd] using hc))
      | gt => exact lv_if_gt hx hb hdg ht (fun _ => (K H locs lsA hP hD hS hM)) (fun hn => absurd hn (by simpa [az_cnd] using hc))
      | le => exact lv_if_le hx hb hdg ht (fun _ => (K H locs lsA hP hD hS hM)) (fun hn => absurd hn (by simpa [az_cnd] using hc))
    | false =>
      simp only [hc, cond_false, Option.some.injEq, Prod.mk.injEq] at hst
      obtain ⟨rfl, rfl, rfl, rfl⟩ := hst
      have ht9 : (pc : Int) + off = (((pc : Int) + off).toNat : Int) := (Int.toNat_of_nonneg hof).symm
      cases k with
      | eq => exact lv_if_eq hx hb hdg ht9 (fun hn => absurd hn (by simpa [az_cnd] using hc)) (fun _ => (K H locs lsA hP hD hS hM))
      | ne => exact lv_if_ne hx hb hdg ht9 (fun hn => absurd hn (by simpa [az_cnd] using hc)) (fun _ => (K H locs lsA hP hD hS hM))
      | lt => exact lv_if_lt hx hb hdg ht9 (fun hn => absurd hn (by simpa [az_cnd] using hc)) (fun _ => (K H locs lsA hP hD hS hM))
      | ge => exact lv_if_ge hx hb hdg ht9 (fun hn => absurd hn (by simpa [az_cnd] using hc)) (fun _ => (K H locs lsA hP hD hS hM))
      | gt => exact lv_if_gt hx hb hdg ht9 (fun hn => absurd hn (by simpa [az_cnd] using hc)) (fun _ => (K H locs lsA hP hD hS hM))
      | le => exact lv_if_le hx hb hdg ht9 (fun hn => absurd hn (by simpa [az_cnd] using hc)) (fun _ => (K H locs lsA hP hD hS hM))
  · cases hst
theorem az_st_if_icmp {k : ClassFile.Cond} {off : Int} (act : az_act p R s m args c M) (hX : az_X D ad cA fo sc A s s.heap) (hcr : cells ≤ R.cells ∧ slots ≤ R.slots) (hdg : decode (az_by M) pc = .ok (.if_icmp k off, n)) (hin : az_insok pc (.if_icmp k off) n = true) (hro : az_room M (.if_icmp k off) = true) (hcal : az_cal M (.if_icmp k off) = none) (hst : az_stp sc M (.if_icmp k off) n pc ls st h = some (pc', ls', st', h')) (K : az_St p l e R s m args below meth c cells slots Q D ad cA fo A (az_nl M) pc' ls' st' h') : az_St p l e R s m args below meth c cells slots Q D ad cA fo A (az_nl M) pc ls st h := by
  intro H locs lsA hP hD hS hM
  obtain ⟨hx, hb, hml, hown, hts, hfr, hlo⟩ := act
  simp only [az_stp] at hst
  simp only [az_insok, Bool.and_eq_true, decide_eq_true_eq] at hin
  obtain ⟨hn3, hof⟩ := hin
  obtain rfl : n = 3 := Nat.eq_of_beq_eq_true hn3
  split at hst
  · rename_i y x r
    cases hc : az_cnd k x y with
    | true =>
      simp only [hc, cond_true] at hst
      obtain ⟨ht, rfl, rfl, rfl⟩ := az_jmp_ok hst
      cases k with
      | eq => exact lv_icmp_eq hx hb hdg ht (fun _ => (K H locs lsA hP hD hS hM)) (fun hn => absurd hn (by simpa [az_cnd] using hc))
      | ne => exact lv_icmp_ne hx hb hdg ht (fun _ => (K H locs lsA hP hD hS hM)) (fun hn => absurd hn (by simpa [az_cnd] using hc))
      | lt => exact lv_icmp_lt hx hb hdg ht (fun _ => (K H locs lsA hP hD hS hM)) (fun hn => absurd hn (by simpa [az_cnd] using hc))
      | ge => exact lv_icmp_ge hx hb hdg ht (fun _ => (K H locs lsA hP hD hS hM)) (fun hn => absurd hn (by simpa [az_cnd] using hc))
      | gt => exact lv_icmp_gt hx hb hdg ht (fun _ => (K H locs lsA hP hD hS hM)) (fun hn => absurd hn (by simpa [az_cnd] using hc))
      | le => exact lv_icmp_le hx hb hdg ht (fun _ => (K H locs lsA hP hD hS hM)) (fun hn => absurd hn (by simpa [az_cnd] using hc))
    | false =>
      simp only [hc, cond_false, Option.some.injEq, Prod.mk.injEq] at hst
      obtain ⟨rfl, rfl, rfl, rfl⟩ := hst
      have ht9 : (pc : Int) + off = (((pc : Int) + off).toNat : Int) := (Int.toNat_of_nonneg hof).symm
      cases k with
      | eq => exact lv_icmp_eq hx hb hdg ht9 (fun hn => absurd hn (by simpa [az_cnd] using hc)) (fun _ => (K H locs lsA hP hD hS hM))
      | ne => exact lv_icmp_ne hx hb hdg ht9 (fun hn => absurd hn (by simpa [az_cnd] using hc)) (fun _ => (K H locs lsA hP hD hS hM))
      | lt => exact lv_icmp_lt hx hb hdg ht9 (fun hn => absurd hn (by simpa [az_cnd] using hc)) (fun _ => (K H locs lsA hP hD hS hM))
      | ge => exact lv_icmp_ge hx hb hdg ht9 (fun hn => absurd hn (by simpa [az_cnd] using hc)) (fun _ => (K H locs lsA hP hD hS hM))
      | gt => exact lv_icmp_gt hx hb hdg ht9 (fun hn => absurd hn (by simpa [az_cnd] using hc)) (fun _ => (K H locs lsA hP hD hS hM))
      | le => exact lv_icmp_le hx hb hdg ht9 (fun hn => absurd hn (by simpa [az_cnd] using hc)) (fun _ => (K H locs lsA hP hD hS hM))
  · cases hst
theorem az_st_tableswitch {d lo hi : Int} {offs : Array Int} (act : az_act p R s m args c M) (hX : az_X D ad cA fo sc A s s.heap) (hcr : cells ≤ R.cells ∧ slots ≤ R.slots) (hdg : decode (az_by M) pc = .ok (.tableswitch d lo hi offs, n)) (hin : az_insok pc (.tableswitch d lo hi offs) n = true) (hro : az_room M (.tableswitch d lo hi offs) = true) (hcal : az_cal M (.tableswitch d lo hi offs) = none) (hst : az_stp sc M (.tableswitch d lo hi offs) n pc ls st h = some (pc', ls', st', h')) (K : az_St p l e R s m args below meth c cells slots Q D ad cA fo A (az_nl M) pc' ls' st' h') : az_St p l e R s m args below meth c cells slots Q D ad cA fo A (az_nl M) pc ls st h := by
  intro H locs lsA hP hD hS hM
  obtain ⟨hx, hb, hml, hown, hts, hfr, hlo⟩ := act
  simp only [az_stp] at hst
  split at hst
  · rename_i x r
    cases hc : (decide (x.toInt < lo) || decide (hi < x.toInt)) with
    | true =>
      simp only [hc, cond_true] at hst
      obtain ⟨ht, rfl, rfl, rfl⟩ := az_jmp_ok hst
      simp only [Bool.or_eq_true, decide_eq_true_eq] at hc
      exact lv_tableOut hx hb hdg hc ht (K H locs lsA hP hD hS hM)
    | false =>
      simp only [hc, cond_false] at hst
      simp only [Bool.or_eq_false_iff, decide_eq_false_iff_not] at hc
      split at hst
      · rename_i off ho
        obtain ⟨ht, rfl, rfl, rfl⟩ := az_jmp_ok hst
        exact lv_tableIn hx hb hdg hc.1 hc.2 ho ht (K H locs lsA hP hD hS hM)
      · cases hst
  · cases hst
theorem az_st_lookupswitch {d : Int} {ps : Array (Int × Int)} (act : az_act p R s m args c M) (hX : az_X D ad cA fo sc A s s.heap) (hcr : cells ≤ R.cells ∧ slots ≤ R.slots) (hdg : decode (az_by M) pc = .ok (.lookupswitch d ps, n)) (hin : az_insok pc (.lookupswitch d ps) n = true) (hro : az_room M (.lookupswitch d ps) = true) (hcal : az_cal M (.lookupswitch d ps) = none) (hst : az_stp sc M (.lookupswitch d ps) n pc ls st h = some (pc', ls', st', h')) (K : az_St p l e R s m args below meth c cells slots Q D ad cA fo A (az_nl M) pc' ls' st' h') : az_St p l e R s m args below meth c cells slots Q D ad cA fo A (az_nl M) pc ls st h := by
  intro H locs lsA hP hD hS hM
  obtain ⟨hx, hb, hml, hown, hts, hfr, hlo⟩ := act
  simp only [az_stp] at hst
  split at hst
  · rename_i x r
    cases hc : ((ps.toList.zip (ps.toList.drop 1)).all (fun q => decide (q.1.1 < q.2.1))) with
    | true =>
      simp only [hc, cond_true] at hst
      obtain ⟨ht, rfl, rfl, rfl⟩ := az_jmp_ok hst
      exact lv_lookup hx hb hdg hc rfl ht (K H locs lsA hP hD hS hM)
    | false =>
      simp only [hc, cond_false] at hst
      cases hst
  · cases hst
theorem az_st_getfield {k : Nat} (act : az_act p R s m args c M) (hX : az_X D ad cA fo sc A s s.heap) (hcr : cells ≤ R.cells ∧ slots ≤ R.slots) (hdg : decode (az_by M) pc = .ok (.getfield k, n)) (hin : az_insok pc (.getfield k) n = true) (hro : az_room M (.getfield k) = true) (hcal : az_cal M (.getfield k) = none) (hst : az_stp sc M (.getfield k) n pc ls st h = some (pc', ls', st', h')) (K : az_St p l e R s m args below meth c cells slots Q D ad cA fo A (az_nl M) pc' ls' st' h') : az_St p l e R s m args below meth c cells slots Q D ad cA fo A (az_nl M) pc ls st h := by
  intro H locs lsA hP hD hS hM
  obtain ⟨hx, hb, hml, hown, hts, hfr, hlo⟩ := act
  simp only [az_stp] at hst
  split at hst
  · rename_i ci j q r hfl
    split at hst
    · rename_i v hgv
      simp only [Option.some.injEq, Prod.mk.injEq] at hst
      obtain ⟨rfl, rfl, rfl, rfl⟩ := hst
      obtain rfl : n = 3 := Nat.eq_of_beq_eq_true hin
      rcases az_getf_ok hgv with ⟨fs, hw, hv⟩ | ⟨rfl, hq, hv⟩
      · obtain ⟨hci, hlen, -⟩ := az_wok_obj hw
        obtain ⟨hc, hin9, -, -, hdc⟩ := az_clp_ok ci hci
        have hj : j < (az_cl9 ci).2 := by
          rw [← hlen]
          rcases hv with ⟨r9, h9, -⟩ | ⟨h9, -⟩ <;> exact (List.getElem?_eq_some_iff.mp h9).1
        have hvv : (fs.mapIdx fun j o => az_fv ad h q j o)[j]? = some (az_cv ad fo v) := by
          rcases hv with ⟨r9, h9, rfl⟩ | ⟨h9, rfl⟩ <;> simp [List.getElem?_mapIdx, h9, az_cv, az_fv]
        have hsame : ∀ x, s.fieldFound? (az_T ci j).1 (az_T ci j).2.1 (az_T ci j).2.2.1 = some x → s.fieldFound? (az_own ci) (az_T ci j).2.1 (az_T ci j).2.2.1 = some x := fun x h9 => by rw [hdc j hj] at h9; exact h9
        rcases az_fl_ok hfl with hl | ⟨host, hl⟩
        · exact va_get hx hb hts hin9 hown hX.1 hP q (az_ws_at hw) hc j hj (hts _ hl) hsame hvv hdg (K H locs lsA hP hD hS hM)
        · exact va_getN hx hb hts hin9 hown hX.1 hP q (az_ws_at hw) hc j hj (va_Nw.use rfl (hX.2.1 _ hl)) hsame hvv hdg (K H locs lsA hP hD hS hM)
      · obtain ⟨i9, hi9, hq9, hs9⟩ := az_txi hq
        subst hq9
        obtain ⟨-, hco, hva, -⟩ := hX.2.2.2.2.1.1 i9 hi9
        rcases hv with ⟨rfl, rfl⟩ | ⟨rfl, rfl⟩
        · rcases az_fl_ok hfl with hl | ⟨host, hl⟩
          · have := hts _ hl
            refine vk_getf hx hb hva hS hown (ref := "java/lang/String") this (fun _ h9 => h9) hdg ?_
            have K9 := K H locs lsA hP hD hS hM
            exact (congrArg (fun z => W p l e R s m args below meth c H locs cells slots Q (F0 m (pc + 3) lsA (Value.ref z :: List.map (az_cv ad fo) r))) (congrArg ad hs9)).mp K9
          · exact absurd hl az_noN9
        · rcases az_fl_ok hfl with hl | ⟨host, hl⟩
          · have := hts _ hl
            exact vk_getf hx hb hco hS hown (ref := "java/lang/String") this (fun _ h9 => h9) hdg (K H locs lsA hP hD hS hM)
          · exact absurd hl az_noN9
    · cases hst
  · cases hst
theorem az_st_putfield {k : Nat} (act : az_act p R s m args c M) (hX : az_X D ad cA fo sc A s s.heap) (hcr : cells ≤ R.cells ∧ slots ≤ R.slots) (hdg : decode (az_by M) pc = .ok (.putfield k, n)) (hin : az_insok pc (.putfield k) n = true) (hro : az_room M (.putfield k) = true) (hcal : az_cal M (.putfield k) = none) (hst : az_stp sc M (.putfield k) n pc ls st h = some (pc', ls', st', h')) (K : az_St p l e R s m args below meth c cells slots Q D ad cA fo A (az_nl M) pc' ls' st' h') : az_St p l e R s m args below meth c cells slots Q D ad cA fo A (az_nl M) pc ls st h := by
  intro H locs lsA hP hD hS hM
  obtain ⟨hx, hb, hml, hown, hts, hfr, hlo⟩ := act
  simp only [az_stp] at hst
  split at hst
  · rename_i ci j x q r hfl
    split at hst
    · rename_i h9 hgv
      simp only [Option.some.injEq, Prod.mk.injEq] at hst
      obtain ⟨rfl, rfl, rfl, rfl⟩ := hst
      obtain rfl : n = 3 := Nat.eq_of_beq_eq_true hin
      obtain ⟨fs, hw, hj9, rfl, hz⟩ := az_putf_ok hgv
      obtain ⟨hci, hlen, hfld⟩ := az_wok_obj hw
      obtain ⟨hc, hin9, ⟨ty0, hty⟩, hnm, hdc⟩ := az_clp_ok ci hci
      have hj : j < (az_cl9 ci).2 := by
        rw [← hlen]
        exact (List.getElem?_eq_some_iff.mp hj9).1
      obtain ⟨hfin, hkind⟩ := hfld j hj9
      have hsame : ∀ x, s.fieldFound? (az_T ci j).1 (az_T ci j).2.1 (az_T ci j).2.2.1 = some x → s.fieldFound? (az_own ci) (az_T ci j).2.1 (az_T ci j).2.2.1 = some x := fun x h9 => by rw [hdc j hj] at h9; exact h9
      have hl9 : j < (fs.mapIdx fun j o => az_fv ad h q j o).length := by
        rw [List.length_mapIdx]
        exact (List.getElem?_eq_some_iff.mp hj9).1
      have hty9 : ∃ ty : FieldType, parseFieldDescriptor ((az_T ci) j).2.2.1 = some ty ∧ narrow ty (.int x) = .int x ∧ fits ty (.int x) = true := by
        rcases hkind with ⟨hz9, hd9⟩ | ⟨-, hd9⟩
        · refine ⟨.boolean, by rw [hd9]; decide +kernel, ?_⟩
          rcases hz hz9 with rfl | rfl <;> exact ⟨rfl, rfl⟩
        · exact ⟨.int, by rw [hd9]; decide +kernel, rfl, rfl⟩
      obtain ⟨ty, hd, hn, hfit⟩ := hty9
      have kk : ∀ (H1 : Heap) (locs1 : List Loc), va_P D vwCl ((az_ws ad cA h).set q (ad q, .inr (ci, (fs.mapIdx fun j o => az_fv ad h q j o).set j (.int x)))) H1 → va_D A ((az_ws ad cA h).set q (ad q, .inr (ci, (fs.mapIdx fun j o => az_fv ad h q j o).set j (.int x)))) → va_S A s.heap H1 locs1 → W p l e R s m args below meth c H1 locs1 cells slots Q (F0 m (pc + 3) lsA (r.map (az_cv ad fo))) := by
        intro H1 locs1 hP1 hD1 hS1
        rw [az_ws_set hw (az_cell_obj hj9) (az_ne_obj hw hj9)] at hP1 hD1
        exact K H1 locs1 lsA hP1 hD1 hS1 hM
      rcases az_fl_ok hfl with hl | ⟨host, hl⟩
      · exact va_put hx hb hts hin9 ty0 hty hnm hown hX.1 hP hD hS q (az_ws_at hw) hc j hj (hts _ hl) hsame hfin hd hn hfit hl9 hdg kk
      · exact va_putN hx hb hts hin9 ty0 hty hnm hown hX.1 hP hD hS q (az_ws_at hw) hc j hj (va_Nw.use rfl (hX.2.1 _ hl)) hsame hfin hd hn hfit hl9 hdg kk
    · cases hst
  · cases hst
theorem az_st_getstatic {k : Nat} (act : az_act p R s m args c M) (hX : az_X D ad cA fo sc A s s.heap) (hcr : cells ≤ R.cells ∧ slots ≤ R.slots) (hdg : decode (az_by M) pc = .ok (.getstatic k, n)) (hin : az_insok pc (.getstatic k) n = true) (hro : az_room M (.getstatic k) = true) (hcal : az_cal M (.getstatic k) = none) (hst : az_stp sc M (.getstatic k) n pc ls st h = some (pc', ls', st', h')) (K : az_St p l e R s m args below meth c cells slots Q D ad cA fo A (az_nl M) pc' ls' st' h') : az_St p l e R s m args below meth c cells slots Q D ad cA fo A (az_nl M) pc ls st h := by
  intro H locs lsA hP hD hS hM
  obtain ⟨hx, hb, hml, hown, hts, hfr, hlo⟩ := act
  simp only [az_stp] at hst
  split at hst
  · rename_i v hv
    simp only [Option.some.injEq, Prod.mk.injEq] at hst
    obtain ⟨rfl, rfl, rfl, rfl⟩ := hst
    obtain rfl : n = 3 := Nat.eq_of_beq_eq_true hin
    rcases az_cs_ok hv with ⟨rfl, hw⟩ | ⟨rfl, hw⟩
    · exact va_gets hx hb hX.2.2.2.2.2.2.1 hS hown (hts _ hw) (fun _ h9 => h9) hdg (K H locs lsA hP hD hS hM)
    · exact va_gets hx hb hX.2.2.2.2.2.2.2.1 hS hown (hts _ hw) (fun _ h9 => h9) hdg (K H locs lsA hP hD hS hM)
  · cases hst
theorem az_st_arraylength (act : az_act p R s m args c M) (hX : az_X D ad cA fo sc A s s.heap) (hcr : cells ≤ R.cells ∧ slots ≤ R.slots) (hdg : decode (az_by M) pc = .ok (.arraylength, n)) (hin : az_insok pc (.arraylength) n = true) (hro : az_room M (.arraylength) = true) (hcal : az_cal M (.arraylength) = none) (hst : az_stp sc M (.arraylength) n pc ls st h = some (pc', ls', st', h')) (K : az_St p l e R s m args below meth c cells slots Q D ad cA fo A (az_nl M) pc' ls' st' h') : az_St p l e R s m args below meth c cells slots Q D ad cA fo A (az_nl M) pc ls st h := by
  intro H locs lsA hP hD hS hM
  obtain ⟨hx, hb, hml, hown, hts, hfr, hlo⟩ := act
  simp only [az_stp] at hst
  split at hst
  · rename_i q r
    split at hst
    · rename_i N hN
      simp only [Option.some.injEq, Prod.mk.injEq] at hst
      obtain ⟨rfl, rfl, rfl, rfl⟩ := hst
      obtain rfl : n = 1 := Nat.eq_of_beq_eq_true hin
      unfold az_alen at hN
      split at hN
      · rename_i t N9 hw
        cases hN
        exact va_alen hx hb hX.1 hP q t (az_ws_at hw) (az_tys_at (az_wok_arr hw).1) rfl hdg (K H locs lsA hP hD hS hM)
      · cases hN
      · cases hq : Nat.beq q 2000 with
        | true =>
          simp only [hq, cond_true] at hN
          obtain rfl := Option.some.inj hN
          obtain rfl := Nat.eq_of_beq_eq_true hq
          exact va_slen hx hb hX.2.2.1 hX.2.2.2.1.2 hX.2.2.2.1.1 hS hdg (K H locs lsA hP hD hS hM)
        | false =>
          simp only [hq, cond_false] at hN
          cases hB : az_isB q with
          | false => simp [hB] at hN
          | true =>
            simp only [hB, cond_true] at hN
            obtain rfl := Option.some.inj hN
            simp only [az_isB, Bool.and_eq_true] at hB
            have h1 := Nat.le_of_ble_eq_true hB.1
            have h2 := Nat.le_of_ble_eq_true hB.2
            obtain ⟨i9, hi9, hq9, hs9⟩ := az_bxi ⟨h1, h2⟩
            rw [hs9] at K
            subst hq9
            obtain ⟨-, -, -, hT⟩ := hX.2.2.2.2.1.1 i9 hi9
            exact va_tlen hx hb hT hS (congrArg Int32.ofNat (az_tlen_eq i9)) hdg (K H locs lsA hP hD hS hM)
    · cases hst
  · cases hst
theorem az_st_iaload (act : az_act p R s m args c M) (hX : az_X D ad cA fo sc A s s.heap) (hcr : cells ≤ R.cells ∧ slots ≤ R.slots) (hdg : decode (az_by M) pc = .ok (.iaload, n)) (hin : az_insok pc (.iaload) n = true) (hro : az_room M (.iaload) = true) (hcal : az_cal M (.iaload) = none) (hst : az_stp sc M (.iaload) n pc ls st h = some (pc', ls', st', h')) (K : az_St p l e R s m args below meth c cells slots Q D ad cA fo A (az_nl M) pc' ls' st' h') : az_St p l e R s m args below meth c cells slots Q D ad cA fo A (az_nl M) pc ls st h := by
  intro H locs lsA hP hD hS hM
  obtain ⟨hx, hb, hml, hown, hts, hfr, hlo⟩ := act
  simp only [az_stp] at hst
  split at hst
  · rename_i i q r
    split at hst
    · rename_i v hN
      simp only [Option.some.injEq, Prod.mk.injEq] at hst
      obtain ⟨rfl, rfl, rfl, rfl⟩ := hst
      obtain rfl : n = 1 := Nat.eq_of_beq_eq_true hin
      unfold az_ald at hN
      split at hN
      · rename_i t N9 hw
        cases ht : Nat.beq t 0 with
        | false => simp [ht] at hN
        | true =>
          simp only [ht, cond_true] at hN
          obtain rfl := Nat.eq_of_beq_eq_true ht
          cases ho : az_oob i N9 with
          | true => simp [ho] at hN
          | false =>
            simp only [ho, cond_false] at hN
            cases hN
            exact va_iald hx hb hX.1 hP q 0 (az_ws_at hw) (show (az_tys cA)[0]? = some (cA 0, .int) from rfl) (az_oob_in ho) hdg (K H locs lsA hP hD hS hM)
      · cases hN
      · cases hq : (Nat.beq 0 0 && Nat.beq q 2000) with
        | true =>
          simp only [hq, cond_true] at hN
          simp only [Bool.and_eq_true] at hq
          obtain rfl := Nat.eq_of_beq_eq_true hq.2
          cases ho : az_oob i sc.1 with
          | true => simp [ho] at hN
          | false =>
            simp only [ho, cond_false] at hN
            obtain rfl := Option.some.inj hN
            exact va_sld hx hb hX.2.2.1 hX.2.2.2.1.2 hX.2.2.2.1.1 hS (az_oob_in ho) hdg (K H locs lsA hP hD hS hM)
        | false =>
          have hz : (Nat.beq 0 1 && az_isB q) = false := rfl
          simp only [hq, hz, cond_false] at hN
          cases hN
    · cases hst
  · cases hst
theorem az_st_baload (act : az_act p R s m args c M) (hX : az_X D ad cA fo sc A s s.heap) (hcr : cells ≤ R.cells ∧ slots ≤ R.slots) (hdg : decode (az_by M) pc = .ok (.baload, n)) (hin : az_insok pc (.baload) n = true) (hro : az_room M (.baload) = true) (hcal : az_cal M (.baload) = none) (hst : az_stp sc M (.baload) n pc ls st h = some (pc', ls', st', h')) (K : az_St p l e R s m args below meth c cells slots Q D ad cA fo A (az_nl M) pc' ls' st' h') : az_St p l e R s m args below meth c cells slots Q D ad cA fo A (az_nl M) pc ls st h := by
  intro H locs lsA hP hD hS hM
  obtain ⟨hx, hb, hml, hown, hts, hfr, hlo⟩ := act
  simp only [az_stp] at hst
  split at hst
  · rename_i i q r
    split at hst
    · rename_i v hN
      simp only [Option.some.injEq, Prod.mk.injEq] at hst
      obtain ⟨rfl, rfl, rfl, rfl⟩ := hst
      obtain rfl : n = 1 := Nat.eq_of_beq_eq_true hin
      unfold az_ald at hN
      split at hN
      · rename_i t N9 hw
        cases ht : Nat.beq t 1 with
        | false => simp [ht] at hN
        | true =>
          simp only [ht, cond_true] at hN
          obtain rfl := Nat.eq_of_beq_eq_true ht
          cases ho : az_oob i N9 with
          | true => simp [ho] at hN
          | false =>
            simp only [ho, cond_false] at hN
            cases hN
            exact va_zald hx hb hX.1 hP q 1 (az_ws_at hw) (show (az_tys cA)[1]? = some (cA 1, .boolean) from rfl) (az_oob_in ho) hdg (K H locs lsA hP hD hS hM)
      · cases hN
      · have hz : (Nat.beq 1 0 && Nat.beq q 2000) = false := rfl
        simp only [hz, cond_false] at hN
        cases hB : (Nat.beq 1 1 && az_isB q) with
        | false =>
          simp only [hB, cond_false] at hN
          cases hN
        | true =>
          simp only [hB, cond_true] at hN
          simp only [az_isB, Bool.and_eq_true] at hB
          have h1 := Nat.le_of_ble_eq_true hB.2.1
          have h2 := Nat.le_of_ble_eq_true hB.2.2
          obtain ⟨i9, hi9, hq9, hs9⟩ := az_bxi ⟨h1, h2⟩
          rw [hs9] at hN
          subst hq9
          cases ho : az_oob i (az_tl i9) with
          | true => simp [ho] at hN
          | false =>
            simp only [ho, cond_false] at hN
            cases hN
            obtain ⟨-, -, -, hT⟩ := hX.2.2.2.2.1.1 i9 hi9
            have hin9 := az_oob_in ho
            rw [az_tlen_eq] at hT
            exact va_tb hx hb hT hS hin9 rfl hdg (K H locs lsA hP hD hS hM)
    · cases hst
  · cases hst
theorem az_st_caload (act : az_act p R s m args c M) (hX : az_X D ad cA fo sc A s s.heap) (hcr : cells ≤ R.cells ∧ slots ≤ R.slots) (hdg : decode (az_by M) pc = .ok (.caload, n)) (hin : az_insok pc (.caload) n = true) (hro : az_room M (.caload) = true) (hcal : az_cal M (.caload) = none) (hst : az_stp sc M (.caload) n pc ls st h = some (pc', ls', st', h')) (K : az_St p l e R s m args below meth c cells slots Q D ad cA fo A (az_nl M) pc' ls' st' h') : az_St p l e R s m args below meth c cells slots Q D ad cA fo A (az_nl M) pc ls st h := by
  intro H locs lsA hP hD hS hM
  obtain ⟨hx, hb, hml, hown, hts, hfr, hlo⟩ := act
  simp only [az_stp] at hst
  split at hst
  · rename_i i q r
    split at hst
    · rename_i v hN
      simp only [Option.some.injEq, Prod.mk.injEq] at hst
      obtain ⟨rfl, rfl, rfl, rfl⟩ := hst
      obtain rfl : n = 1 := Nat.eq_of_beq_eq_true hin
      unfold az_ald at hN
      split at hN
      · rename_i t N9 hw
        cases ht : Nat.beq t 2 with
        | false => simp [ht] at hN
        | true =>
          simp only [ht, cond_true] at hN
          obtain rfl := Nat.eq_of_beq_eq_true ht
          cases ho : az_oob i N9 with
          | true => simp [ho] at hN
          | false =>
            simp only [ho, cond_false] at hN
            cases hN
            exact va_cald hx hb hX.1 hP q 2 (az_ws_at hw) (show (az_tys cA)[2]? = some (cA 2, .char) from rfl) (az_oob_in ho) hdg (K H locs lsA hP hD hS hM)
      · cases hN
      · have hz : (Nat.beq 2 0 && Nat.beq q 2000) = false := rfl
        have hz2 : (Nat.beq 2 1 && az_isB q) = false := rfl
        simp only [hz, hz2, cond_false] at hN
        cases hN
    · cases hst
  · cases hst
theorem az_st_iastore (act : az_act p R s m args c M) (hX : az_X D ad cA fo sc A s s.heap) (hcr : cells ≤ R.cells ∧ slots ≤ R.slots) (hdg : decode (az_by M) pc = .ok (.iastore, n)) (hin : az_insok pc (.iastore) n = true) (hro : az_room M (.iastore) = true) (hcal : az_cal M (.iastore) = none) (hst : az_stp sc M (.iastore) n pc ls st h = some (pc', ls', st', h')) (K : az_St p l e R s m args below meth c cells slots Q D ad cA fo A (az_nl M) pc' ls' st' h') : az_St p l e R s m args below meth c cells slots Q D ad cA fo A (az_nl M) pc ls st h := by
  intro H locs lsA hP hD hS hM
  obtain ⟨hx, hb, hml, hown, hts, hfr, hlo⟩ := act
  simp only [az_stp] at hst
  split at hst
  · rename_i x i q r
    split at hst
    · rename_i h9 hN
      simp only [Option.some.injEq, Prod.mk.injEq] at hst
      obtain ⟨rfl, rfl, rfl, rfl⟩ := hst
      obtain rfl : n = 1 := Nat.eq_of_beq_eq_true hin
      unfold az_ast at hN
      split at hN
      · rename_i t N9 hw
        cases ht : Nat.beq t 0 with
        | false => simp [ht] at hN
        | true =>
          simp only [ht, cond_true] at hN
          obtain rfl := Nat.eq_of_beq_eq_true ht
          cases ho : az_oob i N9 with
          | true => simp [ho] at hN
          | false =>
            simp only [ho, cond_false] at hN
            cases hN
            refine va_iast hx hb hX.1 hP hD hS q 0 (az_ws_at hw) (show (az_tys cA)[0]? = some (cA 0, .int) from rfl) (az_oob_in ho) hdg ?_
            intro H1 locs1 hP1 hD1 hS1
            rw [az_ws_set hw (az_cell_arr (x := x)) (az_ne_arr hw)] at hP1 hD1
            exact K H1 locs1 lsA hP1 hD1 hS1 hM
      · cases hN
    · cases hst
  · cases hst
theorem az_st_bastore (act : az_act p R s m args c M) (hX : az_X D ad cA fo sc A s s.heap) (hcr : cells ≤ R.cells ∧ slots ≤ R.slots) (hdg : decode (az_by M) pc = .ok (.bastore, n)) (hin : az_insok pc (.bastore) n = true) (hro : az_room M (.bastore) = true) (hcal : az_cal M (.bastore) = none) (hst : az_stp sc M (.bastore) n pc ls st h = some (pc', ls', st', h')) (K : az_St p l e R s m args below meth c cells slots Q D ad cA fo A (az_nl M) pc' ls' st' h') : az_St p l e R s m args below meth c cells slots Q D ad cA fo A (az_nl M) pc ls st h := by
  intro H locs lsA hP hD hS hM
  obtain ⟨hx, hb, hml, hown, hts, hfr, hlo⟩ := act
  simp only [az_stp] at hst
  split at hst
  · rename_i x i q r
    split at hst
    · rename_i h9 hN
      simp only [Option.some.injEq, Prod.mk.injEq] at hst
      obtain ⟨rfl, rfl, rfl, rfl⟩ := hst
      obtain rfl : n = 1 := Nat.eq_of_beq_eq_true hin
      unfold az_ast at hN
      split at hN
      · rename_i t N9 hw
        cases ht : Nat.beq t 1 with
        | false => simp [ht] at hN
        | true =>
          simp only [ht, cond_true] at hN
          obtain rfl := Nat.eq_of_beq_eq_true ht
          cases ho : az_oob i N9 with
          | true => simp [ho] at hN
          | false =>
            simp only [ho, cond_false] at hN
            cases hN
            refine va_zast hx hb hX.1 hP hD hS q 1 (az_ws_at hw) (show (az_tys cA)[1]? = some (cA 1, .boolean) from rfl) (az_oob_in ho) hdg ?_
            intro H1 locs1 hP1 hD1 hS1
            rw [az_ws_set hw (az_cell_arr (x := (vp_nar .boolean x))) (az_ne_arr hw)] at hP1 hD1
            exact K H1 locs1 lsA hP1 hD1 hS1 hM
      · cases hN
    · cases hst
  · cases hst
theorem az_st_invokestatic {k : Nat} (act : az_act p R s m args c M) (hX : az_X D ad cA fo sc A s s.heap) (hcr : cells ≤ R.cells ∧ slots ≤ R.slots) (hdg : decode (az_by M) pc = .ok (.invokestatic k, n)) (hin : az_insok pc (.invokestatic k) n = true) (hro : az_room M (.invokestatic k) = true) (hcal : az_cal M (.invokestatic k) = none) (hst : az_stp sc M (.invokestatic k) n pc ls st h = some (pc', ls', st', h')) (K : az_St p l e R s m args below meth c cells slots Q D ad cA fo A (az_nl M) pc' ls' st' h') : az_St p l e R s m args below meth c cells slots Q D ad cA fo A (az_nl M) pc ls st h := by
  intro H locs lsA hP hD hS hM
  obtain ⟨hx, hb, hml, hown, hts, hfr, hlo⟩ := act
  simp only [az_stp] at hst
  have hro9 : ∀ b, az_mx M.1 k = some b → 1 ≤ az_fr M ∧ 21 ≤ az_lo M := by
    intro b hb9
    simp only [az_room, hcal, hb9, Bool.and_eq_true] at hro
    exact ⟨Nat.le_of_ble_eq_true hro.1, Nat.le_of_ble_eq_true hro.2⟩
  have hcat : ∀ r : List Value, ((r.map (az_cv ad fo)).map fun v => v.category).sum = r.length := by
    intro r
    induction r with
    | nil => rfl
    | cons a t ih => simp only [List.map_cons, List.sum_cons, ih, az_cv_cat hX.2.2.2.2.2.2.2.2, List.length_cons]; omega
  obtain ⟨⟨w1, w2⟩, ⟨w3, w4⟩, w5⟩ := az_mathw
  have hml9 : c.maxLocals = lsA.size := hml.trans hM.1.symm
  split at hst
  · rename_i y x r hmx
    cases hr : Nat.ble r.length 8 with
    | false => simp [hr] at hst
    | true =>
      simp only [hr, cond_true, Option.some.injEq, Prod.mk.injEq] at hst
      obtain ⟨rfl, rfl, rfl, rfl⟩ := hst
      obtain rfl : n = 3 := Nat.eq_of_beq_eq_true hin
      obtain ⟨hf1, hl1⟩ := hro9 _ hmx
      have hr8 := Nat.le_of_ble_eq_true hr
      rcases az_mx_ok hmx with ⟨-, hw⟩ | ⟨h9, -⟩
      · exact va_mmax hx hb hml9 hown (hts _ hw) (hts _ w1) (hts _ w5) (hts _ w2) (by omega) (by rw [hcat]; omega) hcr.1 hcr.2 hdg (K H locs lsA hP hD hS hM)
      · cases h9
  · rename_i y x r hmx
    cases hr : Nat.ble r.length 8 with
    | false => simp [hr] at hst
    | true =>
      simp only [hr, cond_true, Option.some.injEq, Prod.mk.injEq] at hst
      obtain ⟨rfl, rfl, rfl, rfl⟩ := hst
      obtain rfl : n = 3 := Nat.eq_of_beq_eq_true hin
      obtain ⟨hf1, hl1⟩ := hro9 _ hmx
      have hr8 := Nat.le_of_ble_eq_true hr
      rcases az_mx_ok hmx with ⟨h9, -⟩ | ⟨-, hw⟩
      · cases h9
      · exact va_mmin hx hb hml9 hown (hts _ hw) (hts _ w3) (hts _ w5) (hts _ w4) (by omega) (by rw [hcat]; omega) hcr.1 hcr.2 hdg (K H locs lsA hP hD hS hM)
  · cases hst
theorem az_stp_ok {i : Instr} (act : az_act p R s m args c M) (hX : az_X D ad cA fo sc A s s.heap) (hcr : cells ≤ R.cells ∧ slots ≤ R.slots) (hdg : decode (az_by M) pc = .ok (i, n)) (hin : az_insok pc i n = true) (hro : az_room M i = true) (hcal : az_cal M i = none) (hst : az_stp sc M i n pc ls st h = some (pc', ls', st', h')) (K : az_St p l e R s m args below meth c cells slots Q D ad cA fo A (az_nl M) pc' ls' st' h') : az_St p l e R s m args below meth c cells slots Q D ad cA fo A (az_nl M) pc ls st h := by
  cases i
  case iload_n => exact az_st_iload_n act hX hcr hdg hin hro hcal hst K
  case iload => exact az_st_iload act hX hcr hdg hin hro hcal hst K
  case aload_n => exact az_st_aload_n act hX hcr hdg hin hro hcal hst K
  case aload => exact az_st_aload act hX hcr hdg hin hro hcal hst K
  case istore_n => exact az_st_istore_n act hX hcr hdg hin hro hcal hst K
  case istore => exact az_st_istore act hX hcr hdg hin hro hcal hst K
  case astore_n => exact az_st_astore_n act hX hcr hdg hin hro hcal hst K
  case iinc => exact az_st_iinc act hX hcr hdg hin hro hcal hst K
  case iconst => exact az_st_iconst act hX hcr hdg hin hro hcal hst K
  case bipush => exact az_st_bipush act hX hcr hdg hin hro hcal hst K
  case sipush => exact az_st_sipush act hX hcr hdg hin hro hcal hst K
  case ldc => exact az_st_ldc act hX hcr hdg hin hro hcal hst K
  case iadd => exact az_st_iadd act hX hcr hdg hin hro hcal hst K
  case isub => exact az_st_isub act hX hcr hdg hin hro hcal hst K
  case imul => exact az_st_imul act hX hcr hdg hin hro hcal hst K
  case iand => exact az_st_iand act hX hcr hdg hin hro hcal hst K
  case ior => exact az_st_ior act hX hcr hdg hin hro hcal hst K
  case ishl => exact az_st_ishl act hX hcr hdg hin hro hcal hst K
  case ishr => exact az_st_ishr act hX hcr hdg hin hro hcal hst K
  case ineg => exact az_st_ineg act hX hcr hdg hin hro hcal hst K
  case i2c => exact az_st_i2c act hX hcr hdg hin hro hcal hst K
  case i2b => exact az_st_i2b act hX hcr hdg hin hro hcal hst K
  case idiv => exact az_st_idiv act hX hcr hdg hin hro hcal hst K
  case irem => exact az_st_irem act hX hcr hdg hin hro hcal hst K
  case dup => exact az_st_dup act hX hcr hdg hin hro hcal hst K
  case dup2 => exact az_st_dup2 act hX hcr hdg hin hro hcal hst K
  case pop => exact az_st_pop act hX hcr hdg hin hro hcal hst K
  case goto => exact az_st_goto act hX hcr hdg hin hro hcal hst K
  case ifCond => exact az_st_ifCond act hX hcr hdg hin hro hcal hst K
  case if_icmp => exact az_st_if_icmp act hX hcr hdg hin hro hcal hst K
  case tableswitch => exact az_st_tableswitch act hX hcr hdg hin hro hcal hst K
  case lookupswitch => exact az_st_lookupswitch act hX hcr hdg hin hro hcal hst K
  case getfield => exact az_st_getfield act hX hcr hdg hin hro hcal hst K
  case putfield => exact az_st_putfield act hX hcr hdg hin hro hcal hst K
  case getstatic => exact az_st_getstatic act hX hcr hdg hin hro hcal hst K
  case arraylength => exact az_st_arraylength act hX hcr hdg hin hro hcal hst K
  case iaload => exact az_st_iaload act hX hcr hdg hin hro hcal hst K
  case baload => exact az_st_baload act hX hcr hdg hin hro hcal hst K
  case caload => exact az_st_caload act hX hcr hdg hin hro hcal hst K
  case iastore => exact az_st_iastore act hX hcr hdg hin hro hcal hst K
  case bastore => exact az_st_bastore act hX hcr hdg hin hro hcal hst K
  case invokestatic => exact az_st_invokestatic act hX hcr hdg hin hro hcal hst K
  all_goals (simp [az_stp] at hst)
end AZP
