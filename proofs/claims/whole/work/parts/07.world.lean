/-! THE WORLD behind the abstract machine, and what never changes -/
/-- what an abstract value stands for -/
def az_cv (ad : Nat → Nat) (fo : Value) : Value → Value
  | .int x => .int x
  | .ref k => .ref (ad k)
  | .retAddr _ => fo
  | _ => .null
def az_fv (ad : Nat → Nat) (h : az_H) (k j : Nat) : Option Nat → Value
  | some r => .ref (ad r)
  | none => .int (h k j)
def az_cell (ad : Nat → Nat) (cA : Nat → ClassId) (h : az_H) (k : Nat) : az_kd → va_E
  | .inl (ci, fs) => .inr (ci, fs.mapIdx fun j o => az_fv ad h k j o)
  | .inr (t, n) => .inl (cA t, n, .inl fun j => h (az_vk k) (az_vj k j))
def az_ws (ad : Nat → Nat) (cA : Nat → ClassId) (h : az_H) : va_W := az_wd.mapIdx fun k kd => (ad k, az_cell ad cA h k kd)
theorem az_ws_at {ad : Nat → Nat} {cA : Nat → ClassId} {h : az_H} {k : Nat} {kd : az_kd} (hk : az_wd[k]? = some kd) : (az_ws ad cA h)[k]? = some (ad k, az_cell ad cA h k kd) := by
  simp [az_ws, List.getElem?_mapIdx, hk]
theorem az_ws_none {ad : Nat → Nat} {cA : Nat → ClassId} {h : az_H} {k : Nat} (hk : az_wd[k]? = none) : (az_ws ad cA h)[k]? = none := by
  simp only [az_ws, List.getElem?_mapIdx, hk, Option.map_none]
def az_wdck (k : Nat) : Bool := match az_wd[k]? with
  | some (.inl (_, fs)) => Nat.blt k 75 && Nat.blt fs.length 100
  | some (.inr _) => Nat.blt k 75 || (Nat.blt (az_vk k) 75 && (match az_wd[az_vk k]? with
    | some (.inl _) => true
    | _ => false))
  | none => false
theorem az_wd_len : az_wd.length = 78 := rfl
theorem az_wdck_all : (List.range 78).all az_wdck = true := by decide +kernel
theorem az_wdck_at {k : Nat} {kd : az_kd} (hk : az_wd[k]? = some kd) : az_wdck k = true := by
  have h1 : k < 78 := by rw [← az_wd_len]; exact (List.getElem?_eq_some_iff.mp hk).1
  exact List.all_eq_true.mp az_wdck_all k (List.mem_range.mpr h1)
theorem az_wd_obj {k ci : Nat} {fs : List (Option Nat)} (hk : az_wd[k]? = some (.inl (ci, fs))) : k < 75 ∧ fs.length < 100 := by
  have := az_wdck_at hk
  simp only [az_wdck, hk, Bool.and_eq_true, Nat.blt_eq] at this
  exact this
/-- an array lies in its own cell, or from place 100 on in an object's -/
theorem az_wd_arr {k t n : Nat} (hk : az_wd[k]? = some (.inr (t, n))) : k < 75 ∨ (75 ≤ k ∧ k < 78 ∧ ∃ ci fs, az_wd[az_vk k]? = some (.inl (ci, fs))) := by
  have := az_wdck_at hk
  have h1 : k < 78 := by rw [← az_wd_len]; exact (List.getElem?_eq_some_iff.mp hk).1
  simp only [az_wdck, hk, Bool.or_eq_true, Bool.and_eq_true, Nat.blt_eq] at this
  rcases Nat.lt_or_ge k 75 with h2 | h2
  · exact Or.inl h2
  · refine Or.inr ⟨h2, h1, ?_⟩
    rcases this with h3 | ⟨-, h3⟩
    · omega
    · cases hv : az_wd[az_vk k]? with
      | none => simp [hv] at h3
      | some kd =>
        rcases kd with ⟨ci, fs⟩ | q
        · exact ⟨ci, fs, rfl⟩
        · simp [hv] at h3
theorem az_up_at {h : az_H} {k j a i : Nat} {x : Int32} (hn : a ≠ k ∨ i ≠ j) : az_up h k j x a i = h a i := by
  unfold az_up
  split
  · rename_i e
    subst e
    rcases hn with h1 | h1
    · exact absurd rfl h1
    · simp [upd, h1]
  · rfl
theorem az_cell_eq {ad : Nat → Nat} {cA : Nat → ClassId} {h h' : az_H} {a : Nat} {kd : az_kd} (ho : ∀ ci fs, kd = .inl (ci, fs) → ∀ j, j < fs.length → h' a j = h a j) (hr : ∀ q, kd = .inr q → ∀ j, h' (az_vk a) (az_vj a j) = h (az_vk a) (az_vj a j)) : az_cell ad cA h' a kd = az_cell ad cA h a kd := by
  rcases kd with ⟨ci, fs⟩ | ⟨t, n⟩
  · show Sum.inr (ci, _) = Sum.inr (ci, _)
    congr 2
    apply List.ext_getElem?
    intro i
    simp only [List.getElem?_mapIdx]
    cases hf : fs[i]? with
    | none => rfl
    | some o =>
      have hl : i < fs.length := (List.getElem?_eq_some_iff.mp hf).1
      cases o with
      | some r => rfl
      | none => simp [az_fv, ho ci fs rfl i hl]
  · show Sum.inl (cA t, n, _) = Sum.inl (cA t, n, _)
    congr 3
    exact congrArg Sum.inl (funext fun j => hr _ rfl j)
theorem az_blt_ge {k : Nat} (hk : 75 ≤ k) : Nat.blt k 75 = false := by
  cases h : Nat.blt k 75 with
  | false => rfl
  | true => exact absurd (Nat.blt_eq.mp h) (by omega)
theorem az_vk_ge {k : Nat} (hk : 75 ≤ k) : az_vk k = 15 * (k - 75) + 1 := by rw [az_vk, az_blt_ge hk]; rfl
theorem az_vj_ge {k j : Nat} (hk : 75 ≤ k) : az_vj k j = 100 + j := by rw [az_vj, az_blt_ge hk]; rfl
theorem az_ne_obj {ad : Nat → Nat} {cA : Nat → ClassId} {h : az_H} {k j ci : Nat} {x : Int32} {fs : List (Option Nat)} (hk : az_wd[k]? = some (.inl (ci, fs))) (hj : fs[j]? = some none) : ∀ a kd', az_wd[a]? = some kd' → a ≠ k → az_cell ad cA (az_up h k j x) a kd' = az_cell ad cA h a kd' := by
  intro a kd' ha hn
  have h1 := (az_wd_obj hk).2
  have h2 : j < fs.length := (List.getElem?_eq_some_iff.mp hj).1
  refine az_cell_eq (fun ci' fs' e i hi => az_up_at (Or.inl hn)) (fun q e i => ?_)
  subst e
  obtain ⟨t, n⟩ := q
  rcases az_wd_arr ha with h3 | ⟨h3, -, -⟩
  · rw [az_vk_lt h3]
    exact az_up_at (Or.inl hn)
  · rw [az_vj_ge h3]
    exact az_up_at (Or.inr (by omega))
theorem az_ne_arr {ad : Nat → Nat} {cA : Nat → ClassId} {h : az_H} {k j t n : Nat} {x : Int32} (hk : az_wd[k]? = some (.inr (t, n))) : ∀ a kd', az_wd[a]? = some kd' → a ≠ k → az_cell ad cA (az_up h (az_vk k) (az_vj k j) x) a kd' = az_cell ad cA h a kd' := by
  intro a kd' ha hn
  rcases az_wd_arr hk with h1 | ⟨h1, h1', ci, fs, h2⟩
  · rw [az_vk_lt h1, az_vj_lt h1]
    refine az_cell_eq (fun ci' fs' e i hi => az_up_at (Or.inl hn)) (fun q e i => ?_)
    subst e
    obtain ⟨t', n'⟩ := q
    rcases az_wd_arr ha with h3 | ⟨h3, -, ci, fs, h4⟩
    · rw [az_vk_lt h3]
      exact az_up_at (Or.inl hn)
    · refine az_up_at (Or.inl fun e => ?_)
      rw [e, hk] at h4
      cases h4
  · rw [az_vj_ge h1]
    refine az_cell_eq (fun ci' fs' e i hi => ?_) (fun q e i => ?_)
    · subst e
      have := (az_wd_obj ha).2
      exact az_up_at (Or.inr (by omega))
    · subst e
      obtain ⟨t', n'⟩ := q
      rcases az_wd_arr ha with h3 | ⟨h3, h3', -⟩
      · rw [az_vk_lt h3]
        refine az_up_at (Or.inl fun e => ?_)
        rw [← e, ha] at h2
        cases h2
      · rw [az_vk_ge h1, az_vk_ge h3]
        exact az_up_at (Or.inl (by omega))
theorem az_ws_set {ad : Nat → Nat} {cA : Nat → ClassId} {h h' : az_H} {k : Nat} {kd : az_kd} {e : va_E} (hk : az_wd[k]? = some kd) (he : az_cell ad cA h' k kd = e) (hn : ∀ a kd', az_wd[a]? = some kd' → a ≠ k → az_cell ad cA h' a kd' = az_cell ad cA h a kd') : (az_ws ad cA h).set k (ad k, e) = az_ws ad cA h' := by
  subst he
  apply List.ext_getElem?
  intro a
  by_cases ha : a = k
  · subst ha
    rw [az_ws_at hk, List.getElem?_set_self]
    have := az_ws_at (ad := ad) (cA := cA) (h := h) hk
    exact (List.getElem?_eq_some_iff.mp this).1
  · rw [List.getElem?_set_ne (Ne.symm ha)]
    cases hw : az_wd[a]? with
    | none => rw [az_ws_none hw, az_ws_none hw]
    | some kd' => rw [az_ws_at hw, az_ws_at hw, hn a kd' hw ha]
theorem az_cell_obj {ad : Nat → Nat} {cA : Nat → ClassId} {h : az_H} {k j ci : Nat} {x : Int32} {fs : List (Option Nat)} (hj : fs[j]? = some none) : az_cell ad cA (az_up h k j x) k (.inl (ci, fs)) = .inr (ci, (fs.mapIdx fun j o => az_fv ad h k j o).set j (.int x)) := by
  show Sum.inr (ci, _) = Sum.inr (ci, _)
  congr 2
  apply List.ext_getElem?
  intro a
  by_cases ha : a = j
  · subst ha
    rw [List.getElem?_set_self (by rw [List.length_mapIdx]; exact (List.getElem?_eq_some_iff.mp hj).1)]
    simp [List.getElem?_mapIdx, hj, az_up, upd, az_fv]
  · rw [List.getElem?_set_ne (Ne.symm ha)]
    simp only [List.getElem?_mapIdx]
    cases fs[a]? with
    | none => rfl
    | some o => cases o <;> simp [az_up, upd, ha, az_fv]
theorem az_cell_arr {ad : Nat → Nat} {cA : Nat → ClassId} {h : az_H} {k j t n : Nat} {x : Int32} : az_cell ad cA (az_up h (az_vk k) (az_vj k j) x) k (.inr (t, n)) = .inl (cA t, n, .inl (upd (fun i => h (az_vk k) (az_vj k i)) j x)) := by
  show Sum.inl (cA t, n, _) = Sum.inl (cA t, n, _)
  congr 3
  refine congrArg Sum.inl (funext fun i => ?_)
  by_cases e : i = j
  · subst e
    simp [az_up, upd]
  · have e2 : az_vj k i ≠ az_vj k j := by
      rcases Nat.lt_or_ge k 75 with h1 | h1
      · rw [az_vj_lt h1, az_vj_lt h1]; exact e
      · rw [az_vj_ge h1, az_vj_ge h1]; omega
    rw [az_up_at (Or.inr e2)]
    simp [upd, e]
def az_tys (cA : Nat → ClassId) : List (ClassId × FieldType) := [(cA 0, .int), (cA 1, .boolean), (cA 2, .char)]
/-- the cells that a method may change -/
def az_A (ad : Nat → Nat) (sz : Nat) : Nat → Prop := fun q => (∃ k, k < 78 ∧ q = ad k) ∨ sz ≤ q
/-- what never changes: classes, nest words, the script, the texts, two statics -/
def az_X (D : va_G) (ad : Nat → Nat) (cA : Nat → ClassId) (fo : Value) (sc : az_S) (A : Nat → Prop) (U : State) (H : Heap) : Prop :=
  va_K D vwCl (az_tys cA) U ∧ (∀ w ∈ az_nest, va_Nw w U) ∧ va_X (ad 2000) sc.1 sc.2 U H ∧ (¬ A (ad 2000) ∧ ad 2000 < H.size) ∧
  vk_S 7 (az_tx.map List.length) az_tx (fun j => ad (1000 + j)) (fun j => ad (1100 + j)) A U H ∧ (∀ q ∈ az_txr, vk_R RX5 q.1 q.2.1 (ad q.2.2) U) ∧
  va_Z "java/lang/String" "COMPACT_STRINGS" "Z" (.int 1) A U H ∧ va_Z "jdk/internal/util/Preconditions" "SIOOBE_FORMATTER" "Ljava/util/function/BiFunction;" fo A U H ∧ (fo = .null ∨ ∃ t, fo = .ref t)
theorem az_nest_is : ∀ w ∈ az_nest, az_isN w = true := fun w h => (List.mem_filter.mp h).2
theorem az_Nw_warm {w : Cond} (hn : az_isN w = true) {s U : State} (hW : s.WarmedH U.vm) (h : va_Nw w s) : va_Nw w U := by
  cases w <;> first | exact va_Nw.warmF hW h | exact va_Nw.warmM hW h | (simp [az_isN] at hn; done)
theorem az_X.moved {D : va_G} {ad : Nat → Nat} {cA : Nat → ClassId} {fo : Value} {sc : az_S} {A : Nat → Prop} {s U : State} {H : Heap} (hW : s.WarmedH U.vm) (h : az_X D ad cA fo sc A s H) : az_X D ad cA fo sc A U H := by
  obtain ⟨h1, h2, h3, h4, h5, h6, h7, h8, h9⟩ := h
  exact ⟨va_K.moved hW.alike h1, fun w hw => az_Nw_warm (az_nest_is w hw) hW (h2 w hw), va_X.moved hW.alike h3, h4, vk_S.moved hW.alike h5, fun q hq => vk_R.warm hW (h6 q hq), va_Z.moved hW.alike h7, va_Z.moved hW.alike h8, h9⟩
theorem az_Nw_vm {w : Cond} (hn : az_isN w = true) {s U : State} (hv : s.vm = U.vm) (h : va_Nw w s) : va_Nw w U := by
  cases w <;> first | exact va_Nw.same rfl hv h | (simp [az_isN] at hn; done)
theorem az_X.vm {D : va_G} {ad : Nat → Nat} {cA : Nat → ClassId} {fo : Value} {sc : az_S} {A : Nat → Prop} {s U : State} {H : Heap} (hv : s.vm = U.vm) (h : az_X D ad cA fo sc A s H) : az_X D ad cA fo sc A U H := by
  obtain ⟨h1, h2, h3, h4, h5, h6, h7, h8, h9⟩ := h
  have ha : s.vm.Alike U.vm := by rw [hv]; exact Vm.Alike.refl U.vm
  exact ⟨va_K.moved ha h1, fun w hw => az_Nw_vm (az_nest_is w hw) hv (h2 w hw), va_X.moved ha h3, h4, vk_S.moved ha h5, fun q hq => vk_R.same hv.symm (h6 q hq), va_Z.moved ha h7, va_Z.moved ha h8, h9⟩
theorem az_X.kept {D : va_G} {ad : Nat → Nat} {cA : Nat → ClassId} {fo : Value} {sc : az_S} {A : Nat → Prop} {U : State} {H H1 : Heap} (h : az_X D ad cA fo sc A U H) (hz : H.size ≤ H1.size) (hq : ∀ a : Nat, a < H.size → ¬ A a → H1[a]? = H[a]?) : az_X D ad cA fo sc A U H1 := by
  obtain ⟨h1, h2, h3, h4, h5, h6, h7, h8, h9⟩ := h
  exact ⟨h1, h2, va_X.kept h3 (hq _ h4.2 h4.1), ⟨h4.1, Nat.lt_of_lt_of_le h4.2 hz⟩, vk_S.kept h5 hq, h6, va_Z.kept h7 hq, va_Z.kept h8 hq, h9⟩
theorem az_X.narrow {D : va_G} {ad : Nat → Nat} {cA : Nat → ClassId} {fo : Value} {sc : az_S} {A B : Nat → Prop} {U : State} {H : Heap} (h : az_X D ad cA fo sc A U H) (hAB : ∀ q, B q → A q) : az_X D ad cA fo sc B U H := by
  obtain ⟨h1, h2, h3, h4, h5, h6, h7, h8, h9⟩ := h
  exact ⟨h1, h2, h3, ⟨fun q => h4.1 (hAB _ q), h4.2⟩, vk_S.narrow h5 hAB, h6, va_Z.narrow h7 hAB, va_Z.narrow h8 hAB, h9⟩
/-! locals -/
def az_Mt (ad : Nat → Nat) (fo : Value) (nL : Nat) (lsA : Array Slot) (ls : List Value) : Prop := lsA.size = nL ∧ lv_wf lsA ∧ ∀ (i : Nat) (v : Value), ls[i]? = some v → (∀ z, v ≠ .long z) → lsA[i]? = some (.val (az_cv ad fo v))
theorem az_cv_cat {ad : Nat → Nat} {fo : Value} (hf : fo = .null ∨ ∃ t, fo = .ref t) (v : Value) : (az_cv ad fo v).category = 1 := by
  have : fo.category = 1 := by rcases hf with rfl | ⟨t, rfl⟩ <;> rfl
  cases v <;> first | rfl | exact this
def az_enc (ad : Nat → Nat) (fo : Value) (ls : List Value) : List (Nat × Value) := ((List.range ls.length).filterMap fun i => match (ls[i]? : Option Value) with
  | some (Value.long _) => none
  | some v => some (i, az_cv ad fo v)
  | none => (none : Option (Nat × Value)))
theorem az_enc_in {ad : Nat → Nat} {fo : Value} {ls : List Value} {i : Nat} {v : Value} (h : ls[i]? = some v) (hv : ∀ z, v ≠ .long z) : (i, az_cv ad fo v) ∈ az_enc ad fo ls := by
  refine List.mem_filterMap.mpr ⟨i, List.mem_range.mpr (List.getElem?_eq_some_iff.mp h).1, ?_⟩
  rw [h]
  cases v <;> first | rfl | exact absurd rfl (hv _)
theorem az_enc_of {ad : Nat → Nat} {fo : Value} {ls : List Value} {q : Nat × Value} (h : q ∈ az_enc ad fo ls) : ∃ v, ls[q.1]? = some v ∧ (∀ z, v ≠ .long z) ∧ q.2 = az_cv ad fo v := by
  obtain ⟨i, -, hi⟩ := List.mem_filterMap.mp h
  cases hv : ls[i]? with
  | none => simp [hv] at hi
  | some v =>
    rw [hv] at hi
    cases v <;> simp at hi <;> subst hi <;> exact ⟨_, hv, (fun z => by simp), rfl⟩
theorem az_Mt.has {ad : Nat → Nat} {fo : Value} {nL : Nat} {lsA : Array Slot} {ls : List Value} (h : az_Mt ad fo nL lsA ls) : lv_has lsA nL (az_enc ad fo ls) := by
  refine ⟨h.1, h.2.1, fun q hq => ?_⟩
  obtain ⟨v, h1, h2, h3⟩ := az_enc_of hq
  rw [h3]
  exact h.2.2 _ _ h1 h2
theorem az_set_at : ∀ (ls : List Value) (i : Nat) (v : Value) (a : Nat) (w : Value), (az_set ls i v)[a]? = some w → (a = i ∧ w = v) ∨ (a ≠ i ∧ (ls[a]? = some w ∨ w = .long 0))
  | [], 0, v, a, w, h => by
    cases a with
    | zero => simp [az_set] at h; exact Or.inl ⟨rfl, h.symm⟩
    | succ a => simp [az_set] at h
  | [], i + 1, v, a, w, h => by
    cases a with
    | zero => simp [az_set] at h; exact Or.inr ⟨by omega, Or.inr h.symm⟩
    | succ a =>
      rw [az_set, List.getElem?_cons_succ] at h
      rcases az_set_at [] i v a w h with ⟨h1, h2⟩ | ⟨h1, h2⟩
      · exact Or.inl ⟨by omega, h2⟩
      · refine Or.inr ⟨by omega, ?_⟩
        rcases h2 with h2 | h2
        · simp at h2
        · exact Or.inr h2
  | b :: l, 0, v, a, w, h => by
    cases a with
    | zero => simp [az_set] at h; exact Or.inl ⟨rfl, h.symm⟩
    | succ a => rw [az_set, List.getElem?_cons_succ] at h; exact Or.inr ⟨by omega, Or.inl (by rw [List.getElem?_cons_succ]; exact h)⟩
  | b :: l, i + 1, v, a, w, h => by
    cases a with
    | zero => simp [az_set] at h; exact Or.inr ⟨by omega, Or.inl (by simp [h])⟩
    | succ a =>
      rw [az_set, List.getElem?_cons_succ] at h
      rcases az_set_at l i v a w h with ⟨h1, h2⟩ | ⟨h1, h2⟩
      · exact Or.inl ⟨by omega, h2⟩
      · exact Or.inr ⟨by omega, by rw [List.getElem?_cons_succ]; exact h2⟩
theorem az_Mt.set {ad : Nat → Nat} {fo : Value} (hf : fo = .null ∨ ∃ t, fo = .ref t) {nL : Nat} {ls : List Value} {i : Nat} {v : Value} {ls' : Array Slot} {l' : List (Nat × Value)} (hl : (i, az_cv ad fo v) :: (az_enc ad fo ls).filter (fun q => !(q.1 == i) && !(q.1 + 1 == i && q.2.category == 2)) = l') (h : lv_has ls' nL l') : az_Mt ad fo nL ls' (az_set ls i v) := by
  subst hl
  refine ⟨h.1, h.2.1, fun a w hw hz => ?_⟩
  rcases az_set_at ls i v a w hw with ⟨rfl, rfl⟩ | ⟨h1, h2⟩
  · exact h.2.2 _ List.mem_cons_self
  · rcases h2 with h2 | h2
    · refine h.2.2 (a, az_cv ad fo w) (List.mem_cons_of_mem _ (List.mem_filter.mpr ⟨az_enc_in h2 hz, ?_⟩))
      have := az_cv_cat (ad := ad) hf w
      simp [h1, this]
    · exact absurd h2 (hz 0)
theorem az_lg {vs : List Value} (h : ∀ v ∈ vs, v.category = 1) : (lg_sl vs).length = vs.length := by
  induction vs with
  | nil => rfl
  | cons a l ih =>
    have h1 := h a List.mem_cons_self
    have h2 := ih (fun v hv => h v (List.mem_cons_of_mem _ hv))
    simp only [lg_sl, List.flatMap_cons, List.length_append] at h2 ⊢
    rw [h2, if_neg (by omega)]
    simp
    omega
theorem az_lvargs : ∀ (vs : List Value) (n i : Nat) (v : Value), (∀ v ∈ vs, v.category = 1) → vs[i]? = some v → (n + i, v) ∈ lv_args n vs
  | [], n, i, v, _, h => by simp at h
  | a :: l, n, i, v, hc, h => by
    rw [lv_args]
    cases i with
    | zero => simp at h; subst h; exact List.mem_cons_self
    | succ i =>
      rw [List.getElem?_cons_succ] at h
      have h1 : ¬ a.category = 2 := by rw [hc a List.mem_cons_self]; decide
      rw [if_neg h1]
      have := az_lvargs l (n + 1) i v (fun v hv => hc v (List.mem_cons_of_mem _ hv)) h
      rw [show n + (i + 1) = n + 1 + i by omega]
      exact List.mem_cons_of_mem _ this
theorem az_entry {ad : Nat → Nat} {fo : Value} (hf : fo = .null ∨ ∃ t, fo = .ref t) {a : List Value} {nL : Nat} (h : a.length ≤ nL) (m : MethodId) : ∃ lsA, entryFrame m (a.map (az_cv ad fo)).toArray nL = F0 m 0 lsA [] ∧ az_Mt ad fo nL lsA a := by
  have hc : ∀ v ∈ a.map (az_cv ad fo), v.category = 1 := by
    intro v hv
    obtain ⟨w, -, rfl⟩ := List.mem_map.mp hv
    exact az_cv_cat hf w
  refine ⟨_, lg_entry_eq m _ _, ?_⟩
  have hl := lv_entry (a.map (az_cv ad fo)) (n := nL) (by rw [az_lg hc, List.length_map]; exact h)
  refine ⟨hl.1, hl.2.1, fun i v hv _ => ?_⟩
  have := az_lvargs (a.map (az_cv ad fo)) 0 i (az_cv ad fo v) hc (by rw [List.getElem?_map, hv]; rfl)
  rw [Nat.zero_add] at this
  exact hl.2.2 _ this
