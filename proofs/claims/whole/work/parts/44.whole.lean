/-! THE CLAIM OUT OF ONE WALK OF THE LAW'S BODY. Your part is whole_start (and what it stands on); all else here is the same for every law, but numbers. -/
def R_law : String := "GoodHalfEmptyLaw"
def lw_P (b : Addr) (xs : List Int32) (args : Array Value) (s : State) : Prop := args = #[.ref b] ∧ s.IntsAt b xs ∧ xs.length ≤ 2560 ∧ (Jvm.Cond.and given_1 narrow_1).before args s = true
def lw_Q (_ : Array Value) (s : State) (o : Outcome) (t : State) : Prop := o = .returned (some (.int 1)) ∧ Framed s o t [] 75 1039
def lw_Z (below : List Frame) (a : Array Value) (s : State) : State → Prop := fun t => ∃ o, t.status = .running ∧ Ended t below o ∧ lw_Q a s o t
/-- the law's own end, with 1 on the stack, nothing written that was there before, its room as the claim has it -/
theorem lw_ret {p : Program} {l : Launch} {e : Env} {s : State} {m : MethodId} {below : List Frame} {meth : Method} {c : Code} {b : Nat} (hx : p.tables.exec = Jvm.exec) (hb : c.code = code) (hr : meth.sig.returnType = ret) (hlocks : meth.locks = false) {pc : Nat} {H : Heap} {ls : Array Slot} (hdg : decode code pc = .ok (.ireturn, 1)) : W p l e room_1 s m #[Value.ref b] below meth c H [] 75 1039 (lw_Z below #[Value.ref b] s) (F0 m pc ls [.int 1]) := by
  intro T hT X
  obtain ⟨fs, hret, hrun, hended, hW, hframe⟩ := X.leave (v := some (.int 1)) (hlocks := hlocks) (fun h => by rw [hr] at h; cases h)
  have hmeth' : T.vm.method? m = some meth := X.method'
  refine ⟨T.setFrames fs, ?_, .returned (some (.int 1)), hrun, hended, rfl, ⟨_, rfl⟩, hW, hframe⟩
  jvm_step X.here [X.here.top, hx, hb, hdg, hmeth', hr, ret, narrow_b1]
  (try refine ⟨rfl, ?_⟩); (try refine ⟨rfl, ?_⟩)
  first | (intro acts; rw [hret _ acts rfl rfl rfl]) | rw [hret _ _ rfl rfl rfl]
  exact Steps.refl _
/-- what holds at the law's entry: the machine, the code, the tables' words (any of lw_tbl by 'hts w (by decide +kernel)'), the script of L ints xs at the cell b, what the Statement gives of the start (any of its parts by flat_of_before) -/
def lw_At (p : Program) (s : State) (m : MethodId) (meth : Method) (c : Code) (b L : Nat) (xs : Nat → Int32) : Prop :=
  p.tables.exec = Jvm.exec ∧ c.code = code ∧ meth.sig.returnType = ret ∧ c.maxLocals = 4 ∧ s.vm.findClass R_law = some m.cls ∧ (∀ w ∈ lw_tbl, w.before #[Value.ref b] s = true) ∧ va_X b L xs s s.heap ∧ b < s.heap.size ∧ meth.locks = false ∧ (Jvm.Cond.and given_1 narrow_1).before #[Value.ref b] s = true
def zs_h0 : az_H := fun k9 => bif (Nat.beq k9 1 || (Nat.beq k9 16 || Nat.beq k9 31)) then (fun j9 => bif Nat.beq j9 3 then 10 else 0) else
 bif Nat.beq k9 61 then (upd (fun _ => 0) (Int32.toNatClampNeg 2) 10) else
 bif Nat.beq k9 65 then (upd (upd (upd (upd (fun _ => 0) (Int32.toNatClampNeg 0) (vp_nar .char 99)) (Int32.toNatClampNeg 1) (vp_nar .char 115)) (Int32.toNatClampNeg 2) (vp_nar .char 114)) (Int32.toNatClampNeg 3) (vp_nar .char 119)) else
 bif Nat.beq k9 66 then (upd (upd (upd (upd (upd (upd (fun _ => 0) (Int32.toNatClampNeg 0) (vp_nar .char 97)) (Int32.toNatClampNeg 1) (vp_nar .char 110)) (Int32.toNatClampNeg 2) (vp_nar .char 114)) (Int32.toNatClampNeg 3) (vp_nar .char 104)) (Int32.toNatClampNeg 4) (vp_nar .char 117)) (Int32.toNatClampNeg 5) (vp_nar .char 101)) else
 bif Nat.beq k9 67 then (upd (upd (upd (upd (upd (upd (fun _ => 0) (Int32.toNatClampNeg 0) (vp_nar .char 108)) (Int32.toNatClampNeg 1) (vp_nar .char 111)) (Int32.toNatClampNeg 2) (vp_nar .char 109)) (Int32.toNatClampNeg 3) (vp_nar .char 116)) (Int32.toNatClampNeg 4) (vp_nar .char 98)) (Int32.toNatClampNeg 5) (vp_nar .char 102)) else
 (fun _ => 0)
def zs_ad (as : List Nat) (b : Nat) (adK adV : Nat → Nat) : Nat → Nat := fun k9 => bif Nat.blt k9 75 then as.getD k9 0 else bif Nat.beq k9 2000 then b else bif Nat.blt k9 1100 then adK (k9 - 1000) else adV (k9 - 1100)
def zs_cA (cI cB cC : ClassId) : Nat → ClassId := fun t => match t with
  | 0 => cI
  | 1 => cB
  | _ => cC
def zs_t : Nat → Nat := fun j9 => bif Nat.beq j9 2 then 10 else 0
def zs_0 : rt_S := (zs_t, zs_t, false, (0, fun _ => 0), (0, fun _ => 0), fun _ => 0)
theorem zs_V : rt_V zs_t := by
  unfold rt_V
  decide +kernel
theorem zs_W : rt_W zs_0 := ⟨zs_V, fun h9 => absurd (show false = true from h9) (by decide), ⟨by decide, fun i9 h9 => absurd h9 (Nat.not_lt_zero i9)⟩, by decide, fun i9 h9 => absurd h9 (Nat.not_lt_zero i9)⟩
theorem zs_T : rt_T 1 zs_t zs_h0 := by
  unfold rt_T
  decide +kernel
theorem zs_M : rt_M 61 zs_t zs_h0 := by
  unfold rt_M
  decide +kernel
theorem zs_C : rt_C zs_0 zs_h0 := ⟨zs_T, by decide +kernel, fun h9 => absurd (show false = true from h9) (by decide), ⟨by decide +kernel, fun i9 h9 => absurd h9 (Nat.not_lt_zero i9)⟩, ⟨by decide +kernel, fun i9 h9 => absurd h9 (Nat.not_lt_zero i9)⟩, fun i9 h9 => show zs_h0 58 i9 = 0 from rfl⟩
theorem zs_R : rt_R zs_0 zs_h0 := ⟨zs_M, by decide +kernel, fun h9 => absurd (show false = true from h9) (by decide), ⟨by decide +kernel, fun i9 h9 => absurd h9 (Nat.not_lt_zero i9)⟩, ⟨by decide +kernel, fun i9 h9 => absurd h9 (Nat.not_lt_zero i9)⟩, fun i9 h9 => show zs_h0 60 i9 = 0 from rfl⟩
theorem zs_K : rp_K zs_h0 := by
  unfold rp_K
  decide +kernel
theorem zs_E {sc : az_S} (hL : sc.1 ≤ 2560) : az_E sc az_m_L_law 16 [.ref 2000, .ref 0, .ref 59] [] zs_h0 (fun v _ => v = some (.int 1)) := by
  refine az_er 2 rfl ?_
  exact lm_law hL 520 0 _ zs_0 zs_h0 (by omega) (by omega) (by decide +kernel) zs_W zs_C zs_R zs_K
/-! the texts -/
def zs_ix : Nat → Nat := fun k9 => [75, 77, 65, 67, 69, 79, 85].getD k9 0
def zs_tm (k9 : Nat) : Term := Term.string RX5 (zs_ix k9)
abbrev zs_F : List Cond := flatC (Jvm.Cond.and given_1 narrow_1)
theorem zs_s1 : ∀ i : Nat, i < 7 → Cond.exactly (zs_tm i) "java/lang/String" ∈ zs_F := by decide +kernel
theorem zs_s2 : ∀ i : Nat, i < 7 → Cond.eq (.field (zs_tm i) "java/lang/String" "coder" "B") (.int 0) ∈ zs_F := by decide +kernel
theorem zs_s3 : ∀ i : Nat, i < 7 → Cond.arrayOf (.field (zs_tm i) "java/lang/String" "value" "[B") .byte ∈ zs_F := by decide +kernel
theorem zs_s4 : ∀ i : Nat, i < 7 → Cond.eq (.length (.field (zs_tm i) "java/lang/String" "value" "[B")) (.int (Int32.ofNat ((az_tx.map List.length).getD i 0))) ∈ zs_F := by decide +kernel
theorem zs_s5 : ∀ i : Nat, i < 7 → ∀ j : Nat, j < (az_tx.map List.length).getD i 0 → Cond.eq (.elem (.field (zs_tm i) "java/lang/String" "value" "[B") (.int (Int32.ofNat j))) (.int ((az_tx.getD i []).getD j 0)) ∈ zs_F := by decide +kernel
theorem zs_s6 : ∀ i : Nat, i < 7 → ∀ j : Nat, j < 7 → i ≠ j → Cond.not (Cond.eq (zs_tm i) (zs_tm j)) ∈ zs_F ∨ Cond.not (Cond.eq (zs_tm j) (zs_tm i)) ∈ zs_F := by decide +kernel
theorem zs_s7 : ∀ i : Nat, i < 7 → (az_tx.map List.length).getD i 0 < 2 ^ 31 := by decide +kernel
theorem zs_S {A : Nat → Prop} {s : State} {args : Array Value} (hgv : (Jvm.Cond.and given_1 narrow_1).before args s = true) (hA : ∀ q : Nat, q < s.heap.size → ¬ A q) : ∃ adK adV : Nat → Nat, vk_S 7 (az_tx.map List.length) az_tx adK adV A s s.heap ∧ ∀ i : Nat, i < 7 → (zs_tm i).eval args s none [] s = some (.ref (adK i)) := by
  have hs := flat_of_before _ hgv
  exact vk_Sof (tm := zs_tm) zs_s7 (fun i hi => hs _ (zs_s1 i hi)) (fun i hi => hs _ (zs_s2 i hi)) (fun i hi => hs _ (zs_s3 i hi)) (fun i hi => hs _ (zs_s4 i hi)) (fun i hi j hj => hs _ (zs_s5 i hi j hj)) (fun i j hi hj hij => (zs_s6 i hi j hj hij).imp (fun h9 => hs _ h9) (fun h9 => hs _ h9)) hA
theorem zs_w {w : Cond} (i : Nat) (h : tables_1[i]? = some w) : w ∈ lw_tbl := List.mem_append_right _ (List.mem_of_getElem? h)
theorem zs_q : ∀ q ∈ az_txr, ∃ i : Nat, i < 7 ∧ zs_ix i = q.1 ∧ 1000 + i = q.2.2 ∧ Cond.stringRef RX5 q.1 q.2.1 ∈ lw_tbl := List.forall_mem_cons.mpr ⟨⟨0, by decide, rfl, rfl, zs_w 332 (by decide +kernel)⟩, List.forall_mem_cons.mpr ⟨⟨1, by decide, rfl, rfl, zs_w 333 (by decide +kernel)⟩, List.forall_mem_cons.mpr ⟨⟨2, by decide, rfl, rfl, zs_w 334 (by decide +kernel)⟩, List.forall_mem_cons.mpr ⟨⟨3, by decide, rfl, rfl, zs_w 335 (by decide +kernel)⟩, List.forall_mem_cons.mpr ⟨⟨4, by decide, rfl, rfl, zs_w 336 (by decide +kernel)⟩, List.forall_mem_cons.mpr ⟨⟨5, by decide, rfl, rfl, zs_w 393 (by decide +kernel)⟩, List.forall_mem_cons.mpr ⟨⟨6, by decide, rfl, rfl, zs_w 455 (by decide +kernel)⟩, fun _ h9 => absurd h9 List.not_mem_nil⟩⟩⟩⟩⟩⟩⟩
theorem zs_a0 {as : List Nat} {b : Nat} {adK adV : Nat → Nat} {i : Nat} (hi : i < 7) : zs_ad as b adK adV (1000 + i) = adK i := by
  rcases (show i = 0 ∨ i = 1 ∨ i = 2 ∨ i = 3 ∨ i = 4 ∨ i = 5 ∨ i = 6 by omega) with rfl | rfl | rfl | rfl | rfl | rfl | rfl <;> rfl
theorem zs_a1 {as : List Nat} {b : Nat} {adK adV : Nat → Nat} {i : Nat} (hi : i < 7) : zs_ad as b adK adV (1100 + i) = adV i := by
  rcases (show i = 0 ∨ i = 1 ∨ i = 2 ∨ i = 3 ∨ i = 4 ∨ i = 5 ∨ i = 6 by omega) with rfl | rfl | rfl | rfl | rfl | rfl | rfl <;> rfl
theorem zs_X {p : Program} {s : State} {m : MethodId} {meth : Method} {c : Code} {b L : Nat} {xs : Nat → Int32} {A : Nat → Prop} {D : va_G} {cI cB cC : ClassId} (C0 : lw_At p s m meth c b L xs) (hA : ∀ q : Nat, q < s.heap.size → ¬ A q) (hN : ∀ w ∈ az_nest, va_Nw w s) (hK : va_K D vwCl (az_tys (zs_cA cI cB cC)) s) : ∃ (adK adV : Nat → Nat) (fo : Value), ∀ as : List Nat, az_X D (zs_ad as b adK adV) (zs_cA cI cB cC) fo (L, xs) A s s.heap := by
  obtain ⟨hx, hb, hr, hml, hown, hts, hX, hbl, hlocks, hgv⟩ := C0
  obtain ⟨adK, adV, hS, hE⟩ := zs_S hgv hA
  have hs := flat_of_before _ hgv
  have hz1 : va_Z "java/lang/String" "COMPACT_STRINGS" "Z" (.int 1) A s s.heap := va_Zof (hts _ (zs_w (w := .laysStatic "java/lang/String" "COMPACT_STRINGS" "Z") 350 (by decide +kernel))) (hts _ (zs_w (w := .initialized "java/lang/String") 11 (by decide +kernel))) (va_eqt (hs _ (by decide +kernel))) hA
  have hz2 : va_Zq "jdk/internal/util/Preconditions" "SIOOBE_FORMATTER" "Ljava/util/function/BiFunction;" A s s.heap := va_Zqof (hts _ (zs_w (w := .laysStatic "jdk/internal/util/Preconditions" "SIOOBE_FORMATTER" "Ljava/util/function/BiFunction;") 366 (by decide +kernel))) (hts _ (zs_w (w := .initialized "jdk/internal/util/Preconditions") 13 (by decide +kernel))) (hs _ (by decide +kernel)) hA
  have hz3 : ∃ fo : Value, va_Z "jdk/internal/util/Preconditions" "SIOOBE_FORMATTER" "Ljava/util/function/BiFunction;" fo A s s.heap ∧ (fo = .null ∨ ∃ t, fo = .ref t) := by
    rcases hz2 with h9 | ⟨t, h9⟩
    · exact ⟨_, h9, Or.inl rfl⟩
    · exact ⟨_, h9, Or.inr ⟨t, rfl⟩⟩
  obtain ⟨fo, hz4, hz5⟩ := hz3
  refine ⟨adK, adV, fo, fun as => ⟨hK, hN, hX, ⟨hA b hbl, hbl⟩, ⟨fun i hi => ?_, fun i j hi hj e9 => ?_⟩, fun q hq => ?_, hz1, hz4, hz5⟩⟩
  · have h9 := hS.1 i hi
    rw [← zs_a0 (as := as) (b := b) (adV := adV) (adK := adK) hi, ← zs_a1 (as := as) (b := b) (adK := adK) (adV := adV) hi] at h9
    exact h9
  · exact hS.2 i j hi hj ((zs_a0 hi).symm.trans ((show zs_ad as b adK adV (1000 + i) = zs_ad as b adK adV (1000 + j) from e9).trans (zs_a0 hj)))
  · obtain ⟨i, hi, e1, e2, hw⟩ := zs_q q hq
    rw [← e2, zs_a0 hi]
    refine vk_R.of (hts _ hw) ?_
    rw [← e1]
    exact hE i hi
theorem zs_N {s : State} {b : Nat} (hts : ∀ w ∈ lw_tbl, w.before #[Value.ref b] s = true) : ∀ w ∈ az_nest, va_Nw w s := by
  intro w hw
  have hn := az_nest_is w hw
  have h9 := hts w (List.mem_append_right _ (List.mem_filter.mp hw).1)
  cases w <;> first | exact va_Nw.of rfl h9 | (simp [az_isN] at hn; done)
def zs_gf (ad : Nat → Nat) (h : az_H) (k9 : Nat) : Nat → List (Option Nat) → List Value
  | _, [] => []
  | j9, o9 :: r9 => az_fv ad h k9 j9 o9 :: zs_gf ad h k9 (j9 + 1) r9
theorem zs_gf_eq (ad : Nat → Nat) (h : az_H) (k9 : Nat) : ∀ (l9 : List (Option Nat)) (j9 : Nat), l9.mapIdx (fun i9 o9 => az_fv ad h k9 (j9 + i9) o9) = zs_gf ad h k9 j9 l9
  | [], _ => rfl
  | o9 :: r9, j9 => by
    have e9 : (fun i9 o8 => az_fv ad h k9 (j9 + (i9 + 1)) o8) = fun i9 o8 => az_fv ad h k9 (j9 + 1 + i9) o8 := by
      funext i9 o8
      rw [show j9 + (i9 + 1) = j9 + 1 + i9 by omega]
    rw [List.mapIdx_cons, zs_gf, ← zs_gf_eq ad h k9 r9 (j9 + 1), e9]
    rfl
def zs_gc (ad : Nat → Nat) (cA : Nat → ClassId) (h : az_H) (k9 : Nat) : az_kd → va_E
  | .inl (ci, fs) => .inr (ci, zs_gf ad h k9 0 fs)
  | .inr (t, n) => .inl (cA t, n, .inl (h k9))
theorem zs_gc_eq (ad : Nat → Nat) (cA : Nat → ClassId) (h : az_H) (k9 : Nat) (kd : az_kd) : az_cell ad cA h k9 kd = zs_gc ad cA h k9 kd := by
  rcases kd with ⟨ci, fs⟩ | ⟨t, n⟩
  · have e9 := zs_gf_eq ad h k9 fs 0
    simp only [Nat.zero_add] at e9
    show Sum.inr (ci, fs.mapIdx fun j o => az_fv ad h k9 j o) = Sum.inr (ci, zs_gf ad h k9 0 fs)
    rw [← e9]
  · rfl
def zs_go (ad : Nat → Nat) (cA : Nat → ClassId) (h : az_H) : Nat → List az_kd → va_W
  | _, [] => []
  | k9, kd :: r9 => (ad k9, zs_gc ad cA h k9 kd) :: zs_go ad cA h (k9 + 1) r9
theorem zs_go_eq (ad : Nat → Nat) (cA : Nat → ClassId) (h : az_H) : ∀ (l9 : List az_kd) (k9 : Nat), l9.mapIdx (fun i9 kd => (ad (k9 + i9), az_cell ad cA h (k9 + i9) kd)) = zs_go ad cA h k9 l9
  | [], _ => rfl
  | kd :: r9, k9 => by
    have e9 : (fun i9 kd => (ad (k9 + (i9 + 1)), az_cell ad cA h (k9 + (i9 + 1)) kd)) = fun i9 kd => (ad (k9 + 1 + i9), az_cell ad cA h (k9 + 1 + i9) kd) := by
      funext i9 kd
      rw [show k9 + (i9 + 1) = k9 + 1 + i9 by omega]
    rw [List.mapIdx_cons, zs_go, ← zs_go_eq ad cA h r9 (k9 + 1), e9, ← zs_gc_eq]
    rfl
theorem zs_ws (ad : Nat → Nat) (cA : Nat → ClassId) (h : az_H) : az_ws ad cA h = zs_go ad cA h 0 az_wd := by
  rw [← zs_go_eq]
  simp only [Nat.zero_add]
  rfl
set_option maxHeartbeats 1000000 in
set_option maxRecDepth 100000 in
theorem zs_c (a0 a1 a2 a3 a4 a5 a6 a7 a8 a9 a10 a11 a12 a13 a14 a15 a16 a17 a18 a19 a20 a21 a22 a23 a24 a25 a26 a27 a28 a29 a30 a31 a32 a33 a34 a35 a36 a37 a38 a39 a40 a41 a42 a43 a44 a45 a46 a47 a48 a49 a50 a51 a52 a53 a54 a55 a56 a57 a58 a59 a60 a61 a62 a63 a64 a65 a66 a67 a68 a69 a70 a71 a72 a73 a74 b : Nat) (adK adV : Nat → Nat) (cI cB cC : ClassId) : [(a0, .inr (7, [.ref a1, .ref a16, .ref a31, .int 0, .ref a46, .ref a48, .ref a55, .ref a56, .ref a57, .int 0, .ref a58])), (a1, .inr (6, [.ref a2, .ref a9, .ref a13, .int 10, .int 0, .int 0, .ref a15, .int 0])), (a2, .inr (4, [.ref a3, .ref a4, .ref a5, .ref a6, .ref a7, .ref a8, .int 0])), (a3, .inl (cI, 4, .inl (fun _ => 0))), (a4, .inl (cI, 4, .inl (fun _ => 0))), (a5, .inl (cI, 4, .inl (fun _ => 0))), (a6, .inl (cI, 4, .inl (fun _ => 0))), (a7, .inl (cI, 4, .inl (fun _ => 0))), (a8, .inl (cI, 4, .inl (fun _ => 0))), (a9, .inr (3, [.ref a10, .ref a11, .ref a12, .int 0])), (a10, .inl (cI, 6, .inl (fun _ => 0))), (a11, .inl (cI, 6, .inl (fun _ => 0))), (a12, .inl (cI, 6, .inl (fun _ => 0))), (a13, .inr (1, [.ref a14, .int 0])), (a14, .inl (cI, 8, .inl (fun _ => 0))), (a15, .inl (cI, 4, .inl (fun _ => 0))), (a16, .inr (6, [.ref a17, .ref a24, .ref a28, .int 10, .int 0, .int 0, .ref a30, .int 0])), (a17, .inr (4, [.ref a18, .ref a19, .ref a20, .ref a21, .ref a22, .ref a23, .int 0])), (a18, .inl (cI, 4, .inl (fun _ => 0))), (a19, .inl (cI, 4, .inl (fun _ => 0))), (a20, .inl (cI, 4, .inl (fun _ => 0))), (a21, .inl (cI, 4, .inl (fun _ => 0))), (a22, .inl (cI, 4, .inl (fun _ => 0))), (a23, .inl (cI, 4, .inl (fun _ => 0))), (a24, .inr (3, [.ref a25, .ref a26, .ref a27, .int 0])), (a25, .inl (cI, 6, .inl (fun _ => 0))), (a26, .inl (cI, 6, .inl (fun _ => 0))), (a27, .inl (cI, 6, .inl (fun _ => 0))), (a28, .inr (1, [.ref a29, .int 0])), (a29, .inl (cI, 8, .inl (fun _ => 0))), (a30, .inl (cI, 4, .inl (fun _ => 0))), (a31, .inr (6, [.ref a32, .ref a39, .ref a43, .int 10, .int 0, .int 0, .ref a45, .int 0])), (a32, .inr (4, [.ref a33, .ref a34, .ref a35, .ref a36, .ref a37, .ref a38, .int 0])), (a33, .inl (cI, 4, .inl (fun _ => 0))), (a34, .inl (cI, 4, .inl (fun _ => 0))), (a35, .inl (cI, 4, .inl (fun _ => 0))), (a36, .inl (cI, 4, .inl (fun _ => 0))), (a37, .inl (cI, 4, .inl (fun _ => 0))), (a38, .inl (cI, 4, .inl (fun _ => 0))), (a39, .inr (3, [.ref a40, .ref a41, .ref a42, .int 0])), (a40, .inl (cI, 6, .inl (fun _ => 0))), (a41, .inl (cI, 6, .inl (fun _ => 0))), (a42, .inl (cI, 6, .inl (fun _ => 0))), (a43, .inr (1, [.ref a44, .int 0])), (a44, .inl (cI, 8, .inl (fun _ => 0))), (a45, .inl (cI, 4, .inl (fun _ => 0))), (a46, .inr (5, [.ref a47, .int 0])), (a47, .inl (cI, 80, .inl (fun _ => 0))), (a48, .inr (2, [.ref a49, .ref a54, .int 0, .int 0])), (a49, .inr (0, [.ref a50, .ref a51, .ref a52, .ref a53, .int 0, .int 0, .int 0, .int 0])), (a50, .inl (cI, 4, .inl (fun _ => 0))), (a51, .inl (cI, 4, .inl (fun _ => 0))), (a52, .inl (cI, 4, .inl (fun _ => 0))), (a53, .inl (cI, 37, .inl (fun _ => 0))), (a54, .inl (cI, 4, .inl (fun _ => 0))), (a55, .inl (cI, 80, .inl (fun _ => 0))), (a56, .inl (cI, 36, .inl (fun _ => 0))), (a57, .inl (cI, 12, .inl (fun _ => 0))), (a58, .inl (cI, 7, .inl (fun _ => 0))), (a59, .inr (8, [.ref a60, .ref a61, .ref a62, .ref a63, .int 0, .ref a64, .int 0, .int 0, .int 0, .ref a65, .ref a66, .ref a67, .int 0, .ref a68, .ref a69, .ref a70, .ref a71, .ref a72, .int 0, .int 0, .int 0, .int 0, .int 0, .int 0, .ref a73, .ref a74, .int 0])), (a60, .inl (cI, 7, .inl (fun _ => 0))), (a61, .inl (cI, 70, .inl (upd (fun _ => 0) (Int32.toNatClampNeg 2) 10))), (a62, .inl (cI, 70, .inl (fun _ => 0))), (a63, .inl (cI, 70, .inl (fun _ => 0))), (a64, .inl (cI, 80, .inl (fun _ => 0))), (a65, .inl (cC, 4, .inl (upd (upd (upd (upd (fun _ => 0) (Int32.toNatClampNeg 0) (vp_nar .char 99)) (Int32.toNatClampNeg 1) (vp_nar .char 115)) (Int32.toNatClampNeg 2) (vp_nar .char 114)) (Int32.toNatClampNeg 3) (vp_nar .char 119)))), (a66, .inl (cC, 6, .inl (upd (upd (upd (upd (upd (upd (fun _ => 0) (Int32.toNatClampNeg 0) (vp_nar .char 97)) (Int32.toNatClampNeg 1) (vp_nar .char 110)) (Int32.toNatClampNeg 2) (vp_nar .char 114)) (Int32.toNatClampNeg 3) (vp_nar .char 104)) (Int32.toNatClampNeg 4) (vp_nar .char 117)) (Int32.toNatClampNeg 5) (vp_nar .char 101)))), (a67, .inl (cC, 6, .inl (upd (upd (upd (upd (upd (upd (fun _ => 0) (Int32.toNatClampNeg 0) (vp_nar .char 108)) (Int32.toNatClampNeg 1) (vp_nar .char 111)) (Int32.toNatClampNeg 2) (vp_nar .char 109)) (Int32.toNatClampNeg 3) (vp_nar .char 116)) (Int32.toNatClampNeg 4) (vp_nar .char 98)) (Int32.toNatClampNeg 5) (vp_nar .char 102)))), (a68, .inl (cI, 6, .inl (fun _ => 0))), (a69, .inl (cB, 4, .inl (fun _ => 0))), (a70, .inl (cI, 81, .inl (fun _ => 0))), (a71, .inl (cI, 4, .inl (fun _ => 0))), (a72, .inl (cI, 4, .inl (fun _ => 0))), (a73, .inl (cI, 70, .inl (fun _ => 0))), (a74, .inl (cI, 12, .inl (fun _ => 0)))] = az_ws (zs_ad [a0, a1, a2, a3, a4, a5, a6, a7, a8, a9, a10, a11, a12, a13, a14, a15, a16, a17, a18, a19, a20, a21, a22, a23, a24, a25, a26, a27, a28, a29, a30, a31, a32, a33, a34, a35, a36, a37, a38, a39, a40, a41, a42, a43, a44, a45, a46, a47, a48, a49, a50, a51, a52, a53, a54, a55, a56, a57, a58, a59, a60, a61, a62, a63, a64, a65, a66, a67, a68, a69, a70, a71, a72, a73, a74] b adK adV) (zs_cA cI cB cC) zs_h0 := by
  rw [zs_ws]
  rfl
set_option maxHeartbeats 2000000 in
set_option maxRecDepth 100000 in
theorem zs_k7 {dC : Nat → ClassId} {dI : Nat → Nat → Nat} {A : Nat → Prop} {a0 : Nat} {t : State} (hB : kk_X7 dC dI A a0 t) : ∃ (cI : ClassId) (g1 : Nat → Nat), va_P (dC, dI) vwCl [(a0, .inr (7, [.ref (g1 1), .ref (g1 16), .ref (g1 31), .int 0, .ref (g1 46), .ref (g1 48), .ref (g1 55), .ref (g1 56), .ref (g1 57), .int 0, .ref (g1 58)])), ((g1 1), .inr (6, [.ref (g1 2), .ref (g1 9), .ref (g1 13), .int 10, .int 0, .int 0, .ref (g1 15), .int 0])), ((g1 2), .inr (4, [.ref (g1 3), .ref (g1 4), .ref (g1 5), .ref (g1 6), .ref (g1 7), .ref (g1 8), .int 0])), ((g1 3), .inl (cI, 4, .inl (fun _ => 0))), ((g1 4), .inl (cI, 4, .inl (fun _ => 0))), ((g1 5), .inl (cI, 4, .inl (fun _ => 0))), ((g1 6), .inl (cI, 4, .inl (fun _ => 0))), ((g1 7), .inl (cI, 4, .inl (fun _ => 0))), ((g1 8), .inl (cI, 4, .inl (fun _ => 0))), ((g1 9), .inr (3, [.ref (g1 10), .ref (g1 11), .ref (g1 12), .int 0])), ((g1 10), .inl (cI, 6, .inl (fun _ => 0))), ((g1 11), .inl (cI, 6, .inl (fun _ => 0))), ((g1 12), .inl (cI, 6, .inl (fun _ => 0))), ((g1 13), .inr (1, [.ref (g1 14), .int 0])), ((g1 14), .inl (cI, 8, .inl (fun _ => 0))), ((g1 15), .inl (cI, 4, .inl (fun _ => 0))), ((g1 16), .inr (6, [.ref (g1 17), .ref (g1 24), .ref (g1 28), .int 10, .int 0, .int 0, .ref (g1 30), .int 0])), ((g1 17), .inr (4, [.ref (g1 18), .ref (g1 19), .ref (g1 20), .ref (g1 21), .ref (g1 22), .ref (g1 23), .int 0])), ((g1 18), .inl (cI, 4, .inl (fun _ => 0))), ((g1 19), .inl (cI, 4, .inl (fun _ => 0))), ((g1 20), .inl (cI, 4, .inl (fun _ => 0))), ((g1 21), .inl (cI, 4, .inl (fun _ => 0))), ((g1 22), .inl (cI, 4, .inl (fun _ => 0))), ((g1 23), .inl (cI, 4, .inl (fun _ => 0))), ((g1 24), .inr (3, [.ref (g1 25), .ref (g1 26), .ref (g1 27), .int 0])), ((g1 25), .inl (cI, 6, .inl (fun _ => 0))), ((g1 26), .inl (cI, 6, .inl (fun _ => 0))), ((g1 27), .inl (cI, 6, .inl (fun _ => 0))), ((g1 28), .inr (1, [.ref (g1 29), .int 0])), ((g1 29), .inl (cI, 8, .inl (fun _ => 0))), ((g1 30), .inl (cI, 4, .inl (fun _ => 0))), ((g1 31), .inr (6, [.ref (g1 32), .ref (g1 39), .ref (g1 43), .int 10, .int 0, .int 0, .ref (g1 45), .int 0])), ((g1 32), .inr (4, [.ref (g1 33), .ref (g1 34), .ref (g1 35), .ref (g1 36), .ref (g1 37), .ref (g1 38), .int 0])), ((g1 33), .inl (cI, 4, .inl (fun _ => 0))), ((g1 34), .inl (cI, 4, .inl (fun _ => 0))), ((g1 35), .inl (cI, 4, .inl (fun _ => 0))), ((g1 36), .inl (cI, 4, .inl (fun _ => 0))), ((g1 37), .inl (cI, 4, .inl (fun _ => 0))), ((g1 38), .inl (cI, 4, .inl (fun _ => 0))), ((g1 39), .inr (3, [.ref (g1 40), .ref (g1 41), .ref (g1 42), .int 0])), ((g1 40), .inl (cI, 6, .inl (fun _ => 0))), ((g1 41), .inl (cI, 6, .inl (fun _ => 0))), ((g1 42), .inl (cI, 6, .inl (fun _ => 0))), ((g1 43), .inr (1, [.ref (g1 44), .int 0])), ((g1 44), .inl (cI, 8, .inl (fun _ => 0))), ((g1 45), .inl (cI, 4, .inl (fun _ => 0))), ((g1 46), .inr (5, [.ref (g1 47), .int 0])), ((g1 47), .inl (cI, 80, .inl (fun _ => 0))), ((g1 48), .inr (2, [.ref (g1 49), .ref (g1 54), .int 0, .int 0])), ((g1 49), .inr (0, [.ref (g1 50), .ref (g1 51), .ref (g1 52), .ref (g1 53), .int 0, .int 0, .int 0, .int 0])), ((g1 50), .inl (cI, 4, .inl (fun _ => 0))), ((g1 51), .inl (cI, 4, .inl (fun _ => 0))), ((g1 52), .inl (cI, 4, .inl (fun _ => 0))), ((g1 53), .inl (cI, 37, .inl (fun _ => 0))), ((g1 54), .inl (cI, 4, .inl (fun _ => 0))), ((g1 55), .inl (cI, 80, .inl (fun _ => 0))), ((g1 56), .inl (cI, 36, .inl (fun _ => 0))), ((g1 57), .inl (cI, 12, .inl (fun _ => 0))), ((g1 58), .inl (cI, 7, .inl (fun _ => 0)))] t.heap ∧ va_K (dC, dI) vwCl [(cI, .int)] t ∧ va_D A [(a0, .inr (7, [.ref (g1 1), .ref (g1 16), .ref (g1 31), .int 0, .ref (g1 46), .ref (g1 48), .ref (g1 55), .ref (g1 56), .ref (g1 57), .int 0, .ref (g1 58)])), ((g1 1), .inr (6, [.ref (g1 2), .ref (g1 9), .ref (g1 13), .int 10, .int 0, .int 0, .ref (g1 15), .int 0])), ((g1 2), .inr (4, [.ref (g1 3), .ref (g1 4), .ref (g1 5), .ref (g1 6), .ref (g1 7), .ref (g1 8), .int 0])), ((g1 3), .inl (cI, 4, .inl (fun _ => 0))), ((g1 4), .inl (cI, 4, .inl (fun _ => 0))), ((g1 5), .inl (cI, 4, .inl (fun _ => 0))), ((g1 6), .inl (cI, 4, .inl (fun _ => 0))), ((g1 7), .inl (cI, 4, .inl (fun _ => 0))), ((g1 8), .inl (cI, 4, .inl (fun _ => 0))), ((g1 9), .inr (3, [.ref (g1 10), .ref (g1 11), .ref (g1 12), .int 0])), ((g1 10), .inl (cI, 6, .inl (fun _ => 0))), ((g1 11), .inl (cI, 6, .inl (fun _ => 0))), ((g1 12), .inl (cI, 6, .inl (fun _ => 0))), ((g1 13), .inr (1, [.ref (g1 14), .int 0])), ((g1 14), .inl (cI, 8, .inl (fun _ => 0))), ((g1 15), .inl (cI, 4, .inl (fun _ => 0))), ((g1 16), .inr (6, [.ref (g1 17), .ref (g1 24), .ref (g1 28), .int 10, .int 0, .int 0, .ref (g1 30), .int 0])), ((g1 17), .inr (4, [.ref (g1 18), .ref (g1 19), .ref (g1 20), .ref (g1 21), .ref (g1 22), .ref (g1 23), .int 0])), ((g1 18), .inl (cI, 4, .inl (fun _ => 0))), ((g1 19), .inl (cI, 4, .inl (fun _ => 0))), ((g1 20), .inl (cI, 4, .inl (fun _ => 0))), ((g1 21), .inl (cI, 4, .inl (fun _ => 0))), ((g1 22), .inl (cI, 4, .inl (fun _ => 0))), ((g1 23), .inl (cI, 4, .inl (fun _ => 0))), ((g1 24), .inr (3, [.ref (g1 25), .ref (g1 26), .ref (g1 27), .int 0])), ((g1 25), .inl (cI, 6, .inl (fun _ => 0))), ((g1 26), .inl (cI, 6, .inl (fun _ => 0))), ((g1 27), .inl (cI, 6, .inl (fun _ => 0))), ((g1 28), .inr (1, [.ref (g1 29), .int 0])), ((g1 29), .inl (cI, 8, .inl (fun _ => 0))), ((g1 30), .inl (cI, 4, .inl (fun _ => 0))), ((g1 31), .inr (6, [.ref (g1 32), .ref (g1 39), .ref (g1 43), .int 10, .int 0, .int 0, .ref (g1 45), .int 0])), ((g1 32), .inr (4, [.ref (g1 33), .ref (g1 34), .ref (g1 35), .ref (g1 36), .ref (g1 37), .ref (g1 38), .int 0])), ((g1 33), .inl (cI, 4, .inl (fun _ => 0))), ((g1 34), .inl (cI, 4, .inl (fun _ => 0))), ((g1 35), .inl (cI, 4, .inl (fun _ => 0))), ((g1 36), .inl (cI, 4, .inl (fun _ => 0))), ((g1 37), .inl (cI, 4, .inl (fun _ => 0))), ((g1 38), .inl (cI, 4, .inl (fun _ => 0))), ((g1 39), .inr (3, [.ref (g1 40), .ref (g1 41), .ref (g1 42), .int 0])), ((g1 40), .inl (cI, 6, .inl (fun _ => 0))), ((g1 41), .inl (cI, 6, .inl (fun _ => 0))), ((g1 42), .inl (cI, 6, .inl (fun _ => 0))), ((g1 43), .inr (1, [.ref (g1 44), .int 0])), ((g1 44), .inl (cI, 8, .inl (fun _ => 0))), ((g1 45), .inl (cI, 4, .inl (fun _ => 0))), ((g1 46), .inr (5, [.ref (g1 47), .int 0])), ((g1 47), .inl (cI, 80, .inl (fun _ => 0))), ((g1 48), .inr (2, [.ref (g1 49), .ref (g1 54), .int 0, .int 0])), ((g1 49), .inr (0, [.ref (g1 50), .ref (g1 51), .ref (g1 52), .ref (g1 53), .int 0, .int 0, .int 0, .int 0])), ((g1 50), .inl (cI, 4, .inl (fun _ => 0))), ((g1 51), .inl (cI, 4, .inl (fun _ => 0))), ((g1 52), .inl (cI, 4, .inl (fun _ => 0))), ((g1 53), .inl (cI, 37, .inl (fun _ => 0))), ((g1 54), .inl (cI, 4, .inl (fun _ => 0))), ((g1 55), .inl (cI, 80, .inl (fun _ => 0))), ((g1 56), .inl (cI, 36, .inl (fun _ => 0))), ((g1 57), .inl (cI, 12, .inl (fun _ => 0))), ((g1 58), .inl (cI, 7, .inl (fun _ => 0)))] := by
  unfold kk_X7 at hB
  exact Exists.elim hB (fun cI hB => Exists.elim hB (fun u1 hB => Exists.elim hB (fun u2 hB => Exists.elim hB (fun u3 hB => Exists.elim hB (fun u4 hB => Exists.elim hB (fun u5 hB => Exists.elim hB (fun u6 hB => Exists.elim hB (fun u7 hB => Exists.elim hB (fun u8 hB => Exists.elim hB (fun u9 hB => Exists.elim hB (fun u10 hB => Exists.elim hB (fun u11 hB => Exists.elim hB (fun u12 hB => Exists.elim hB (fun u13 hB => Exists.elim hB (fun u14 hB => Exists.elim hB (fun u15 hB => Exists.elim hB (fun u16 hB => Exists.elim hB (fun u17 hB => Exists.elim hB (fun u18 hB => Exists.elim hB (fun u19 hB => Exists.elim hB (fun u20 hB => Exists.elim hB (fun u21 hB => Exists.elim hB (fun u22 hB => Exists.elim hB (fun u23 hB => Exists.elim hB (fun u24 hB => Exists.elim hB (fun u25 hB => Exists.elim hB (fun u26 hB => Exists.elim hB (fun u27 hB => Exists.elim hB (fun u28 hB => Exists.elim hB (fun u29 hB => Exists.elim hB (fun u30 hB => Exists.elim hB (fun u31 hB => Exists.elim hB (fun u32 hB => Exists.elim hB (fun u33 hB => Exists.elim hB (fun u34 hB => Exists.elim hB (fun u35 hB => Exists.elim hB (fun u36 hB => Exists.elim hB (fun u37 hB => Exists.elim hB (fun u38 hB => Exists.elim hB (fun u39 hB => Exists.elim hB (fun u40 hB => Exists.elim hB (fun u41 hB => Exists.elim hB (fun u42 hB => Exists.elim hB (fun u43 hB => Exists.elim hB (fun u44 hB => Exists.elim hB (fun u45 hB => Exists.elim hB (fun u46 hB => Exists.elim hB (fun u47 hB => Exists.elim hB (fun u48 hB => Exists.elim hB (fun u49 hB => Exists.elim hB (fun u50 hB => Exists.elim hB (fun u51 hB => Exists.elim hB (fun u52 hB => Exists.elim hB (fun u53 hB => Exists.elim hB (fun u54 hB => Exists.elim hB (fun u55 hB => Exists.elim hB (fun u56 hB => Exists.elim hB (fun u57 hB => Exists.elim hB (fun u58 hB => ⟨cI, fun k9 => [a0, u1, u2, u3, u4, u5, u6, u7, u8, u9, u10, u11, u12, u13, u14, u15, u16, u17, u18, u19, u20, u21, u22, u23, u24, u25, u26, u27, u28, u29, u30, u31, u32, u33, u34, u35, u36, u37, u38, u39, u40, u41, u42, u43, u44, u45, u46, u47, u48, u49, u50, u51, u52, u53, u54, u55, u56, u57, u58].getD k9 0, hB.1, hB.2.1, hB.2.2⟩)))))))))))))))))))))))))))))))))))))))))))))))))))))))))))
set_option maxHeartbeats 2000000 in
set_option maxRecDepth 100000 in
theorem zs_k8 {dC : Nat → ClassId} {dI : Nat → Nat → Nat} {A : Nat → Prop} {a59 : Nat} {t : State} (hB : kk_X8 dC dI A a59 t) : ∃ (cJ cC cB : ClassId) (g2 : Nat → Nat), va_P (dC, dI) vwCl [(a59, .inr (8, [.ref (g2 1), .ref (g2 2), .ref (g2 3), .ref (g2 4), .int 0, .ref (g2 5), .int 0, .int 0, .int 0, .ref (g2 6), .ref (g2 7), .ref (g2 8), .int 0, .ref (g2 9), .ref (g2 10), .ref (g2 11), .ref (g2 12), .ref (g2 13), .int 0, .int 0, .int 0, .int 0, .int 0, .int 0, .ref (g2 14), .ref (g2 15), .int 0])), ((g2 1), .inl (cJ, 7, .inl (fun _ => 0))), ((g2 2), .inl (cJ, 70, .inl (upd (fun _ => 0) (Int32.toNatClampNeg 2) 10))), ((g2 3), .inl (cJ, 70, .inl (fun _ => 0))), ((g2 4), .inl (cJ, 70, .inl (fun _ => 0))), ((g2 5), .inl (cJ, 80, .inl (fun _ => 0))), ((g2 6), .inl (cC, 4, .inl (upd (upd (upd (upd (fun _ => 0) (Int32.toNatClampNeg 0) (vp_nar .char 99)) (Int32.toNatClampNeg 1) (vp_nar .char 115)) (Int32.toNatClampNeg 2) (vp_nar .char 114)) (Int32.toNatClampNeg 3) (vp_nar .char 119)))), ((g2 7), .inl (cC, 6, .inl (upd (upd (upd (upd (upd (upd (fun _ => 0) (Int32.toNatClampNeg 0) (vp_nar .char 97)) (Int32.toNatClampNeg 1) (vp_nar .char 110)) (Int32.toNatClampNeg 2) (vp_nar .char 114)) (Int32.toNatClampNeg 3) (vp_nar .char 104)) (Int32.toNatClampNeg 4) (vp_nar .char 117)) (Int32.toNatClampNeg 5) (vp_nar .char 101)))), ((g2 8), .inl (cC, 6, .inl (upd (upd (upd (upd (upd (upd (fun _ => 0) (Int32.toNatClampNeg 0) (vp_nar .char 108)) (Int32.toNatClampNeg 1) (vp_nar .char 111)) (Int32.toNatClampNeg 2) (vp_nar .char 109)) (Int32.toNatClampNeg 3) (vp_nar .char 116)) (Int32.toNatClampNeg 4) (vp_nar .char 98)) (Int32.toNatClampNeg 5) (vp_nar .char 102)))), ((g2 9), .inl (cJ, 6, .inl (fun _ => 0))), ((g2 10), .inl (cB, 4, .inl (fun _ => 0))), ((g2 11), .inl (cJ, 81, .inl (fun _ => 0))), ((g2 12), .inl (cJ, 4, .inl (fun _ => 0))), ((g2 13), .inl (cJ, 4, .inl (fun _ => 0))), ((g2 14), .inl (cJ, 70, .inl (fun _ => 0))), ((g2 15), .inl (cJ, 12, .inl (fun _ => 0)))] t.heap ∧ va_K (dC, dI) vwCl [(cJ, .int), (cC, .char), (cB, .boolean)] t ∧ va_D A [(a59, .inr (8, [.ref (g2 1), .ref (g2 2), .ref (g2 3), .ref (g2 4), .int 0, .ref (g2 5), .int 0, .int 0, .int 0, .ref (g2 6), .ref (g2 7), .ref (g2 8), .int 0, .ref (g2 9), .ref (g2 10), .ref (g2 11), .ref (g2 12), .ref (g2 13), .int 0, .int 0, .int 0, .int 0, .int 0, .int 0, .ref (g2 14), .ref (g2 15), .int 0])), ((g2 1), .inl (cJ, 7, .inl (fun _ => 0))), ((g2 2), .inl (cJ, 70, .inl (upd (fun _ => 0) (Int32.toNatClampNeg 2) 10))), ((g2 3), .inl (cJ, 70, .inl (fun _ => 0))), ((g2 4), .inl (cJ, 70, .inl (fun _ => 0))), ((g2 5), .inl (cJ, 80, .inl (fun _ => 0))), ((g2 6), .inl (cC, 4, .inl (upd (upd (upd (upd (fun _ => 0) (Int32.toNatClampNeg 0) (vp_nar .char 99)) (Int32.toNatClampNeg 1) (vp_nar .char 115)) (Int32.toNatClampNeg 2) (vp_nar .char 114)) (Int32.toNatClampNeg 3) (vp_nar .char 119)))), ((g2 7), .inl (cC, 6, .inl (upd (upd (upd (upd (upd (upd (fun _ => 0) (Int32.toNatClampNeg 0) (vp_nar .char 97)) (Int32.toNatClampNeg 1) (vp_nar .char 110)) (Int32.toNatClampNeg 2) (vp_nar .char 114)) (Int32.toNatClampNeg 3) (vp_nar .char 104)) (Int32.toNatClampNeg 4) (vp_nar .char 117)) (Int32.toNatClampNeg 5) (vp_nar .char 101)))), ((g2 8), .inl (cC, 6, .inl (upd (upd (upd (upd (upd (upd (fun _ => 0) (Int32.toNatClampNeg 0) (vp_nar .char 108)) (Int32.toNatClampNeg 1) (vp_nar .char 111)) (Int32.toNatClampNeg 2) (vp_nar .char 109)) (Int32.toNatClampNeg 3) (vp_nar .char 116)) (Int32.toNatClampNeg 4) (vp_nar .char 98)) (Int32.toNatClampNeg 5) (vp_nar .char 102)))), ((g2 9), .inl (cJ, 6, .inl (fun _ => 0))), ((g2 10), .inl (cB, 4, .inl (fun _ => 0))), ((g2 11), .inl (cJ, 81, .inl (fun _ => 0))), ((g2 12), .inl (cJ, 4, .inl (fun _ => 0))), ((g2 13), .inl (cJ, 4, .inl (fun _ => 0))), ((g2 14), .inl (cJ, 70, .inl (fun _ => 0))), ((g2 15), .inl (cJ, 12, .inl (fun _ => 0)))] := by
  unfold kk_X8 at hB
  exact Exists.elim hB (fun cJ hB => Exists.elim hB (fun cC hB => Exists.elim hB (fun cB hB => Exists.elim hB (fun u1 hB => Exists.elim hB (fun u2 hB => Exists.elim hB (fun u3 hB => Exists.elim hB (fun u4 hB => Exists.elim hB (fun u5 hB => Exists.elim hB (fun u6 hB => Exists.elim hB (fun u7 hB => Exists.elim hB (fun u8 hB => Exists.elim hB (fun u9 hB => Exists.elim hB (fun u10 hB => Exists.elim hB (fun u11 hB => Exists.elim hB (fun u12 hB => Exists.elim hB (fun u13 hB => Exists.elim hB (fun u14 hB => Exists.elim hB (fun u15 hB => ⟨cJ, cC, cB, fun k9 => [a59, u1, u2, u3, u4, u5, u6, u7, u8, u9, u10, u11, u12, u13, u14, u15].getD k9 0, hB.1, hB.2.1, hB.2.2⟩))))))))))))))))))
theorem zs_end {p : Program} {e : Env} {s : State} {m : MethodId} {below : List Frame} {meth : Method} {c : Code} (l : Launch) {b L : Nat} {xs : Nat → Int32} (hL : L ≤ 2560) (C0 : lw_At p s m meth c b L xs) {D : va_G} {ad : Nat → Nat} {cA : Nat → ClassId} {fo : Value} {A : Nat → Prop} (hX : az_X D ad cA fo (L, xs) A s s.heap) (hA : A = fun q => s.heap.size ≤ q) (e1 : ad 2000 = b) {H : Heap} {locs : List Loc} {ls : Array Slot} (hP : va_P D vwCl (az_ws ad cA zs_h0) H) (hD : va_D A (az_ws ad cA zs_h0)) (hS : va_S A s.heap H locs) (hl : lv_has ls 4 [(2, .ref (ad 59)), (1, .ref (ad 0)), (0, .ref b)]) : W p l e room_1 s m #[Value.ref b] below meth c H locs 75 1039 (lw_Z below #[Value.ref b] s) (F0 m 16 ls []) := by
  obtain ⟨hx, hb, hr, hml, hown, hts, -, hbl, hlocks, hgv⟩ := C0
  subst hA
  obtain ⟨f, v, h1, hev, hv⟩ := zs_E (sc := (L, xs)) hL
  subst hv
  have act : az_act p room_1 s m #[Value.ref b] c az_m_L_law := ⟨hx, hb, hml, hown, fun w hw => hts w (List.mem_filter.mp hw).1, Nat.le_of_ble_eq_true rfl, Nat.le_of_ble_eq_true rfl⟩
  have hM : az_Mt ad fo 4 ls [.ref 2000, .ref 0, .ref 59] := by
    refine ⟨hl.1, hl.2.1, fun i v hi _ => ?_⟩
    match i, hi with
    | 0, hi =>
      obtain rfl := Option.some.inj (show some (Value.ref 2000) = some v from hi)
      rw [show az_cv ad fo (.ref 2000) = .ref b from congrArg Value.ref e1]
      exact lv_at hl 2 rfl
    | 1, hi =>
      obtain rfl := Option.some.inj (show some (Value.ref 0) = some v from hi)
      exact lv_at hl 1 rfl
    | 2, hi =>
      obtain rfl := Option.some.inj (show some (Value.ref 59) = some v from hi)
      exact lv_at hl 0 rfl
    | i9 + 3, hi => simp at hi
  have key := az_sound l f az_m_L_law az_co_L_law 16 [.ref 2000, .ref 0, .ref 59] [] zs_h0 (some (.int 1)) h1 hev (e := e) (below := below) (meth := meth) (cells := 75) (slots := 1039) (Q := lw_Z below #[Value.ref b] s) act hX (fun q hq => hq) ⟨Nat.le_of_ble_eq_true rfl, Nat.le_of_ble_eq_true rfl⟩ (fun pc' ls' st' i n hlk hrt => by
    intro H2 locs2 lsA hP2 hD2 hS2 hM2
    obtain ⟨hdg, hin, -⟩ := az_co_at az_co_L_law hlk
    unfold az_ret at hrt
    split at hrt
    · rename_i x9
      cases hk : az_rok (az_rt az_m_L_law) x9 with
      | false => simp only [hk, cond_false] at hrt; cases hrt
      | true =>
        simp only [hk, cond_true, Option.some.injEq, Value.int.injEq] at hrt
        subst hrt
        obtain rfl : n = 1 := Nat.eq_of_beq_eq_true hin
        refine va_forget (fun q9 h9 => hS2.2.2 q9 h9) ?_
        exact lw_ret hx hb hr hlocks hdg
    · cases hrt
    · cases hrt
    · cases hrt)
  exact key H locs ls hP hD hS hM
set_option maxHeartbeats 8000000 in
set_option maxRecDepth 100000 in
theorem whole_start {p : Program} {e : Env} {s : State} {m : MethodId} {below : List Frame} {meth : Method} {c : Code} (l : Launch) (hflags : l.flags = flags0) {b L : Nat} {xs : Nat → Int32} (hL : L ≤ 2560) (C0 : lw_At p s m meth c b L xs) : W p l e room_1 s m #[Value.ref b] below meth c s.heap [] 0 0 (lw_Z below #[Value.ref b] s) (entryFrame m ([Value.ref b] : List Value).toArray 4) := by
  have C1 := C0
  obtain ⟨hx, hb, hr, hml, hown, hts, hX, hbl, hlocks, hgv⟩ := C0
  have hts2 : ∀ w ∈ az_wg, w.before #[Value.ref b] s = true := fun w hw => hts w (List.mem_filter.mp hw).1
  have hN := zs_N hts
  obtain ⟨A, hAe⟩ : ∃ A : Nat → Prop, A = fun q => s.heap.size ≤ q := ⟨_, rfl⟩
  have hA : ∀ q : Nat, s.heap.size ≤ q → A q := fun q h9 => by rw [hAe]; exact h9
  have hAn : ∀ q : Nat, q < s.heap.size → ¬ A q := fun q h9 h8 => by rw [hAe] at h8; exact Nat.not_le.mpr h9 h8
  have hown : s.vm.findClass RL = some m.cls := hown
  obtain ⟨e0, f0, g0⟩ := u_known (C := RX0) (T := TX0) (N := 8) (n := 8) hts2 az_inX0 (hts2 (.instantiable RX0 8) (az_int 177 (by decide +kernel) rfl))
  obtain ⟨e1, f1, g1⟩ := u_known (C := RX1) (T := TX1) (N := 2) (n := 2) hts2 az_inX1 (hts2 (.instantiable RX1 2) (az_int 106 (by decide +kernel) rfl))
  obtain ⟨e2, f2, g2⟩ := u_known (C := RX2) (T := TX2) (N := 4) (n := 4) hts2 az_inX2 (hts2 (.instantiable RX2 4) (az_int 171 (by decide +kernel) rfl))
  obtain ⟨e3, f3, g3⟩ := u_known (C := RX3) (T := TX3) (N := 4) (n := 4) hts2 az_inX3 (hts2 (.instantiable RX3 4) (az_int 79 (by decide +kernel) rfl))
  obtain ⟨e4, f4, g4⟩ := u_known (C := RX4) (T := TX4) (N := 7) (n := 7) hts2 az_inX4 (hts2 (.instantiable RX4 7) (az_int 31 (by decide +kernel) rfl))
  obtain ⟨e5, f5, g5⟩ := u_known (C := RX5) (T := TX5) (N := 2) (n := 2) hts2 az_inX5 (hts2 (.instantiable RX5 2) (az_int 157 (by decide +kernel) rfl))
  obtain ⟨e6, f6, g6⟩ := u_known (C := RX6) (T := TX6) (N := 8) (n := 8) hts2 az_inX6 (hts2 (.instantiable RX6 8) (az_int 25 (by decide +kernel) rfl))
  obtain ⟨e7, f7, g7⟩ := u_known (C := RX7) (T := TX7) (N := 11) (n := 11) hts2 az_inX7 (hts2 (.instantiable RX7 11) (az_int 17 (by decide +kernel) rfl))
  obtain ⟨e8, f8, g8⟩ := u_known (C := RX8) (T := TX8) (N := 27) (n := 27) hts2 az_inX8 (hts2 (.instantiable RX8 27) (az_int 849 (by decide +kernel) rfl))
  obtain ⟨dC, dI, hKc⟩ : ∃ (dC : Nat → ClassId) (dI : Nat → Nat → Nat), ∀ (k : Nat) (q : vw_C), vwCl[k]? = some q → u_Kn s q.1 q.2.1 q.2.2 (dC k) (dI k) := by
    refine ⟨fun k => [e0, e1, e2, e3, e4, e5, e6, e7, e8].getD k e0, fun k => [f0, f1, f2, f3, f4, f5, f6, f7, f8].getD k f0, ?_⟩
    intro k q hq
    match k, hq with
    | 0, hq => cases hq; exact g0
    | 1, hq => cases hq; exact g1
    | 2, hq => cases hq; exact g2
    | 3, hq => cases hq; exact g3
    | 4, hq => cases hq; exact g4
    | 5, hq => cases hq; exact g5
    | 6, hq => cases hq; exact g6
    | 7, hq => cases hq; exact g7
    | 8, hq => cases hq; exact g8
    | k9 + 9, hq => simp [vwCl] at hq
  have hS : va_S A s.heap s.heap [] := va_S.rf
  have hK : va_K (dC, dI) vwCl [] s := ⟨hKc, fun k q h => by simp at h⟩
  have hP : va_P (dC, dI) vwCl [] s.heap := fun k q h => by simp at h
  have hD : va_D A [] := ⟨fun i j p q h => by simp at h, fun k q h => by simp at h⟩
  have hl := lv_entry ([.ref b]) (n := 4) (Nat.le_of_ble_eq_true rfl)
  rw [lg_entry_eq]
  generalize (lg_sl ([.ref b]) ++ List.replicate (4 - (lg_sl ([.ref b])).length) Slot.unset).toArray = ls at hl ⊢
  have hl : lv_has ls 4 [(0, .ref b)] := hl
  refine va_new (ci := 7) (fs := [.null, .null, .null, .int 0, .null, .null, .null, .null, .null, .int 0, .null]) (C := RX7) (T := TX7) (N := 11) hx hb hts2 az_inX7 tyX7 tyX7_ok hown (hts2 (.classLink RL 7 RX7) (az_int 16 (by decide +kernel) rfl)) (hts2 (.instantiable RX7 11) (az_int 17 (by decide +kernel) rfl)) (hts2 (.initialized RX7) (az_int 1 (by decide +kernel) rfl)) hK hP hD hS hA rfl (fun j hj => by rcases (show j = 0 ∨ j = 1 ∨ j = 2 ∨ j = 3 ∨ j = 4 ∨ j = 5 ∨ j = 6 ∨ j = 7 ∨ j = 8 ∨ j = 9 ∨ j = 10 by omega) with rfl | rfl | rfl | rfl | rfl | rfl | rfl | rfl | rfl | rfl | rfl <;> rfl) (Nat.le_of_ble_eq_true rfl) (Nat.le_of_ble_eq_true rfl) (show decode code 0 = .ok (.new 7, 3) by decide +kernel) (fun a0 H hP hD hS => ?_)
  have hP : va_P (dC, dI) vwCl [(a0, .inr (7, [.null, .null, .null, .int 0, .null, .null, .null, .null, .null, .int 0, .null]))] H := hP
  have hD : va_D A [(a0, .inr (7, [.null, .null, .null, .int 0, .null, .null, .null, .null, .null, .int 0, .null]))] := hD
  refine W.widen (k := 1) (n := 11) (Nat.le_of_ble_eq_true rfl) (Nat.le_of_ble_eq_true rfl) ?_
  refine lv_dup hx hb (show decode code 3 = .ok (.dup, 1) by decide +kernel) rfl ?_
  have hPc := hP.sub (ws' := [(a0, .inr (7, [.null, .null, .null, .int 0, .null, .null, .null, .null, .null, .int 0, .null]))]) [0] rfl
  have hDc := hD.sub (ws' := [(a0, .inr (7, [.null, .null, .null, .int 0, .null, .null, .null, .null, .null, .int 0, .null]))]) [0] (by decide) rfl
  have hKc := hK.sub (tys' := []) [] rfl
  have hFc := va_free (wc := [(a0, .inr (7, [.null, .null, .null, .int 0, .null, .null, .null, .null, .null, .int 0, .null]))]) hD hS hA [0] rfl
  refine va_callv (va_runI (As := []) (rest := [.ref a0]) ⟨hx, hb, hml, hown, hts2⟩ (k_X7 l dC dI a0 H.size) (cwI (own := RL) (index := 9) (ws' := az_wg) 0 hts2 (az_wg_good (fun w hw => by rcases List.mem_cons.mp hw with rfl | hw; exact az_int 20 (by decide +kernel) rfl; exact hw)) rfl rfl rfl (hts2 (.initialized RX7) (az_int 1 (by decide +kernel) rfl)) (hts2 (.methodLink RL 9 yX7_init) (az_int 18 (by decide +kernel) rfl)) (hts2 (.instanceMethod yX7_init) (az_int 19 (by decide +kernel) rfl)) rfl (by decide +kernel) ⟨Nat.le_of_ble_eq_true rfl, Nat.le_of_ble_eq_true rfl⟩) ⟨fun a U g mk z => by obtain ⟨z0, z1, zP, zK, zD, zN⟩ := z; exact ⟨z0, z1, zP, va_K.moved (u := U) (U := U.calling g mk a) (Vm.Alike.refl U.vm) zK, zD, fun w hw => az_Nw_vm (s := U) (U := U.calling g mk a) (az_nest_is w hw) rfl (zN w hw)⟩, fun U hU hW => ⟨rfl, by rw [hU], by rw [hU]; exact hPc, va_K.moved hW.alike hKc, hDc.weaken (fun _ _ _ _ => trivial), fun w hw => az_Nw_warm (az_nest_is w hw) hW (hN w hw)⟩⟩ rfl rfl hl.1 rfl (lv_room (Nat.le_of_ble_eq_true rfl)) (show decode code 4 = .ok (.invokespecial 9, 3) by decide +kernel) ⟨Nat.le_of_ble_eq_true rfl, Nat.le_of_ble_eq_true rfl⟩) hS (fun z _ h => hFc z h) hFc (fun u t H1 locs ht hvm hw hB hz1 hk1 hS => ?_)
  obtain ⟨cI, g1, hP1, hK1, hD1⟩ := zs_k7 hB
  clear hB
  rw [ht] at hP1
  have hK1 := va_K.moved hvm.symm hK1
  sorry
