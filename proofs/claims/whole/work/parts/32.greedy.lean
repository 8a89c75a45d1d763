/-! THE GREATEST WORTH OF A BOX: by gains, the greatest first -/
def pl_gg (T : Nat → Bool) (g : Nat → Int) : Nat → Option Nat
  | 0 => none
  | n + 1 => if T n = true then pl_gg T g n else match pl_gg T g n with
    | none => some n
    | some f => if g f < g n then some n else some f
theorem pl_gg_ok {T : Nat → Bool} {g : Nat → Int} : ∀ m, (pl_gg T g m = none ∧ ∀ s, s < m → T s = true) ∨ ∃ i, pl_gg T g m = some i ∧ i < m ∧ T i = false ∧ ∀ s, s < m → T s = false → g s ≤ g i
  | 0 => Or.inl ⟨rfl, fun s h => absurd h (Nat.not_lt_zero s)⟩
  | m + 1 => by
    by_cases ht : T m = true
    · rcases pl_gg_ok (T := T) (g := g) m with ⟨h1, h2⟩ | ⟨i, h1, h2, h3, h4⟩
      · refine Or.inl ⟨by rw [pl_gg, if_pos ht]; exact h1, fun s hs => ?_⟩
        rcases Nat.lt_or_eq_of_le (Nat.le_of_lt_succ hs) with h5 | h5
        · exact h2 s h5
        · subst h5; exact ht
      · refine Or.inr ⟨i, by rw [pl_gg, if_pos ht]; exact h1, by omega, h3, fun s hs hT => ?_⟩
        rcases Nat.lt_or_eq_of_le (Nat.le_of_lt_succ hs) with h5 | h5
        · exact h4 s h5 hT
        · subst h5; rw [ht] at hT; exact absurd hT (by decide)
    · have ht' : T m = false := by simpa using ht
      rcases pl_gg_ok (T := T) (g := g) m with ⟨h1, h2⟩ | ⟨i, h1, h2, h3, h4⟩
      · refine Or.inr ⟨m, by rw [pl_gg, if_neg ht, h1], by omega, ht', fun s hs hT => ?_⟩
        rcases Nat.lt_or_eq_of_le (Nat.le_of_lt_succ hs) with h5 | h5
        · rw [h2 s h5] at hT; exact absurd hT (by decide)
        · subst h5; exact Int.le_refl _
      · by_cases h6 : g i < g m
        · refine Or.inr ⟨m, by rw [pl_gg, if_neg ht, h1]; exact if_pos h6, by omega, ht', fun s hs hT => ?_⟩
          rcases Nat.lt_or_eq_of_le (Nat.le_of_lt_succ hs) with h5 | h5
          · have := h4 s h5 hT; omega
          · subst h5; exact Int.le_refl _
        · refine Or.inr ⟨i, by rw [pl_gg, if_neg ht, h1]; exact if_neg h6, by omega, h3, fun s hs hT => ?_⟩
          rcases Nat.lt_or_eq_of_le (Nat.le_of_lt_succ hs) with h5 | h5
          · exact h4 s h5 hT
          · subst h5; omega
/-- how many more of a sort go -/
def pl_e (w : Int) (c : Nat) : Nat := min w.toNat c
def pl_wt (a b g : Int) (P : Nat) : Int := (if 0 < g then b else a) - (P : Int)
def pl_gl (g : Nat → Int) (c : Nat → Nat) (m : Nat) (a b : Int) : Nat → (Nat → Bool) → Nat → Int → Int
  | 0, _, _, w => w
  | d + 1, T, P, w => match pl_gg T g m with
    | none => w
    | some i => pl_gl g c m a b d (fun s => T s || s == i) (P + pl_e (pl_wt a b (g i) P) (c i)) (w + (pl_e (pl_wt a b (g i) P) (c i) : Int) * g i)
theorem pl_un {T : Nat → Bool} {c : Nat → Nat} {i m : Nat} (hi : i < m) (hT : T i = false) : pl_sn (fun s => if T s = true then 0 else c s) m = pl_sn (fun s => if (T s || s == i) = true then 0 else c s) m + c i := by
  rw [← pl_sn_u (f := fun s => if (T s || s == i) = true then 0 else c s) (i := i) (v := c i) (by simp) m hi]
  refine pl_sn_c m (fun s _ => ?_)
  by_cases h : s = i
  · subst h; rw [if_pos rfl, hT]; rfl
  · have : (s == i) = false := by simpa using h
    rw [if_neg h, this, Bool.or_false]
theorem pl_gr {g : Nat → Int} {c : Nat → Nat} {m : Nat} {a b : Int} (hab : a ≤ b) : ∀ (d : Nat) (T : Nat → Bool) (P : Nat) (w : Int), pl_sn (fun s => if T s = true then 0 else 1) m = d → (P : Int) ≤ b → a ≤ (P : Int) + (pl_sn (fun s => if T s = true then 0 else c s) m : Int) →
    ∃ (y : Nat → Nat) (l : Int), (∀ s, s < m → y s ≤ c s ∧ (T s = true → y s = 0)) ∧ pl_gl g c m a b d T P w = w + pl_sm (fun s => (y s : Int) * g s) m ∧ a ≤ (P : Int) + (pl_sn y m : Int) ∧ (P : Int) + (pl_sn y m : Int) ≤ b ∧
      (∀ s, s < m → T s = false → y s < c s → g s ≤ l) ∧ (∀ s, s < m → 0 < y s → l ≤ g s) ∧ (0 < l → (P : Int) + (pl_sn y m : Int) = b) ∧ (l < 0 → (P : Int) + (pl_sn y m : Int) = a)
  | 0, T, P, w, hd, hP, ha => by
    have hT : ∀ s, s < m → T s = true := fun s hs => by
      have h1 := pl_sn_z m hd s hs
      by_cases h2 : T s = true
      · exact h2
      · rw [if_neg h2] at h1; exact absurd h1 (by decide)
    have h0 : pl_sn (fun s => if T s = true then 0 else c s) m = 0 := pl_sn_0 m (fun s hs => if_pos (hT s hs))
    have h1 : pl_sn (fun _ => 0) m = 0 := pl_sn_0 m (fun _ _ => rfl)
    rw [h0] at ha
    refine ⟨fun _ => 0, 0, fun s _ => ⟨Nat.zero_le _, fun _ => rfl⟩, ?_, by rw [h1]; exact ha, by rw [h1]; simpa using hP, fun s hs h2 => ?_, fun s _ h2 => absurd h2 (Nat.lt_irrefl 0), fun h2 => absurd h2 (Int.lt_irrefl 0), fun h2 => absurd h2 (Int.lt_irrefl 0)⟩
    · rw [pl_gl, pl_sm_0 m (fun s _ => by simp), Int.add_zero]
    · rw [hT s hs] at h2; exact absurd h2 (by decide)
  | d + 1, T, P, w, hd, hP, ha => by
    rcases pl_gg_ok (T := T) (g := g) m with ⟨-, h1⟩ | ⟨i, h1, him, hTi, hmax⟩
    · rw [pl_sn_0 m (fun s hs => if_pos (h1 s hs))] at hd
      exact absurd hd (by omega)
    · have e1 := pl_un (c := fun _ => 1) him hTi
      have e2 := pl_un (c := c) him hTi
      obtain ⟨e, he⟩ : ∃ e, e = pl_e (pl_wt a b (g i) P) (c i) := ⟨_, rfl⟩
      have hgl : pl_gl g c m a b (d + 1) T P w = pl_gl g c m a b d (fun s => T s || s == i) (P + e) (w + (e : Int) * g i) := by rw [pl_gl, h1, he]
      have hec : e ≤ c i := by rw [he]; exact Nat.min_le_right _ _
      have hew : e < c i → (e : Int) = max 0 (pl_wt a b (g i) P) := by
        intro h; rw [he] at h ⊢; unfold pl_e at h ⊢; omega
      have hew2 : (e : Int) ≤ max 0 (pl_wt a b (g i) P) := by rw [he]; unfold pl_e; omega
      have hwb : pl_wt a b (g i) P ≤ b - (P : Int) := by unfold pl_wt; split <;> omega
      have hwa : a - (P : Int) ≤ pl_wt a b (g i) P := by unfold pl_wt; split <;> omega
      have hw1 : 0 < g i → pl_wt a b (g i) P = b - (P : Int) := fun h => by rw [pl_wt, if_pos h]
      have hw2 : ¬ 0 < g i → pl_wt a b (g i) P = a - (P : Int) := fun h => by rw [pl_wt, if_neg h]
      obtain ⟨wt, hwt⟩ : ∃ wt, wt = pl_wt a b (g i) P := ⟨_, rfl⟩
      rw [← hwt] at hew hew2 hwb hwa hw1 hw2
      obtain ⟨y, l, hy, hv, hlo, hhi, c1, c2, c3, c4⟩ := pl_gr (g := g) (c := c) (m := m) hab d (fun s => T s || s == i) (P + e) (w + (e : Int) * g i) (by omega) (by omega) (by
        rw [e2] at ha
        by_cases h : e < c i
        · have := hew h; omega
        · omega)
      have hyi : y i = 0 := (hy i him).2 (by simp)
      have hT' : ∀ s, T s = false → ¬ s = i → (T s || s == i) = false := fun s h h2 => by
        have : (s == i) = false := by simpa using h2
        rw [h, this]; rfl
      have hS : pl_sn (fun s => if s = i then e else y s) m = pl_sn y m + e := pl_sn_u hyi m him
      have hM : pl_sm (fun s => ((if s = i then e else y s : Nat) : Int) * g s) m = pl_sm (fun s => (y s : Int) * g s) m + (e : Int) * g i := by
        rw [← pl_sm_u (f := fun s => (y s : Int) * g s) (i := i) (v := (e : Int) * g i) (by rw [hyi]; simp) m him]
        refine pl_sm_c m (fun s _ => ?_)
        by_cases h : s = i
        · subst h; rw [if_pos rfl, if_pos rfl]
        · rw [if_neg h, if_neg h]
      have hpos : ∀ s, s < m → 0 < y s → g s ≤ g i := fun s hs h => by
        refine hmax s hs ?_
        by_cases h2 : T s = true
        · have := (hy s hs).2 (by rw [h2]; rfl)
          omega
        · simpa using h2
      suffices hl : ∃ l : Int, (∀ s, s < m → T s = false → (if s = i then e else y s) < c s → g s ≤ l) ∧ (∀ s, s < m → 0 < (if s = i then e else y s) → l ≤ g s) ∧ (0 < l → (P : Int) + ((pl_sn y m + e : Nat) : Int) = b) ∧ (l < 0 → (P : Int) + ((pl_sn y m + e : Nat) : Int) = a) by
        obtain ⟨l2, d1, d2, d3, d4⟩ := hl
        refine ⟨fun s => if s = i then e else y s, l2, fun s hs => ?_, ?_, ?_, ?_, d1, d2, by rw [hS]; exact d3, by rw [hS]; exact d4⟩
        · show (if s = i then e else y s) ≤ c s ∧ (T s = true → (if s = i then e else y s) = 0)
          by_cases h : s = i
          · subst h; rw [if_pos rfl]; exact ⟨hec, fun q => absurd q (by rw [hTi]; decide)⟩
          · rw [if_neg h]; exact ⟨(hy s hs).1, fun q => (hy s hs).2 (by rw [q]; rfl)⟩
        · rw [hgl, hv, hM]; omega
        · rw [hS]; omega
        · rw [hS]; omega
      -- what a choice of l must keep
      have mk : ∀ l2 : Int, (∀ s, s < m → ¬ s = i → T s = false → y s < c s → g s ≤ l2) → (e < c i → g i ≤ l2) → (∀ s, s < m → 0 < y s → l2 ≤ g s) → (0 < e → l2 ≤ g i) → (0 < l2 → (P : Int) + ((pl_sn y m + e : Nat) : Int) = b) → (l2 < 0 → (P : Int) + ((pl_sn y m + e : Nat) : Int) = a) →
          ∃ l : Int, (∀ s, s < m → T s = false → (if s = i then e else y s) < c s → g s ≤ l) ∧ (∀ s, s < m → 0 < (if s = i then e else y s) → l ≤ g s) ∧ (0 < l → (P : Int) + ((pl_sn y m + e : Nat) : Int) = b) ∧ (l < 0 → (P : Int) + ((pl_sn y m + e : Nat) : Int) = a) := by
        intro l2 k1 k2 k3 k4 k5 k6
        refine ⟨l2, fun s hs hT h => ?_, fun s hs h => ?_, k5, k6⟩
        · by_cases h2 : s = i
          · subst h2; rw [if_pos rfl] at h; exact k2 h
          · rw [if_neg h2] at h; exact k1 s hs h2 hT h
        · by_cases h2 : s = i
          · subst h2; rw [if_pos rfl] at h; exact k4 h
          · rw [if_neg h2] at h; exact k3 s hs h
      have c3' : 0 < l → (P : Int) + ((pl_sn y m + e : Nat) : Int) = b := fun h => by have := c3 h; omega
      have c4' : l < 0 → (P : Int) + ((pl_sn y m + e : Nat) : Int) = a := fun h => by have := c4 h; omega
      have c1' : ∀ s, s < m → ¬ s = i → T s = false → y s < c s → g s ≤ l := fun s hs h hT hc => c1 s hs (hT' s hT h) hc
      by_cases hB : l ≤ g i ∧ e = c i
      · exact mk l c1' (fun h => absurd h (by omega)) c2 (fun _ => hB.1) c3' c4'
      · by_cases hZ : pl_sn y m = 0
        · have hz := pl_sn_z m hZ
          have hg : ∀ s, s < m → ¬ s = i → T s = false → y s < c s → g s ≤ g i := fun s hs _ hT _ => hmax s hs hT
          by_cases hgi : 0 < g i
          · refine mk (g i) hg (fun _ => Int.le_refl _) (fun s hs h => absurd h (by rw [hz s hs]; omega)) (fun _ => Int.le_refl _) (fun _ => ?_) (fun h => absurd h (by omega))
            by_cases hlt : e < c i
            · have := hew hlt; have := hw1 hgi; omega
            · have := c3' (by omega); exact this
          · by_cases he0 : 0 < e
            · refine mk (g i) hg (fun _ => Int.le_refl _) (fun s hs h => absurd h (by rw [hz s hs]; omega)) (fun _ => Int.le_refl _) (fun h => absurd h hgi) (fun _ => ?_)
              have h9 := hw2 hgi
              omega
            · refine mk 0 (fun s hs h hT hc => by have := hg s hs h hT hc; omega) (fun _ => by omega) (fun s hs h => absurd h (by rw [hz s hs]; omega)) (fun h => absurd h he0) (fun h => absurd h (Int.lt_irrefl 0)) (fun h => absurd h (Int.lt_irrefl 0))
        · obtain ⟨s, hs, hp⟩ := pl_sn_p m hZ
          have h1 := c2 s hs hp
          have h2 := hpos s hs hp
          have hlt : e < c i := by omega
          have hgi : ¬ 0 < g i := fun h => by
            have := hew hlt; have := hw1 h; omega
          have h3 := hw2 hgi
          have h4 := hew hlt
          have hl0 : ¬ l < 0 := fun h => by have := c4' h; omega
          exact mk l c1' (fun _ => by omega) c2 (fun _ => by omega) c3' c4'
/-- the worth that is greatest in a box, as the class finds it -/
def pl_gw (m : Nat) (lo hi : Nat → Nat) (g : Nat → Int) (a b w0 : Int) : Int := pl_gl g (fun s => hi s - lo s) m a b m (fun _ => false) (pl_sn lo m) (w0 + pl_sm (fun s => (lo s : Int) * g s) m)
theorem pl_gw_ok {m : Nat} {lo hi : Nat → Nat} {g : Nat → Int} {a b w0 : Int} (hp : pl_hp m lo hi a b) : (∃ x, pl_bx m lo hi a b x ∧ pl_gw m lo hi g a b w0 = w0 + pl_sm (fun s => (x s : Int) * g s) m) ∧ ∀ x, pl_bx m lo hi a b x → w0 + pl_sm (fun s => (x s : Int) * g s) m ≤ pl_gw m lo hi g a b w0 := by
  obtain ⟨h1, h2, h3, h4⟩ := hp
  have e0 : pl_sn (fun s => if (fun _ => false) s = true then 0 else 1) m = m := by
    have : ∀ n, pl_sn (fun _ => 1) n = n := fun n => by
      induction n with
      | zero => rfl
      | succ n ih => rw [pl_sn, ih]
    exact this m
  have e1 : pl_sn (fun s => lo s + (hi s - lo s)) m = pl_sn hi m := pl_sn_c m (fun s hs => by have := h1 s hs; omega)
  rw [pl_sn_a] at e1
  obtain ⟨y, l, hy, hv, hlo, hhi, c1, c2, c3, c4⟩ := pl_gr (g := g) (c := fun s => hi s - lo s) h2 m (fun _ => false) (pl_sn lo m) (w0 + pl_sm (fun s => (lo s : Int) * g s) m) e0 h3 (by
    show a ≤ (pl_sn lo m : Int) + (pl_sn (fun s => hi s - lo s) m : Int)
    omega)
  have hs2 : pl_sn (fun s => lo s + y s) m = pl_sn lo m + pl_sn y m := pl_sn_a m
  have hm2 : pl_sm (fun s => ((lo s + y s : Nat) : Int) * g s) m = pl_sm (fun s => (lo s : Int) * g s) m + pl_sm (fun s => (y s : Int) * g s) m := pl_sm_lin m (fun s _ => by rw [Int.natCast_add, Int.add_mul])
  constructor
  · refine ⟨fun s => lo s + y s, ⟨fun s hs => ⟨Nat.le_add_right _ _, ?_⟩, by rw [hs2]; omega, by rw [hs2]; omega⟩, ?_⟩
    · show lo s + y s ≤ hi s
      have := (hy s hs).1; have := h1 s hs; omega
    · show pl_gw m lo hi g a b w0 = w0 + pl_sm (fun s => ((lo s + y s : Nat) : Int) * g s) m
      rw [hm2, pl_gw, hv]; omega
  · intro x hx
    obtain ⟨x1, x2, x3⟩ := hx
    have f1 : pl_sm (fun s => (x s : Int) * g s) m = pl_sm (fun s => ((lo s + y s : Nat) : Int) * g s) m + pl_sm (fun s => (g s - l) * ((x s : Int) - ((lo s + y s : Nat) : Int)) + l * ((x s : Int) - ((lo s + y s : Nat) : Int))) m := pl_sm_lin m (fun s _ => by
      rw [← Int.add_mul, Int.sub_add_cancel, Int.mul_sub, Int.mul_comm (g s) (x s : Int), Int.mul_comm (g s) ((lo s + y s : Nat) : Int)]
      omega)
    have f2 : pl_sm (fun s => (g s - l) * ((x s : Int) - ((lo s + y s : Nat) : Int)) + l * ((x s : Int) - ((lo s + y s : Nat) : Int))) m = pl_sm (fun s => (g s - l) * ((x s : Int) - ((lo s + y s : Nat) : Int))) m + pl_sm (fun s => l * ((x s : Int) - ((lo s + y s : Nat) : Int))) m := pl_sm_lin m (fun _ _ => rfl)
    have f3 : pl_sm (fun s => (g s - l) * ((x s : Int) - ((lo s + y s : Nat) : Int))) m ≤ 0 := pl_sm_le m (fun s hs => by
      have k1 := x1 s hs
      have k2 := hy s hs
      rcases Int.lt_trichotomy (x s : Int) ((lo s + y s : Nat) : Int) with h | h | h
      · have h5 := c2 s hs (by omega)
        exact Int.mul_nonpos_of_nonneg_of_nonpos (by omega) (by omega)
      · rw [h, Int.sub_self, Int.mul_zero]; exact Int.le_refl 0
      · have h5 := c1 s hs rfl (by omega)
        exact Int.mul_nonpos_of_nonpos_of_nonneg (by omega) (by omega))
    have f4 := pl_sm_k (l := l) (z := x) (y := fun s => lo s + y s) m
    rw [hs2] at f4
    have f5 : l * ((pl_sn x m : Int) - ((pl_sn lo m + pl_sn y m : Nat) : Int)) ≤ 0 := by
      rcases Int.lt_trichotomy l 0 with h | h | h
      · have := c4 h
        exact Int.mul_nonpos_of_nonpos_of_nonneg (by omega) (by omega)
      · rw [h, Int.zero_mul]; exact Int.le_refl 0
      · have := c3 h
        exact Int.mul_nonpos_of_nonneg_of_nonpos (by omega) (by omega)
    rw [pl_gw, hv, f1, f2, hm2]
    omega
