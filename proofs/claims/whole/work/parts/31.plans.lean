/-! PLANS, in numbers: sums, plans by number, boxes of plans -/
def pl_sn (f : Nat → Nat) : Nat → Nat
  | 0 => 0
  | n + 1 => pl_sn f n + f n
def pl_sm (f : Nat → Int) : Nat → Int
  | 0 => 0
  | n + 1 => pl_sm f n + f n
theorem pl_sn_c {f g : Nat → Nat} : ∀ n, (∀ s, s < n → f s = g s) → pl_sn f n = pl_sn g n
  | 0, _ => rfl
  | n + 1, h => by rw [pl_sn, pl_sn, pl_sn_c n (fun s hs => h s (by omega)), h n (by omega)]
theorem pl_sm_c {f g : Nat → Int} : ∀ n, (∀ s, s < n → f s = g s) → pl_sm f n = pl_sm g n
  | 0, _ => rfl
  | n + 1, h => by rw [pl_sm, pl_sm, pl_sm_c n (fun s hs => h s (by omega)), h n (by omega)]
theorem pl_sn_a {f g : Nat → Nat} : ∀ n, pl_sn (fun s => f s + g s) n = pl_sn f n + pl_sn g n
  | 0 => rfl
  | n + 1 => by rw [pl_sn, pl_sn, pl_sn, pl_sn_a n]; omega
theorem pl_sn_0 {f : Nat → Nat} : ∀ n, (∀ s, s < n → f s = 0) → pl_sn f n = 0
  | 0, _ => rfl
  | n + 1, h => by rw [pl_sn, pl_sn_0 n (fun s hs => h s (by omega)), h n (by omega)]
theorem pl_sm_0 {f : Nat → Int} : ∀ n, (∀ s, s < n → f s = 0) → pl_sm f n = 0
  | 0, _ => rfl
  | n + 1, h => by rw [pl_sm, pl_sm_0 n (fun s hs => h s (by omega)), h n (by omega)]; rfl
theorem pl_sn_z {f : Nat → Nat} : ∀ n, pl_sn f n = 0 → ∀ s, s < n → f s = 0
  | 0, _, s, hs => absurd hs (Nat.not_lt_zero s)
  | n + 1, h, s, hs => by
    rw [pl_sn] at h
    rcases Nat.lt_or_eq_of_le (Nat.le_of_lt_succ hs) with h1 | h1
    · exact pl_sn_z n (by omega) s h1
    · subst h1; omega
theorem pl_sn_p {f : Nat → Nat} : ∀ n, ¬ pl_sn f n = 0 → ∃ s, s < n ∧ 0 < f s
  | 0, h => absurd rfl h
  | n + 1, h => by
    rw [pl_sn] at h
    by_cases h1 : f n = 0
    · obtain ⟨s, hs, h2⟩ := pl_sn_p (f := f) n (by omega)
      exact ⟨s, by omega, h2⟩
    · exact ⟨n, by omega, by omega⟩
theorem pl_sn_le {f g : Nat → Nat} : ∀ n, (∀ s, s < n → f s ≤ g s) → pl_sn f n ≤ pl_sn g n
  | 0, _ => Nat.le_refl 0
  | n + 1, h => by
    rw [pl_sn, pl_sn]
    have h1 := pl_sn_le n (fun s hs => h s (by omega))
    have h2 := h n (by omega)
    omega
theorem pl_sm_le {f : Nat → Int} : ∀ n, (∀ s, s < n → f s ≤ 0) → pl_sm f n ≤ 0
  | 0, _ => Int.le_refl 0
  | n + 1, h => by
    rw [pl_sm]
    have h1 := pl_sm_le n (fun s hs => h s (by omega))
    have h2 := h n (by omega)
    omega
theorem pl_sn_cut {f : Nat → Nat} {a : Nat} : ∀ b, a ≤ b → (∀ s, a ≤ s → s < b → f s = 0) → pl_sn f b = pl_sn f a
  | 0, h, _ => by rw [show a = 0 by omega]
  | b + 1, h, z => by
    by_cases h1 : a = b + 1
    · rw [h1]
    · rw [pl_sn, z b (by omega) (by omega), pl_sn_cut b (by omega) (fun s h2 h3 => z s h2 (by omega))]
      rfl
theorem pl_sn_u {f : Nat → Nat} {i v : Nat} (h0 : f i = 0) : ∀ n, i < n → pl_sn (fun s => if s = i then v else f s) n = pl_sn f n + v
  | 0, h => absurd h (Nat.not_lt_zero i)
  | n + 1, h => by
    rw [pl_sn, pl_sn]
    by_cases h1 : n = i
    · subst h1
      rw [if_pos rfl, h0, pl_sn_c n (f := fun s => if s = n then v else f s) (g := f) (fun s hs => if_neg (by omega))]
      omega
    · rw [if_neg h1, pl_sn_u h0 n (by omega)]
      omega
theorem pl_sm_u {f : Nat → Int} {i : Nat} {v : Int} (h0 : f i = 0) : ∀ n, i < n → pl_sm (fun s => if s = i then v else f s) n = pl_sm f n + v
  | 0, h => absurd h (Nat.not_lt_zero i)
  | n + 1, h => by
    rw [pl_sm, pl_sm]
    by_cases h1 : n = i
    · subst h1
      rw [if_pos rfl, h0, pl_sm_c n (f := fun s => if s = n then v else f s) (g := f) (fun s hs => if_neg (by omega))]
      omega
    · rw [if_neg h1, pl_sm_u h0 n (by omega)]
      omega
theorem pl_sn_pt {f : Nat → Nat} {S : Nat} (n : Nat) (h : S < n) (z : ∀ s, s ≠ S → f s = 0) : pl_sn f n = f S := by
  have h1 : pl_sn f n = pl_sn (fun s => if s = S then f S else (fun _ => 0) s) n := pl_sn_c n (fun s _ => by
    by_cases h2 : s = S
    · rw [if_pos h2, h2]
    · rw [if_neg h2]; exact z s h2)
  rw [h1, pl_sn_u (f := fun _ => 0) rfl n h, pl_sn_0 n (fun _ _ => rfl)]
  omega
theorem pl_sn_swap {F : Nat → Nat → Nat} {b : Nat} : ∀ a, pl_sn (fun i => pl_sn (fun j => F i j) b) a = pl_sn (fun j => pl_sn (fun i => F i j) a) b
  | 0 => (pl_sn_0 b (fun _ _ => rfl)).symm
  | a + 1 => by
    rw [pl_sn, pl_sn_swap a, ← pl_sn_a]
    rfl
theorem pl_sn_app {F : Nat → Nat} {a : Nat} : ∀ b, pl_sn F (a + b) = pl_sn F a + pl_sn (fun j => F (a + j)) b
  | 0 => rfl
  | b + 1 => by
    rw [← Nat.add_assoc, pl_sn, pl_sn, pl_sn_app b]
    omega
theorem pl_sn_mul {F : Nat → Nat} {R : Nat} : ∀ a, pl_sn F (a * R) = pl_sn (fun i => pl_sn (fun j => F (i * R + j)) R) a
  | 0 => by rw [Nat.zero_mul]; rfl
  | a + 1 => by
    rw [Nat.succ_mul, pl_sn_app, pl_sn_mul a]
    rfl
theorem pl_sm_lin {f g h : Nat → Int} : ∀ n, (∀ s, s < n → f s = g s + h s) → pl_sm f n = pl_sm g n + pl_sm h n
  | 0, _ => rfl
  | n + 1, e => by
    rw [pl_sm, pl_sm, pl_sm, pl_sm_lin n (fun s hs => e s (by omega)), e n (by omega)]
    omega
theorem pl_sm_k {l : Int} {z y : Nat → Nat} : ∀ n, pl_sm (fun s => l * ((z s : Int) - (y s : Int))) n = l * ((pl_sn z n : Int) - (pl_sn y n : Int))
  | 0 => by simp [pl_sm, pl_sn]
  | n + 1 => by
    rw [pl_sm, pl_sm_k n, pl_sn, pl_sn, ← Int.mul_add]
    congr 1
    omega
/-! plans by number: the last sort changes first -/
def pl_W (r : Nat → Nat) : Nat → Nat
  | 0 => 1
  | m + 1 => pl_W r m * (r m + 1)
def pl_x (r : Nat → Nat) : Nat → Nat → Nat → Nat
  | 0, _, _ => 0
  | m + 1, k, s => if s = m then k % (r m + 1) else pl_x r m (k / (r m + 1)) s
theorem pl_x_m {r : Nat → Nat} {m k : Nat} : pl_x r (m + 1) k m = k % (r m + 1) := if_pos rfl
theorem pl_x_p {r : Nat → Nat} {m k s : Nat} (h : s < m) : pl_x r (m + 1) k s = pl_x r m (k / (r m + 1)) s := if_neg (by omega)
theorem pl_x_le {r : Nat → Nat} : ∀ m k s, pl_x r m k s ≤ r s
  | 0, k, s => Nat.zero_le _
  | m + 1, k, s => by
    rw [pl_x]
    split
    · rename_i h; subst h; exact Nat.le_of_lt_succ (Nat.mod_lt _ (Nat.succ_pos _))
    · exact pl_x_le m _ s
theorem pl_x_h {r : Nat → Nat} : ∀ m k s, m ≤ s → pl_x r m k s = 0
  | 0, k, s, _ => rfl
  | m + 1, k, s, h => by rw [pl_x, if_neg (by omega), pl_x_h m _ s (by omega)]
theorem pl_x_0 {r : Nat → Nat} : ∀ m s, pl_x r m 0 s = 0
  | 0, s => rfl
  | m + 1, s => by
    rw [pl_x, Nat.zero_mod, Nat.zero_div, pl_x_0 m s]
    split <;> rfl
theorem pl_W_pos {r : Nat → Nat} : ∀ m, 0 < pl_W r m
  | 0 => Nat.one_pos
  | m + 1 => Nat.mul_pos (pl_W_pos m) (Nat.succ_pos _)
theorem pl_ij {i j R : Nat} (h : j < R) : (i * R + j) % R = j ∧ (i * R + j) / R = i := by
  constructor
  · rw [Nat.add_comm, Nat.add_mul_mod_self_right, Nat.mod_eq_of_lt h]
  · rw [Nat.add_comm, Nat.add_mul_div_right _ _ (by omega), Nat.div_eq_of_lt h, Nat.zero_add]
theorem pl_x_of {r x : Nat → Nat} : ∀ m, (∀ s, s < m → x s ≤ r s) → ∃ k, k < pl_W r m ∧ ∀ s, s < m → pl_x r m k s = x s
  | 0, _ => ⟨0, Nat.one_pos, fun s h => absurd h (Nat.not_lt_zero s)⟩
  | m + 1, h => by
    obtain ⟨k, hk, he⟩ := pl_x_of m (fun s hs => h s (by omega))
    have hx := h m (by omega)
    obtain ⟨h1, h2⟩ := pl_ij (i := k) (j := x m) (R := r m + 1) (by omega)
    refine ⟨k * (r m + 1) + x m, ?_, fun s hs => ?_⟩
    · rw [pl_W]
      have h3 : (k + 1) * (r m + 1) ≤ pl_W r m * (r m + 1) := Nat.mul_le_mul_right _ hk
      rw [Nat.succ_mul] at h3
      omega
    · rcases Nat.lt_or_eq_of_le (Nat.le_of_lt_succ hs) with h4 | h4
      · rw [pl_x_p h4, h2, he s h4]
      · subst h4; rw [pl_x_m, h1]
/-- of two plans, which comes first -/
def pl_lt : Nat → (Nat → Nat) → (Nat → Nat) → Prop
  | 0, _, _ => False
  | m + 1, x, y => pl_lt m x y ∨ ((∀ s, s < m → x s = y s) ∧ x m < y m)
theorem pl_lt_c {x x' y y' : Nat → Nat} : ∀ m, (∀ s, s < m → x s = x' s) → (∀ s, s < m → y s = y' s) → pl_lt m x y → pl_lt m x' y'
  | 0, _, _, h => h
  | m + 1, hx, hy, h => by
    rcases h with h | ⟨h1, h2⟩
    · exact Or.inl (pl_lt_c m (fun s hs => hx s (by omega)) (fun s hs => hy s (by omega)) h)
    · exact Or.inr ⟨fun s hs => by rw [← hx s (by omega), ← hy s (by omega)]; exact h1 s hs, by rw [← hx m (by omega), ← hy m (by omega)]; exact h2⟩
theorem pl_lt_as {x y : Nat → Nat} : ∀ m, pl_lt m x y → pl_lt m y x → False
  | 0, h, _ => h
  | m + 1, h, h' => by
    rcases h with h | ⟨h1, h2⟩
    · rcases h' with h' | ⟨h3, h4⟩
      · exact pl_lt_as m h h'
      · have h5 := pl_lt_c m (fun s hs => rfl) h3 h
        exact pl_lt_as m h5 h5
    · rcases h' with h' | ⟨h3, h4⟩
      · have h5 := pl_lt_c m (fun s hs => rfl) h1 h'
        exact pl_lt_as m h5 h5
      · omega
theorem pl_x_lt {r : Nat → Nat} : ∀ m j k, j < k → k < pl_W r m → pl_lt m (pl_x r m j) (pl_x r m k)
  | 0, j, k, h, hk => by rw [pl_W] at hk; omega
  | m + 1, j, k, h, hk => by
    have hd : j / (r m + 1) ≤ k / (r m + 1) := Nat.div_le_div_right (Nat.le_of_lt h)
    have hk2 : k / (r m + 1) < pl_W r m := Nat.div_lt_of_lt_mul (by rw [Nat.mul_comm]; exact hk)
    rcases Nat.lt_or_eq_of_le hd with h1 | h1
    · exact Or.inl (pl_lt_c m (fun s hs => (pl_x_p hs).symm) (fun s hs => (pl_x_p hs).symm) (pl_x_lt m _ _ h1 hk2))
    · refine Or.inr ⟨fun s hs => by rw [pl_x_p hs, pl_x_p hs, h1], ?_⟩
      rw [pl_x_m, pl_x_m]
      have h2 := Nat.div_add_mod j (r m + 1)
      have h3 := Nat.div_add_mod k (r m + 1)
      rw [h1] at h2
      omega
theorem pl_lt_i {r : Nat → Nat} {m j k : Nat} (hj : j < pl_W r m) (h : pl_lt m (pl_x r m j) (pl_x r m k)) : j < k := by
  rcases Nat.lt_trichotomy j k with h1 | h1 | h1
  · exact h1
  · subst h1; exact (pl_lt_as m h h).elim
  · exact (pl_lt_as m h (pl_x_lt m k j h1 hj)).elim
theorem pl_nx1 {k R : Nat} (h : k % (R + 1) < R) : (k + 1) % (R + 1) = k % (R + 1) + 1 ∧ (k + 1) / (R + 1) = k / (R + 1) := by
  have h2 := Nat.div_add_mod k (R + 1)
  have e : k + 1 = k / (R + 1) * (R + 1) + (k % (R + 1) + 1) := by rw [Nat.mul_comm]; omega
  rw [e]
  exact pl_ij (by omega)
theorem pl_nx0 {k R : Nat} (h : k % (R + 1) = R) : (k + 1) % (R + 1) = 0 ∧ (k + 1) / (R + 1) = k / (R + 1) + 1 := by
  have h2 := Nat.div_add_mod k (R + 1)
  have e : k + 1 = (k / (R + 1) + 1) * (R + 1) + 0 := by rw [Nat.succ_mul, Nat.mul_comm]; omega
  rw [e]
  exact pl_ij (by omega)
/-! boxes: which plans, how many -/
def pl_in (lo hi x : Nat → Nat) : Nat → Bool
  | 0 => true
  | m + 1 => pl_in lo hi x m && (decide (lo m ≤ x m) && decide (x m ≤ hi m))
theorem pl_in_i {lo hi x : Nat → Nat} : ∀ m, pl_in lo hi x m = true ↔ ∀ s, s < m → lo s ≤ x s ∧ x s ≤ hi s
  | 0 => ⟨fun _ s h => absurd h (Nat.not_lt_zero s), fun _ => rfl⟩
  | m + 1 => by
    rw [pl_in, Bool.and_eq_true, Bool.and_eq_true, decide_eq_true_iff, decide_eq_true_iff, pl_in_i m]
    constructor
    · rintro ⟨h1, h2, h3⟩ s hs
      rcases Nat.lt_or_eq_of_le (Nat.le_of_lt_succ hs) with h4 | h4
      · exact h1 s h4
      · subst h4; exact ⟨h2, h3⟩
    · exact fun h => ⟨fun s hs => h s (by omega), h m (by omega)⟩
def pl_wy (lo hi : Nat → Nat) : Nat → Nat → Nat
  | 0, p => if p = 0 then 1 else 0
  | i + 1, p => pl_sn (fun j => if lo i ≤ j ∧ j ≤ p then pl_wy lo hi i (p - j) else 0) (hi i + 1)
def pl_c (r lo hi : Nat → Nat) (m p k : Nat) : Nat := if pl_in lo hi (pl_x r m k) m = true ∧ pl_sn (pl_x r m k) m = p then 1 else 0
theorem pl_c_s {r lo hi : Nat → Nat} {m p i j : Nat} (hj : j < r m + 1) : pl_c r lo hi (m + 1) p (i * (r m + 1) + j) = if (lo m ≤ j ∧ j ≤ p) ∧ j ≤ hi m then pl_c r lo hi m (p - j) i else 0 := by
  obtain ⟨h1, h2⟩ := pl_ij (i := i) hj
  have ex : ∀ s, s < m → pl_x r (m + 1) (i * (r m + 1) + j) s = pl_x r m i s := fun s hs => by rw [pl_x_p hs, h2]
  have em : pl_x r (m + 1) (i * (r m + 1) + j) m = j := by rw [pl_x_m, h1]
  have e1 : (pl_in lo hi (pl_x r (m + 1) (i * (r m + 1) + j)) (m + 1) = true ∧ pl_sn (pl_x r (m + 1) (i * (r m + 1) + j)) (m + 1) = p) ↔ ((lo m ≤ j ∧ j ≤ p) ∧ j ≤ hi m) ∧ (pl_in lo hi (pl_x r m i) m = true ∧ pl_sn (pl_x r m i) m = p - j) := by
    rw [pl_sn, em, pl_sn_c m ex, pl_in_i, pl_in_i]
    constructor
    · rintro ⟨h3, h4⟩
      have h5 := h3 m (by omega)
      rw [em] at h5
      exact ⟨⟨⟨h5.1, by omega⟩, h5.2⟩, fun s hs => by rw [← ex s hs]; exact h3 s (by omega), by omega⟩
    · rintro ⟨⟨⟨h3, h4⟩, h5⟩, h6, h7⟩
      refine ⟨fun s hs => ?_, by omega⟩
      rcases Nat.lt_or_eq_of_le (Nat.le_of_lt_succ hs) with h8 | h8
      · rw [ex s h8]; exact h6 s h8
      · subst h8; rw [em]; exact ⟨h3, h5⟩
  unfold pl_c
  by_cases h3 : (lo m ≤ j ∧ j ≤ p) ∧ j ≤ hi m
  · rw [if_pos h3]
    by_cases h4 : pl_in lo hi (pl_x r m i) m = true ∧ pl_sn (pl_x r m i) m = p - j
    · rw [if_pos (e1.mpr ⟨h3, h4⟩), if_pos h4]
    · rw [if_neg (fun q => h4 (e1.mp q).2), if_neg h4]
  · rw [if_neg h3, if_neg (fun q => h3 (e1.mp q).1)]
theorem pl_wy_ok {r lo hi : Nat → Nat} : ∀ m p, (∀ s, s < m → hi s ≤ r s) → pl_sn (pl_c r lo hi m p) (pl_W r m) = pl_wy lo hi m p
  | 0, p, _ => by
    show 0 + (if true = true ∧ (0 : Nat) = p then 1 else 0) = if p = 0 then 1 else 0
    by_cases h : p = 0
    · rw [if_pos ⟨rfl, h.symm⟩, if_pos h]
    · rw [if_neg (fun q => h q.2.symm), if_neg h]
  | m + 1, p, h => by
    have hm := h m (by omega)
    rw [pl_W, pl_sn_mul, pl_sn_swap, pl_wy, pl_sn_cut (a := hi m + 1) (r m + 1) (by omega) (fun j h1 h2 => pl_sn_0 _ (fun i _ => by rw [pl_c_s h2, if_neg (by omega)]))]
    refine pl_sn_c _ (fun j hj => ?_)
    by_cases h3 : lo m ≤ j ∧ j ≤ p
    · rw [if_pos h3, ← pl_wy_ok m (p - j) (fun s hs => h s (by omega))]
      exact pl_sn_c _ (fun i _ => by rw [pl_c_s (by omega), if_pos ⟨h3, by omega⟩])
    · rw [if_neg h3]
      exact pl_sn_0 _ (fun i _ => by rw [pl_c_s (by omega), if_neg (fun q => h3 q.1)])
/-- plans of a box of which so many are present as q asks -/
theorem pl_cnt {r lo hi : Nat → Nat} {m n : Nat} {q : Nat → Bool} (h : ∀ s, s < m → hi s ≤ r s) (hS : ∀ k, pl_sn (pl_x r m k) m < n) : pl_sn (fun p => if q p = true then pl_wy lo hi m p else 0) n = pl_sn (fun k => if pl_in lo hi (pl_x r m k) m = true ∧ q (pl_sn (pl_x r m k) m) = true then 1 else 0) (pl_W r m) := by
  have e1 : pl_sn (fun p => if q p = true then pl_wy lo hi m p else 0) n = pl_sn (fun p => pl_sn (fun k => if q p = true then pl_c r lo hi m p k else 0) (pl_W r m)) n := pl_sn_c n (fun p _ => by
    by_cases hq : q p = true
    · rw [if_pos hq, ← pl_wy_ok m p h]
      exact pl_sn_c _ (fun k _ => (if_pos hq).symm)
    · rw [if_neg hq]
      exact (pl_sn_0 _ (fun k _ => if_neg hq)).symm)
  rw [e1, pl_sn_swap]
  refine pl_sn_c _ (fun k _ => ?_)
  rw [pl_sn_pt (f := fun p => if q p = true then pl_c r lo hi m p k else 0) n (hS k) (fun s hs => by
    by_cases hq : q s = true
    · rw [if_pos hq, pl_c, if_neg (fun z => hs z.2.symm)]
    · rw [if_neg hq])]
  by_cases hq : q (pl_sn (pl_x r m k) m) = true
  · rw [if_pos hq, pl_c]
    by_cases hi9 : pl_in lo hi (pl_x r m k) m = true
    · rw [if_pos ⟨hi9, rfl⟩, if_pos ⟨hi9, hq⟩]
    · rw [if_neg (fun z => hi9 z.1), if_neg (fun z => hi9 z.1)]
  · rw [if_neg hq, if_neg (fun z => hq z.2)]
/-- has a box a plan -/
def pl_hp (m : Nat) (lo hi : Nat → Nat) (a b : Int) : Prop := (∀ s, s < m → lo s ≤ hi s) ∧ a ≤ b ∧ (pl_sn lo m : Int) ≤ b ∧ a ≤ (pl_sn hi m : Int)
theorem pl_mid {lo hi : Nat → Nat} : ∀ m t, (∀ s, s < m → lo s ≤ hi s) → pl_sn lo m ≤ t → t ≤ pl_sn hi m → ∃ x : Nat → Nat, (∀ s, s < m → lo s ≤ x s ∧ x s ≤ hi s) ∧ pl_sn x m = t
  | 0, t, _, _, h2 => ⟨fun _ => 0, fun s h => absurd h (Nat.not_lt_zero s), by rw [pl_sn] at h2 ⊢; omega⟩
  | m + 1, t, h, h1, h2 => by
    rw [pl_sn] at h1 h2
    have hm := h m (by omega)
    have key : ∀ v, lo m ≤ v → v ≤ hi m → pl_sn lo m + v ≤ t → t ≤ pl_sn hi m + v → ∃ x : Nat → Nat, (∀ s, s < m + 1 → lo s ≤ x s ∧ x s ≤ hi s) ∧ pl_sn x (m + 1) = t := by
      intro v v1 v2 v3 v4
      obtain ⟨x, hx, ht⟩ := pl_mid m (t - v) (fun s hs => h s (by omega)) (by omega) (by omega)
      refine ⟨fun s => if s = m then v else x s, fun s hs => ?_, ?_⟩
      · show lo s ≤ (if s = m then v else x s) ∧ (if s = m then v else x s) ≤ hi s
        by_cases h4 : s = m
        · subst h4; rw [if_pos rfl]; exact ⟨v1, v2⟩
        · rw [if_neg h4]; exact hx s (by omega)
      · rw [pl_sn, if_pos rfl, pl_sn_c m (g := x) (fun s hs => if_neg (by omega)), ht]
        omega
    by_cases h3 : t ≤ pl_sn hi m + lo m
    · exact key (lo m) (Nat.le_refl _) hm h1 h3
    · exact key (t - pl_sn hi m) (by omega) (by omega) (by have := pl_sn_le m (fun s hs => h s (by omega)); omega) (by omega)
def pl_bx (m : Nat) (lo hi : Nat → Nat) (a b : Int) (x : Nat → Nat) : Prop := (∀ s, s < m → lo s ≤ x s ∧ x s ≤ hi s) ∧ a ≤ (pl_sn x m : Int) ∧ (pl_sn x m : Int) ≤ b
theorem pl_hp_ex {m : Nat} {lo hi : Nat → Nat} {a b : Int} (h : pl_hp m lo hi a b) : ∃ x, pl_bx m lo hi a b x := by
  obtain ⟨h1, h2, h3, h4⟩ := h
  obtain ⟨x, hx, ht⟩ := pl_mid m (max (pl_sn lo m) a.toNat) h1 (by omega) (by have := pl_sn_le m h1; omega)
  exact ⟨x, hx, by omega, by omega⟩
theorem pl_hp_of {m : Nat} {lo hi x : Nat → Nat} {a b : Int} (h : pl_bx m lo hi a b x) : pl_hp m lo hi a b := by
  obtain ⟨h1, h2, h3⟩ := h
  have e1 := pl_sn_le m (fun s hs => (h1 s hs).1)
  have e2 := pl_sn_le m (fun s hs => (h1 s hs).2)
  exact ⟨fun s hs => Nat.le_trans (h1 s hs).1 (h1 s hs).2, by omega, by omega, by omega⟩
