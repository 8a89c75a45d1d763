/-! A TOWN'S PLACES WRITTEN one by one -/
theorem rt_T_so0 {b i : Nat} {τ τ2 : Nat → Nat} {h : az_H} {v : Int32} (hT : rt_T b τ h) (hi : i < 4) (e : ∀ j, j ≠ 10 + 6 * i → τ2 j = τ j) (hv : v = nI (τ2 (10 + 6 * i))) : rt_T b τ2 (az_up h (b + 2) i v) := by
  obtain ⟨⟨t1, t2, t3, t4, t5, t6⟩, ts, tr, tw⟩ := hT
  have o9 : ∀ k, k ≠ 2 → az_up h (b + 2) i v (b + k) = h (b + k) := fun k hk => az_up_o (by omega)
  have o0 : az_up h (b + 2) i v b = h b := az_up_o (by omega)
  refine ⟨⟨by rw [o0, e _ (by omega)]; exact t1, by rw [o0, e _ (by omega)]; exact t2, by rw [o0, e _ (by omega)]; exact t3, by rw [o9 1 (by omega), e _ (by omega)]; exact t4, by rw [o9 8 (by omega), e _ (by omega)]; exact t5, by rw [o9 12 (by omega), e _ (by omega)]; exact t6⟩, fun s hs => ?_, fun r hr => ?_, fun w hw => ?_⟩
  · refine ⟨?_, ?_, ?_, ?_, ?_, ?_⟩
    · by_cases h9 : s = i
      · subst h9; rw [az_up_s, hv]
      · rw [az_up_n h9, e _ (by omega)]; exact (ts s hs).1
    · rw [o9 3 (by omega), e _ (by omega)]; exact (ts s hs).2.1
    · rw [o9 4 (by omega), e _ (by omega)]; exact (ts s hs).2.2.1
    · rw [o9 5 (by omega), e _ (by omega)]; exact (ts s hs).2.2.2.1
    · rw [o9 6 (by omega), e _ (by omega)]; exact (ts s hs).2.2.2.2.1
    · rw [o9 7 (by omega), e _ (by omega)]; exact (ts s hs).2.2.2.2.2
  · rw [o9 9 (by omega), o9 10 (by omega), o9 11 (by omega), e _ (by omega), e _ (by omega), e _ (by omega)]; exact tr r hr
  · rw [o9 13 (by omega), e _ (by omega)]; exact tw w hw
theorem rt_T_so1 {b i : Nat} {τ τ2 : Nat → Nat} {h : az_H} {v : Int32} (hT : rt_T b τ h) (hi : i < 4) (e : ∀ j, j ≠ 11 + 6 * i → τ2 j = τ j) (hv : v = nI (τ2 (11 + 6 * i))) : rt_T b τ2 (az_up h (b + 3) i v) := by
  obtain ⟨⟨t1, t2, t3, t4, t5, t6⟩, ts, tr, tw⟩ := hT
  have o9 : ∀ k, k ≠ 3 → az_up h (b + 3) i v (b + k) = h (b + k) := fun k hk => az_up_o (by omega)
  have o0 : az_up h (b + 3) i v b = h b := az_up_o (by omega)
  refine ⟨⟨by rw [o0, e _ (by omega)]; exact t1, by rw [o0, e _ (by omega)]; exact t2, by rw [o0, e _ (by omega)]; exact t3, by rw [o9 1 (by omega), e _ (by omega)]; exact t4, by rw [o9 8 (by omega), e _ (by omega)]; exact t5, by rw [o9 12 (by omega), e _ (by omega)]; exact t6⟩, fun s hs => ?_, fun r hr => ?_, fun w hw => ?_⟩
  · refine ⟨?_, ?_, ?_, ?_, ?_, ?_⟩
    · rw [o9 2 (by omega), e _ (by omega)]; exact (ts s hs).1
    · by_cases h9 : s = i
      · subst h9; rw [az_up_s, hv]
      · rw [az_up_n h9, e _ (by omega)]; exact (ts s hs).2.1
    · rw [o9 4 (by omega), e _ (by omega)]; exact (ts s hs).2.2.1
    · rw [o9 5 (by omega), e _ (by omega)]; exact (ts s hs).2.2.2.1
    · rw [o9 6 (by omega), e _ (by omega)]; exact (ts s hs).2.2.2.2.1
    · rw [o9 7 (by omega), e _ (by omega)]; exact (ts s hs).2.2.2.2.2
  · rw [o9 9 (by omega), o9 10 (by omega), o9 11 (by omega), e _ (by omega), e _ (by omega), e _ (by omega)]; exact tr r hr
  · rw [o9 13 (by omega), e _ (by omega)]; exact tw w hw
theorem rt_T_so2 {b i : Nat} {τ τ2 : Nat → Nat} {h : az_H} {v : Int32} (hT : rt_T b τ h) (hi : i < 4) (e : ∀ j, j ≠ 12 + 6 * i → τ2 j = τ j) (hv : v = nI (τ2 (12 + 6 * i))) : rt_T b τ2 (az_up h (b + 4) i v) := by
  obtain ⟨⟨t1, t2, t3, t4, t5, t6⟩, ts, tr, tw⟩ := hT
  have o9 : ∀ k, k ≠ 4 → az_up h (b + 4) i v (b + k) = h (b + k) := fun k hk => az_up_o (by omega)
  have o0 : az_up h (b + 4) i v b = h b := az_up_o (by omega)
  refine ⟨⟨by rw [o0, e _ (by omega)]; exact t1, by rw [o0, e _ (by omega)]; exact t2, by rw [o0, e _ (by omega)]; exact t3, by rw [o9 1 (by omega), e _ (by omega)]; exact t4, by rw [o9 8 (by omega), e _ (by omega)]; exact t5, by rw [o9 12 (by omega), e _ (by omega)]; exact t6⟩, fun s hs => ?_, fun r hr => ?_, fun w hw => ?_⟩
  · refine ⟨?_, ?_, ?_, ?_, ?_, ?_⟩
    · rw [o9 2 (by omega), e _ (by omega)]; exact (ts s hs).1
    · rw [o9 3 (by omega), e _ (by omega)]; exact (ts s hs).2.1
    · by_cases h9 : s = i
      · subst h9; rw [az_up_s, hv]
      · rw [az_up_n h9, e _ (by omega)]; exact (ts s hs).2.2.1
    · rw [o9 5 (by omega), e _ (by omega)]; exact (ts s hs).2.2.2.1
    · rw [o9 6 (by omega), e _ (by omega)]; exact (ts s hs).2.2.2.2.1
    · rw [o9 7 (by omega), e _ (by omega)]; exact (ts s hs).2.2.2.2.2
  · rw [o9 9 (by omega), o9 10 (by omega), o9 11 (by omega), e _ (by omega), e _ (by omega), e _ (by omega)]; exact tr r hr
  · rw [o9 13 (by omega), e _ (by omega)]; exact tw w hw
theorem rt_T_so3 {b i : Nat} {τ τ2 : Nat → Nat} {h : az_H} {v : Int32} (hT : rt_T b τ h) (hi : i < 4) (e : ∀ j, j ≠ 13 + 6 * i → τ2 j = τ j) (hv : v = nI (τ2 (13 + 6 * i))) : rt_T b τ2 (az_up h (b + 5) i v) := by
  obtain ⟨⟨t1, t2, t3, t4, t5, t6⟩, ts, tr, tw⟩ := hT
  have o9 : ∀ k, k ≠ 5 → az_up h (b + 5) i v (b + k) = h (b + k) := fun k hk => az_up_o (by omega)
  have o0 : az_up h (b + 5) i v b = h b := az_up_o (by omega)
  refine ⟨⟨by rw [o0, e _ (by omega)]; exact t1, by rw [o0, e _ (by omega)]; exact t2, by rw [o0, e _ (by omega)]; exact t3, by rw [o9 1 (by omega), e _ (by omega)]; exact t4, by rw [o9 8 (by omega), e _ (by omega)]; exact t5, by rw [o9 12 (by omega), e _ (by omega)]; exact t6⟩, fun s hs => ?_, fun r hr => ?_, fun w hw => ?_⟩
  · refine ⟨?_, ?_, ?_, ?_, ?_, ?_⟩
    · rw [o9 2 (by omega), e _ (by omega)]; exact (ts s hs).1
    · rw [o9 3 (by omega), e _ (by omega)]; exact (ts s hs).2.1
    · rw [o9 4 (by omega), e _ (by omega)]; exact (ts s hs).2.2.1
    · by_cases h9 : s = i
      · subst h9; rw [az_up_s, hv]
      · rw [az_up_n h9, e _ (by omega)]; exact (ts s hs).2.2.2.1
    · rw [o9 6 (by omega), e _ (by omega)]; exact (ts s hs).2.2.2.2.1
    · rw [o9 7 (by omega), e _ (by omega)]; exact (ts s hs).2.2.2.2.2
  · rw [o9 9 (by omega), o9 10 (by omega), o9 11 (by omega), e _ (by omega), e _ (by omega), e _ (by omega)]; exact tr r hr
  · rw [o9 13 (by omega), e _ (by omega)]; exact tw w hw
theorem rt_T_so4 {b i : Nat} {τ τ2 : Nat → Nat} {h : az_H} {v : Int32} (hT : rt_T b τ h) (hi : i < 4) (e : ∀ j, j ≠ 14 + 6 * i → τ2 j = τ j) (hv : v = nI (τ2 (14 + 6 * i))) : rt_T b τ2 (az_up h (b + 6) i v) := by
  obtain ⟨⟨t1, t2, t3, t4, t5, t6⟩, ts, tr, tw⟩ := hT
  have o9 : ∀ k, k ≠ 6 → az_up h (b + 6) i v (b + k) = h (b + k) := fun k hk => az_up_o (by omega)
  have o0 : az_up h (b + 6) i v b = h b := az_up_o (by omega)
  refine ⟨⟨by rw [o0, e _ (by omega)]; exact t1, by rw [o0, e _ (by omega)]; exact t2, by rw [o0, e _ (by omega)]; exact t3, by rw [o9 1 (by omega), e _ (by omega)]; exact t4, by rw [o9 8 (by omega), e _ (by omega)]; exact t5, by rw [o9 12 (by omega), e _ (by omega)]; exact t6⟩, fun s hs => ?_, fun r hr => ?_, fun w hw => ?_⟩
  · refine ⟨?_, ?_, ?_, ?_, ?_, ?_⟩
    · rw [o9 2 (by omega), e _ (by omega)]; exact (ts s hs).1
    · rw [o9 3 (by omega), e _ (by omega)]; exact (ts s hs).2.1
    · rw [o9 4 (by omega), e _ (by omega)]; exact (ts s hs).2.2.1
    · rw [o9 5 (by omega), e _ (by omega)]; exact (ts s hs).2.2.2.1
    · by_cases h9 : s = i
      · subst h9; rw [az_up_s, hv]
      · rw [az_up_n h9, e _ (by omega)]; exact (ts s hs).2.2.2.2.1
    · rw [o9 7 (by omega), e _ (by omega)]; exact (ts s hs).2.2.2.2.2
  · rw [o9 9 (by omega), o9 10 (by omega), o9 11 (by omega), e _ (by omega), e _ (by omega), e _ (by omega)]; exact tr r hr
  · rw [o9 13 (by omega), e _ (by omega)]; exact tw w hw
theorem rt_T_so5 {b i : Nat} {τ τ2 : Nat → Nat} {h : az_H} {v : Int32} (hT : rt_T b τ h) (hi : i < 4) (e : ∀ j, j ≠ 15 + 6 * i → τ2 j = τ j) (hv : v = nI (τ2 (15 + 6 * i))) : rt_T b τ2 (az_up h (b + 7) i v) := by
  obtain ⟨⟨t1, t2, t3, t4, t5, t6⟩, ts, tr, tw⟩ := hT
  have o9 : ∀ k, k ≠ 7 → az_up h (b + 7) i v (b + k) = h (b + k) := fun k hk => az_up_o (by omega)
  have o0 : az_up h (b + 7) i v b = h b := az_up_o (by omega)
  refine ⟨⟨by rw [o0, e _ (by omega)]; exact t1, by rw [o0, e _ (by omega)]; exact t2, by rw [o0, e _ (by omega)]; exact t3, by rw [o9 1 (by omega), e _ (by omega)]; exact t4, by rw [o9 8 (by omega), e _ (by omega)]; exact t5, by rw [o9 12 (by omega), e _ (by omega)]; exact t6⟩, fun s hs => ?_, fun r hr => ?_, fun w hw => ?_⟩
  · refine ⟨?_, ?_, ?_, ?_, ?_, ?_⟩
    · rw [o9 2 (by omega), e _ (by omega)]; exact (ts s hs).1
    · rw [o9 3 (by omega), e _ (by omega)]; exact (ts s hs).2.1
    · rw [o9 4 (by omega), e _ (by omega)]; exact (ts s hs).2.2.1
    · rw [o9 5 (by omega), e _ (by omega)]; exact (ts s hs).2.2.2.1
    · rw [o9 6 (by omega), e _ (by omega)]; exact (ts s hs).2.2.2.2.1
    · by_cases h9 : s = i
      · subst h9; rw [az_up_s, hv]
      · rw [az_up_n h9, e _ (by omega)]; exact (ts s hs).2.2.2.2.2
  · rw [o9 9 (by omega), o9 10 (by omega), o9 11 (by omega), e _ (by omega), e _ (by omega), e _ (by omega)]; exact tr r hr
  · rw [o9 13 (by omega), e _ (by omega)]; exact tw w hw
theorem rt_T_ru0 {b i : Nat} {τ τ2 : Nat → Nat} {h : az_H} {v : Int32} (hT : rt_T b τ h) (hi : i < 6) (e : ∀ j, j ≠ 40 + 3 * i → τ2 j = τ j) (hv : v = nI (τ2 (40 + 3 * i))) : rt_T b τ2 (az_up h (b + 9) i v) := by
  obtain ⟨⟨t1, t2, t3, t4, t5, t6⟩, ts, tr, tw⟩ := hT
  have o9 : ∀ k, k ≠ 9 → az_up h (b + 9) i v (b + k) = h (b + k) := fun k hk => az_up_o (by omega)
  have o0 : az_up h (b + 9) i v b = h b := az_up_o (by omega)
  refine ⟨⟨by rw [o0, e _ (by omega)]; exact t1, by rw [o0, e _ (by omega)]; exact t2, by rw [o0, e _ (by omega)]; exact t3, by rw [o9 1 (by omega), e _ (by omega)]; exact t4, by rw [o9 8 (by omega), e _ (by omega)]; exact t5, by rw [o9 12 (by omega), e _ (by omega)]; exact t6⟩, fun s hs => ?_, fun r hr => ?_, fun w hw => ?_⟩
  · rw [o9 2 (by omega), o9 3 (by omega), o9 4 (by omega), o9 5 (by omega), o9 6 (by omega), o9 7 (by omega), e _ (by omega), e _ (by omega), e _ (by omega), e _ (by omega), e _ (by omega), e _ (by omega)]; exact ts s hs
  · refine ⟨?_, ?_, ?_⟩
    · by_cases h9 : r = i
      · subst h9; rw [az_up_s, hv]
      · rw [az_up_n h9, e _ (by omega)]; exact (tr r hr).1
    · rw [o9 10 (by omega), e _ (by omega)]; exact (tr r hr).2.1
    · rw [o9 11 (by omega), e _ (by omega)]; exact (tr r hr).2.2
  · rw [o9 13 (by omega), e _ (by omega)]; exact tw w hw
theorem rt_T_ru1 {b i : Nat} {τ τ2 : Nat → Nat} {h : az_H} {v : Int32} (hT : rt_T b τ h) (hi : i < 6) (e : ∀ j, j ≠ 41 + 3 * i → τ2 j = τ j) (hv : v = nI (τ2 (41 + 3 * i))) : rt_T b τ2 (az_up h (b + 10) i v) := by
  obtain ⟨⟨t1, t2, t3, t4, t5, t6⟩, ts, tr, tw⟩ := hT
  have o9 : ∀ k, k ≠ 10 → az_up h (b + 10) i v (b + k) = h (b + k) := fun k hk => az_up_o (by omega)
  have o0 : az_up h (b + 10) i v b = h b := az_up_o (by omega)
  refine ⟨⟨by rw [o0, e _ (by omega)]; exact t1, by rw [o0, e _ (by omega)]; exact t2, by rw [o0, e _ (by omega)]; exact t3, by rw [o9 1 (by omega), e _ (by omega)]; exact t4, by rw [o9 8 (by omega), e _ (by omega)]; exact t5, by rw [o9 12 (by omega), e _ (by omega)]; exact t6⟩, fun s hs => ?_, fun r hr => ?_, fun w hw => ?_⟩
  · rw [o9 2 (by omega), o9 3 (by omega), o9 4 (by omega), o9 5 (by omega), o9 6 (by omega), o9 7 (by omega), e _ (by omega), e _ (by omega), e _ (by omega), e _ (by omega), e _ (by omega), e _ (by omega)]; exact ts s hs
  · refine ⟨?_, ?_, ?_⟩
    · rw [o9 9 (by omega), e _ (by omega)]; exact (tr r hr).1
    · by_cases h9 : r = i
      · subst h9; rw [az_up_s, hv]
      · rw [az_up_n h9, e _ (by omega)]; exact (tr r hr).2.1
    · rw [o9 11 (by omega), e _ (by omega)]; exact (tr r hr).2.2
  · rw [o9 13 (by omega), e _ (by omega)]; exact tw w hw
theorem rt_T_ru2 {b i : Nat} {τ τ2 : Nat → Nat} {h : az_H} {v : Int32} (hT : rt_T b τ h) (hi : i < 6) (e : ∀ j, j ≠ 42 + 3 * i → τ2 j = τ j) (hv : v = nI (τ2 (42 + 3 * i))) : rt_T b τ2 (az_up h (b + 11) i v) := by
  obtain ⟨⟨t1, t2, t3, t4, t5, t6⟩, ts, tr, tw⟩ := hT
  have o9 : ∀ k, k ≠ 11 → az_up h (b + 11) i v (b + k) = h (b + k) := fun k hk => az_up_o (by omega)
  have o0 : az_up h (b + 11) i v b = h b := az_up_o (by omega)
  refine ⟨⟨by rw [o0, e _ (by omega)]; exact t1, by rw [o0, e _ (by omega)]; exact t2, by rw [o0, e _ (by omega)]; exact t3, by rw [o9 1 (by omega), e _ (by omega)]; exact t4, by rw [o9 8 (by omega), e _ (by omega)]; exact t5, by rw [o9 12 (by omega), e _ (by omega)]; exact t6⟩, fun s hs => ?_, fun r hr => ?_, fun w hw => ?_⟩
  · rw [o9 2 (by omega), o9 3 (by omega), o9 4 (by omega), o9 5 (by omega), o9 6 (by omega), o9 7 (by omega), e _ (by omega), e _ (by omega), e _ (by omega), e _ (by omega), e _ (by omega), e _ (by omega)]; exact ts s hs
  · refine ⟨?_, ?_, ?_⟩
    · rw [o9 9 (by omega), e _ (by omega)]; exact (tr r hr).1
    · rw [o9 10 (by omega), e _ (by omega)]; exact (tr r hr).2.1
    · by_cases h9 : r = i
      · subst h9; rw [az_up_s, hv]
      · rw [az_up_n h9, e _ (by omega)]; exact (tr r hr).2.2
  · rw [o9 13 (by omega), e _ (by omega)]; exact tw w hw
theorem rt_T_wk {b i : Nat} {τ τ2 : Nat → Nat} {h : az_H} {v : Int32} (hT : rt_T b τ h) (hi : i < 8) (e : ∀ j, j ≠ 60 + i → τ2 j = τ j) (hv : v = nI (τ2 (60 + i))) : rt_T b τ2 (az_up h (b + 13) i v) := by
  obtain ⟨⟨t1, t2, t3, t4, t5, t6⟩, ts, tr, tw⟩ := hT
  have o9 : ∀ k, k ≠ 13 → az_up h (b + 13) i v (b + k) = h (b + k) := fun k hk => az_up_o (by omega)
  have o0 : az_up h (b + 13) i v b = h b := az_up_o (by omega)
  refine ⟨⟨by rw [o0, e _ (by omega)]; exact t1, by rw [o0, e _ (by omega)]; exact t2, by rw [o0, e _ (by omega)]; exact t3, by rw [o9 1 (by omega), e _ (by omega)]; exact t4, by rw [o9 8 (by omega), e _ (by omega)]; exact t5, by rw [o9 12 (by omega), e _ (by omega)]; exact t6⟩, fun s hs => ?_, fun r hr => ?_, fun w hw => ?_⟩
  · rw [o9 2 (by omega), o9 3 (by omega), o9 4 (by omega), o9 5 (by omega), o9 6 (by omega), o9 7 (by omega), e _ (by omega), e _ (by omega), e _ (by omega), e _ (by omega), e _ (by omega), e _ (by omega)]; exact ts s hs
  · rw [o9 9 (by omega), o9 10 (by omega), o9 11 (by omega), e _ (by omega), e _ (by omega), e _ (by omega)]; exact tr r hr
  · by_cases h9 : w = i
    · subst h9; rw [az_up_s, hv]
    · rw [az_up_n h9, e _ (by omega)]; exact tw w hw
theorem rt_T_ns {b : Nat} {τ τ2 : Nat → Nat} {h : az_H} {v : Int32} (hT : rt_T b τ h) (e : ∀ j, j ≠ 0 → τ2 j = τ j) (hv : v = nI (τ2 (0))) : rt_T b τ2 (az_up h (b + 1) 6 v) := by
  obtain ⟨⟨t1, t2, t3, t4, t5, t6⟩, ts, tr, tw⟩ := hT
  have o9 : ∀ k, k ≠ 1 → az_up h (b + 1) 6 v (b + k) = h (b + k) := fun k hk => az_up_o (by omega)
  have o0 : az_up h (b + 1) 6 v b = h b := az_up_o (by omega)
  refine ⟨⟨by rw [o0, e _ (by omega)]; exact t1, by rw [o0, e _ (by omega)]; exact t2, by rw [o0, e _ (by omega)]; exact t3, by rw [az_up_s, hv], by rw [o9 8 (by omega), e _ (by omega)]; exact t5, by rw [o9 12 (by omega), e _ (by omega)]; exact t6⟩, fun s hs => ?_, fun r hr => ?_, fun w hw => ?_⟩
  · rw [o9 2 (by omega), o9 3 (by omega), o9 4 (by omega), o9 5 (by omega), o9 6 (by omega), o9 7 (by omega), e _ (by omega), e _ (by omega), e _ (by omega), e _ (by omega), e _ (by omega), e _ (by omega)]; exact ts s hs
  · rw [o9 9 (by omega), o9 10 (by omega), o9 11 (by omega), e _ (by omega), e _ (by omega), e _ (by omega)]; exact tr r hr
  · rw [o9 13 (by omega), e _ (by omega)]; exact tw w hw
theorem rt_T_nr {b : Nat} {τ τ2 : Nat → Nat} {h : az_H} {v : Int32} (hT : rt_T b τ h) (e : ∀ j, j ≠ 1 → τ2 j = τ j) (hv : v = nI (τ2 (1))) : rt_T b τ2 (az_up h (b + 8) 3 v) := by
  obtain ⟨⟨t1, t2, t3, t4, t5, t6⟩, ts, tr, tw⟩ := hT
  have o9 : ∀ k, k ≠ 8 → az_up h (b + 8) 3 v (b + k) = h (b + k) := fun k hk => az_up_o (by omega)
  have o0 : az_up h (b + 8) 3 v b = h b := az_up_o (by omega)
  refine ⟨⟨by rw [o0, e _ (by omega)]; exact t1, by rw [o0, e _ (by omega)]; exact t2, by rw [o0, e _ (by omega)]; exact t3, by rw [o9 1 (by omega), e _ (by omega)]; exact t4, by rw [az_up_s, hv], by rw [o9 12 (by omega), e _ (by omega)]; exact t6⟩, fun s hs => ?_, fun r hr => ?_, fun w hw => ?_⟩
  · rw [o9 2 (by omega), o9 3 (by omega), o9 4 (by omega), o9 5 (by omega), o9 6 (by omega), o9 7 (by omega), e _ (by omega), e _ (by omega), e _ (by omega), e _ (by omega), e _ (by omega), e _ (by omega)]; exact ts s hs
  · rw [o9 9 (by omega), o9 10 (by omega), o9 11 (by omega), e _ (by omega), e _ (by omega), e _ (by omega)]; exact tr r hr
  · rw [o9 13 (by omega), e _ (by omega)]; exact tw w hw
theorem rt_T_ch {b : Nat} {τ τ2 : Nat → Nat} {h : az_H} {v : Int32} (hT : rt_T b τ h) (e : ∀ j, j ≠ 2 → τ2 j = τ j) (hv : v = nI (τ2 (2))) : rt_T b τ2 (az_up h b 3 v) := by
  obtain ⟨⟨t1, t2, t3, t4, t5, t6⟩, ts, tr, tw⟩ := hT
  have o9 : ∀ k, k ≠ 0 → az_up h b 3 v (b + k) = h (b + k) := fun k hk => az_up_o (by omega)
  refine ⟨⟨by rw [az_up_s, hv], by rw [az_up_n (by omega), e _ (by omega)]; exact t2, by rw [az_up_n (by omega), e _ (by omega)]; exact t3, by rw [o9 1 (by omega), e _ (by omega)]; exact t4, by rw [o9 8 (by omega), e _ (by omega)]; exact t5, by rw [o9 12 (by omega), e _ (by omega)]; exact t6⟩, fun s hs => ?_, fun r hr => ?_, fun w hw => ?_⟩
  · rw [o9 2 (by omega), o9 3 (by omega), o9 4 (by omega), o9 5 (by omega), o9 6 (by omega), o9 7 (by omega), e _ (by omega), e _ (by omega), e _ (by omega), e _ (by omega), e _ (by omega), e _ (by omega)]; exact ts s hs
  · rw [o9 9 (by omega), o9 10 (by omega), o9 11 (by omega), e _ (by omega), e _ (by omega), e _ (by omega)]; exact tr r hr
  · rw [o9 13 (by omega), e _ (by omega)]; exact tw w hw
/-- a town with one sort more, its six places from f; with one rule more -/
def sq_as (τ f : Nat → Nat) : Nat → Nat := fun j => if j = 0 then τ 0 + 1 else if 10 + 6 * τ 0 ≤ j ∧ j < 16 + 6 * τ 0 then f (j - (10 + 6 * τ 0)) else τ j
def sq_ar (τ : Nat → Nat) (kd sp : Nat) : Nat → Nat := fun j => if j = 1 then τ 1 + 1 else if j = 40 + 3 * τ 1 then kd else if j = 41 + 3 * τ 1 then sp else if j = 42 + 3 * τ 1 then 0 else τ j
theorem sq_as_k {τ f : Nat → Nat} {i k : Nat} (hk : k < 6) : sq_as τ f (10 + 6 * i + k) = if i = τ 0 then f k else τ (10 + 6 * i + k) := by
  unfold sq_as
  rw [if_neg (by omega)]
  by_cases h : i = τ 0
  · rw [if_pos (by omega), if_pos h, show 10 + 6 * i + k - (10 + 6 * τ 0) = k by omega]
  · rw [if_neg (by omega), if_neg h]
theorem sq_as_o {τ f : Nat → Nat} {j : Nat} (h0 : j ≠ 0) (h4 : τ 0 < 4) (hj : j < 10 ∨ 34 ≤ j) : sq_as τ f j = τ j := by
  unfold sq_as
  rw [if_neg h0, if_neg (by omega)]
theorem rt_V_as {τ f : Nat → Nat} (hV : rt_V τ) (h4 : τ 0 < 4) (f0 : 1 ≤ f 0 ∧ f 0 ≤ 9) (f1 : f 1 < 6) (f2 : f 2 ≤ 9) (f3 : f 3 ≤ 9) (f4 : f 4 ≤ 9) (f5 : f 5 ≤ 9) (fr : f 1 = 2 ∨ f 1 = 3 → f 2 < τ 1) : rt_V (sq_as τ f) := by
  obtain ⟨h0, h1, h2, h4', h5, hs, hs2, hr, hr2, hw⟩ := hV
  have e0 : sq_as τ f 0 = τ 0 + 1 := by rw [sq_as, if_pos rfl]
  have e : ∀ j, j ≠ 0 → j < 10 ∨ 34 ≤ j → sq_as τ f j = τ j := fun j a b => sq_as_o a h4 b
  refine ⟨by omega, by rw [e _ (by omega) (by omega)]; exact h1, by rw [e _ (by omega) (by omega)]; exact h2, by rw [e _ (by omega) (by omega)]; exact h4', by rw [e _ (by omega) (by omega)]; exact h5, fun s h9 => ?_, fun s h9 => ?_, fun r h9 => ?_, fun r h9 => ?_, fun w h9 => ?_⟩
  · have k0 := sq_as_k (τ := τ) (f := f) (i := s) (k := 0) (by omega)
    have k1 := sq_as_k (τ := τ) (f := f) (i := s) (k := 1) (by omega)
    have k2 := sq_as_k (τ := τ) (f := f) (i := s) (k := 2) (by omega)
    have k3 := sq_as_k (τ := τ) (f := f) (i := s) (k := 3) (by omega)
    have k4 := sq_as_k (τ := τ) (f := f) (i := s) (k := 4) (by omega)
    have k5 := sq_as_k (τ := τ) (f := f) (i := s) (k := 5) (by omega)
    rw [show 10 + 6 * s = 10 + 6 * s + 0 by omega, show 11 + 6 * s = 10 + 6 * s + 1 by omega, show 12 + 6 * s = 10 + 6 * s + 2 by omega, show 13 + 6 * s = 10 + 6 * s + 3 by omega, show 14 + 6 * s = 10 + 6 * s + 4 by omega, show 15 + 6 * s = 10 + 6 * s + 5 by omega, k0, k1, k2, k3, k4, k5]
    by_cases h : s = τ 0
    · simp only [if_pos h]
      exact ⟨f0.2, f1, f2, f3, f4, f5⟩
    · simp only [if_neg h]
      have q := hs s h9
      rw [show 11 + 6 * s = 10 + 6 * s + 1 by omega, show 12 + 6 * s = 10 + 6 * s + 2 by omega, show 13 + 6 * s = 10 + 6 * s + 3 by omega, show 14 + 6 * s = 10 + 6 * s + 4 by omega, show 15 + 6 * s = 10 + 6 * s + 5 by omega] at q
      exact q
  · rw [e0] at h9
    have k0 := sq_as_k (τ := τ) (f := f) (i := s) (k := 0) (by omega)
    have k1 := sq_as_k (τ := τ) (f := f) (i := s) (k := 1) (by omega)
    have k2 := sq_as_k (τ := τ) (f := f) (i := s) (k := 2) (by omega)
    rw [show 11 + 6 * s = 10 + 6 * s + 1 by omega, show 12 + 6 * s = 10 + 6 * s + 2 by omega, k1, k2, e 1 (by omega) (by omega)]
    rw [show 10 + 6 * s + 0 = 10 + 6 * s by omega] at k0
    rw [k0]
    by_cases h : s = τ 0
    · simp only [if_pos h]
      exact ⟨f0.1, fr⟩
    · simp only [if_neg h]
      have q := hs2 s (by omega)
      rw [show 11 + 6 * s = 10 + 6 * s + 1 by omega, show 12 + 6 * s = 10 + 6 * s + 2 by omega] at q
      exact q
  · rw [e _ (by omega) (by omega), e _ (by omega) (by omega)]; exact hr r h9
  · rw [e 1 (by omega) (by omega)] at h9; rw [e _ (by omega) (by omega)]; exact hr2 r h9
  · rw [e _ (by omega) (by omega)]; exact hw w h9
theorem rt_V_ar {τ : Nat → Nat} {kd sp : Nat} (hV : rt_V τ) (h6 : τ 1 < 6) (hk : kd < 6) (hs1 : 1 ≤ sp ∧ sp ≤ 6) : rt_V (sq_ar τ kd sp) := by
  obtain ⟨h0, h1, h2, h4, h5, hs, hs2, hr, hr2, hw⟩ := hV
  have e1 : sq_ar τ kd sp 1 = τ 1 + 1 := by rw [sq_ar, if_pos rfl]
  have e : ∀ j, j ≠ 1 → j < 40 ∨ 58 ≤ j → sq_ar τ kd sp j = τ j := fun j a b => by rw [sq_ar, if_neg a, if_neg (by omega), if_neg (by omega), if_neg (by omega)]
  have ek : ∀ r, sq_ar τ kd sp (40 + 3 * r) = if r = τ 1 then kd else τ (40 + 3 * r) := fun r => by
    rw [sq_ar, if_neg (by omega)]
    by_cases h : r = τ 1
    · rw [if_pos (by omega), if_pos h]
    · rw [if_neg (by omega), if_neg (by omega), if_neg (by omega), if_neg h]
  have es : ∀ r, sq_ar τ kd sp (41 + 3 * r) = if r = τ 1 then sp else τ (41 + 3 * r) := fun r => by
    rw [sq_ar, if_neg (by omega), if_neg (by omega)]
    by_cases h : r = τ 1
    · rw [if_pos (by omega), if_pos h]
    · rw [if_neg (by omega), if_neg (by omega), if_neg h]
  refine ⟨by rw [e _ (by omega) (by omega)]; exact h0, by omega, by rw [e _ (by omega) (by omega)]; exact h2, by rw [e _ (by omega) (by omega)]; exact h4, by rw [e _ (by omega) (by omega)]; exact h5, fun s h9 => ?_, fun s h9 => ?_, fun r h9 => ?_, fun r h9 => ?_, fun w h9 => ?_⟩
  · rw [e _ (by omega) (by omega), e _ (by omega) (by omega), e _ (by omega) (by omega), e _ (by omega) (by omega), e _ (by omega) (by omega), e _ (by omega) (by omega)]; exact hs s h9
  · rw [e 0 (by omega) (by omega)] at h9
    rw [e _ (by omega) (by omega), e _ (by omega) (by omega), e _ (by omega) (by omega), e1]
    exact ⟨(hs2 s h9).1, fun q => Nat.lt_succ_of_lt ((hs2 s h9).2 q)⟩
  · rw [ek, es]
    by_cases h : r = τ 1
    · simp only [if_pos h]; omega
    · simp only [if_neg h]; exact hr r h9
  · rw [e1] at h9
    rw [es]
    by_cases h : r = τ 1
    · simp only [if_pos h]; exact hs1.1
    · simp only [if_neg h]; exact hr2 r (by omega)
  · rw [e _ (by omega) (by omega)]; exact hw w h9
set_option maxRecDepth 100000 in
theorem ct_sadd {sc : az_S} {τ f : Nat → Nat} {h : az_H} {x0 x1 x2 x3 x4 x5 : Int32} (hT : rt_T 16 τ h) (h4 : τ 0 < 4) (f0 : 1 ≤ f 0 ∧ f 0 ≤ 9) (hx0 : x0 = nI (f 0)) (hx1 : x1 = nI (f 1)) (hx2 : x2 = nI (f 2)) (hx3 : x3 = nI (f 3)) (hx4 : x4 = nI (f 4)) (hx5 : x5 = nI (f 5)) : az_E sc az_m_X4_add 0 [.ref 17, .int x0, .int x1, .int x2, .int x3, .int x4, .int x5] [] h (fun v h1 => v = some (.int 1) ∧ rt_T 16 (sq_as τ f) h1 ∧ ∀ a, a < 17 ∨ 23 < a → h1 a = h a) := by
  have n0 : h 17 6 = nI (τ 0) := hT.1.2.2.2.1
  refine az_er 2 rfl ?_
  refine az_ic_lt rfl rfl (fun c2 => absurd c2 (by rw [hx0]; exact nI_nlt (b := 1) f0.1 (by omega))) (fun c2 => ?_)
  refine az_er 2 rfl ?_
  refine az_ic_gt rfl rfl (fun c8 => absurd c8 (by rw [hx0]; exact nI_nlt (a := 9) f0.2 (by omega))) (fun c8 => ?_)
  refine az_er 3 rfl ?_
  refine az_ic_lt rfl rfl (fun c16 => ?_) (fun c16 => absurd (by rw [n0]; exact nI_lt (b := 4) h4 (by omega)) c16)
  refine az_er 5 rfl ?_
  refine az_ecallF rfl rfl rfl rfl (ct_putI (j := τ 0) rfl (by rw [n0]) (show τ 0 < 4 by omega) (by decide)) ?_
  refine az_er 5 rfl ?_
  refine az_ecallF rfl rfl rfl rfl (ct_putI (j := τ 0) rfl (by rw [az_up_o (show (17 : Nat) ≠ 18 by decide)]; rw [n0]) (show τ 0 < 4 by omega) (by decide)) ?_
  refine az_er 5 rfl ?_
  refine az_ecallF rfl rfl rfl rfl (ct_putI (j := τ 0) rfl (by rw [az_up_o (show (17 : Nat) ≠ 19 by decide)]; rw [az_up_o (show (17 : Nat) ≠ 18 by decide)]; rw [n0]) (show τ 0 < 4 by omega) (by decide)) ?_
  refine az_er 5 rfl ?_
  refine az_ecallF rfl rfl rfl rfl (ct_putI (j := τ 0) rfl (by rw [az_up_o (show (17 : Nat) ≠ 20 by decide)]; rw [az_up_o (show (17 : Nat) ≠ 19 by decide)]; rw [az_up_o (show (17 : Nat) ≠ 18 by decide)]; rw [n0]) (show τ 0 < 4 by omega) (by decide)) ?_
  refine az_er 5 rfl ?_
  refine az_ecallF rfl rfl rfl rfl (ct_putI (j := τ 0) rfl (by rw [az_up_o (show (17 : Nat) ≠ 21 by decide)]; rw [az_up_o (show (17 : Nat) ≠ 20 by decide)]; rw [az_up_o (show (17 : Nat) ≠ 19 by decide)]; rw [az_up_o (show (17 : Nat) ≠ 18 by decide)]; rw [n0]) (show τ 0 < 4 by omega) (by decide)) ?_
  refine az_er 5 rfl ?_
  refine az_ecallF rfl rfl rfl rfl (ct_putI (j := τ 0) rfl (by rw [az_up_o (show (17 : Nat) ≠ 22 by decide)]; rw [az_up_o (show (17 : Nat) ≠ 21 by decide)]; rw [az_up_o (show (17 : Nat) ≠ 20 by decide)]; rw [az_up_o (show (17 : Nat) ≠ 19 by decide)]; rw [az_up_o (show (17 : Nat) ≠ 18 by decide)]; rw [n0]) (show τ 0 < 4 by omega) (by decide)) ?_
  refine az_er 7 rfl ?_
  refine az_eret rfl rfl rfl ?_
  refine ⟨rfl, ?_, fun a ha => by rw [az_up_o (by omega), az_up_o (by omega), az_up_o (by omega), az_up_o (by omega), az_up_o (by omega), az_up_o (by omega), az_up_o (by omega)]⟩
  rw [az_up_o (show (17 : Nat) ≠ 23 by decide), az_up_o (show (17 : Nat) ≠ 22 by decide), az_up_o (show (17 : Nat) ≠ 21 by decide), az_up_o (show (17 : Nat) ≠ 20 by decide), az_up_o (show (17 : Nat) ≠ 19 by decide), az_up_o (show (17 : Nat) ≠ 18 by decide),  n0, nI_1']
  have a0 := rt_T_so0 (i := τ 0) (v := x0) (τ2 := fun j => if j = 10 + 6 * τ 0 then f 0 else τ j) hT (by omega) (fun j hj => if_neg hj) (by rw [hx0]; exact congrArg nI (if_pos rfl).symm)
  have a1 := rt_T_so1 (i := τ 0) (v := x1) (τ2 := fun j => if j = 11 + 6 * τ 0 then f 1 else if j = 10 + 6 * τ 0 then f 0 else τ j) a0 (by omega) (fun j hj => if_neg hj) (by rw [hx1]; exact congrArg nI (if_pos rfl).symm)
  have a2 := rt_T_so2 (i := τ 0) (v := x2) (τ2 := fun j => if j = 12 + 6 * τ 0 then f 2 else if j = 11 + 6 * τ 0 then f 1 else if j = 10 + 6 * τ 0 then f 0 else τ j) a1 (by omega) (fun j hj => if_neg hj) (by rw [hx2]; exact congrArg nI (if_pos rfl).symm)
  have a3 := rt_T_so3 (i := τ 0) (v := x3) (τ2 := fun j => if j = 13 + 6 * τ 0 then f 3 else if j = 12 + 6 * τ 0 then f 2 else if j = 11 + 6 * τ 0 then f 1 else if j = 10 + 6 * τ 0 then f 0 else τ j) a2 (by omega) (fun j hj => if_neg hj) (by rw [hx3]; exact congrArg nI (if_pos rfl).symm)
  have a4 := rt_T_so4 (i := τ 0) (v := x4) (τ2 := fun j => if j = 14 + 6 * τ 0 then f 4 else if j = 13 + 6 * τ 0 then f 3 else if j = 12 + 6 * τ 0 then f 2 else if j = 11 + 6 * τ 0 then f 1 else if j = 10 + 6 * τ 0 then f 0 else τ j) a3 (by omega) (fun j hj => if_neg hj) (by rw [hx4]; exact congrArg nI (if_pos rfl).symm)
  have a5 := rt_T_so5 (i := τ 0) (v := x5) (τ2 := fun j => if j = 15 + 6 * τ 0 then f 5 else if j = 14 + 6 * τ 0 then f 4 else if j = 13 + 6 * τ 0 then f 3 else if j = 12 + 6 * τ 0 then f 2 else if j = 11 + 6 * τ 0 then f 1 else if j = 10 + 6 * τ 0 then f 0 else τ j) a4 (by omega) (fun j hj => if_neg hj) (by rw [hx5]; exact congrArg nI (if_pos rfl).symm)
  refine rt_T_ns a5 (fun j hj => ?_) (congrArg nI (by rw [sq_as, if_pos rfl]))
  rw [sq_as, if_neg hj]
  by_cases h1 : 10 + 6 * τ 0 ≤ j ∧ j < 16 + 6 * τ 0
  · rw [if_pos h1]
    obtain ⟨k, hk, rfl⟩ : ∃ k, k < 6 ∧ j = 10 + 6 * τ 0 + k := ⟨j - (10 + 6 * τ 0), by omega, by omega⟩
    rw [show 10 + 6 * τ 0 + k - (10 + 6 * τ 0) = k by omega]
    rcases (show k = 0 ∨ k = 1 ∨ k = 2 ∨ k = 3 ∨ k = 4 ∨ k = 5 by omega) with rfl | rfl | rfl | rfl | rfl | rfl
    · simp only [if_neg (show ¬ 10 + 6 * τ 0 + 0 = 15 + 6 * τ 0 by omega), if_neg (show ¬ 10 + 6 * τ 0 + 0 = 14 + 6 * τ 0 by omega), if_neg (show ¬ 10 + 6 * τ 0 + 0 = 13 + 6 * τ 0 by omega), if_neg (show ¬ 10 + 6 * τ 0 + 0 = 12 + 6 * τ 0 by omega), if_neg (show ¬ 10 + 6 * τ 0 + 0 = 11 + 6 * τ 0 by omega), if_pos (show 10 + 6 * τ 0 + 0 = 10 + 6 * τ 0 by omega)]
    · simp only [if_neg (show ¬ 10 + 6 * τ 0 + 1 = 15 + 6 * τ 0 by omega), if_neg (show ¬ 10 + 6 * τ 0 + 1 = 14 + 6 * τ 0 by omega), if_neg (show ¬ 10 + 6 * τ 0 + 1 = 13 + 6 * τ 0 by omega), if_neg (show ¬ 10 + 6 * τ 0 + 1 = 12 + 6 * τ 0 by omega), if_pos (show 10 + 6 * τ 0 + 1 = 11 + 6 * τ 0 by omega)]
    · simp only [if_neg (show ¬ 10 + 6 * τ 0 + 2 = 15 + 6 * τ 0 by omega), if_neg (show ¬ 10 + 6 * τ 0 + 2 = 14 + 6 * τ 0 by omega), if_neg (show ¬ 10 + 6 * τ 0 + 2 = 13 + 6 * τ 0 by omega), if_pos (show 10 + 6 * τ 0 + 2 = 12 + 6 * τ 0 by omega)]
    · simp only [if_neg (show ¬ 10 + 6 * τ 0 + 3 = 15 + 6 * τ 0 by omega), if_neg (show ¬ 10 + 6 * τ 0 + 3 = 14 + 6 * τ 0 by omega), if_pos (show 10 + 6 * τ 0 + 3 = 13 + 6 * τ 0 by omega)]
    · simp only [if_neg (show ¬ 10 + 6 * τ 0 + 4 = 15 + 6 * τ 0 by omega), if_pos (show 10 + 6 * τ 0 + 4 = 14 + 6 * τ 0 by omega)]
    · simp only [if_pos (show 10 + 6 * τ 0 + 5 = 15 + 6 * τ 0 by omega)]
  · simp only [if_neg h1, if_neg (show ¬ j = 10 + 6 * τ 0 by omega), if_neg (show ¬ j = 11 + 6 * τ 0 by omega), if_neg (show ¬ j = 12 + 6 * τ 0 by omega), if_neg (show ¬ j = 13 + 6 * τ 0 by omega), if_neg (show ¬ j = 14 + 6 * τ 0 by omega), if_neg (show ¬ j = 15 + 6 * τ 0 by omega)]
