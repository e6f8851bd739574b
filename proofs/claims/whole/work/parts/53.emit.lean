/-! the MESSAGE is sent: what was told to be lost -/
theorem Fl.of {a a' b b' : Ab} (F : Fl a b) (hi : ∀ k, k = 9 ∨ k = 11 ∨ k = 12 ∨ k = 13 ∨ k = 16 ∨ k = 19 ∨ k = 20 ∨ k = 21 → a'.1 k = a.1 k) (hn : ∀ k, k = 0 ∨ k = 1 ∨ k = 3 ∨ k = 4 → a'.2.2.1 k = a.2.2.1 k) (hr : a'.2.2.2.2.1 = a.2.2.2.2.1) (hb : ∀ k, k = 11 ∨ k = 12 ∨ k = 19 ∨ k = 21 ∨ k = 27 ∨ k = 28 ∨ k = 30 → b'.1 k = b.1 k) : Fl a' b' := by
  have i9 := hi 9 (by decide)
  have i11 := hi 11 (by decide)
  have i12 := hi 12 (by decide)
  have i13 := hi 13 (by decide)
  have i16 := hi 16 (by decide)
  have i19 := hi 19 (by decide)
  have i20 := hi 20 (by decide)
  have i21 := hi 21 (by decide)
  have n0 := hn 0 (by decide)
  have n1 := hn 1 (by decide)
  have n3 := hn 3 (by decide)
  have n4 := hn 4 (by decide)
  have b11 := hb 11 (by decide)
  have b12 := hb 12 (by decide)
  have b19 := hb 19 (by decide)
  have b21 := hb 21 (by decide)
  have b27 := hb 27 (by decide)
  have b28 := hb 28 (by decide)
  have b30 := hb 30 (by decide)
  have hP : ∀ f, FP a f → FP a' f := fun f P => P.of i19 i20 i21 n0 hr
  unfold Fl at F ⊢
  rw [i9, i11, i12, i13, i16, i19, n0, n1, n3, n4, hr, b11, b12, b19, b21, b27, b28, b30]
  rcases F with h | h | ⟨f, B, K, fp, h⟩ | ⟨f, fp, h⟩ | ⟨f, B, K, p, fp, h⟩ | ⟨f, fp, h⟩ | ⟨f, fp, h⟩
  · exact Or.inl h
  · exact Or.inr (Or.inl h)
  · exact Or.inr (Or.inr (Or.inl ⟨f, B, K, hP f fp, h⟩))
  · exact Or.inr (Or.inr (Or.inr (Or.inl ⟨f, hP f fp, h⟩)))
  · exact Or.inr (Or.inr (Or.inr (Or.inr (Or.inl ⟨f, B, K, p, hP f fp, h⟩))))
  · exact Or.inr (Or.inr (Or.inr (Or.inr (Or.inr (Or.inl ⟨f, hP f fp, h⟩)))))
  · exact Or.inr (Or.inr (Or.inr (Or.inr (Or.inr (Or.inr ⟨f, hP f fp, h⟩)))))
theorem Cm.of {a a' b b' : Ab} (F : Cm a b) (hi : ∀ k, k = 9 ∨ k = 11 ∨ k = 12 ∨ k = 13 ∨ k = 16 ∨ k = 19 ∨ k = 20 ∨ k = 21 → a'.1 k = a.1 k) (hn : ∀ k, k = 0 ∨ k = 1 ∨ k = 3 ∨ k = 4 → a'.2.2.1 k = a.2.2.1 k) (hr : a'.2.2.2.2.1 = a.2.2.2.2.1) (hb : ∀ k, k = 11 ∨ k = 12 ∨ k = 19 ∨ k = 21 ∨ k = 27 ∨ k = 28 ∨ k = 30 → b'.1 k = b.1 k) : Cm a' b' := by
  have i9 := hi 9 (by decide)
  have i11 := hi 11 (by decide)
  have i12 := hi 12 (by decide)
  have i13 := hi 13 (by decide)
  have i16 := hi 16 (by decide)
  have i19 := hi 19 (by decide)
  have i20 := hi 20 (by decide)
  have i21 := hi 21 (by decide)
  have n0 := hn 0 (by decide)
  have n4 := hn 4 (by decide)
  have b11 := hb 11 (by decide)
  have b12 := hb 12 (by decide)
  have b19 := hb 19 (by decide)
  have b21 := hb 21 (by decide)
  have b27 := hb 27 (by decide)
  have b28 := hb 28 (by decide)
  have b30 := hb 30 (by decide)
  have hP : ∀ f, FP a f → FP a' f := fun f P => P.of i19 i20 i21 n0 hr
  unfold Cm at F ⊢
  rw [i9, i11, i12, i13, i16, i19, n0, n4, hr, b11, b12, b19, b21, b27, b28, b30]
  rcases F with h | h | ⟨f, B, K, p, fp, h⟩ | ⟨f, fp, h⟩ | ⟨f, fp, h⟩
  · exact Or.inl h
  · exact Or.inr (Or.inl h)
  · exact Or.inr (Or.inr (Or.inl ⟨f, B, K, p, hP f fp, h⟩))
  · exact Or.inr (Or.inr (Or.inr (Or.inl ⟨f, hP f fp, h⟩)))
  · exact Or.inr (Or.inr (Or.inr (Or.inr ⟨f, hP f fp, h⟩)))
def msk (T : List Nat) : Nat := (T.map (fun t => 2 ^ (t - 1))).sum
theorem msk_c (t : Nat) (T : List Nat) : msk (t :: T) = 2 ^ (t - 1) + msk T := by simp [msk]
theorem shT_c1 (T : List Nat) : shT (1 :: T) = shT T := by simp [shT]
theorem shT_cn {t : Nat} (T : List Nat) (h : t ≠ 1) : shT (t :: T) = (t - 1) :: shT T := by
  unfold shT
  rw [List.filter_cons_of_pos (by simpa using h)]
  rfl
theorem mem_sh {u : Nat} : ∀ {T : List Nat}, (∀ t ∈ T, 1 ≤ t) → u ∈ shT T → 1 ≤ u ∧ u + 1 ∈ T
  | [], _, h => by cases h
  | t :: T, hT, h => by
    have h1 : 1 ≤ t := hT t (by simp)
    have hT' : ∀ x ∈ T, 1 ≤ x := fun x hx => hT x (by simp [hx])
    by_cases e : t = 1
    · subst e
      rw [shT_c1] at h
      have := mem_sh hT' h
      exact ⟨this.1, by simp [this.2]⟩
    · rw [shT_cn T e] at h
      rcases List.mem_cons.mp h with q | q
      · subst q
        exact ⟨by omega, by rw [Nat.sub_add_cancel h1]; simp⟩
      · have := mem_sh hT' q
        exact ⟨this.1, by simp [this.2]⟩
theorem sh_nd : ∀ {T : List Nat}, (∀ t ∈ T, 1 ≤ t) → T.Nodup → (shT T).Nodup
  | [], _, h => by simp [shT]
  | t :: T, hT, h => by
    have h1 : 1 ≤ t := hT t (by simp)
    have hT' : ∀ x ∈ T, 1 ≤ x := fun x hx => hT x (by simp [hx])
    obtain ⟨n1, n2⟩ := List.nodup_cons.mp h
    by_cases e : t = 1
    · subst e
      rw [shT_c1]
      exact sh_nd hT' n2
    · rw [shT_cn T e]
      refine List.nodup_cons.mpr ⟨fun q => n1 ?_, sh_nd hT' n2⟩
      have := (mem_sh hT' q).2
      rw [Nat.sub_add_cancel h1] at this
      exact this
theorem msk_sh : ∀ {T : List Nat}, (∀ t ∈ T, 1 ≤ t) → T.Nodup → msk T = (if 1 ∈ T then 1 else 0) + 2 * msk (shT T)
  | [], _, h => by simp [msk, shT]
  | t :: T, hT, h => by
    have h1 : 1 ≤ t := hT t (by simp)
    have hT' : ∀ x ∈ T, 1 ≤ x := fun x hx => hT x (by simp [hx])
    obtain ⟨n1, n2⟩ := List.nodup_cons.mp h
    have ih := msk_sh hT' n2
    by_cases e : t = 1
    · subst e
      rw [shT_c1, msk_c, ih, if_neg n1, if_pos (by simp)]
      simp
    · have e2 : (1 ∈ t :: T) ↔ 1 ∈ T := by
        rw [List.mem_cons]
        exact ⟨fun z => z.elim (fun y => absurd y.symm e) id, Or.inr⟩
      rw [shT_cn T e, msk_c, msk_c, ih]
      simp only [e2]
      obtain ⟨u, rfl⟩ : ∃ u, t = u + 2 := ⟨t - 2, by omega⟩
      rw [show u + 2 - 1 = u + 1 by omega, show u + 1 - 1 = u by omega, Nat.pow_succ]
      omega
theorem msk_le : ∀ {T : List Nat}, (∀ t ∈ T, t ≤ 50) → msk T ≤ T.length * 2 ^ 49
  | [], _ => by simp [msk]
  | t :: T, hT => by
    have ih := msk_le (T := T) (fun x hx => hT x (by simp [hx]))
    have h1 : 2 ^ (t - 1) ≤ 2 ^ 49 := Nat.pow_le_pow_right (by decide) (by have := hT t (by simp); omega)
    rw [msk_c, List.length_cons, Nat.succ_mul]
    omega
def Tl (a : Ab) : Prop := (∀ t ∈ a.2.2.1 5, 1 ≤ t ∧ t ≤ 50) ∧ (a.2.2.1 5).Nodup ∧ (a.2.2.1 5).length ≤ 8 ∧ a.2.1 0 = lN (msk (a.2.2.1 5))
theorem Tl.lt {a : Ab} (T : Tl a) : msk (a.2.2.1 5) < 2 ^ 53 := by
  have h1 := msk_le (T := a.2.2.1 5) (fun t ht => (T.1 t ht).2)
  have h2 := T.2.2.1
  have h3 : (a.2.2.1 5).length * 2 ^ 49 ≤ 8 * 2 ^ 49 := Nat.mul_le_mul_right _ h2
  have h4 : (8 : Nat) * 2 ^ 49 < 2 ^ 53 := by decide
  omega
theorem Tl.bit {a : Ab} (T : Tl a) : (a.2.1 0 &&& 1 = 0) ↔ ¬ 1 ∈ a.2.2.1 5 := by
  have hlt := T.lt
  rw [T.2.2.2]
  have e := wb_mask (n := msk (a.2.2.1 5)) (k := 1) (by omega) (by decide)
  rw [show (lN (2 ^ 1 - 1) : Int64) = 1 by decide] at e
  rw [e]
  have hs := msk_sh (fun t ht => (T.1 t ht).1) T.2.1
  have e0 : (lN (msk (a.2.2.1 5) % 2 ^ 1) = 0) ↔ msk (a.2.2.1 5) % 2 = 0 := by
    rw [show (0 : Int64) = lN 0 by decide]
    exact pk_lEQ (by omega) (by decide)
  rw [e0]
  by_cases q : 1 ∈ a.2.2.1 5
  · rw [if_pos q] at hs
    simp [q]
    omega
  · rw [if_neg q] at hs
    simp [q]
    omega
theorem Tl.next {a : Ab} (T : Tl a) : ushr1 (a.2.1 0) = lN (msk (shT (a.2.2.1 5))) := by
  have hlt := T.lt
  rw [T.2.2.2, ushr1, show (1 : Int32) = nI 1 by decide, wb_shr (by omega) (by decide)]
  have hs := msk_sh (fun t ht => (T.1 t ht).1) T.2.1
  congr 1
  rw [Nat.pow_one]
  split at hs <;> omega
theorem Tl.sh {a a' : Ab} (T : Tl a) (h5 : a'.2.2.1 5 = shT (a.2.2.1 5)) (h0 : a'.2.1 0 = ushr1 (a.2.1 0)) : Tl a' := by
  have h1 : ∀ t ∈ a.2.2.1 5, 1 ≤ t := fun t ht => (T.1 t ht).1
  refine ⟨fun u hu => ?_, ?_, ?_, ?_⟩
  · rw [h5] at hu
    have q := mem_sh h1 hu
    have := (T.1 _ q.2).2
    exact ⟨q.1, by omega⟩
  · rw [h5]; exact sh_nd h1 T.2.1
  · rw [h5]
    have := shT_len (a.2.2.1 5) (a.2.2.1 5).length
    rw [List.take_length] at this
    have := T.2.2.1
    omega
  · rw [h0, h5, T.next]
theorem em5_i (a : Ab) {k : Nat} (h2 : k ≠ 2) (h5 : k ≠ 5) (h7 : k ≠ 7) (h8 : k ≠ 8) : (em5 a).1 k = a.1 k := by
  show (aI (aL (if emEnd a = 0 then aL (emK a) 1 (a.2.1 1 + (a.1 10).toInt64) else aL (emK a) 2 (a.2.1 2 + (a.1 10).toInt64)) 0 (ushr1 (a.2.1 0))) 2 (if a.2.1 0 &&& 1 = 0 then 0 else 1)).1 k = a.1 k
  rw [aI_ne _ _ h2]
  show (if emEnd a = 0 then aL (emK a) 1 (a.2.1 1 + (a.1 10).toInt64) else aL (emK a) 2 (a.2.1 2 + (a.1 10).toInt64)).1 k = a.1 k
  split
  · exact emK_i a h5 h7 h8
  · exact emK_i a h5 h7 h8
theorem em5_r (a : Ab) : (em5 a).2.2.2 = a.2.2.2 := by
  show (if emEnd a = 0 then aL (emK a) 1 (a.2.1 1 + (a.1 10).toInt64) else aL (emK a) 2 (a.2.1 2 + (a.1 10).toInt64)).2.2.2 = a.2.2.2
  split
  · show (emK a).2.2.2 = _; rw [emK_2]
  · show (emK a).2.2.2 = _; rw [emK_2]
theorem em5_n (a : Ab) {k : Nat} (h5 : k ≠ 5) : (em5 a).2.2.1 k = a.2.2.1 k := by
  show va_up (if emEnd a = 0 then aL (emK a) 1 (a.2.1 1 + (a.1 10).toInt64) else aL (emK a) 2 (a.2.1 2 + (a.1 10).toInt64)).2.2.1 5 (shT (a.2.2.1 5)) k = a.2.2.1 k
  simp only [va_up, if_neg h5]
  split
  · show (emK a).2.2.1 k = _; rw [emK_2]
  · show (emK a).2.2.1 k = _; rw [emK_2]
theorem mEm_i (b : Ab) {k : Nat} (h2 : k ≠ 2) (h5 : k ≠ 5) (h7 : k ≠ 7) (h8 : k ≠ 8) : (mEm b).1 k = b.1 k := by
  unfold mEm mEm4 mEm3
  rw [aI_ne _ _ h2]
  show (aI (aI (mEm2 (mEm1 b)) 5 ((mEm2 (mEm1 b)).1 5 + 1)) 8 ((mEm2 (mEm1 b)).1 9)).1 k = b.1 k
  rw [aI_ne _ _ h8, aI_ne _ _ h5]
  have e : (mEm2 (mEm1 b)).1 = (mEm1 b).1 := by unfold mEm2; split <;> rfl
  rw [e]
  unfold mEm1
  split
  · exact aI_ne _ _ h7
  · rfl

