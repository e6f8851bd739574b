/-! how the model's world shows the abstract state: the same banks, registers 12 and 27..30 are its own -/
def mloc (k : Nat) : Nat × Nat := match k with
  | 0 => (59, 4) | 1 => (59, 5) | 2 => (59, 31) | 3 => (59, 32) | 4 => (64, 1) | 5 => (64, 2) | 6 => (64, 3) | 7 => (64, 12) | 8 => (64, 14)
  | 9 => (59, 25) | 10 => (59, 26) | 11 => (59, 27) | 12 => (59, 15) | 13 => (59, 19) | 14 => (64, 10) | 15 => (64, 11)
  | 16 => (59, 6) | 17 => (59, 7) | 18 => (59, 8) | 19 => (59, 16) | 20 => (59, 18) | 21 => (59, 17)
  | 22 => (64, 5) | 23 => (64, 6) | 24 => (64, 7) | 25 => (64, 8) | 26 => (64, 9) | 27 => (59, 20) | 28 => (59, 21) | 29 => (59, 24) | _ => (59, 39)
def mlocL (k : Nat) : Nat × Nat := match k with
  | 1 => (65, 0) | 2 => (65, 1) | _ => (59, 28)
theorem mloc_inj : ∀ i, i < 31 → ∀ j, j < 31 → i ≠ j → mloc i ≠ mloc j := by decide
theorem mloc_in : ∀ i, i < 31 → (mloc i).1 = 64 ∨ ((mloc i).1 = 59 ∧ (mloc i).2 ≠ 12 ∧ (mloc i).2 ≠ 23 ∧ (mloc i).2 ≠ 30 ∧ (mloc i).2 ≠ 41 ∧ (mloc i).2 ≠ 35 ∧ (mloc i).2 ≠ 38) := by decide
theorem mlocL_inj : ∀ i, i < 4 → ∀ j, j < 4 → (1 ≤ i ∧ 1 ≤ j ∧ i ≠ j) → mlocL i ≠ mlocL j := by decide
theorem mlocL_in : ∀ i, i < 4 → (mlocL i).1 = 65 ∨ (mlocL i).1 = 59 := by decide
def RefM (r : Nat → Nat → Option Nat) : Prop := r 59 0 = some 60 ∧ r 59 1 = some 61 ∧ r 59 2 = some 62 ∧ r 59 3 = some 63 ∧ r 59 9 = some 64 ∧ r 59 10 = some 65 ∧ r 59 11 = some 66 ∧ r 59 13 = some 67 ∧ r 59 14 = some 68 ∧ r 59 22 = some 69 ∧ r 59 29 = some 70 ∧ r 59 33 = some 71 ∧ r 59 34 = some 72 ∧ r 59 36 = some 73 ∧ r 59 37 = some 74 ∧ r 59 40 = some 75
def NumM (h : Hp) (arr s m : Nat) (W : List Nat) : Prop := h.1 59 s = nI W.length ∧ W.length ≤ m ∧ ∀ j, j < W.length → h.1 arr j = nI (W.getD j 0)
def BufM (h : Hp) (arr s m : Nat) (xs : List Nat) : Prop := h.1 59 s = nI xs.length ∧ xs.length ≤ m ∧ BSeg h arr 0 xs
def szI (o : Option (List Nat)) : Int32 := match o with
  | none => -2
  | some xs => nI xs.length
def FileM (h : Hp) (FF : Nat → FS) : Prop := ∀ e, e < 2 → ∀ f, f < 8 → h.1 61 (8 * e + f) = szI (FF e f) ∧ ((FF e f).getD []).length ≤ 500 ∧ BSeg h 60 (500 * (8 * e + f)) ((FF e f).getD [])
def SumM (h : Hp) (s w t : Nat) (L : List (Int64 × Int64)) : Prop := h.1 59 s = nI L.length ∧ L.length ≤ 500 ∧ ∀ j, j < L.length → h.2.1 w j = (L.getD j (0, 0)).1 ∧ h.2.1 t j = (L.getD j (0, 0)).2
def MIn (b : Ab) (h : Hp) : Prop := ∀ k, k < 31 → h.1 (mloc k).1 (mloc k).2 = b.1 k
def MLn (b : Ab) (h : Hp) : Prop := ∀ k, k < 4 → 1 ≤ k → h.2.1 (mlocL k).1 (mlocL k).2 = b.2.1 k
def MRep (b : Ab) (h : Hp) : Prop := MIn b h ∧ MLn b h ∧ RefM h.2.2 ∧ NumM h 66 12 16 (b.2.2.1 0) ∧ FlagR h 67 (b.2.2.2.2.1 0) ∧ FlagR h 68 (b.2.2.2.2.1 1) ∧ BufM h 69 23 500 (b.2.2.1 1) ∧ BufM h 70 30 16 (b.2.2.1 2) ∧ NumM h 75 41 8 (b.2.2.1 5) ∧ FileM h b.2.2.2.1 ∧ SumM h 35 71 72 (b.2.2.2.2.2 0) ∧ SumM h 38 73 74 (b.2.2.2.2.2 1)
/-- the model's calls leave the class's part alone -/
def MF (h h' : Hp) : Prop := h'.2.2 = h.2.2 ∧ ∀ x, x < 59 → h'.1 x = h.1 x ∧ h'.2.1 x = h.2.1 x
theorem MF.rf {h : Hp} : MF h h := ⟨rfl, fun _ _ => ⟨rfl, rfl⟩⟩
theorem MF.tr {h h1 h2 : Hp} (a : MF h h1) (b : MF h1 h2) : MF h h2 := ⟨b.1.trans a.1, fun x q => ⟨(b.2 x q).1.trans (a.2 x q).1, (b.2 x q).2.trans (a.2 x q).2⟩⟩
theorem MF_sI {h h1 : Hp} {b k : Nat} {x : Int32} (F : MF h h1) (hb : 59 ≤ b) : MF h (sI h1 b k x) := by
  refine ⟨F.1, fun y q => ⟨?_, (F.2 y q).2⟩⟩
  rw [← (F.2 y q).1]
  funext j
  have : y ≠ b := by omega
  simp [sI, u2, this]
theorem MF_sL {h h1 : Hp} {b k : Nat} {x : Int64} (F : MF h h1) (hb : 59 ≤ b) : MF h (sL h1 b k x) := by
  refine ⟨F.1, fun y q => ⟨(F.2 y q).1, ?_⟩⟩
  rw [← (F.2 y q).2]
  funext j
  have : y ≠ b := by omega
  simp [sL, u2, this]
theorem NumM.off {h h' : Hp} {arr s m : Nat} {W : List Nat} (N : NumM h arr s m W) (h1 : h'.1 arr = h.1 arr) (h2 : h'.1 59 s = h.1 59 s) : NumM h' arr s m W := ⟨by rw [h2]; exact N.1, N.2.1, by rw [h1]; exact N.2.2⟩
theorem BSeg.off {h h' : Hp} {arr o : Nat} {W : List Nat} (N : BSeg h arr o W) (h1 : h'.1 arr = h.1 arr) : BSeg h' arr o W := ⟨N.1, by rw [h1]; exact N.2⟩
theorem BufM.off {h h' : Hp} {arr s m : Nat} {W : List Nat} (N : BufM h arr s m W) (h1 : h'.1 arr = h.1 arr) (h2 : h'.1 59 s = h.1 59 s) : BufM h' arr s m W := ⟨by rw [h2]; exact N.1, N.2.1, N.2.2.off h1⟩
theorem FlagR.off {h h' : Hp} {x : Nat} {g : Nat → Bool} (N : FlagR h x g) (h1 : h'.1 x = h.1 x) : FlagR h' x g := by unfold FlagR; rw [h1]; exact N
theorem FileM.off {h h' : Hp} {FF : Nat → FS} (N : FileM h FF) (h1 : h'.1 60 = h.1 60) (h2 : h'.1 61 = h.1 61) : FileM h' FF := fun e he f hf => ⟨by rw [h2]; exact (N e he f hf).1, (N e he f hf).2.1, (N e he f hf).2.2.off h1⟩
theorem SumM.off {h h' : Hp} {s w t : Nat} {L : List (Int64 × Int64)} (N : SumM h s w t L) (h1 : h'.1 59 s = h.1 59 s) (h2 : h'.2.1 w = h.2.1 w) (h3 : h'.2.1 t = h.2.1 t) : SumM h' s w t L := ⟨by rw [h1]; exact N.1, N.2.1, by rw [h2, h3]; exact N.2.2⟩
theorem MRep.upd {b b' : Ab} {h h' : Hp} (M : MRep b h) (X : Nat → Bool) (s0 : Nat) (d3 : h'.2.2 = h.2.2) (d1 : ∀ x, X x = false → x ≠ 59 → h'.1 x = h.1 x) (d2 : ∀ s, s ≠ s0 → h'.1 59 s = h.1 59 s) (d4 : ∀ x, X x = false → x ≠ 59 → h'.2.1 x = h.2.1 x)
    (u1 : MIn b' h') (u2 : MLn b' h')
    (u4 : NumM h' 66 12 16 (b'.2.2.1 0) ∨ X 66 = false ∧ s0 ≠ 12 ∧ b'.2.2.1 0 = b.2.2.1 0)
    (u5 : FlagR h' 67 (b'.2.2.2.2.1 0) ∨ X 67 = false ∧ b'.2.2.2.2.1 0 = b.2.2.2.2.1 0)
    (u6 : FlagR h' 68 (b'.2.2.2.2.1 1) ∨ X 68 = false ∧ b'.2.2.2.2.1 1 = b.2.2.2.2.1 1)
    (u7 : BufM h' 69 23 500 (b'.2.2.1 1) ∨ X 69 = false ∧ s0 ≠ 23 ∧ b'.2.2.1 1 = b.2.2.1 1)
    (u8 : BufM h' 70 30 16 (b'.2.2.1 2) ∨ X 70 = false ∧ s0 ≠ 30 ∧ b'.2.2.1 2 = b.2.2.1 2)
    (u9 : NumM h' 75 41 8 (b'.2.2.1 5) ∨ X 75 = false ∧ s0 ≠ 41 ∧ b'.2.2.1 5 = b.2.2.1 5)
    (u10 : FileM h' b'.2.2.2.1 ∨ X 60 = false ∧ X 61 = false ∧ b'.2.2.2.1 = b.2.2.2.1)
    (u11 : SumM h' 35 71 72 (b'.2.2.2.2.2 0) ∨ X 71 = false ∧ X 72 = false ∧ s0 ≠ 35 ∧ b'.2.2.2.2.2 0 = b.2.2.2.2.2 0)
    (u12 : SumM h' 38 73 74 (b'.2.2.2.2.2 1) ∨ X 73 = false ∧ X 74 = false ∧ s0 ≠ 38 ∧ b'.2.2.2.2.2 1 = b.2.2.2.2.2 1) : MRep b' h' := by
  obtain ⟨c1, c2, c3, c4, c5, c6, c7, c8, c9, c10, c11, c12⟩ := M
  refine ⟨u1, u2, by rw [d3]; exact c3, ?_, ?_, ?_, ?_, ?_, ?_, ?_, ?_, ?_⟩
  · rcases u4 with q | ⟨q1, q2, q3⟩
    · exact q
    · rw [q3]; exact c4.off (d1 _ q1 (by decide)) (d2 _ q2.symm)
  · rcases u5 with q | ⟨q1, q3⟩
    · exact q
    · rw [q3]; exact c5.off (d1 _ q1 (by decide))
  · rcases u6 with q | ⟨q1, q3⟩
    · exact q
    · rw [q3]; exact c6.off (d1 _ q1 (by decide))
  · rcases u7 with q | ⟨q1, q2, q3⟩
    · exact q
    · rw [q3]; exact c7.off (d1 _ q1 (by decide)) (d2 _ q2.symm)
  · rcases u8 with q | ⟨q1, q2, q3⟩
    · exact q
    · rw [q3]; exact c8.off (d1 _ q1 (by decide)) (d2 _ q2.symm)
  · rcases u9 with q | ⟨q1, q2, q3⟩
    · exact q
    · rw [q3]; exact c9.off (d1 _ q1 (by decide)) (d2 _ q2.symm)
  · rcases u10 with q | ⟨q1, q2, q3⟩
    · exact q
    · rw [q3]; exact c10.off (d1 _ q1 (by decide)) (d1 _ q2 (by decide))
  · rcases u11 with q | ⟨q1, q2, q3, q4⟩
    · exact q
    · rw [q4]; exact c11.off (d2 _ q3.symm) (d4 _ q1 (by decide)) (d4 _ q2 (by decide))
  · rcases u12 with q | ⟨q1, q2, q3, q4⟩
    · exact q
    · rw [q4]; exact c12.off (d2 _ q3.symm) (d4 _ q1 (by decide)) (d4 _ q2 (by decide))
/-- the scalars stay -/
theorem MIn.off {b b' : Ab} {h h' : Hp} (m : MIn b h) {s0 : Nat} (h64 : h'.1 64 = h.1 64) (d2 : ∀ s, s ≠ s0 → h'.1 59 s = h.1 59 s) (hs : s0 = 12 ∨ s0 = 23 ∨ s0 = 30 ∨ s0 = 41 ∨ s0 = 35 ∨ s0 = 38) (e : b'.1 = b.1) : MIn b' h' := by
  intro k hk
  have q := m k hk
  rw [e, ← q]
  rcases mloc_in k hk with p | ⟨p, p1, p2, p3, p4, p5, p6⟩
  · rw [p, h64]
  · rw [p, d2 _ (by omega)]
theorem MLn.off {b b' : Ab} {h h' : Hp} (m : MLn b h) (h65 : h'.2.1 65 = h.2.1 65) (h59 : h'.2.1 59 = h.2.1 59) (e : b'.2.1 = b.2.1) : MLn b' h' := by
  intro k hk hk1
  rw [e, ← m k hk hk1]
  rcases mlocL_in k hk with p | p
  · rw [p, h65]
  · rw [p, h59]
theorem MRep.setI {b : Ab} {h : Hp} (M : MRep b h) (k : Nat) (x : Int32) (hk : k < 31) : MRep (aI b k x) (sI h (mloc k).1 (mloc k).2 x) := by
  have hin := mloc_in k hk
  have ne : ∀ y, y ≠ 59 → y ≠ 64 → (sI h (mloc k).1 (mloc k).2 x).1 y = h.1 y := fun y q1 q2 => by
    have : y ≠ (mloc k).1 := by omega
    funext j; simp [sI, u2, this]
  have n9 : ∀ s, (s = 12 ∨ s = 23 ∨ s = 30 ∨ s = 41 ∨ s = 35 ∨ s = 38) → (sI h (mloc k).1 (mloc k).2 x).1 59 s = h.1 59 s := fun s q => by
    have : ¬ (59 = (mloc k).1 ∧ s = (mloc k).2) := by omega
    simp [sI, u2, this]
  obtain ⟨c1, c2, c3, c4, c5, c6, c7, c8, c9, c10, c11, c12⟩ := M
  refine ⟨fun j hj => ?_, c2, c3, c4.off (ne _ (by decide) (by decide)) (n9 _ (by decide)), c5.off (ne _ (by decide) (by decide)), c6.off (ne _ (by decide) (by decide)), c7.off (ne _ (by decide) (by decide)) (n9 _ (by decide)), c8.off (ne _ (by decide) (by decide)) (n9 _ (by decide)), c9.off (ne _ (by decide) (by decide)) (n9 _ (by decide)), c10.off (ne _ (by decide) (by decide)) (ne _ (by decide) (by decide)), c11.off (n9 _ (by decide)) rfl rfl, c12.off (n9 _ (by decide)) rfl rfl⟩
  by_cases e : j = k
  · subst e; simp [sI, u2, aI, va_up]
  · have q := mloc_inj j hj k hk e
    have q2 : ¬ ((mloc j).1 = (mloc k).1 ∧ (mloc j).2 = (mloc k).2) := fun z => q (Prod.ext z.1 z.2)
    simp only [sI, u2, if_neg q2, aI, va_up, if_neg e]
    exact c1 j hj
theorem MRep.setL {b : Ab} {h : Hp} (M : MRep b h) (k : Nat) (x : Int64) (hk : k < 4) (h1 : 1 ≤ k) : MRep (aL b k x) (sL h (mlocL k).1 (mlocL k).2 x) := by
  have hin := mlocL_in k hk
  have ne : ∀ y, y ≠ 59 → y ≠ 65 → (sL h (mlocL k).1 (mlocL k).2 x).2.1 y = h.2.1 y := fun y q1 q2 => by
    have : y ≠ (mlocL k).1 := by omega
    funext j; simp [sL, u2, this]
  obtain ⟨c1, c2, c3, c4, c5, c6, c7, c8, c9, c10, c11, c12⟩ := M
  refine ⟨c1, fun j hj hj1 => ?_, c3, c4, c5, c6, c7, c8, c9, c10, c11.off rfl (ne _ (by decide) (by decide)) (ne _ (by decide) (by decide)), c12.off rfl (ne _ (by decide) (by decide)) (ne _ (by decide) (by decide))⟩
  by_cases e : j = k
  · subst e; simp [sL, u2, aL, va_up]
  · have q := mlocL_inj j hj k hk ⟨hj1, h1, e⟩
    have q2 : ¬ ((mlocL j).1 = (mlocL k).1 ∧ (mlocL j).2 = (mlocL k).2) := fun z => q (Prod.ext z.1 z.2)
    simp only [sL, u2, if_neg q2, aL, va_up, if_neg e]
    exact c2 j hj hj1
theorem MRep.wait {b : Ab} {h h' : Hp} (M : MRep b h) {W : List Nat} (R : NumM h' 66 12 16 W) (h2 : h'.2 = h.2) (h1 : ∀ x, x ≠ 59 → x ≠ 66 → h'.1 x = h.1 x) (h3 : ∀ s, s ≠ 12 → h'.1 59 s = h.1 59 s) : MRep (aN b 0 W) h' :=
  M.upd (fun x => x == 66) 12 (by rw [h2]) (fun x q q2 => h1 x q2 (by simpa using q)) h3 (fun x _ _ => by rw [h2]) (M.1.off (h1 64 (by decide) (by decide)) h3 (by decide) rfl) (M.2.1.off (by rw [h2]) (by rw [h2]) rfl) (Or.inl R) (Or.inr ⟨rfl, rfl⟩) (Or.inr ⟨rfl, rfl⟩) (Or.inr ⟨rfl, by decide, rfl⟩) (Or.inr ⟨rfl, by decide, rfl⟩) (Or.inr ⟨rfl, by decide, rfl⟩) (Or.inr ⟨rfl, rfl, rfl⟩) (Or.inr ⟨rfl, rfl, by decide, rfl⟩) (Or.inr ⟨rfl, rfl, by decide, rfl⟩)
theorem MRep.built {b : Ab} {h h' : Hp} (M : MRep b h) {W : List Nat} (R : BufM h' 69 23 500 W) (h2 : h'.2 = h.2) (h1 : ∀ x, x ≠ 59 → x ≠ 69 → h'.1 x = h.1 x) (h3 : ∀ s, s ≠ 23 → h'.1 59 s = h.1 59 s) : MRep (aN b 1 W) h' :=
  M.upd (fun x => x == 69) 23 (by rw [h2]) (fun x q q2 => h1 x q2 (by simpa using q)) h3 (fun x _ _ => by rw [h2]) (M.1.off (h1 64 (by decide) (by decide)) h3 (by decide) rfl) (M.2.1.off (by rw [h2]) (by rw [h2]) rfl) (Or.inr ⟨rfl, by decide, rfl⟩) (Or.inr ⟨rfl, rfl⟩) (Or.inr ⟨rfl, rfl⟩) (Or.inl R) (Or.inr ⟨rfl, by decide, rfl⟩) (Or.inr ⟨rfl, by decide, rfl⟩) (Or.inr ⟨rfl, rfl, rfl⟩) (Or.inr ⟨rfl, rfl, by decide, rfl⟩) (Or.inr ⟨rfl, rfl, by decide, rfl⟩)
theorem MRep.load {b : Ab} {h h' : Hp} (M : MRep b h) {W : List Nat} (R : BufM h' 70 30 16 W) (h2 : h'.2 = h.2) (h1 : ∀ x, x ≠ 59 → x ≠ 70 → h'.1 x = h.1 x) (h3 : ∀ s, s ≠ 30 → h'.1 59 s = h.1 59 s) : MRep (aN b 2 W) h' :=
  M.upd (fun x => x == 70) 30 (by rw [h2]) (fun x q q2 => h1 x q2 (by simpa using q)) h3 (fun x _ _ => by rw [h2]) (M.1.off (h1 64 (by decide) (by decide)) h3 (by decide) rfl) (M.2.1.off (by rw [h2]) (by rw [h2]) rfl) (Or.inr ⟨rfl, by decide, rfl⟩) (Or.inr ⟨rfl, rfl⟩) (Or.inr ⟨rfl, rfl⟩) (Or.inr ⟨rfl, by decide, rfl⟩) (Or.inl R) (Or.inr ⟨rfl, by decide, rfl⟩) (Or.inr ⟨rfl, rfl, rfl⟩) (Or.inr ⟨rfl, rfl, by decide, rfl⟩) (Or.inr ⟨rfl, rfl, by decide, rfl⟩)
theorem MRep.los {b : Ab} {h h' : Hp} (M : MRep b h) {W : List Nat} (R : NumM h' 75 41 8 W) (h2 : h'.2 = h.2) (h1 : ∀ x, x ≠ 59 → x ≠ 75 → h'.1 x = h.1 x) (h3 : ∀ s, s ≠ 41 → h'.1 59 s = h.1 59 s) : MRep (aN b 5 W) h' :=
  M.upd (fun x => x == 75) 41 (by rw [h2]) (fun x q q2 => h1 x q2 (by simpa using q)) h3 (fun x _ _ => by rw [h2]) (M.1.off (h1 64 (by decide) (by decide)) h3 (by decide) rfl) (M.2.1.off (by rw [h2]) (by rw [h2]) rfl) (Or.inr ⟨rfl, by decide, rfl⟩) (Or.inr ⟨rfl, rfl⟩) (Or.inr ⟨rfl, rfl⟩) (Or.inr ⟨rfl, by decide, rfl⟩) (Or.inr ⟨rfl, by decide, rfl⟩) (Or.inl R) (Or.inr ⟨rfl, rfl, rfl⟩) (Or.inr ⟨rfl, rfl, by decide, rfl⟩) (Or.inr ⟨rfl, rfl, by decide, rfl⟩)
theorem MRep.flag {b : Ab} {h : Hp} (M : MRep b h) {j f : Nat} (hj : j < 2) (hf : f < 8) (v : Bool) : MRep (aB b j (va_up (b.2.2.2.2.1 j) f v)) (sI h (67 + j) f (if v then 1 else 0)) := by
  have ne : ∀ x, x ≠ 67 → x ≠ 68 → (sI h (67 + j) f (if v then 1 else 0)).1 x = h.1 x := fun x q1 q2 => by
    have : x ≠ 67 + j := by omega
    funext i; simp [sI, u2, this]
  have c5 := M.2.2.2.2.1
  have c6 := M.2.2.2.2.2.1
  refine M.upd (fun x => x == 67 || x == 68) 12 rfl (fun x q _ => ne x (by simp at q; exact q.1) (by simp at q; exact q.2)) (fun s _ => by rw [ne 59 (by decide) (by decide)]) (fun _ _ _ => rfl) (M.1.off (ne 64 (by decide) (by decide)) (fun s (_ : s ≠ 12) => by rw [ne 59 (by decide) (by decide)]) (by decide) rfl) M.2.1 (Or.inl (M.2.2.2.1.off (ne _ (by decide) (by decide)) (by rw [ne 59 (by decide) (by decide)]))) (Or.inl ?_) (Or.inl ?_) (Or.inr ⟨rfl, by decide, rfl⟩) (Or.inr ⟨rfl, by decide, rfl⟩) (Or.inr ⟨rfl, by decide, rfl⟩) (Or.inr ⟨rfl, rfl, rfl⟩) (Or.inr ⟨rfl, rfl, by decide, rfl⟩) (Or.inr ⟨rfl, rfl, by decide, rfl⟩)
  · intro g hg
    rcases (show j = 0 ∨ j = 1 by omega) with rfl | rfl
    · by_cases e : g = f
      · subst e; simp [sI, u2, aB, va_up]
      · have := c5 g hg
        simp [sI, u2, aB, va_up, e, this]
    · have := c5 g hg
      simp [sI, u2, aB, va_up, this]
  · intro g hg
    rcases (show j = 0 ∨ j = 1 by omega) with rfl | rfl
    · have := c6 g hg
      simp [sI, u2, aB, va_up, this]
    · by_cases e : g = f
      · subst e; simp [sI, u2, aB, va_up]
      · have := c6 g hg
        simp [sI, u2, aB, va_up, e, this]
/-- only the model's byte cells and sizes of one file change -/
def FilF (h h' : Hp) (i : Nat) : Prop := h'.2 = h.2 ∧ (∀ x, x ≠ 60 → x ≠ 61 → h'.1 x = h.1 x) ∧ (∀ j, j ≠ i → h'.1 61 j = h.1 61 j) ∧ ∀ j, (j < 500 * i ∨ 500 * i + 500 ≤ j) → h'.1 60 j = h.1 60 j
theorem FilF.rf {h : Hp} {i : Nat} : FilF h h i := ⟨rfl, fun _ _ _ => rfl, fun _ _ => rfl, fun _ _ => rfl⟩
theorem FilF.sz {h h1 : Hp} {i : Nat} (F : FilF h h1 i) (x : Int32) : FilF h (sI h1 61 i x) i := ⟨F.1, fun y q1 q2 => by rw [← F.2.1 y q1 q2]; funext j; simp [sI, u2, q2], fun j q => by rw [← F.2.2.1 j q]; simp [sI, u2, q], fun j q => by rw [← F.2.2.2 j q]; simp [sI, u2]⟩
theorem FilF.by {h h1 : Hp} {i p : Nat} (F : FilF h h1 i) (x : Int32) (hp : p < 500) : FilF h (sI h1 60 (500 * i + p) x) i := ⟨F.1, fun y q1 q2 => by rw [← F.2.1 y q1 q2]; funext j; simp [sI, u2, q1], fun j q => by rw [← F.2.2.1 j q]; simp [sI, u2], fun j q => by
  rw [← F.2.2.2 j q]
  have : j ≠ 500 * i + p := by omega
  simp [sI, u2, this]⟩
theorem FilF.mf {h h1 : Hp} {i : Nat} (F : FilF h h1 i) : MF h h1 := ⟨by rw [F.1], fun x q => ⟨F.2.1 x (by omega) (by omega), by rw [F.1]⟩⟩
theorem MRep.file {b : Ab} {h h' : Hp} (M : MRep b h) {e f : Nat} (he : e < 2) (hf : f < 8) {o : Option (List Nat)} (F : FilF h h' (8 * e + f)) (hs : h'.1 61 (8 * e + f) = szI o) (hl : (o.getD []).length ≤ 500) (hB : BSeg h' 60 (500 * (8 * e + f)) (o.getD [])) : MRep (aF b e (setF (b.2.2.2.1 e) f o)) h' := by
  obtain ⟨F1, F2, F3, F4⟩ := F
  refine M.upd (fun x => x == 60 || x == 61) 12 (by rw [F1]) (fun x q _ => F2 x (by simp at q; exact q.1) (by simp at q; exact q.2)) (fun s _ => by rw [F2 59 (by decide) (by decide)]) (fun _ _ _ => by rw [F1]) (M.1.off (F2 64 (by decide) (by decide)) (fun s (_ : s ≠ 12) => by rw [F2 59 (by decide) (by decide)]) (by decide) rfl) (M.2.1.off (by rw [F1]) (by rw [F1]) rfl) (Or.inl (M.2.2.2.1.off (F2 _ (by decide) (by decide)) (by rw [F2 59 (by decide) (by decide)]))) (Or.inr ⟨rfl, rfl⟩) (Or.inr ⟨rfl, rfl⟩) (Or.inr ⟨rfl, by decide, rfl⟩) (Or.inr ⟨rfl, by decide, rfl⟩) (Or.inr ⟨rfl, by decide, rfl⟩) (Or.inl ?_) (Or.inr ⟨rfl, rfl, by decide, rfl⟩) (Or.inr ⟨rfl, rfl, by decide, rfl⟩)
  intro e2 he2 f2 hf2
  have c := M.2.2.2.2.2.2.2.2.2.1 e2 he2 f2 hf2
  by_cases q : e2 = e ∧ f2 = f
  · obtain ⟨rfl, rfl⟩ := q
    rw [aF_at, setF_at]
    exact ⟨hs, hl, hB⟩
  · have nq : 8 * e2 + f2 ≠ 8 * e + f := by omega
    have eq : (aF b e (setF (b.2.2.2.1 e) f o)).2.2.2.1 e2 f2 = b.2.2.2.1 e2 f2 := by
      by_cases q2 : e2 = e
      · subst q2
        rw [aF_at, setF_off _ (by omega)]
      · simp [aF, va_up, q2]
    rw [eq]
    refine ⟨by rw [F3 _ nq]; exact c.1, c.2.1, c.2.2.1, fun j hj => ?_⟩
    rw [F4 _ (by omega)]
    exact c.2.2.2 j hj
theorem MRep.sums {b : Ab} {h h' : Hp} (M : MRep b h) {j : Nat} (hj : j < 2) {L : List (Int64 × Int64)} (S : SumM h' (35 + 3 * j) (71 + 2 * j) (72 + 2 * j) L) (h2 : h'.2.2 = h.2.2) (h1 : ∀ x, x ≠ 59 → h'.1 x = h.1 x) (h3 : ∀ s, s ≠ 35 + 3 * j → h'.1 59 s = h.1 59 s) (h4 : ∀ x, x ≠ 71 + 2 * j → x ≠ 72 + 2 * j → h'.2.1 x = h.2.1 x) : MRep (aS b j L) h' := by
  rcases (show j = 0 ∨ j = 1 by omega) with rfl | rfl
  · exact M.upd (fun x => x == 71 || x == 72) 35 h2 (fun x _ q => h1 x q) h3 (fun x q _ => h4 x (by simp at q; exact q.1) (by simp at q; exact q.2)) (M.1.off (h1 64 (by decide)) h3 (by decide) rfl) (M.2.1.off (h4 65 (by decide) (by decide)) (h4 59 (by decide) (by decide)) rfl) (Or.inr ⟨rfl, by decide, rfl⟩) (Or.inr ⟨rfl, rfl⟩) (Or.inr ⟨rfl, rfl⟩) (Or.inr ⟨rfl, by decide, rfl⟩) (Or.inr ⟨rfl, by decide, rfl⟩) (Or.inr ⟨rfl, by decide, rfl⟩) (Or.inr ⟨rfl, rfl, rfl⟩) (Or.inl S) (Or.inr ⟨rfl, rfl, by decide, rfl⟩)
  · exact M.upd (fun x => x == 73 || x == 74) 38 h2 (fun x _ q => h1 x q) h3 (fun x q _ => h4 x (by simp at q; exact q.1) (by simp at q; exact q.2)) (M.1.off (h1 64 (by decide)) h3 (by decide) rfl) (M.2.1.off (h4 65 (by decide) (by decide)) (h4 59 (by decide) (by decide)) rfl) (Or.inr ⟨rfl, by decide, rfl⟩) (Or.inr ⟨rfl, rfl⟩) (Or.inr ⟨rfl, rfl⟩) (Or.inr ⟨rfl, by decide, rfl⟩) (Or.inr ⟨rfl, by decide, rfl⟩) (Or.inr ⟨rfl, by decide, rfl⟩) (Or.inr ⟨rfl, rfl, rfl⟩) (Or.inr ⟨rfl, rfl, by decide, rfl⟩) (Or.inl S)
/-- the scratch of node() -/
def ScrF (h h' : Hp) : Prop := h'.2.2 = h.2.2 ∧ (∀ x, x ≠ 62 → h'.1 x = h.1 x) ∧ ∀ x, x ≠ 63 → h'.2.1 x = h.2.1 x
theorem ScrF.rf {h : Hp} : ScrF h h := ⟨rfl, fun _ _ => rfl, fun _ _ => rfl⟩
theorem ScrF.tr {h h1 h2 : Hp} (a : ScrF h h1) (b : ScrF h1 h2) : ScrF h h2 := ⟨b.1.trans a.1, fun x q => (b.2.1 x q).trans (a.2.1 x q), fun x q => (b.2.2 x q).trans (a.2.2 x q)⟩
theorem ScrF.mf {h h' : Hp} (F : ScrF h h') : MF h h' := ⟨F.1, fun x q => ⟨F.2.1 x (by omega), F.2.2 x (by omega)⟩⟩
theorem MRep.scr {b : Ab} {h h' : Hp} (M : MRep b h) (F : ScrF h h') : MRep b h' := by
  obtain ⟨F1, F2, F3⟩ := F
  exact M.upd (fun x => x == 62 || x == 63) 12 F1 (fun x q _ => F2 x (by simp at q; exact q.1)) (fun s _ => by rw [F2 59 (by decide)]) (fun x q _ => F3 x (by simp at q; exact q.2)) (M.1.off (F2 64 (by decide)) (fun s (_ : s ≠ 12) => by rw [F2 59 (by decide)]) (by decide) rfl) (M.2.1.off (F3 _ (by decide)) (F3 _ (by decide)) rfl) (Or.inl (M.2.2.2.1.off (F2 _ (by decide)) (by rw [F2 59 (by decide)]))) (Or.inr ⟨rfl, rfl⟩) (Or.inr ⟨rfl, rfl⟩) (Or.inr ⟨rfl, by decide, rfl⟩) (Or.inr ⟨rfl, by decide, rfl⟩) (Or.inr ⟨rfl, by decide, rfl⟩) (Or.inr ⟨rfl, rfl, rfl⟩) (Or.inr ⟨rfl, rfl, by decide, rfl⟩) (Or.inr ⟨rfl, rfl, by decide, rfl⟩)
/-- the other party's calls -/
theorem MRep.cf {b : Ab} {h h' : Hp} (M : MRep b h) (F : CF h h') : MRep b h' := by
  obtain ⟨c1, c2, c3, c4, c5, c6, c7, c8, c9, c10, c11, c12⟩ := M
  have k1 : ∀ x, 59 ≤ x → h'.1 x = h.1 x := fun x q => (F x q).1
  have k2 : ∀ x, 59 ≤ x → h'.2.1 x = h.2.1 x := fun x q => (F x q).2.1
  refine ⟨fun k hk => ?_, fun k hk q => ?_, ?_, c4.off (k1 _ (by decide)) (by rw [k1 59 (by decide)]), c5.off (k1 _ (by decide)), c6.off (k1 _ (by decide)), c7.off (k1 _ (by decide)) (by rw [k1 59 (by decide)]), c8.off (k1 _ (by decide)) (by rw [k1 59 (by decide)]), c9.off (k1 _ (by decide)) (by rw [k1 59 (by decide)]), c10.off (k1 _ (by decide)) (k1 _ (by decide)), c11.off (by rw [k1 59 (by decide)]) (k2 _ (by decide)) (k2 _ (by decide)), c12.off (by rw [k1 59 (by decide)]) (k2 _ (by decide)) (k2 _ (by decide))⟩
  · rw [k1 _ (by have := mloc_in k hk; omega)]; exact c1 k hk
  · rw [k2 _ (by have := mlocL_in k hk; omega)]; exact c2 k hk q
  · unfold RefM; rw [(F 59 (by decide)).2.2]; exact c3
theorem CRep.mf {a : Ab} {h h' : Hp} (C : CRep a h) (F : MF h h') : CRep a h' := by
  obtain ⟨F1, F2⟩ := F
  have k1 : ∀ x, x < 59 → h'.1 x = h.1 x := fun x q => (F2 x q).1
  have k2 : ∀ x, x < 59 → h'.2.1 x = h.2.1 x := fun x q => (F2 x q).2
  obtain ⟨c1, c2, c3, c4, c5, c6, c7, c8, c9, c10, c11, c12⟩ := C
  refine ⟨fun j hj => ?_, fun j hj => ?_, by rw [F1]; exact c3, ⟨by rw [k1 53 (by decide)]; exact c4.1, c4.2.1, by rw [k1 54 (by decide)]; exact c4.2.2⟩, c5.off (k1 _ (by decide)), c6.off (k1 _ (by decide)), ⟨c7.1.keep (k1 _ (by decide)) (k1 _ (by decide)) (by rw [F1]), c7.2⟩, ⟨c8.1.keep (k1 _ (by decide)) (k1 _ (by decide)) (by rw [F1]), c8.2⟩, ⟨c9.1.off (fun b q1 q2 => k1 b (by omega)) (fun b _ _ => by rw [F1]), fun n q1 q2 => by rw [k2 _ (by decide)]; exact c9.2 n q1 q2⟩, ⟨c10.1.off (fun b q1 q2 => k1 b (by omega)) (fun b _ _ => by rw [F1]), fun n q1 q2 => by rw [k2 _ (by decide)]; exact c10.2 n q1 q2⟩, ?_, ?_⟩
  · rw [k1 _ (by have := loc_in j hj; omega)]; exact c1 j hj
  · rw [k2 _ (by have := locL_in j hj; omega)]; exact c2 j hj
  · obtain ⟨B, K, e, S⟩ := c11
    exact ⟨B, K, e, S.off (k1 _ (by decide)) (fun b _ _ => k2 b (by omega)) (by rw [F1])⟩
  · obtain ⟨B, K, e, S⟩ := c12
    exact ⟨B, K, e, S.off (k1 _ (by decide)) (fun b _ _ => k2 b (by omega)) (by rw [F1])⟩

