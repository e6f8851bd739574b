/-! the abstract state of the system, in banks of registers, and how the class's world shows it -/
def SH : List Sh := [.inr 8,
  .inr 6, .inl (.object RX3, 8), .inl (.boolean, 8), .inl (.long, 16), .inr 3, .inl (.int, 500), .inr 3, .inl (.int, 500), .inr 3, .inl (.int, 500), .inr 3, .inl (.int, 500), .inr 3, .inl (.int, 500), .inr 3, .inl (.int, 500), .inr 3, .inl (.int, 500), .inr 3, .inl (.int, 500),
  .inr 6, .inl (.object RX3, 8), .inl (.boolean, 8), .inl (.long, 16), .inr 3, .inl (.int, 500), .inr 3, .inl (.int, 500), .inr 3, .inl (.int, 500), .inr 3, .inl (.int, 500), .inr 3, .inl (.int, 500), .inr 3, .inl (.int, 500), .inr 3, .inl (.int, 500), .inr 3, .inl (.int, 500),
  .inr 0, .inr 4, .inr 1, .inr 3, .inl (.int, 16), .inr 7, .inl (.long, 500), .inl (.long, 500), .inr 5, .inr 7, .inl (.long, 500), .inl (.long, 500), .inr 2, .inl (.int, 16), .inl (.boolean, 8), .inl (.boolean, 8), .inr 3, .inl (.int, 500),
  .inr 9, .inl (.byte, 8000), .inl (.int, 16), .inl (.byte, 16), .inl (.long, 16), .inl (.int, 16), .inl (.long, 2), .inl (.int, 16), .inl (.boolean, 8), .inl (.boolean, 8), .inl (.byte, 500), .inl (.byte, 16), .inl (.long, 500), .inl (.long, 500), .inl (.long, 500), .inl (.long, 500), .inl (.int, 8)]
/-- ints, longs, lists of numbers, files by end, flags, sums -/
abbrev Ab : Type := (Nat → Int32) × (Nat → Int64) × (Nat → List Nat) × (Nat → FS) × (Nat → Nat → Bool) × (Nat → List (Int64 × Int64))
def aI (a : Ab) (k : Nat) (x : Int32) : Ab := (va_up a.1 k x, a.2)
def aL (a : Ab) (k : Nat) (x : Int64) : Ab := (a.1, va_up a.2.1 k x, a.2.2)
def aN (a : Ab) (k : Nat) (x : List Nat) : Ab := (a.1, a.2.1, va_up a.2.2.1 k x, a.2.2.2)
def aF (a : Ab) (k : Nat) (x : FS) : Ab := (a.1, a.2.1, a.2.2.1, va_up a.2.2.2.1 k x, a.2.2.2.2)
def aB (a : Ab) (k : Nat) (x : Nat → Bool) : Ab := (a.1, a.2.1, a.2.2.1, a.2.2.2.1, va_up a.2.2.2.2.1 k x, a.2.2.2.2.2)
def aS (a : Ab) (k : Nat) (x : List (Int64 × Int64)) : Ab := (a.1, a.2.1, a.2.2.1, a.2.2.2.1, a.2.2.2.2.1, va_up a.2.2.2.2.2 k x)
/-- where the class keeps int k -/
def loc (k : Nat) : Nat × Nat := match k with
  | 0 => (42, 6) | 1 => (42, 7) | 2 => (42, 8) | 3 => (42, 9) | 4 => (42, 10) | 5 => (42, 11) | 6 => (42, 12) | 7 => (42, 13) | 8 => (42, 14)
  | 9 => (43, 2) | 10 => (43, 3) | 11 => (43, 4)
  | 12 => (49, 2) | 13 => (49, 3) | 14 => (49, 4) | 15 => (49, 5)
  | 16 => (53, 6) | 17 => (53, 7) | 18 => (53, 8) | 19 => (53, 9) | 20 => (53, 10) | 21 => (53, 11) | 22 => (53, 12) | 23 => (53, 13) | 24 => (53, 14) | 25 => (53, 15) | _ => (53, 16)
def locL (k : Nat) : Nat × Nat := match k with
  | 0 => (41, 0) | 1 => (41, 1) | 2 => (41, 2) | _ => (43, 5)
theorem loc_inj : ∀ i, i < 27 → ∀ j, j < 27 → i ≠ j → loc i ≠ loc j := by decide
theorem loc_in : ∀ i, i < 27 → (loc i).1 = 42 ∨ (loc i).1 = 43 ∨ (loc i).1 = 49 ∨ ((loc i).1 = 53 ∧ (loc i).2 ≠ 5) := by decide
theorem locL_inj : ∀ i, i < 4 → ∀ j, j < 4 → i ≠ j → locL i ≠ locL j := by decide
theorem locL_in : ∀ i, i < 4 → (locL i).1 = 41 ∨ (locL i).1 = 43 := by decide
def RefC (r : Nat → Nat → Option Nat) (src : Int32) : Prop := r 0 0 = some 1 ∧ r 0 1 = some 21 ∧ r 0 2 = some 41 ∧ r 0 3 = some 42 ∧ r 42 0 = some 1 ∧ r 42 1 = some 21 ∧ r 42 2 = some 41 ∧ r 42 3 = some 49 ∧ r 42 4 = some 53 ∧ r 42 5 = some 43 ∧ r 43 0 = some 44 ∧ r 43 1 = some 46 ∧ r 49 0 = some 50 ∧ r 49 1 = some (if src = 0 then 1 else 21) ∧ r 53 0 = some 54 ∧ r 53 1 = some 55 ∧ r 53 2 = some 56 ∧ r 53 3 = some 57 ∧ r 53 4 = some (if src = 0 then 21 else 1)
def WaitR (h : Hp) (W : List Nat) : Prop := h.1 53 5 = nI W.length ∧ W.length ≤ 16 ∧ ∀ j, j < W.length → h.1 54 j = nI (W.getD j 0)
def FlagR (h : Hp) (x : Nat) (g : Nat → Bool) : Prop := ∀ f, f < 8 → h.1 x f = if g f then 1 else 0
def CRep (a : Ab) (h : Hp) : Prop :=
  (∀ k, k < 27 → h.1 (loc k).1 (loc k).2 = a.1 k) ∧ (∀ k, k < 4 → h.2.1 (locL k).1 (locL k).2 = a.2.1 k) ∧ RefC h.2.2 (a.1 1) ∧ WaitR h (a.2.2.1 0) ∧ FlagR h 55 (a.2.2.2.2.1 0) ∧ FlagR h 56 (a.2.2.2.2.1 1) ∧
  (RowL SH h 57 58 500 (a.2.2.1 1) ∧ ∀ x ∈ a.2.2.1 1, x < 256) ∧ (RowL SH h 44 45 16 (a.2.2.1 2) ∧ ∀ x ∈ a.2.2.1 2, x < 256) ∧ SideA SH h 1 (a.2.2.2.1 0) ∧ SideA SH h 21 (a.2.2.2.1 1) ∧
  (∃ B K, a.2.2.1 3 = [B, K] ∧ SumsR SH h 46 (a.2.2.2.2.2 0) B K) ∧ ∃ B K, a.2.2.1 4 = [B, K] ∧ SumsR SH h 50 (a.2.2.2.2.2 1) B K
/-- the class's calls leave the model's part alone -/
def CF (h h' : Hp) : Prop := ∀ x, 59 ≤ x → h'.1 x = h.1 x ∧ h'.2.1 x = h.2.1 x ∧ h'.2.2 x = h.2.2 x
theorem CF.rf {h : Hp} : CF h h := fun _ _ => ⟨rfl, rfl, rfl⟩
theorem CF.tr {h h1 h2 : Hp} (a : CF h h1) (b : CF h1 h2) : CF h h2 := fun x q => ⟨(b x q).1.trans (a x q).1, (b x q).2.1.trans (a x q).2.1, (b x q).2.2.trans (a x q).2.2⟩
theorem CF_sI {h h1 : Hp} {b k : Nat} {x : Int32} (F : CF h h1) (hb : b < 59) : CF h (sI h1 b k x) := by
  intro y q
  refine ⟨?_, (F y q).2⟩
  rw [← (F y q).1]
  funext j
  have : y ≠ b := by omega
  simp [sI, u2, this]
theorem CF_sL {h h1 : Hp} {b k : Nat} {x : Int64} (F : CF h h1) (hb : b < 59) : CF h (sL h1 b k x) := by
  intro y q
  refine ⟨(F y q).1, ?_, (F y q).2.2⟩
  rw [← (F y q).2.1]
  funext j
  have : y ≠ b := by omega
  simp [sL, u2, this]
theorem CF_fr {h h1 h2 : Hp} {lo hi : Nat} (F : CF h h1) (G : Fr lo hi h1 h2) (hb : hi ≤ 59) : CF h h2 := fun y q => ⟨(G.2 y (by omega)).1.trans (F y q).1, (G.2 y (by omega)).2.trans (F y q).2.1, by rw [G.1]; exact (F y q).2.2⟩
theorem CF_row {h h1 h2 : Hp} {r c : Nat} (F : CF h h1) (G : RowF h1 h2 r c) (hr : r < 59) (hc : c < 59) : CF h h2 := fun y q => ⟨(G.2 y (by omega) (by omega)).trans (F y q).1, by rw [G.1]; exact (F y q).2.1, by rw [G.1]; exact (F y q).2.2⟩
/-- an int changes -/
theorem CRep.setI {a : Ab} {h : Hp} (C : CRep a h) (k : Nat) (x : Int32) (hk : k < 27) (h1 : k ≠ 1) : CRep (aI a k x) (sI h (loc k).1 (loc k).2 x) := by
  obtain ⟨c1, c2, c3, c4, c5, c6, c7, c8, c9, c10, c11, c12⟩ := C
  have hin := loc_in k hk
  have ne : ∀ b, b ≠ 42 → b ≠ 43 → b ≠ 49 → b ≠ 53 → (sI h (loc k).1 (loc k).2 x).1 b = h.1 b := fun b q1 q2 q3 q4 => by
    have : b ≠ (loc k).1 := by omega
    funext j; simp [sI, u2, this]
  refine ⟨fun j hj => ?_, c2, ?_, ?_, ?_, ?_, ?_, ?_, ?_, ?_, ?_, ?_⟩
  · by_cases e : j = k
    · subst e; simp [sI, u2, aI, va_up]
    · have q := loc_inj j hj k hk e
      have q2 : ¬ ((loc j).1 = (loc k).1 ∧ (loc j).2 = (loc k).2) := fun z => q (Prod.ext z.1 z.2)
      simp only [sI, u2, if_neg q2, aI, va_up, if_neg e]
      exact c1 j hj
  · simp only [aI, va_up, if_neg (show (1 : Nat) ≠ k from fun q => h1 q.symm)]
    exact c3
  · refine ⟨?_, c4.2.1, fun j hj => ?_⟩
    · refine Eq.trans ?_ c4.1
      have : ¬ (53 = (loc k).1 ∧ 5 = (loc k).2) := by omega
      simp [sI, u2, this]
    · rw [ne 54 (by decide) (by decide) (by decide) (by decide)]
      exact c4.2.2 j hj
  · intro f hf; rw [ne 55 (by decide) (by decide) (by decide) (by decide)]; exact c5 f hf
  · intro f hf; rw [ne 56 (by decide) (by decide) (by decide) (by decide)]; exact c6 f hf
  · exact ⟨c7.1.keep (ne 57 (by decide) (by decide) (by decide) (by decide)) (ne 58 (by decide) (by decide) (by decide) (by decide)) rfl, c7.2⟩
  · exact ⟨c8.1.keep (ne 44 (by decide) (by decide) (by decide) (by decide)) (ne 45 (by decide) (by decide) (by decide) (by decide)) rfl, c8.2⟩
  · exact ⟨c9.1.off (fun b q1 q2 => ne b (by omega) (by omega) (by omega) (by omega)) (fun _ _ _ => rfl), c9.2⟩
  · exact ⟨c10.1.off (fun b q1 q2 => ne b (by omega) (by omega) (by omega) (by omega)) (fun _ _ _ => rfl), c10.2⟩
  · obtain ⟨B, K, e, S⟩ := c11
    exact ⟨B, K, e, S.off (ne 46 (by decide) (by decide) (by decide) (by decide)) (fun _ _ _ => rfl) rfl⟩
  · obtain ⟨B, K, e, S⟩ := c12
    exact ⟨B, K, e, S.off (ne 50 (by decide) (by decide) (by decide) (by decide)) (fun _ _ _ => rfl) rfl⟩
/-- a long changes -/
theorem CRep.setL {a : Ab} {h : Hp} (C : CRep a h) (k : Nat) (x : Int64) (hk : k < 4) : CRep (aL a k x) (sL h (locL k).1 (locL k).2 x) := by
  obtain ⟨c1, c2, c3, c4, c5, c6, c7, c8, c9, c10, c11, c12⟩ := C
  have hin := locL_in k hk
  have ne : ∀ b, b ≠ 41 → b ≠ 43 → (sL h (locL k).1 (locL k).2 x).2.1 b = h.2.1 b := fun b q1 q2 => by
    have : b ≠ (locL k).1 := by omega
    funext j; simp [sL, u2, this]
  refine ⟨c1, fun j hj => ?_, c3, c4, c5, c6, c7, c8, ⟨c9.1, fun n q1 q2 => ?_⟩, ⟨c10.1, fun n q1 q2 => ?_⟩, ?_, ?_⟩
  · by_cases e : j = k
    · subst e; simp [sL, u2, aL, va_up]
    · have q := locL_inj j hj k hk e
      have q2 : ¬ ((locL j).1 = (locL k).1 ∧ (locL j).2 = (locL k).2) := fun z => q (Prod.ext z.1 z.2)
      simp only [sL, u2, if_neg q2, aL, va_up, if_neg e]
      exact c2 j hj
  · rw [ne _ (by decide) (by decide)]; exact c9.2 n q1 q2
  · rw [ne _ (by decide) (by decide)]; exact c10.2 n q1 q2
  · obtain ⟨B, K, e, S⟩ := c11
    exact ⟨B, K, e, S.off rfl (fun b _ _ => ne b (by omega) (by omega)) rfl⟩
  · obtain ⟨B, K, e, S⟩ := c12
    exact ⟨B, K, e, S.off rfl (fun b _ _ => ne b (by omega) (by omega)) rfl⟩
/-- the files of an end change -/
def sid (e : Nat) : Nat := if e = 0 then 1 else 21
theorem CRep.setF {a : Ab} {h h' : Hp} (C : CRep a h) {e : Nat} (he : e < 2) {F : FS} (S : SideA SH h' (sid e) F) (G : SideF h h' (sid e)) : CRep (aF a e F) h' := by
  obtain ⟨c1, c2, c3, c4, c5, c6, c7, c8, c9, c10, c11, c12⟩ := C
  obtain ⟨G1, G2⟩ := G
  have hs : sid e = 1 ∨ sid e = 21 := by unfold sid; split <;> simp
  have k1 : ∀ b, 41 ≤ b → h'.1 b = h.1 b := fun b q => (G2 b (by omega)).1
  have k2 : ∀ b, 41 ≤ b → h'.2.1 b = h.2.1 b := fun b q => (G2 b (by omega)).2
  refine ⟨fun j hj => ?_, fun j hj => ?_, by rw [G1]; exact c3, ⟨by rw [k1 53 (by decide)]; exact c4.1, c4.2.1, by rw [k1 54 (by decide)]; exact c4.2.2⟩, ?_, ?_, ⟨c7.1.keep (k1 _ (by decide)) (k1 _ (by decide)) (by rw [G1]), c7.2⟩, ⟨c8.1.keep (k1 _ (by decide)) (k1 _ (by decide)) (by rw [G1]), c8.2⟩, ?_, ?_, ?_, ?_⟩
  · rw [k1 _ (by have := loc_in j hj; omega)]; exact c1 j hj
  · rw [k2 _ (by have := locL_in j hj; omega)]; exact c2 j hj
  · intro f hf; rw [k1 55 (by decide)]; exact c5 f hf
  · intro f hf; rw [k1 56 (by decide)]; exact c6 f hf
  · by_cases q : e = 0
    · subst q; simpa [aF, va_up, sid] using S
    · have e1 : e = 1 := by omega
      subst e1
      have z : SideA SH h' 1 (a.2.2.2.1 0) := ⟨c9.1.off (fun b q1 q2 => (G2 b (by simp [sid]; omega)).1) (fun b _ _ => by rw [G1]), fun n q1 q2 => by rw [(G2 _ (by simp [sid])).2]; exact c9.2 n q1 q2⟩
      simpa [aF, va_up] using z
  · by_cases q : e = 0
    · subst q
      have z : SideA SH h' 21 (a.2.2.2.1 1) := ⟨c10.1.off (fun b q1 q2 => (G2 b (by simp [sid]; omega)).1) (fun b _ _ => by rw [G1]), fun n q1 q2 => by rw [(G2 _ (by simp [sid])).2]; exact c10.2 n q1 q2⟩
      simpa [aF, va_up] using z
    · have e1 : e = 1 := by omega
      subst e1; simpa [aF, va_up, sid] using S
  · obtain ⟨B, K, e, S⟩ := c11
    exact ⟨B, K, e, S.off (k1 _ (by decide)) (fun b _ _ => k2 b (by omega)) (by rw [G1])⟩
  · obtain ⟨B, K, e, S⟩ := c12
    exact ⟨B, K, e, S.off (k1 _ (by decide)) (fun b _ _ => k2 b (by omega)) (by rw [G1])⟩
theorem CRep.built {a : Ab} {h h' : Hp} (C : CRep a h) {ys : List Nat} (R : RowL SH h' 57 58 500 ys) (G : RowF h h' 57 58) (hy : ∀ x ∈ ys, x < 256) : CRep (aN a 1 ys) h' := by
  obtain ⟨c1, c2, c3, c4, c5, c6, c7, c8, c9, c10, c11, c12⟩ := C
  obtain ⟨G1, G2⟩ := G
  have k2 : h'.2.1 = h.2.1 := by rw [G1]
  have k3 : h'.2.2 = h.2.2 := by rw [G1]
  refine ⟨fun j hj => by rw [G2 _ (by have := loc_in j hj; omega) (by have := loc_in j hj; omega)]; exact c1 j hj, by rw [k2]; exact c2, by rw [k3]; exact c3, ⟨by rw [G2 53 (by decide) (by decide)]; exact c4.1, c4.2.1, by rw [G2 54 (by decide) (by decide)]; exact c4.2.2⟩, ?_, ?_, ⟨R, hy⟩, ⟨c8.1.keep (G2 _ (by decide) (by decide)) (G2 _ (by decide) (by decide)) (by rw [k3]), c8.2⟩, ⟨c9.1.off (fun b q1 q2 => G2 b (by omega) (by omega)) (fun b _ _ => by rw [k3]), c9.2.keep k2⟩, ⟨c10.1.off (fun b q1 q2 => G2 b (by omega) (by omega)) (fun b _ _ => by rw [k3]), c10.2.keep k2⟩, ?_, ?_⟩
  · intro f hf; rw [G2 55 (by decide) (by decide)]; exact c5 f hf
  · intro f hf; rw [G2 56 (by decide) (by decide)]; exact c6 f hf
  · obtain ⟨B, K, e, S⟩ := c11
    exact ⟨B, K, e, S.off (G2 _ (by decide) (by decide)) (fun b _ _ => by rw [k2]) (by rw [k3])⟩
  · obtain ⟨B, K, e, S⟩ := c12
    exact ⟨B, K, e, S.off (G2 _ (by decide) (by decide)) (fun b _ _ => by rw [k2]) (by rw [k3])⟩
theorem CRep.bytes {a : Ab} {h h' : Hp} (C : CRep a h) {ys : List Nat} (R : RowL SH h' 44 45 16 ys) (G : RowF h h' 44 45) (hy : ∀ x ∈ ys, x < 256) : CRep (aN a 2 ys) h' := by
  obtain ⟨c1, c2, c3, c4, c5, c6, c7, c8, c9, c10, c11, c12⟩ := C
  obtain ⟨G1, G2⟩ := G
  have k2 : h'.2.1 = h.2.1 := by rw [G1]
  have k3 : h'.2.2 = h.2.2 := by rw [G1]
  refine ⟨fun j hj => by rw [G2 _ (by have := loc_in j hj; omega) (by have := loc_in j hj; omega)]; exact c1 j hj, by rw [k2]; exact c2, by rw [k3]; exact c3, ⟨by rw [G2 53 (by decide) (by decide)]; exact c4.1, c4.2.1, by rw [G2 54 (by decide) (by decide)]; exact c4.2.2⟩, ?_, ?_, ⟨c7.1.keep (G2 _ (by decide) (by decide)) (G2 _ (by decide) (by decide)) (by rw [k3]), c7.2⟩, ⟨R, hy⟩, ⟨c9.1.off (fun b q1 q2 => G2 b (by omega) (by omega)) (fun b _ _ => by rw [k3]), c9.2.keep k2⟩, ⟨c10.1.off (fun b q1 q2 => G2 b (by omega) (by omega)) (fun b _ _ => by rw [k3]), c10.2.keep k2⟩, ?_, ?_⟩
  · intro f hf; rw [G2 55 (by decide) (by decide)]; exact c5 f hf
  · intro f hf; rw [G2 56 (by decide) (by decide)]; exact c6 f hf
  · obtain ⟨B, K, e, S⟩ := c11
    exact ⟨B, K, e, S.off (G2 _ (by decide) (by decide)) (fun b _ _ => by rw [k2]) (by rw [k3])⟩
  · obtain ⟨B, K, e, S⟩ := c12
    exact ⟨B, K, e, S.off (G2 _ (by decide) (by decide)) (fun b _ _ => by rw [k2]) (by rw [k3])⟩
/-- sums are new: j = 0 the message's, 1 those that came -/
def ssid (j : Nat) : Nat := if j = 0 then 46 else 50
theorem CRep.sums {a : Ab} {h h' : Hp} (C : CRep a h) {j B K : Nat} (hj : j < 2) {L : List (Int64 × Int64)} (S : SumsR SH h' (ssid j) L B K) (G : Fr (ssid j) (ssid j + 3) h h') : CRep (aS (aN a (3 + j) [B, K]) j L) h' := by
  obtain ⟨c1, c2, c3, c4, c5, c6, c7, c8, c9, c10, c11, c12⟩ := C
  obtain ⟨G1, G2⟩ := G
  have hs : (j = 0 ∧ ssid j = 46) ∨ (j = 1 ∧ ssid j = 50) := by
    rcases (show j = 0 ∨ j = 1 by omega) with rfl | rfl
    · exact Or.inl ⟨rfl, rfl⟩
    · exact Or.inr ⟨rfl, rfl⟩
  have k1 : ∀ b, b < 46 ∨ b = 49 ∨ 53 ≤ b → h'.1 b = h.1 b := fun b q => (G2 b (by omega)).1
  have k2 : ∀ b, b < 46 ∨ b = 49 ∨ 53 ≤ b → h'.2.1 b = h.2.1 b := fun b q => (G2 b (by omega)).2
  refine ⟨fun i hi => by rw [k1 _ (by have := loc_in i hi; omega)]; exact c1 i hi, fun i hi => by rw [k2 _ (by have := locL_in i hi; omega)]; exact c2 i hi, by rw [G1]; exact c3, ?_, ?_, ?_, ?_, ?_, ⟨c9.1.off (fun b q1 q2 => k1 b (by omega)) (fun b _ _ => by rw [G1]), fun n q1 q2 => by rw [k2 _ (by decide)]; exact c9.2 n q1 q2⟩, ⟨c10.1.off (fun b q1 q2 => k1 b (by omega)) (fun b _ _ => by rw [G1]), fun n q1 q2 => by rw [k2 _ (by decide)]; exact c10.2 n q1 q2⟩, ?_, ?_⟩
  · have z : WaitR h' (a.2.2.1 0) := ⟨by rw [k1 53 (by decide)]; exact c4.1, c4.2.1, by rw [k1 54 (by decide)]; exact c4.2.2⟩
    have n1 : (0 : Nat) ≠ 3 + j := by omega
    simpa [aS, aN, va_up, n1] using z
  · intro f hf; rw [k1 55 (by decide)]; exact c5 f hf
  · intro f hf; rw [k1 56 (by decide)]; exact c6 f hf
  · have z : RowL SH h' 57 58 500 (a.2.2.1 1) := c7.1.keep (k1 _ (by decide)) (k1 _ (by decide)) (by rw [G1])
    have n1 : (1 : Nat) ≠ 3 + j := by omega
    simpa [aS, aN, va_up, n1] using ⟨z, c7.2⟩
  · have z : RowL SH h' 44 45 16 (a.2.2.1 2) := c8.1.keep (k1 _ (by decide)) (k1 _ (by decide)) (by rw [G1])
    have n1 : (2 : Nat) ≠ 3 + j := by omega
    simpa [aS, aN, va_up, n1] using ⟨z, c8.2⟩
  · rcases hs with ⟨rfl, q⟩ | ⟨rfl, q⟩
    · exact ⟨B, K, by simp [aS, aN, va_up], by simpa [aS, va_up, q] using S⟩
    · obtain ⟨B0, K0, e0, S0⟩ := c11
      rw [q] at G2
      exact ⟨B0, K0, by simpa [aS, aN, va_up] using e0, by simpa [aS, aN, va_up] using S0.off (G2 46 (by decide)).1 (fun b _ _ => (G2 b (by omega)).2) (by rw [G1])⟩
  · rcases hs with ⟨rfl, q⟩ | ⟨rfl, q⟩
    · obtain ⟨B0, K0, e0, S0⟩ := c12
      rw [q] at G2
      exact ⟨B0, K0, by simpa [aS, aN, va_up] using e0, by simpa [aS, aN, va_up] using S0.off (G2 50 (by decide)).1 (fun b _ _ => (G2 b (by omega)).2) (by rw [G1])⟩
    · exact ⟨B, K, by simp [aS, aN, va_up], by simpa [aS, va_up, q] using S⟩
/-- a flag changes -/
theorem CRep.flag {a : Ab} {h : Hp} (C : CRep a h) {j f : Nat} (hj : j < 2) (hf : f < 8) (b : Bool) : CRep (aB a j (va_up (a.2.2.2.2.1 j) f b)) (sI h (55 + j) f (if b then 1 else 0)) := by
  obtain ⟨c1, c2, c3, c4, c5, c6, c7, c8, c9, c10, c11, c12⟩ := C
  have ne : ∀ x, x ≠ 55 → x ≠ 56 → (sI h (55 + j) f (if b then 1 else 0)).1 x = h.1 x := fun x q1 q2 => by
    have : x ≠ 55 + j := by omega
    funext i; simp [sI, u2, this]
  refine ⟨fun i hi => by rw [ne _ (by have := loc_in i hi; omega) (by have := loc_in i hi; omega)]; exact c1 i hi, c2, c3, ⟨by rw [ne 53 (by decide) (by decide)]; exact c4.1, c4.2.1, by rw [ne 54 (by decide) (by decide)]; exact c4.2.2⟩, ?_, ?_, ⟨c7.1.keep (ne _ (by decide) (by decide)) (ne _ (by decide) (by decide)) rfl, c7.2⟩, ⟨c8.1.keep (ne _ (by decide) (by decide)) (ne _ (by decide) (by decide)) rfl, c8.2⟩, ⟨c9.1.off (fun b q1 q2 => ne b (by omega) (by omega)) (fun b _ _ => rfl), c9.2⟩, ⟨c10.1.off (fun b q1 q2 => ne b (by omega) (by omega)) (fun b _ _ => rfl), c10.2⟩, ?_, ?_⟩
  · intro g hg
    rcases (show j = 0 ∨ j = 1 by omega) with rfl | rfl
    · by_cases e : g = f
      · subst e; simp [sI, u2, aB, va_up]
      · have := c5 g hg
        simp [sI, u2, aB, va_up, e, this]
    · have := c5 g hg
      simp [sI, u2, aB, va_up, this]
  · intro g hg
    rcases (show j = 0 ∨ j = 1 by omega) with rfl | rfl
    · have := c6 g hg
      simp [sI, u2, aB, va_up, this]
    · by_cases e : g = f
      · subst e; simp [sI, u2, aB, va_up]
      · have := c6 g hg
        simp [sI, u2, aB, va_up, e, this]
  · obtain ⟨B, K, e, S⟩ := c11
    exact ⟨B, K, e, S.off (ne _ (by decide) (by decide)) (fun b _ _ => rfl) rfl⟩
  · obtain ⟨B, K, e, S⟩ := c12
    exact ⟨B, K, e, S.off (ne _ (by decide) (by decide)) (fun b _ _ => rfl) rfl⟩
/-- the waiting nodes change -/
theorem CRep.wait {a : Ab} {h h' : Hp} (C : CRep a h) {W : List Nat} (R : WaitR h' W) (h2 : h'.2 = h.2) (h1 : ∀ x, x ≠ 53 → x ≠ 54 → h'.1 x = h.1 x) (h3 : ∀ k, k ≠ 5 → h'.1 53 k = h.1 53 k) : CRep (aN a 0 W) h' := by
  obtain ⟨c1, c2, c3, c4, c5, c6, c7, c8, c9, c10, c11, c12⟩ := C
  have k2 : h'.2.1 = h.2.1 := by rw [h2]
  have k3 : h'.2.2 = h.2.2 := by rw [h2]
  refine ⟨fun i hi => ?_, by rw [k2]; exact c2, by rw [k3]; exact c3, R, ?_, ?_, ⟨c7.1.keep (h1 _ (by decide) (by decide)) (h1 _ (by decide) (by decide)) (by rw [k3]), c7.2⟩, ⟨c8.1.keep (h1 _ (by decide) (by decide)) (h1 _ (by decide) (by decide)) (by rw [k3]), c8.2⟩, ⟨c9.1.off (fun b q1 q2 => h1 b (by omega) (by omega)) (fun b _ _ => by rw [k3]), c9.2.keep k2⟩, ⟨c10.1.off (fun b q1 q2 => h1 b (by omega) (by omega)) (fun b _ _ => by rw [k3]), c10.2.keep k2⟩, ?_, ?_⟩
  · have q := loc_in i hi
    by_cases e : (loc i).1 = 53
    · have q3 := c1 i hi
      rw [e] at q3 ⊢
      rw [h3 _ (by omega)]; exact q3
    · rw [h1 _ e (by omega)]; exact c1 i hi
  · intro f hf; rw [h1 55 (by decide) (by decide)]; exact c5 f hf
  · intro f hf; rw [h1 56 (by decide) (by decide)]; exact c6 f hf
  · obtain ⟨B, K, e, S⟩ := c11
    exact ⟨B, K, e, S.off (h1 _ (by decide) (by decide)) (fun b _ _ => by rw [k2]) (by rw [k3])⟩
  · obtain ⟨B, K, e, S⟩ := c12
    exact ⟨B, K, e, S.off (h1 _ (by decide) (by decide)) (fun b _ _ => by rw [k2]) (by rw [k3])⟩

