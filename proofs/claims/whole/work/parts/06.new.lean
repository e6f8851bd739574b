/-! new cells, references into arrays, Object's constructor, arraycopy -/
theorem cel_push {cyc : FieldType → ClassId} {adr : Nat → Nat} {h : Hp} {sh : List Sh} {q : Nat} (hnd : NoD sh h) : ∀ j s, sh[j]? = some s → (va_up adr sh.length q j, cel cyc (va_up adr sh.length q) (clr h sh.length) j s) = (adr j, cel cyc adr h j s) := by
  intro j s hs
  have hj : j < sh.length := (List.getElem?_eq_some_iff.mp hs).1
  have hne : j ≠ sh.length := Nat.ne_of_lt hj
  have e1 : (clr h sh.length).1 j = h.1 j := by funext i; simp [clr, hne]
  have e2 : (clr h sh.length).2.1 j = h.2.1 j := by funext i; simp [clr, hne]
  have e3 : ∀ i, ((clr h sh.length).2.2 j i).map (va_up adr sh.length q) = (h.2.2 j i).map adr := by
    intro i
    have e4 : (clr h sh.length).2.2 j i = h.2.2 j i := by simp [clr, hne]
    rw [e4]
    cases hx : h.2.2 j i with
    | none => rfl
    | some x => simp [va_up, Nat.ne_of_lt (hnd j i x hx)]
  have e5 : ∀ ty i, fv (va_up adr sh.length q) (clr h sh.length) j ty i = fv adr h j ty i := by
    intro ty i
    cases ty <;> simp [fv, e1, e2, e3]
  have e6 : va_up adr sh.length q j = adr j := by simp [va_up, hne]
  rw [e6]
  congr 1
  unfold cel
  split <;> simp [e1, e2, e3, e5]
theorem NoD_push {h : Hp} {sh : List Sh} {t : Sh} (hnd : NoD sh h) : NoD (sh ++ [t]) (clr h sh.length) := by
  intro j i x hx
  by_cases hj : j = sh.length
  · simp [clr, hj] at hx
  · simp [clr, hj] at hx
    have := hnd j i x hx
    simp
    omega
def tyOk : FieldType → Bool
  | .double => false
  | .float => false
  | _ => true
theorem fv_clr {adr : Nat → Nat} {h : Hp} {n j : Nat} {ty : FieldType} (ht : tyOk ty = true) : defaultValue ty = fv adr (clr h n) n ty j := by
  cases ty <;> first | (cases ht; done) | simp [fv, clr, defaultValue, va_rf]
def NW (own : String) (idx ci : Nat) : Prop := ∃ (C : String) (T : u_T), vwCl[ci]? = some (C, T, nfC ci) ∧ (∀ w ∈ u_ws C T (nfC ci), w ∈ mGood) ∧ (∀ k, k < nfC ci → parseFieldDescriptor (T k).2.2.1 = some (tyC ci k)) ∧ Cond.classLink own idx C ∈ mGood ∧ Cond.instantiable C (nfC ci) ∈ mGood ∧ Cond.initialized C ∈ mGood ∧ ∀ j, j < nfC ci → tyOk (tyC ci j) = true
section EN
variable {M : MI} {scr : Option (Nat × (Nat → Int32))} {Q : QT} {pc : Nat} {lv : List (Option Value)} {st : List Value} {sh : List Sh} {h : Hp} {kc ks : Nat}
theorem E_wn {t : Sh} {q : Nat} {p : Program} {l : Launch} {e : Env} {s : State} {m : MethodId} {args : Array Value} {below : List Frame} {meth : Method} {c : Code} {D : va_G} {cyc : FieldType → ClassId} {A : Nat → Prop} {Z : State → Prop} {n0 b : Nat} {ad0 adr : Nat → Nat} {H H1 : Heap} {locs : List Loc} {e0 : va_E} (w : Wd s D cyc A n0 ad0 adr sh h H locs) (he : cel cyc (va_up adr sh.length q) (clr h sh.length) sh.length t = e0) (g1 : va_P D vwCl (wsl cyc adr h sh ++ [(q, e0)]) H1) (g2 : va_D A (wsl cyc adr h sh ++ [(q, e0)])) (g3 : va_S A s.heap H1 locs) : Wd s D cyc A n0 ad0 (va_up adr sh.length q) (sh ++ [t]) (clr h sh.length) H1 locs := by
  have hw := wsl_push (q := q) (adr' := va_up adr sh.length q) (h' := clr h sh.length) (t := t) (by simp [va_up]) he (cel_push w.2.2.2.2.2.2)
  rw [hw] at g1 g2
  refine ⟨g1, g2, g3, fun k hk => ?_, fun hk => ?_, ?_, NoD_push w.2.2.2.2.2.2⟩
  · have := w.2.2.2.2.2.1
    rw [va_up_ne _ _ (by omega)]
    exact w.2.2.2.1 k hk
  · have := w.2.2.2.2.2.1
    simp at hk
    omega
  · have := w.2.2.2.2.2.1
    simp
    omega
theorem E_new {ci idx : Nat} (hd : decode M.2.1 pc = .ok (.new idx, 3)) (f : NW M.1.cls idx ci) (hc : kc + 1 ≤ M.2.2.2.2.cells) (hk : ks + nfC ci ≤ M.2.2.2.2.slots) (hos : ∀ v ∈ st, old sh.length v) (hol : ∀ v, some v ∈ lv → old sh.length v) (kk : E M scr Q (pc + 3) lv (.ref sh.length :: st) (sh ++ [.inr ci]) (clr h sh.length) (kc + 1) (ks + nfC ci)) : E M scr Q pc lv st sh h kc ks := by
  intro p l e s m args below meth c D cyc A Z n0 b ad0 C adr locs H ls w hl
  obtain ⟨C', T, hcl, hin, hty, f1, f2, f3, f4⟩ := f
  refine va_new C.1 C.2.1 C.2.2.2.2.1 hin (tyC ci) hty C.2.2.2.1 (C.2.2.2.2.1 _ f1) (C.2.2.2.2.1 _ f2) (C.2.2.2.2.1 _ f3) C.2.2.2.2.2.2.2.2.2.1 w.1 w.2.1 w.2.2.1 C.2.2.2.2.2.2.2.2.1 hcl (fs := (List.range (nfC ci)).map (fun j => fv adr (clr h sh.length) sh.length (tyC ci j) j)) (fun j hj => ?_) hc hk hd (fun q H1 g1 g2 g3 => ?_)
  · rw [fv_clr (adr := adr) (h := h) (n := sh.length) (j := j) (f4 j hj)]
    simp [vp_V, hj]
  · have he : cel cyc (va_up adr sh.length q) (clr h sh.length) sh.length (.inr ci) = .inr (ci, (List.range (nfC ci)).map (fun j => fv adr (clr h sh.length) sh.length (tyC ci j) j)) := by
      show Sum.inr (ci, _) = _
      congr 2
      apply List.map_congr_left
      intro j hj
      rw [← fv_clr (f4 j (List.mem_range.mp hj)), ← fv_clr (f4 j (List.mem_range.mp hj))]
    have ha : ∀ k, k < sh.length → va_up adr sh.length q k = adr k := fun k hk => va_up_ne _ _ (Nat.ne_of_lt hk)
    have h9 := kk p l e s m args below meth c D cyc A Z n0 b ad0 C (va_up adr sh.length q) locs H1 ls (E_wn (p := p) (l := l) (e := e) (m := m) (args := args) (below := below) (meth := meth) (c := c) (Z := Z) (b := b) w he g1 g2 g3) (old_lv ha hol hl)
    rw [List.map_cons, old_st ha hos, show rv b (va_up adr sh.length q) (.ref sh.length) = .ref q by simp [rv, va_up]] at h9
    exact h9
theorem E_objInit {a idx : Nat} (hd : decode M.2.1 pc = .ok (.invokespecial idx, 3)) (h1 : Cond.methodLink M.1.cls idx Lib.objectInit ∈ mGood) (h2 : Cond.instanceMethod Lib.objectInit ∈ mGood) (h3 : Cond.code Lib.objectInit ⟨#[0xb1]⟩ 1 none ∈ mGood) (hf : 1 ≤ M.2.2.2.2.frames) (hlo : (st.map fun v => v.category).sum + 12 ≤ M.2.2.2.2.locals) (kk : E M scr Q (pc + 3) lv st sh h kc ks) : E M scr Q pc lv (.ref a :: st) sh h kc ks := by
  intro p l e s m args below meth c D cyc A Z n0 b ad0 C adr locs H ls w hl
  exact W.objInit C.1 C.2.1 C.2.2.2.1 (C.2.2.2.2.1 _ h1) (C.2.2.2.2.1 _ h2) (C.2.2.2.2.1 _ h3) rfl (by rw [C.2.2.1]; exact hl.1) rfl hd hf (by show 2 * 0 + _ + 12 ≤ _; rw [catsum]; omega) (kk p l e s m args below meth c D cyc A Z n0 b ad0 C adr locs H ls w hl)
theorem E_anewa {idx N : Nat} {n : Int32} (hd : decode M.2.1 pc = .ok (.anewarray idx, 3)) (f1 : Cond.classLink M.1.cls idx RX3 ∈ mGood) (hn : ¬ n < 0) (hN : n.toNatClampNeg = N) (hb : N * 4 ≤ 536870912) (hc : kc + 1 ≤ M.2.2.2.2.cells) (hk : ks + N ≤ M.2.2.2.2.slots) (hos : ∀ v ∈ st, old sh.length v) (hol : ∀ v, some v ∈ lv → old sh.length v) (kk : E M scr Q (pc + 3) lv (.ref sh.length :: st) (sh ++ [.inl (.object RX3, N)]) (clr h sh.length) (kc + 1) (ks + N)) : E M scr Q pc lv (.int n :: st) sh h kc ks := by
  intro p l e s m args below meth c D cyc A Z n0 b ad0 C adr locs H ls w hl
  refine va_newq C.1 C.2.1 C.2.2.2.1 (C.2.2.2.2.1 _ f1) C.2.2.2.2.2.2.1 C.2.2.2.2.2.2.2.2.2.1 w.1 w.2.1 w.2.2.1 C.2.2.2.2.2.2.2.2.1 hn hN hb hc hk hd (fun q cA H1 gK g1 g2 g3 => ?_)
  have hcA : cA = cyc (.object RX3) := by
    obtain ⟨_, _, _, _, _, r1⟩ := (gK.2 5 (cA, .object RX3) rfl).2
    obtain ⟨_, _, _, _, _, r2⟩ := (C.2.2.2.2.2.2.2.2.2.1.2 4 (cyc (.object RX3), .object RX3) rfl).2
    exact Option.some.inj (r1.symm.trans r2)
  subst hcA
  have he : cel cyc (va_up adr sh.length q) (clr h sh.length) sh.length (.inl (.object RX3, N)) = .inl (cyc (.object RX3), N, .inr (.inr (.inr (.inr (fun _ => none))))) := by
    have e1 : (fun j => ((clr h sh.length).2.2 sh.length j).map (va_up adr sh.length q)) = fun _ => none := by funext j; simp [clr]
    show Sum.inl (cyc (.object RX3), N, Sum.inr (Sum.inr (Sum.inr (Sum.inr (fun j => ((clr h sh.length).2.2 sh.length j).map (va_up adr sh.length q)))))) = _
    rw [e1]
  have ha : ∀ k, k < sh.length → va_up adr sh.length q k = adr k := fun k hk => va_up_ne _ _ (Nat.ne_of_lt hk)
  have h9 := kk p l e s m args below meth c D cyc A Z n0 b ad0 C (va_up adr sh.length q) locs H1 ls (E_wn (p := p) (l := l) (e := e) (m := m) (args := args) (below := below) (meth := meth) (c := c) (Z := Z) (b := b) w he g1 g2 g3) (old_lv ha hol hl)
  rw [List.map_cons, old_st ha hos, show rv b (va_up adr sh.length q) (.ref sh.length) = .ref q by simp [rv, va_up]] at h9
  exact h9
theorem E_aast {a n x : Nat} {i : Int32} (hd : decode M.2.1 pc = .ok (.aastore, 1)) (hs : sh[a]? = some (.inl (.object RX3, n))) (hx : sh[x]? = some (.inr 3)) (hin : vp_in i n) (kk : E M scr Q (pc + 1) lv st sh (sR h a i.toNatClampNeg (some x)) kc ks) : E M scr Q pc lv (.ref x :: .int i :: .ref a :: st) sh h kc ks := by
  intro p l e s m args below meth c D cyc A Z n0 b ad0 C adr locs H ls w hl
  have he : cel cyc adr (sR h a i.toNatClampNeg (some x)) a (.inl (.object RX3, n)) = .inl (cyc (.object RX3), n, .inr (.inr (.inr (.inr (va_up (fun j => (h.2.2 a j).map adr) i.toNatClampNeg (some (adr x))))))) := by
    have e1 : (fun j => ((sR h a i.toNatClampNeg (some x)).2.2 a j).map adr) = va_up (fun j => (h.2.2 a j).map adr) i.toNatClampNeg (some (adr x)) := by
      funext j
      by_cases hj : j = i.toNatClampNeg <;> simp [sR, u2, va_up, hj]
    show Sum.inl (cyc (.object RX3), n, Sum.inr (Sum.inr (Sum.inr (Sum.inr (fun j => ((sR h a i.toNatClampNeg (some x)).2.2 a j).map adr))))) = _
    rw [e1]
  have hw := wsl_set (h := h) hs he (fun j t hj => cel_oR cyc adr h a i.toNatClampNeg (some x) j t hj)
  refine va_astq C.1 C.2.1 C.2.2.2.2.2.2.2.2.2.1 w.1 w.2.1 w.2.2.1 a 4 x 3 (wsl_at hs) rfl (wsl_at hx) rfl hin hd (fun H1 locs1 g1 g2 g3 => ?_)
  rw [hw] at g1 g2
  exact kk p l e s m args below meth c D cyc A Z n0 b ad0 C adr locs1 H1 ls ⟨g1, g2, g3, w.2.2.2.1, w.2.2.2.2.1, w.2.2.2.2.2.1, NoD_sR (List.getElem?_eq_some_iff.mp hx).1 w.2.2.2.2.2.2⟩ hl
/-- longs of a row are copied to another -/
def cpL (h : Hp) (a b sp dp n : Nat) : Hp := (h.1, fun x j => if x = b then va_cpy (h.2.1 a) (h.2.1 b) sp dp n j else h.2.1 x j, h.2.2)
theorem E_copyl {a0 a1 m0 m1 idx : Nat} {sp dp n : Int32} (hd : decode M.2.1 pc = .ok (.invokestatic idx, 3)) (f1 : Cond.methodLink M.1.cls idx arraycopyName ∈ mGood) (f2 : Cond.native arraycopyName ∈ mGood) (f3 : Cond.static arraycopyName ∈ mGood) (f4 : Cond.initialized "java/lang/System" ∈ mGood) (hs0 : sh[a0]? = some (.inl (.long, m0))) (hs1 : sh[a1]? = some (.inl (.long, m1))) (h1 : ¬ sp < 0) (h2 : ¬ dp < 0) (h3 : ¬ n < 0) (h4 : sp.toNatClampNeg + n.toNatClampNeg ≤ m0) (h5 : dp.toNatClampNeg + n.toNatClampNeg ≤ m1) (hf : 1 ≤ M.2.2.2.2.frames) (hlo : (st.map fun v => v.category).sum + (nativeFrameWords "java/lang/System" "arraycopy" 5 + 11) ≤ M.2.2.2.2.locals) (kk : E M scr Q (pc + 3) lv st sh (cpL h a0 a1 sp.toNatClampNeg dp.toNatClampNeg n.toNatClampNeg) kc ks) : E M scr Q pc lv (.int n :: .int dp :: .ref a1 :: .int sp :: .ref a0 :: st) sh h kc ks := by
  intro p l e s m args below meth c D cyc A Z n0 b ad0 C adr locs H ls w hl
  have he : cel cyc adr (cpL h a0 a1 sp.toNatClampNeg dp.toNatClampNeg n.toNatClampNeg) a1 (.inl (.long, m1)) = .inl (cyc .long, m1, .inr (.inl (va_cpy (h.2.1 a0) (h.2.1 a1) sp.toNatClampNeg dp.toNatClampNeg n.toNatClampNeg))) := by
    have e1 : (cpL h a0 a1 sp.toNatClampNeg dp.toNatClampNeg n.toNatClampNeg).2.1 a1 = va_cpy (h.2.1 a0) (h.2.1 a1) sp.toNatClampNeg dp.toNatClampNeg n.toNatClampNeg := by funext j; simp [cpL]
    show Sum.inl (cyc .long, m1, Sum.inr (Sum.inl ((cpL h a0 a1 sp.toNatClampNeg dp.toNatClampNeg n.toNatClampNeg).2.1 a1))) = _
    rw [e1]
  have ho : ∀ j t, j ≠ a1 → cel cyc adr (cpL h a0 a1 sp.toNatClampNeg dp.toNatClampNeg n.toNatClampNeg) j t = cel cyc adr h j t := by
    intro j t hj
    have e1 : (cpL h a0 a1 sp.toNatClampNeg dp.toNatClampNeg n.toNatClampNeg).2.1 j = h.2.1 j := by funext i; simp [cpL, hj]
    have e2 : ∀ ty i, fv adr (cpL h a0 a1 sp.toNatClampNeg dp.toNatClampNeg n.toNatClampNeg) j ty i = fv adr h j ty i := by intro ty i; cases ty <;> simp [fv, e1] <;> rfl
    unfold cel
    split <;> simp [e1, e2] <;> rfl
  have hw := wsl_set (h := h) hs1 he ho
  refine va_copyl C.1 C.2.1 (by rw [C.2.2.1]; exact hl.1.symm) C.2.2.2.1 (C.2.2.2.2.1 _ f1) (C.2.2.2.2.1 _ f2) (C.2.2.2.2.1 _ f3) (C.2.2.2.2.1 _ f4) C.2.2.2.2.2.2.2.2.2.1 w.1 w.2.1 w.2.2.1 a0 a1 2 2 (wsl_at hs0) (wsl_at hs1) rfl rfl rfl h1 h2 h3 h4 h5 (fun _ _ => rfl) hf (by rw [catsum]; exact hlo) hd (fun H1 locs1 g1 g2 g3 => ?_)
  rw [hw] at g1 g2
  exact kk p l e s m args below meth c D cyc A Z n0 b ad0 C adr locs1 H1 ls ⟨g1, g2, g3, w.2.2.2⟩ hl
theorem E_newa_i {N : Nat} {n : Int32} (hd : decode M.2.1 pc = .ok (.newarray .int, 2)) (f1 : Cond.arrayClass .int ∈ mGood) (hn : ¬ n < 0) (hN : n.toNatClampNeg = N) (hb : N * componentBytes .int ≤ 536870912) (hc : kc + 1 ≤ M.2.2.2.2.cells) (hk : ks + N ≤ M.2.2.2.2.slots) (hos : ∀ v ∈ st, old sh.length v) (hol : ∀ v, some v ∈ lv → old sh.length v) (kk : E M scr Q (pc + 2) lv (.ref sh.length :: st) (sh ++ [.inl (.int, N)]) (clr h sh.length) (kc + 1) (ks + N)) : E M scr Q pc lv (.int n :: st) sh h kc ks := by
  intro p l e s m args below meth c D cyc A Z n0 b ad0 C adr locs H ls w hl
  refine va_newa (atype := .int) C.1 C.2.1 (C.2.2.2.2.1 _ f1) rfl C.2.2.2.2.2.2.2.2.2.1 w.1 w.2.1 w.2.2.1 C.2.2.2.2.2.2.2.2.1 (a0 := (N, .inl (fun _ => 0))) (fun cA => rfl) hn hN hb hc hk hd (fun q cA H1 gK g1 g2 g3 => ?_)
  have hcA : cA = cyc .int := by
    have r1 := (gK.2 5 (cA, .int) rfl).2
    have r2 := (C.2.2.2.2.2.2.2.2.2.1.2 1 (cyc .int, .int) rfl).2
    exact Option.some.inj (r1.symm.trans r2)
  subst hcA
  have he : cel cyc (va_up adr sh.length q) (clr h sh.length) sh.length (.inl (.int, N)) = .inl (cyc .int, (N, .inl (fun _ => 0))) := by
    have e1 : (clr h sh.length).1 sh.length = fun _ => 0 := by funext j; simp [clr]
    show Sum.inl (cyc .int, N, Sum.inl ((clr h sh.length).1 sh.length)) = _
    rw [e1]
  have ha : ∀ k, k < sh.length → va_up adr sh.length q k = adr k := fun k hk => va_up_ne _ _ (Nat.ne_of_lt hk)
  have h9 := kk p l e s m args below meth c D cyc A Z n0 b ad0 C (va_up adr sh.length q) locs H1 ls (E_wn (p := p) (l := l) (e := e) (m := m) (args := args) (below := below) (meth := meth) (c := c) (Z := Z) (b := b) w he g1 g2 g3) (old_lv ha hol hl)
  rw [List.map_cons, old_st ha hos, show rv b (va_up adr sh.length q) (.ref sh.length) = .ref q by simp [rv, va_up]] at h9
  exact h9
theorem E_newa_b {N : Nat} {n : Int32} (hd : decode M.2.1 pc = .ok (.newarray .byte, 2)) (f1 : Cond.arrayClass .byte ∈ mGood) (hn : ¬ n < 0) (hN : n.toNatClampNeg = N) (hb : N * componentBytes .byte ≤ 536870912) (hc : kc + 1 ≤ M.2.2.2.2.cells) (hk : ks + N ≤ M.2.2.2.2.slots) (hos : ∀ v ∈ st, old sh.length v) (hol : ∀ v, some v ∈ lv → old sh.length v) (kk : E M scr Q (pc + 2) lv (.ref sh.length :: st) (sh ++ [.inl (.byte, N)]) (clr h sh.length) (kc + 1) (ks + N)) : E M scr Q pc lv (.int n :: st) sh h kc ks := by
  intro p l e s m args below meth c D cyc A Z n0 b ad0 C adr locs H ls w hl
  refine va_newa (atype := .byte) C.1 C.2.1 (C.2.2.2.2.1 _ f1) rfl C.2.2.2.2.2.2.2.2.2.1 w.1 w.2.1 w.2.2.1 C.2.2.2.2.2.2.2.2.1 (a0 := (N, .inl (fun _ => 0))) (fun cA => rfl) hn hN hb hc hk hd (fun q cA H1 gK g1 g2 g3 => ?_)
  have hcA : cA = cyc .byte := by
    have r1 := (gK.2 5 (cA, .byte) rfl).2
    have r2 := (C.2.2.2.2.2.2.2.2.2.1.2 0 (cyc .byte, .byte) rfl).2
    exact Option.some.inj (r1.symm.trans r2)
  subst hcA
  have he : cel cyc (va_up adr sh.length q) (clr h sh.length) sh.length (.inl (.byte, N)) = .inl (cyc .byte, (N, .inl (fun _ => 0))) := by
    have e1 : (clr h sh.length).1 sh.length = fun _ => 0 := by funext j; simp [clr]
    show Sum.inl (cyc .byte, N, Sum.inl ((clr h sh.length).1 sh.length)) = _
    rw [e1]
  have ha : ∀ k, k < sh.length → va_up adr sh.length q k = adr k := fun k hk => va_up_ne _ _ (Nat.ne_of_lt hk)
  have h9 := kk p l e s m args below meth c D cyc A Z n0 b ad0 C (va_up adr sh.length q) locs H1 ls (E_wn (p := p) (l := l) (e := e) (m := m) (args := args) (below := below) (meth := meth) (c := c) (Z := Z) (b := b) w he g1 g2 g3) (old_lv ha hol hl)
  rw [List.map_cons, old_st ha hos, show rv b (va_up adr sh.length q) (.ref sh.length) = .ref q by simp [rv, va_up]] at h9
  exact h9
theorem E_newa_z {N : Nat} {n : Int32} (hd : decode M.2.1 pc = .ok (.newarray .boolean, 2)) (f1 : Cond.arrayClass .boolean ∈ mGood) (hn : ¬ n < 0) (hN : n.toNatClampNeg = N) (hb : N * componentBytes .boolean ≤ 536870912) (hc : kc + 1 ≤ M.2.2.2.2.cells) (hk : ks + N ≤ M.2.2.2.2.slots) (hos : ∀ v ∈ st, old sh.length v) (hol : ∀ v, some v ∈ lv → old sh.length v) (kk : E M scr Q (pc + 2) lv (.ref sh.length :: st) (sh ++ [.inl (.boolean, N)]) (clr h sh.length) (kc + 1) (ks + N)) : E M scr Q pc lv (.int n :: st) sh h kc ks := by
  intro p l e s m args below meth c D cyc A Z n0 b ad0 C adr locs H ls w hl
  refine va_newa (atype := .boolean) C.1 C.2.1 (C.2.2.2.2.1 _ f1) rfl C.2.2.2.2.2.2.2.2.2.1 w.1 w.2.1 w.2.2.1 C.2.2.2.2.2.2.2.2.1 (a0 := (N, .inl (fun _ => 0))) (fun cA => rfl) hn hN hb hc hk hd (fun q cA H1 gK g1 g2 g3 => ?_)
  have hcA : cA = cyc .boolean := by
    have r1 := (gK.2 5 (cA, .boolean) rfl).2
    have r2 := (C.2.2.2.2.2.2.2.2.2.1.2 3 (cyc .boolean, .boolean) rfl).2
    exact Option.some.inj (r1.symm.trans r2)
  subst hcA
  have he : cel cyc (va_up adr sh.length q) (clr h sh.length) sh.length (.inl (.boolean, N)) = .inl (cyc .boolean, (N, .inl (fun _ => 0))) := by
    have e1 : (clr h sh.length).1 sh.length = fun _ => 0 := by funext j; simp [clr]
    show Sum.inl (cyc .boolean, N, Sum.inl ((clr h sh.length).1 sh.length)) = _
    rw [e1]
  have ha : ∀ k, k < sh.length → va_up adr sh.length q k = adr k := fun k hk => va_up_ne _ _ (Nat.ne_of_lt hk)
  have h9 := kk p l e s m args below meth c D cyc A Z n0 b ad0 C (va_up adr sh.length q) locs H1 ls (E_wn (p := p) (l := l) (e := e) (m := m) (args := args) (below := below) (meth := meth) (c := c) (Z := Z) (b := b) w he g1 g2 g3) (old_lv ha hol hl)
  rw [List.map_cons, old_st ha hos, show rv b (va_up adr sh.length q) (.ref sh.length) = .ref q by simp [rv, va_up]] at h9
  exact h9
theorem E_newa_l {N : Nat} {n : Int32} (hd : decode M.2.1 pc = .ok (.newarray .long, 2)) (f1 : Cond.arrayClass .long ∈ mGood) (hn : ¬ n < 0) (hN : n.toNatClampNeg = N) (hb : N * componentBytes .long ≤ 536870912) (hc : kc + 1 ≤ M.2.2.2.2.cells) (hk : ks + N ≤ M.2.2.2.2.slots) (hos : ∀ v ∈ st, old sh.length v) (hol : ∀ v, some v ∈ lv → old sh.length v) (kk : E M scr Q (pc + 2) lv (.ref sh.length :: st) (sh ++ [.inl (.long, N)]) (clr h sh.length) (kc + 1) (ks + N)) : E M scr Q pc lv (.int n :: st) sh h kc ks := by
  intro p l e s m args below meth c D cyc A Z n0 b ad0 C adr locs H ls w hl
  refine va_newa (atype := .long) C.1 C.2.1 (C.2.2.2.2.1 _ f1) rfl C.2.2.2.2.2.2.2.2.2.1 w.1 w.2.1 w.2.2.1 C.2.2.2.2.2.2.2.2.1 (a0 := (N, .inr (.inl (fun _ => 0)))) (fun cA => rfl) hn hN hb hc hk hd (fun q cA H1 gK g1 g2 g3 => ?_)
  have hcA : cA = cyc .long := by
    have r1 := (gK.2 5 (cA, .long) rfl).2
    have r2 := (C.2.2.2.2.2.2.2.2.2.1.2 2 (cyc .long, .long) rfl).2
    exact Option.some.inj (r1.symm.trans r2)
  subst hcA
  have he : cel cyc (va_up adr sh.length q) (clr h sh.length) sh.length (.inl (.long, N)) = .inl (cyc .long, (N, .inr (.inl (fun _ => 0)))) := by
    have e1 : (clr h sh.length).2.1 sh.length = fun _ => 0 := by funext j; simp [clr]
    show Sum.inl (cyc .long, N, Sum.inr (Sum.inl ((clr h sh.length).2.1 sh.length))) = _
    rw [e1]
  have ha : ∀ k, k < sh.length → va_up adr sh.length q k = adr k := fun k hk => va_up_ne _ _ (Nat.ne_of_lt hk)
  have h9 := kk p l e s m args below meth c D cyc A Z n0 b ad0 C (va_up adr sh.length q) locs H1 ls (E_wn (p := p) (l := l) (e := e) (m := m) (args := args) (below := below) (meth := meth) (c := c) (Z := Z) (b := b) w he g1 g2 g3) (old_lv ha hol hl)
  rw [List.map_cons, old_st ha hos, show rv b (va_up adr sh.length q) (.ref sh.length) = .ref q by simp [rv, va_up]] at h9
  exact h9
end EN
