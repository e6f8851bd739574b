/-! contracts over the mini world, and calls -/
def SPc (av : List Value) (D : va_G) (cyc : FieldType → ClassId) (b : Nat) (adr : Nat → Nat) (sh : List Sh) (h : Hp) (sz : Nat) : Array Value → State → Prop := fun v U =>
  v = (av.map (rv b adr)).toArray ∧ U.heap.size = sz ∧ va_P D vwCl (wsl cyc adr h sh) U.heap ∧ va_K D vwCl (tysL cyc) U ∧ va_D (fun _ => True) (wsl cyc adr h sh) ∧ NoD sh h ∧ (∀ w ∈ mNest, va_Nw w U) ∧ va_AO RX3 U
def SQc (Q : QT) (D : va_G) (cyc : FieldType → ClassId) (b : Nat) (adr : Nat → Nat) (sh : List Sh) (h : Hp) (sz : Nat) : Array Value → State → Outcome → State → Prop := fun _ st o t =>
  ∃ (v : Option Value) (sh' : List Sh) (h' : Hp) (adr' : Nat → Nat), o = .returned (v.map (rv b adr')) ∧ Q v sh' h' ∧ va_P D vwCl (wsl cyc adr' h' sh') t.heap ∧ va_D (va_A (wsl cyc adr h sh) sz) (wsl cyc adr' h' sh') ∧ (∀ k, k < sh.length → adr' k = adr k) ∧ (sh'.length = sh.length → adr' = adr) ∧ sh.length ≤ sh'.length ∧ NoD sh' h' ∧ va_F (va_A (wsl cyc adr h sh) sz) st t
/-- method M, called with av over (sh, h): it returns, and Q holds -/
def Sp (M : MI) (av : List Value) (sh : List Sh) (h : Hp) (Q : QT) : Prop := ∀ (l : Launch) (D : va_G) (cyc : FieldType → ClassId) (b : Nat) (adr : Nat → Nat) (sz : Nat),
  Met l M.1 (Cond.code M.1 M.2.1 M.2.2.1 M.2.2.2.1 :: mGood) M.2.2.2.2 (SPc av D cyc b adr sh h sz) (SQc Q D cyc b adr sh h sz) M.2.2.2.2.cells M.2.2.2.2.slots (va_A (wsl cyc adr h sh) sz)
/-- the same of a method that makes no cell -/
def Sp0 (M : MI) (av : List Value) (sh : List Sh) (h : Hp) (Q : Option Value → Hp → Prop) : Prop := Sp M av sh h (fun v sh' h' => sh' = sh ∧ Q v h')
def lvE : Nat → List Value → List (Option Value)
  | n, [] => List.replicate n none
  | n, v :: vs => if v.category = 2 then some v :: none :: lvE (n - 2) vs else some v :: lvE (n - 1) vs
theorem lvE_mem (b : Nat) (adr : Nat → Nat) : ∀ (vs : List Value) (n o i : Nat) (v : Value), (lvE n vs)[i]? = some (some v) → (o + i, rv b adr v) ∈ lv_args o (vs.map (rv b adr))
  | [], n, o, i, v, h => by
    simp [lvE, List.getElem?_replicate] at h
  | u :: vs, n, o, i, v, h => by
    rw [lvE] at h
    simp only [List.map_cons, lv_args, rv_cat]
    by_cases hc : u.category = 2
    · rw [if_pos hc] at h ⊢
      match i, h with
      | 0, h => simp at h; subst h; exact List.mem_cons_self
      | 1, h => simp at h
      | i + 2, h =>
        have := lvE_mem b adr vs (n - 2) (o + 2) i v (by simpa using h)
        rw [show o + (i + 2) = o + 2 + i by omega]
        exact List.mem_cons_of_mem _ this
    · rw [if_neg hc] at h ⊢
      match i, h with
      | 0, h => simp at h; subst h; exact List.mem_cons_self
      | i + 1, h =>
        have := lvE_mem b adr vs (n - 1) (o + 1) i v (by simpa using h)
        rw [show o + (i + 1) = o + 1 + i by omega]
        exact List.mem_cons_of_mem _ this
theorem lg_rv (b : Nat) (adr : Nat → Nat) (vs : List Value) : (lg_sl (vs.map (rv b adr))).length = (lg_sl vs).length := by
  induction vs with
  | nil => rfl
  | cons v vs ih =>
    simp only [lg_sl, List.map_cons, List.flatMap_cons, List.length_append, rv_cat] at ih ⊢
    rw [ih]
    by_cases hc : v.category = 2 <;> simp [hc]
theorem Sp.of {M : MI} {av : List Value} {sh : List Sh} {h : Hp} {Q : QT} (hy : plainName M.1.cls = true) (hn : (lg_sl av).length ≤ M.2.2.1) (k : E M none Q 0 (lvE M.2.2.1 av) [] sh h 0 0) : Sp M av sh h Q := by
  intro l D cyc b adr sz
  refine Met.ofW (cc := M.2.1) (maxL := M.2.2.1) (ret := M.2.2.2.1) hy rfl ?_
  intro p e s m args below meth c s₁ B hml hv
  obtain ⟨rfl, hsz, hP, hK, hD0, hnd, hN, hO⟩ := hv
  subst hsz
  have hts := atoms_spec (ws := Cond.code M.1 M.2.1 M.2.2.1 M.2.2.2.1 :: mGood) B.pre
  have hlocks := B.notSynchronized
  have hl := lv_entry (av.map (rv b adr)) (n := M.2.2.1) (by rw [lg_rv]; exact hn)
  rw [lg_entry_eq]
  generalize (lg_sl (av.map (rv b adr)) ++ List.replicate (M.2.2.1 - (lg_sl (av.map (rv b adr))).length) Slot.unset).toArray = ls at hl ⊢
  refine k p l e s m _ below meth c D cyc (va_A (wsl cyc adr h sh) s.heap.size) _ sh.length b adr ?_ adr [] s.heap ls ⟨hP, hD0.self, va_S.rf, fun _ _ => rfl, fun _ => rfl, Nat.le_refl _, hnd⟩ ⟨hl.1, hl.2.1, fun i v hi => hl.2.2 (i, rv b adr v) (by simpa using lvE_mem b adr av M.2.2.1 0 i v hi)⟩
  refine ⟨B.exec, B.bytes, hml, findClass_of_methodNamed B.named, fun w hw => hts w (List.mem_cons_of_mem _ hw), hN, hO, (name_of_methodNamed B.named B.method).1, fun q hq => Or.inr hq, hK, fun L xs hh => (by cases hh), ?_⟩
  intro v i sh' h' adr' H locs pc ls2 hq w hr hd
  obtain ⟨w1, w2, w3, w4, w5, w6, w7⟩ := w
  have key : ∀ t : State, t.heap = H → s.WarmedH t.vm → SQc Q D cyc b adr sh h s.heap.size (av.map (rv b adr)).toArray s (.returned (v.map (rv b adr'))) t := fun t ht hW =>
    ⟨v, sh', h', adr', rfl, hq, by rw [ht]; exact w1, w2, w4, w5, w6, w7, w3.F ht⟩
  match v, hr, key with
  | none, hr, key => exact W.vret B.exec B.bytes (B.returns.trans hr.2) key w3.2.2 (by rw [hd, hr.1])
  | some (.int x), hr, key =>
    obtain ⟨r1, ty, r2, r3⟩ := hr
    exact W.zret (ty := ty) B.exec B.bytes (B.returns.trans r2) r3 key w3.2.2 (by rw [hd, r1])
  | some (.long x), hr, key => exact W.lret B.exec B.bytes (B.returns.trans hr.2) key w3.2.2 (by rw [hd, hr.1])
  | some .null, hr, key =>
    obtain ⟨r1, n, r2⟩ := hr
    exact W.aret (rt := .object n) B.exec B.bytes (B.returns.trans r2) (Or.inl ⟨n, rfl⟩) (Or.inl rfl) key w3.2.2 (by rw [hd, r1])
  | some (.ref x), hr, key =>
    obtain ⟨r1, n, r2⟩ := hr
    exact W.aret (rt := .object n) B.exec B.bytes (B.returns.trans r2) (Or.inl ⟨n, rfl⟩) (Or.inr ⟨adr' x, rfl⟩) key w3.2.2 (by rw [hd, r1])
theorem Sp0.of {M : MI} {av : List Value} {sh : List Sh} {h : Hp} {Q : Option Value → Hp → Prop} (hy : plainName M.1.cls = true) (hn : (lg_sl av).length ≤ M.2.2.1) (k : E M none (fun v sh' h' => sh' = sh ∧ Q v h') 0 (lvE M.2.2.1 av) [] sh h 0 0) : Sp0 M av sh h Q := Sp.of hy hn k
theorem SPc_blind {av : List Value} {D : va_G} {cyc : FieldType → ClassId} {b : Nat} {adr : Nat → Nat} {sh : List Sh} {h : Hp} {sz : Nat} : FrameBlind (SPc av D cyc b adr sh h sz) := by
  intro a U g mk q
  obtain ⟨q0, q1, qP, qK, qD, qN, qW, qO⟩ := q
  exact ⟨q0, q1, qP, va_K.moved (u := U) (U := U.calling g mk a) (Vm.Alike.refl U.vm) qK, qD, qN, mNest_same (by rfl) qW, va_AO.moved (u := U) (U := U.calling g mk a) (Vm.Alike.refl U.vm) qO⟩
theorem SPc_pre {M : MI} {scr : Option (Nat × (Nat → Int32))} {Q : QT} {p : Program} {l : Launch} {e : Env} {s : State} {m : MethodId} {args : Array Value} {below : List Frame} {meth : Method} {c : Code} {D : va_G} {cyc : FieldType → ClassId} {A : Nat → Prop} {Z : State → Prop} {n0 b : Nat} {ad0 adr : Nat → Nat} {sh : List Sh} {h : Hp} {H : Heap} {locs : List Loc} {av : List Value} (C : Cx M scr Q p l e s m args below meth c D cyc A Z n0 b ad0) (w : Wd s D cyc A n0 ad0 adr sh h H locs) : ∀ U : State, U.heap = H → s.WarmedH U.vm → SPc av D cyc b adr sh h H.size (av.map (rv b adr)).toArray U := fun U hU hW =>
  ⟨rfl, by rw [hU], by rw [hU]; exact w.1, va_K.moved hW.alike C.2.2.2.2.2.2.2.2.2.1, w.2.1.weaken (fun _ _ _ _ => trivial), w.2.2.2.2.2.2, mNest_warm hW C.2.2.2.2.2.1, va_AO.moved hW.alike C.2.2.2.2.2.2.1⟩
/-- behind a call -/
theorem E_back {M : MI} {scr : Option (Nat × (Nat → Int32))} {Q Qc : QT} {p : Program} {l : Launch} {e : Env} {s : State} {m : MethodId} {args : Array Value} {below : List Frame} {meth : Method} {c : Code} {D : va_G} {cyc : FieldType → ClassId} {A : Nat → Prop} {Z : State → Prop} {n0 b : Nat} {ad0 adr : Nat → Nat} {sh : List Sh} {h : Hp} {H : Heap} {locs : List Loc} {ls : Array Slot} {pc kc ks mc ms : Nat} {st0 rest : List Value} {a : Array Value} (C : Cx M scr Q p l e s m args below meth c D cyc A Z n0 b ad0) (w : Wd s D cyc A n0 ad0 adr sh h H locs)
    (hr : va_Run p l e M.2.2.2.2 s m args below meth c H locs kc ks mc ms (F0 m pc ls st0) rest (SQc Qc D cyc b adr sh h H.size a) (va_A (wsl cyc adr h sh) H.size))
    (kk : ∀ (v : Option Value) (sh' : List Sh) (h' : Hp) (adr' : Nat → Nat) (H1 : Heap) (locs1 : List Loc), Qc v sh' h' → Wd s D cyc A n0 ad0 adr' sh' h' H1 locs1 → (∀ k, k < sh.length → adr' k = adr k) → (sh'.length = sh.length → adr' = adr) → W p l e M.2.2.2.2 s m args below meth c H1 locs1 (kc + mc) (ks + ms) Z (F0 m (pc + 3) ls (v.toList.map (rv b adr') ++ rest))) : W p l e M.2.2.2.2 s m args below meth c H locs kc ks Z (F0 m pc ls st0) := by
  intro T hT X
  obtain ⟨v0, st₀, t, T', L, h0, X', hL, e1, e2, ⟨v, sh', h', adr', hv, hq, hP, hD, ha, hb, hc, hd, hz, hk⟩, st⟩ := hr T hT X
  cases hv
  rw [h0] at hz hk
  have hF : ∀ q, va_A (wsl cyc adr h sh) H.size q → A q := by
    intro q hq
    rcases hq with ⟨k, e, hq⟩ | hq
    · exact w.2.1.2 k (q, e) hq
    · exact C.2.2.2.2.2.2.2.2.1 q (Nat.le_trans w.2.2.1.1 hq)
  have hS := w.2.2.1
  have hw : Wd s D cyc A n0 ad0 adr' sh' h' T'.heap (locs ++ L) := by
    refine ⟨by rw [e1]; exact hP, hD.weaken (fun _ q _ hq => hF q.1 hq), ⟨Nat.le_trans hS.1 (by rw [e1]; exact hz), fun q h1 h2 => by rw [e1, hk q (Nat.lt_of_lt_of_le h1 hS.1) (fun z => h2 (hF q z))]; exact hS.2.1 q h1 h2, fun q hq => by
      rcases List.mem_append.mp hq with h | h
      · exact hS.2.2 q h
      · exact hF _ (hL q h)⟩, fun k hk => ?_, fun hk => ?_, Nat.le_trans w.2.2.2.2.2.1 hc, hd⟩
    · rw [ha k (Nat.lt_of_lt_of_le hk w.2.2.2.2.2.1)]; exact w.2.2.2.1 k hk
    · have e3 : sh.length = n0 := Nat.le_antisymm (by rw [← hk]; exact hc) w.2.2.2.2.2.1
      rw [hb (by omega)]; exact w.2.2.2.2.1 e3
  obtain ⟨t2, a1, b1⟩ := kk v sh' h' adr' T'.heap (locs ++ L) hq hw ha hb T' rfl X'
  refine ⟨t2, st t2 ?_, b1⟩
  have e4 : (v.map (rv b adr')).toList = v.toList.map (rv b adr') := by cases v <;> rfl
  show Steps p.tables e below (T'.setTop { F0 m pc ls st0 with pc := pc + 3, stack := (v.map (rv b adr')).toList ++ rest }) t2
  rw [e4]
  exact a1
section EC
variable {M : MI} {scr : Option (Nat × (Nat → Int32))} {Q : QT} {pc : Nat} {lv : List (Option Value)} {st : List Value} {sh : List Sh} {h : Hp} {kc ks : Nat}
variable {N : MI} {av : List Value} {idx nP : Nat}
/-- what a call needs of the tables: its code, its class, how many parameters -/
def CN (N : MI) (nP : Nat) : Prop := Cond.code N.1 N.2.1 N.2.2.1 N.2.2.2.1 ∈ mGood ∧ Cond.initialized N.1.cls ∈ mGood ∧ (N.1.cls ≠ "java/lang/invoke/MethodHandle" ∧ N.1.cls ≠ "java/lang/invoke/VarHandle" ∧ (parseMethodDescriptor N.1.desc).map (fun d => d.parameters.length) = some nP)
/-- the caller's room holds the callee's -/
def RM (M N : MI) : Prop := N.2.2.2.2.frames + 1 ≤ M.2.2.2.2.frames ∧ 8 + (N.2.2.1 + 11) + N.2.2.2.2.locals ≤ M.2.2.2.2.locals
/-- and of the link: the kind of call, the index -/
def LV (own : String) (N : MI) (idx : Nat) : Prop := Cond.instanceMethod N.1 ∈ mGood ∧ Cond.selects N.1.cls N.1 N.1 ∈ mGood ∧ (Cond.methodLink own idx N.1 ∈ mGood ∨ ∃ host, Cond.methodLinkNest own idx N.1 host ∈ mNest)
def LS2 (own : String) (N : MI) (idx : Nat) : Prop := Cond.static N.1 ∈ mGood ∧ (Cond.methodLink own idx N.1 ∈ mGood ∨ ∃ host, Cond.methodLinkNest own idx N.1 host ∈ mNest)
def LI (own : String) (N : MI) (idx : Nat) : Prop := N.1.name = "<init>" ∧ N.2.2.2.1 = none ∧ Cond.instanceMethod N.1 ∈ mGood ∧ (Cond.methodLink own idx N.1 ∈ mGood ∨ ∃ host, Cond.methodLinkNest own idx N.1 host ∈ mNest)
theorem catsum (b : Nat) (adr : Nat → Nat) (st : List Value) : ((st.map (rv b adr)).map fun v => v.category).sum = (st.map fun v => v.category).sum := by
  congr 1
  rw [List.map_map]
  exact List.map_congr_left (fun v _ => rv_cat b adr v)
theorem mapapp (b : Nat) (adr : Nat → Nat) (v : Option Value) (st : List Value) : v.toList.map (rv b adr) ++ st.map (rv b adr) = (v.toList ++ st).map (rv b adr) := by simp
theorem revmap (b : Nat) (adr : Nat → Nat) (av st : List Value) : (av.reverse ++ st).map (rv b adr) = (av.map (rv b adr)).reverse ++ st.map (rv b adr) := by simp
theorem fieldsOK {cyc : FieldType → ClassId} {adr : Nat → Nat} {h : Hp} {sh : List Sh} {a ci : Nat} (hs : sh[a]? = some (.inr ci)) : (wsl cyc adr h sh)[a]? = some (adr a, .inr (ci, (List.range (nfC ci)).map (fun j => fv adr h a (tyC ci j) j))) := wsl_at hs
/-- invokevirtual of N on object a of class ci, no cell made -/
theorem E_callV {Qn : Option Value → Hp → Prop} {a ci : Nat} (hd : decode M.2.1 pc = .ok (.invokevirtual idx, 3)) (cn : CN N nP) (lk : LV M.1.cls N idx) (rm : RM M N) (hs : sh[a]? = some (.inr ci)) (hci : vwCl[ci]?.map (fun q => q.1) = some N.1.cls) (hn : av.length = nP) (hst : (st.map fun v => v.category).sum ≤ 8) (hz : N.2.2.2.2.cells = 0 ∧ N.2.2.2.2.slots = 0) (hc : kc ≤ M.2.2.2.2.cells ∧ ks ≤ M.2.2.2.2.slots) (hM : Sp0 N (.ref a :: av) sh h Qn) (kk : ∀ v h', Qn v h' → E M scr Q (pc + 3) lv (v.toList ++ st) sh h' kc ks) : E M scr Q pc lv (av.reverse ++ .ref a :: st) sh h kc ks := by
  intro p l e s m args below meth c D cyc A Z n0 b ad0 C adr locs H ls w hl
  obtain ⟨q, hq⟩ : ∃ q, vwCl[ci]? = some q := by
    cases hh : vwCl[ci]? with
    | none => rw [hh] at hci; cases hci
    | some q => exact ⟨q, rfl⟩
  have hq1 : q.1 = N.1.cls := by rw [hq] at hci; exact Option.some.inj hci
  have hrecv := va_recv C.2.2.2.2.2.2.2.2.2.1 w.1 hq (fieldsOK hs)
  rw [hq1] at hrecv
  have hpre : PreV s H N.1.cls (adr a) (SPc (.ref a :: av) D cyc b adr sh h H.size) (av.map (rv b adr)) := ⟨SPc_blind, hrecv, SPc_pre C w⟩
  have hst' : 2 * (F0 m pc ls ((av.reverse ++ .ref a :: st).map (rv b adr))).monitorRoom + ((st.map (rv b adr)).map fun v => v.category).sum ≤ 8 := by
    show 2 * 0 + _ ≤ 8
    rw [catsum]; omega
  have hcs : kc + N.2.2.2.2.cells ≤ M.2.2.2.2.cells ∧ ks + N.2.2.2.2.slots ≤ M.2.2.2.2.slots := by rw [hz.1, hz.2]; exact hc
  have hrun : va_Run p l e M.2.2.2.2 s m args below meth c H locs kc ks N.2.2.2.2.cells N.2.2.2.2.slots (F0 m pc ls ((av.reverse ++ .ref a :: st).map (rv b adr))) (st.map (rv b adr)) (SQc (fun v sh' h' => sh' = sh ∧ Qn v h') D cyc b adr sh h H.size (Value.ref (adr a) :: av.map (rv b adr)).toArray) (va_A (wsl cyc adr h sh) H.size) := by
    rcases lk.2.2 with hl1 | ⟨host, hl1⟩
    · exact va_runV (n := nP) ⟨C.1, C.2.1, C.2.2.1, C.2.2.2.1, C.2.2.2.2.1⟩ (hM l D cyc b adr H.size) ⟨callB_of nP C.2.2.2.2.1 (goodIn_M cn.1) rfl rfl rfl (C.2.2.2.2.1 _ cn.2.1) (C.2.2.2.2.1 _ hl1) cn.2.2 rm, C.2.2.2.2.1 _ lk.1, C.2.2.2.2.1 _ lk.2.1⟩ hpre rfl (by rw [List.length_map]; exact hn) hl.1 (revmap b adr av (.ref a :: st)) hst' hd hcs
    · exact va_runVN (n := nP) ⟨C.1, C.2.1, C.2.2.1, C.2.2.2.1, C.2.2.2.2.1⟩ (hM l D cyc b adr H.size) ⟨va_cnB nP C.2.2.2.2.1 (goodIn_M cn.1) rfl rfl rfl (C.2.2.2.2.2.1 _ hl1) (C.2.2.2.2.1 _ cn.2.1) cn.2.2 rm, C.2.2.2.2.1 _ lk.1, C.2.2.2.2.1 _ lk.2.1⟩ hpre rfl (by rw [List.length_map]; exact hn) hl.1 (revmap b adr av (.ref a :: st)) hst' hd hcs
  refine E_back C w hrun (fun v sh' h' adr' H1 locs1 hq w1 _ hb => ?_)
  obtain ⟨rfl, hq⟩ := hq
  have := hb rfl
  subst this
  rw [mapapp, hz.1, hz.2]
  exact kk v h' hq p l e s m args below meth c D cyc A Z n0 b ad0 C adr' locs1 H1 ls w1 hl
theorem E_callS {Qn : Option Value → Hp → Prop} (hd : decode M.2.1 pc = .ok (.invokestatic idx, 3)) (cn : CN N nP) (lk : LS2 M.1.cls N idx) (rm : RM M N) (hn : av.length = nP) (hst : (st.map fun v => v.category).sum ≤ 8) (hz : N.2.2.2.2.cells = 0 ∧ N.2.2.2.2.slots = 0) (hc : kc ≤ M.2.2.2.2.cells ∧ ks ≤ M.2.2.2.2.slots) (hM : Sp0 N av sh h Qn) (kk : ∀ v h', Qn v h' → E M scr Q (pc + 3) lv (v.toList ++ st) sh h' kc ks) : E M scr Q pc lv (av.reverse ++ st) sh h kc ks := by
  intro p l e s m args below meth c D cyc A Z n0 b ad0 C adr locs H ls w hl
  have hpre : PreS s H (SPc av D cyc b adr sh h H.size) (av.map (rv b adr)) := ⟨SPc_blind, SPc_pre C w⟩
  have hst' : 2 * (F0 m pc ls ((av.reverse ++ st).map (rv b adr))).monitorRoom + ((st.map (rv b adr)).map fun v => v.category).sum ≤ 8 := by
    show 2 * 0 + _ ≤ 8
    rw [catsum]; omega
  have hcs : kc + N.2.2.2.2.cells ≤ M.2.2.2.2.cells ∧ ks + N.2.2.2.2.slots ≤ M.2.2.2.2.slots := by rw [hz.1, hz.2]; exact hc
  have hrun : va_Run p l e M.2.2.2.2 s m args below meth c H locs kc ks N.2.2.2.2.cells N.2.2.2.2.slots (F0 m pc ls ((av.reverse ++ st).map (rv b adr))) (st.map (rv b adr)) (SQc (fun v sh' h' => sh' = sh ∧ Qn v h') D cyc b adr sh h H.size (av.map (rv b adr)).toArray) (va_A (wsl cyc adr h sh) H.size) := by
    rcases lk.2 with hl1 | ⟨host, hl1⟩
    · exact va_runS (n := nP) ⟨C.1, C.2.1, C.2.2.1, C.2.2.2.1, C.2.2.2.2.1⟩ (hM l D cyc b adr H.size) ⟨callB_of nP C.2.2.2.2.1 (goodIn_M cn.1) rfl rfl rfl (C.2.2.2.2.1 _ cn.2.1) (C.2.2.2.2.1 _ hl1) cn.2.2 rm, C.2.2.2.2.1 _ lk.1⟩ hpre rfl (by rw [List.length_map]; exact hn) hl.1 (revmap b adr av st) hst' hd hcs
    · exact va_runSN (n := nP) ⟨C.1, C.2.1, C.2.2.1, C.2.2.2.1, C.2.2.2.2.1⟩ (hM l D cyc b adr H.size) ⟨va_cnB nP C.2.2.2.2.1 (goodIn_M cn.1) rfl rfl rfl (C.2.2.2.2.2.1 _ hl1) (C.2.2.2.2.1 _ cn.2.1) cn.2.2 rm, C.2.2.2.2.1 _ lk.1, trivial⟩ hpre rfl (by rw [List.length_map]; exact hn) hl.1 (revmap b adr av st) hst' hd hcs
  refine E_back C w hrun (fun v sh' h' adr' H1 locs1 hq w1 _ hb => ?_)
  obtain ⟨rfl, hq⟩ := hq
  have := hb rfl
  subst this
  rw [mapapp, hz.1, hz.2]
  exact kk v h' hq p l e s m args below meth c D cyc A Z n0 b ad0 C adr' locs1 H1 ls w1 hl
/-- the values whose ids are old -/
def old (n : Nat) : Value → Prop
  | .ref k => k < n
  | _ => True
theorem old_rv {n b : Nat} {adr adr' : Nat → Nat} (ha : ∀ k, k < n → adr' k = adr k) {v : Value} (hv : old n v) : rv b adr' v = rv b adr v := by
  cases v <;> first | rfl | exact congrArg Value.ref (ha _ hv)
theorem old_st {n b : Nat} {adr adr' : Nat → Nat} (ha : ∀ k, k < n → adr' k = adr k) {st : List Value} (hv : ∀ v ∈ st, old n v) : st.map (rv b adr') = st.map (rv b adr) := List.map_congr_left (fun v hm => old_rv ha (hv v hm))
theorem old_lv {n b nL : Nat} {adr adr' : Nat → Nat} (ha : ∀ k, k < n → adr' k = adr k) {lv : List (Option Value)} {ls : Array Slot} (hv : ∀ v, some v ∈ lv → old n v) (hl : Lv b adr nL lv ls) : Lv b adr' nL lv ls := ⟨hl.1, hl.2.1, fun i v hi => by rw [old_rv ha (hv v (List.mem_of_getElem? hi))]; exact hl.2.2 i v hi⟩
/-- a constructor is called; it may make cells -/
theorem E_callI {Qn : QT} {a : Nat} (hd : decode M.2.1 pc = .ok (.invokespecial idx, 3)) (cn : CN N nP) (lk : LI M.1.cls N idx) (rm : RM M N) (hn : av.length = nP) (hst : (st.map fun v => v.category).sum ≤ 8) (hc : kc + N.2.2.2.2.cells ≤ M.2.2.2.2.cells ∧ ks + N.2.2.2.2.slots ≤ M.2.2.2.2.slots) (hos : ∀ v ∈ st, old sh.length v) (hol : ∀ v, some v ∈ lv → old sh.length v) (hM : Sp N (.ref a :: av) sh h Qn) (kk : ∀ v sh' h', Qn v sh' h' → E M scr Q (pc + 3) lv (v.toList ++ st) sh' h' (kc + N.2.2.2.2.cells) (ks + N.2.2.2.2.slots)) : E M scr Q pc lv (av.reverse ++ .ref a :: st) sh h kc ks := by
  intro p l e s m args below meth c D cyc A Z n0 b ad0 C adr locs H ls w hl
  have hpre : PreS s H (SPc (.ref a :: av) D cyc b adr sh h H.size) (.ref (adr a) :: av.map (rv b adr)) := ⟨SPc_blind, SPc_pre C w⟩
  have hst' : 2 * (F0 m pc ls ((av.reverse ++ .ref a :: st).map (rv b adr))).monitorRoom + ((st.map (rv b adr)).map fun v => v.category).sum ≤ 8 := by
    show 2 * 0 + _ ≤ 8
    rw [catsum]; omega
  have hMn := hM l D cyc b adr H.size
  have hcode := cn.1
  rw [lk.2.1] at hMn hcode
  have hrun : va_Run p l e M.2.2.2.2 s m args below meth c H locs kc ks N.2.2.2.2.cells N.2.2.2.2.slots (F0 m pc ls ((av.reverse ++ .ref a :: st).map (rv b adr))) (st.map (rv b adr)) (SQc Qn D cyc b adr sh h H.size (Value.ref (adr a) :: av.map (rv b adr)).toArray) (va_A (wsl cyc adr h sh) H.size) := by
    rcases lk.2.2.2 with hl1 | ⟨host, hl1⟩
    · exact va_runI (n := nP) ⟨C.1, C.2.1, C.2.2.1, C.2.2.2.1, C.2.2.2.2.1⟩ hMn ⟨callB_of nP C.2.2.2.2.1 (goodIn_M hcode) rfl rfl rfl (C.2.2.2.2.1 _ cn.2.1) (C.2.2.2.2.1 _ hl1) cn.2.2 rm, lk.1, C.2.2.2.2.1 _ lk.2.2.1⟩ hpre rfl (by rw [List.length_map]; exact hn) hl.1 (revmap b adr av (.ref a :: st)) hst' hd hc
    · exact va_runIN (n := nP) ⟨C.1, C.2.1, C.2.2.1, C.2.2.2.1, C.2.2.2.2.1⟩ hMn ⟨va_cnB nP C.2.2.2.2.1 (goodIn_M hcode) rfl rfl rfl (C.2.2.2.2.2.1 _ hl1) (C.2.2.2.2.1 _ cn.2.1) cn.2.2 rm, lk.1, C.2.2.2.2.1 _ lk.2.2.1⟩ hpre rfl (by rw [List.length_map]; exact hn) hl.1 (revmap b adr av (.ref a :: st)) hst' hd hc
  refine E_back C w hrun (fun v sh' h' adr' H1 locs1 hq w1 ha _ => ?_)
  rw [← old_st (b := b) ha hos, mapapp]
  exact kk v sh' h' hq p l e s m args below meth c D cyc A Z n0 b ad0 C adr' locs1 H1 ls w1 (old_lv ha hol hl)
theorem cV0 {Qn : Option Value → Hp → Prop} {a ci : Nat} (hd : decode M.2.1 pc = .ok (.invokevirtual idx, 3)) (cn : CN N 0) (lk : LV M.1.cls N idx) (rm : RM M N) (hs : sh[a]? = some (.inr ci)) (hci : vwCl[ci]?.map (fun q => q.1) = some N.1.cls) (hst : (st.map fun v => v.category).sum ≤ 8) (hz : N.2.2.2.2.cells = 0 ∧ N.2.2.2.2.slots = 0) (hM : Sp0 N (.ref a :: []) sh h Qn) (kk : ∀ v h', Qn v h' → E M scr Q (pc + 3) lv (v.toList ++ st) sh h' 0 0) : E M scr Q pc lv (.ref a :: st) sh h 0 0 := E_callV (av := []) hd cn lk rm hs hci rfl hst hz ⟨Nat.zero_le _, Nat.zero_le _⟩ hM kk
theorem cS0 {Qn : Option Value → Hp → Prop} (hd : decode M.2.1 pc = .ok (.invokestatic idx, 3)) (cn : CN N 0) (lk : LS2 M.1.cls N idx) (rm : RM M N) (hst : (st.map fun v => v.category).sum ≤ 8) (hz : N.2.2.2.2.cells = 0 ∧ N.2.2.2.2.slots = 0) (hM : Sp0 N [] sh h Qn) (kk : ∀ v h', Qn v h' → E M scr Q (pc + 3) lv (v.toList ++ st) sh h' 0 0) : E M scr Q pc lv (st) sh h 0 0 := E_callS (av := []) hd cn lk rm rfl hst hz ⟨Nat.zero_le _, Nat.zero_le _⟩ hM kk
theorem cI0 {Qn : QT} {a : Nat} (hd : decode M.2.1 pc = .ok (.invokespecial idx, 3)) (cn : CN N 0) (lk : LI M.1.cls N idx) (rm : RM M N) (hst : (st.map fun v => v.category).sum ≤ 8) (hc : kc + N.2.2.2.2.cells ≤ M.2.2.2.2.cells ∧ ks + N.2.2.2.2.slots ≤ M.2.2.2.2.slots) (hos : ∀ v ∈ st, old sh.length v) (hol : ∀ v, some v ∈ lv → old sh.length v) (hM : Sp N (.ref a :: []) sh h Qn) (kk : ∀ v sh' h', Qn v sh' h' → E M scr Q (pc + 3) lv (v.toList ++ st) sh' h' (kc + N.2.2.2.2.cells) (ks + N.2.2.2.2.slots)) : E M scr Q pc lv (.ref a :: st) sh h kc ks := E_callI (av := []) hd cn lk rm rfl hst hc hos hol hM kk
theorem cV1 {Qn : Option Value → Hp → Prop} {a ci : Nat} {v1 : Value} (hd : decode M.2.1 pc = .ok (.invokevirtual idx, 3)) (cn : CN N 1) (lk : LV M.1.cls N idx) (rm : RM M N) (hs : sh[a]? = some (.inr ci)) (hci : vwCl[ci]?.map (fun q => q.1) = some N.1.cls) (hst : (st.map fun v => v.category).sum ≤ 8) (hz : N.2.2.2.2.cells = 0 ∧ N.2.2.2.2.slots = 0) (hM : Sp0 N (.ref a :: [v1]) sh h Qn) (kk : ∀ v h', Qn v h' → E M scr Q (pc + 3) lv (v.toList ++ st) sh h' 0 0) : E M scr Q pc lv (v1 :: .ref a :: st) sh h 0 0 := E_callV (av := [v1]) hd cn lk rm hs hci rfl hst hz ⟨Nat.zero_le _, Nat.zero_le _⟩ hM kk
theorem cS1 {Qn : Option Value → Hp → Prop} {v1 : Value} (hd : decode M.2.1 pc = .ok (.invokestatic idx, 3)) (cn : CN N 1) (lk : LS2 M.1.cls N idx) (rm : RM M N) (hst : (st.map fun v => v.category).sum ≤ 8) (hz : N.2.2.2.2.cells = 0 ∧ N.2.2.2.2.slots = 0) (hM : Sp0 N [v1] sh h Qn) (kk : ∀ v h', Qn v h' → E M scr Q (pc + 3) lv (v.toList ++ st) sh h' 0 0) : E M scr Q pc lv (v1 :: st) sh h 0 0 := E_callS (av := [v1]) hd cn lk rm rfl hst hz ⟨Nat.zero_le _, Nat.zero_le _⟩ hM kk
theorem cI1 {Qn : QT} {a : Nat} {v1 : Value} (hd : decode M.2.1 pc = .ok (.invokespecial idx, 3)) (cn : CN N 1) (lk : LI M.1.cls N idx) (rm : RM M N) (hst : (st.map fun v => v.category).sum ≤ 8) (hc : kc + N.2.2.2.2.cells ≤ M.2.2.2.2.cells ∧ ks + N.2.2.2.2.slots ≤ M.2.2.2.2.slots) (hos : ∀ v ∈ st, old sh.length v) (hol : ∀ v, some v ∈ lv → old sh.length v) (hM : Sp N (.ref a :: [v1]) sh h Qn) (kk : ∀ v sh' h', Qn v sh' h' → E M scr Q (pc + 3) lv (v.toList ++ st) sh' h' (kc + N.2.2.2.2.cells) (ks + N.2.2.2.2.slots)) : E M scr Q pc lv (v1 :: .ref a :: st) sh h kc ks := E_callI (av := [v1]) hd cn lk rm rfl hst hc hos hol hM kk
theorem cV2 {Qn : Option Value → Hp → Prop} {a ci : Nat} {v1 v2 : Value} (hd : decode M.2.1 pc = .ok (.invokevirtual idx, 3)) (cn : CN N 2) (lk : LV M.1.cls N idx) (rm : RM M N) (hs : sh[a]? = some (.inr ci)) (hci : vwCl[ci]?.map (fun q => q.1) = some N.1.cls) (hst : (st.map fun v => v.category).sum ≤ 8) (hz : N.2.2.2.2.cells = 0 ∧ N.2.2.2.2.slots = 0) (hM : Sp0 N (.ref a :: [v1, v2]) sh h Qn) (kk : ∀ v h', Qn v h' → E M scr Q (pc + 3) lv (v.toList ++ st) sh h' 0 0) : E M scr Q pc lv (v2 :: v1 :: .ref a :: st) sh h 0 0 := E_callV (av := [v1, v2]) hd cn lk rm hs hci rfl hst hz ⟨Nat.zero_le _, Nat.zero_le _⟩ hM kk
theorem cS2 {Qn : Option Value → Hp → Prop} {v1 v2 : Value} (hd : decode M.2.1 pc = .ok (.invokestatic idx, 3)) (cn : CN N 2) (lk : LS2 M.1.cls N idx) (rm : RM M N) (hst : (st.map fun v => v.category).sum ≤ 8) (hz : N.2.2.2.2.cells = 0 ∧ N.2.2.2.2.slots = 0) (hM : Sp0 N [v1, v2] sh h Qn) (kk : ∀ v h', Qn v h' → E M scr Q (pc + 3) lv (v.toList ++ st) sh h' 0 0) : E M scr Q pc lv (v2 :: v1 :: st) sh h 0 0 := E_callS (av := [v1, v2]) hd cn lk rm rfl hst hz ⟨Nat.zero_le _, Nat.zero_le _⟩ hM kk
theorem cI2 {Qn : QT} {a : Nat} {v1 v2 : Value} (hd : decode M.2.1 pc = .ok (.invokespecial idx, 3)) (cn : CN N 2) (lk : LI M.1.cls N idx) (rm : RM M N) (hst : (st.map fun v => v.category).sum ≤ 8) (hc : kc + N.2.2.2.2.cells ≤ M.2.2.2.2.cells ∧ ks + N.2.2.2.2.slots ≤ M.2.2.2.2.slots) (hos : ∀ v ∈ st, old sh.length v) (hol : ∀ v, some v ∈ lv → old sh.length v) (hM : Sp N (.ref a :: [v1, v2]) sh h Qn) (kk : ∀ v sh' h', Qn v sh' h' → E M scr Q (pc + 3) lv (v.toList ++ st) sh' h' (kc + N.2.2.2.2.cells) (ks + N.2.2.2.2.slots)) : E M scr Q pc lv (v2 :: v1 :: .ref a :: st) sh h kc ks := E_callI (av := [v1, v2]) hd cn lk rm rfl hst hc hos hol hM kk
theorem cV3 {Qn : Option Value → Hp → Prop} {a ci : Nat} {v1 v2 v3 : Value} (hd : decode M.2.1 pc = .ok (.invokevirtual idx, 3)) (cn : CN N 3) (lk : LV M.1.cls N idx) (rm : RM M N) (hs : sh[a]? = some (.inr ci)) (hci : vwCl[ci]?.map (fun q => q.1) = some N.1.cls) (hst : (st.map fun v => v.category).sum ≤ 8) (hz : N.2.2.2.2.cells = 0 ∧ N.2.2.2.2.slots = 0) (hM : Sp0 N (.ref a :: [v1, v2, v3]) sh h Qn) (kk : ∀ v h', Qn v h' → E M scr Q (pc + 3) lv (v.toList ++ st) sh h' 0 0) : E M scr Q pc lv (v3 :: v2 :: v1 :: .ref a :: st) sh h 0 0 := E_callV (av := [v1, v2, v3]) hd cn lk rm hs hci rfl hst hz ⟨Nat.zero_le _, Nat.zero_le _⟩ hM kk
theorem cS3 {Qn : Option Value → Hp → Prop} {v1 v2 v3 : Value} (hd : decode M.2.1 pc = .ok (.invokestatic idx, 3)) (cn : CN N 3) (lk : LS2 M.1.cls N idx) (rm : RM M N) (hst : (st.map fun v => v.category).sum ≤ 8) (hz : N.2.2.2.2.cells = 0 ∧ N.2.2.2.2.slots = 0) (hM : Sp0 N [v1, v2, v3] sh h Qn) (kk : ∀ v h', Qn v h' → E M scr Q (pc + 3) lv (v.toList ++ st) sh h' 0 0) : E M scr Q pc lv (v3 :: v2 :: v1 :: st) sh h 0 0 := E_callS (av := [v1, v2, v3]) hd cn lk rm rfl hst hz ⟨Nat.zero_le _, Nat.zero_le _⟩ hM kk
theorem cI3 {Qn : QT} {a : Nat} {v1 v2 v3 : Value} (hd : decode M.2.1 pc = .ok (.invokespecial idx, 3)) (cn : CN N 3) (lk : LI M.1.cls N idx) (rm : RM M N) (hst : (st.map fun v => v.category).sum ≤ 8) (hc : kc + N.2.2.2.2.cells ≤ M.2.2.2.2.cells ∧ ks + N.2.2.2.2.slots ≤ M.2.2.2.2.slots) (hos : ∀ v ∈ st, old sh.length v) (hol : ∀ v, some v ∈ lv → old sh.length v) (hM : Sp N (.ref a :: [v1, v2, v3]) sh h Qn) (kk : ∀ v sh' h', Qn v sh' h' → E M scr Q (pc + 3) lv (v.toList ++ st) sh' h' (kc + N.2.2.2.2.cells) (ks + N.2.2.2.2.slots)) : E M scr Q pc lv (v3 :: v2 :: v1 :: .ref a :: st) sh h kc ks := E_callI (av := [v1, v2, v3]) hd cn lk rm rfl hst hc hos hol hM kk
theorem cV4 {Qn : Option Value → Hp → Prop} {a ci : Nat} {v1 v2 v3 v4 : Value} (hd : decode M.2.1 pc = .ok (.invokevirtual idx, 3)) (cn : CN N 4) (lk : LV M.1.cls N idx) (rm : RM M N) (hs : sh[a]? = some (.inr ci)) (hci : vwCl[ci]?.map (fun q => q.1) = some N.1.cls) (hst : (st.map fun v => v.category).sum ≤ 8) (hz : N.2.2.2.2.cells = 0 ∧ N.2.2.2.2.slots = 0) (hM : Sp0 N (.ref a :: [v1, v2, v3, v4]) sh h Qn) (kk : ∀ v h', Qn v h' → E M scr Q (pc + 3) lv (v.toList ++ st) sh h' 0 0) : E M scr Q pc lv (v4 :: v3 :: v2 :: v1 :: .ref a :: st) sh h 0 0 := E_callV (av := [v1, v2, v3, v4]) hd cn lk rm hs hci rfl hst hz ⟨Nat.zero_le _, Nat.zero_le _⟩ hM kk
theorem cS4 {Qn : Option Value → Hp → Prop} {v1 v2 v3 v4 : Value} (hd : decode M.2.1 pc = .ok (.invokestatic idx, 3)) (cn : CN N 4) (lk : LS2 M.1.cls N idx) (rm : RM M N) (hst : (st.map fun v => v.category).sum ≤ 8) (hz : N.2.2.2.2.cells = 0 ∧ N.2.2.2.2.slots = 0) (hM : Sp0 N [v1, v2, v3, v4] sh h Qn) (kk : ∀ v h', Qn v h' → E M scr Q (pc + 3) lv (v.toList ++ st) sh h' 0 0) : E M scr Q pc lv (v4 :: v3 :: v2 :: v1 :: st) sh h 0 0 := E_callS (av := [v1, v2, v3, v4]) hd cn lk rm rfl hst hz ⟨Nat.zero_le _, Nat.zero_le _⟩ hM kk
theorem cV5 {Qn : Option Value → Hp → Prop} {a ci : Nat} {v1 v2 v3 v4 v5 : Value} (hd : decode M.2.1 pc = .ok (.invokevirtual idx, 3)) (cn : CN N 5) (lk : LV M.1.cls N idx) (rm : RM M N) (hs : sh[a]? = some (.inr ci)) (hci : vwCl[ci]?.map (fun q => q.1) = some N.1.cls) (hst : (st.map fun v => v.category).sum ≤ 8) (hz : N.2.2.2.2.cells = 0 ∧ N.2.2.2.2.slots = 0) (hM : Sp0 N (.ref a :: [v1, v2, v3, v4, v5]) sh h Qn) (kk : ∀ v h', Qn v h' → E M scr Q (pc + 3) lv (v.toList ++ st) sh h' 0 0) : E M scr Q pc lv (v5 :: v4 :: v3 :: v2 :: v1 :: .ref a :: st) sh h 0 0 := E_callV (av := [v1, v2, v3, v4, v5]) hd cn lk rm hs hci rfl hst hz ⟨Nat.zero_le _, Nat.zero_le _⟩ hM kk
theorem cS5 {Qn : Option Value → Hp → Prop} {v1 v2 v3 v4 v5 : Value} (hd : decode M.2.1 pc = .ok (.invokestatic idx, 3)) (cn : CN N 5) (lk : LS2 M.1.cls N idx) (rm : RM M N) (hst : (st.map fun v => v.category).sum ≤ 8) (hz : N.2.2.2.2.cells = 0 ∧ N.2.2.2.2.slots = 0) (hM : Sp0 N [v1, v2, v3, v4, v5] sh h Qn) (kk : ∀ v h', Qn v h' → E M scr Q (pc + 3) lv (v.toList ++ st) sh h' 0 0) : E M scr Q pc lv (v5 :: v4 :: v3 :: v2 :: v1 :: st) sh h 0 0 := E_callS (av := [v1, v2, v3, v4, v5]) hd cn lk rm rfl hst hz ⟨Nat.zero_le _, Nat.zero_le _⟩ hM kk
end EC
