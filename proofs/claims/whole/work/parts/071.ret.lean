section ERT
variable {M : MI} {scr : Option (Nat × (Nat → Int32))} {Q : QT} {pc : Nat} {lv : List (Option Value)} {st : List Value} {sh : List Sh} {h : Hp} {kc ks : Nat}
theorem E_reti {x : Int32} {ty : FieldType} (hd : decode M.2.1 pc = .ok (.ireturn, 1)) (hr : M.2.2.2.1 = some ty) (hn : narrow ty (.int x) = .int x) (hc : kc ≤ M.2.2.2.2.cells) (hk : ks ≤ M.2.2.2.2.slots) (hq : Q (some (.int x)) sh h) : E M scr Q pc lv [.int x] sh h kc ks := E_ret (some (.int x)) hd ⟨rfl, ty, hr, hn⟩ rfl hc hk hq
theorem E_retl {x : Int64} (hd : decode M.2.1 pc = .ok (.lreturn, 1)) (hr : M.2.2.2.1 = some .long) (hc : kc ≤ M.2.2.2.2.cells) (hk : ks ≤ M.2.2.2.2.slots) (hq : Q (some (.long x)) sh h) : E M scr Q pc lv [.long x] sh h kc ks := E_ret (some (.long x)) hd ⟨rfl, hr⟩ rfl hc hk hq
theorem E_retr {x : Nat} {cn : String} (hd : decode M.2.1 pc = .ok (.areturn, 1)) (hr : M.2.2.2.1 = some (.object cn)) (hc : kc ≤ M.2.2.2.2.cells) (hk : ks ≤ M.2.2.2.2.slots) (hq : Q (some (.ref x)) sh h) : E M scr Q pc lv [.ref x] sh h kc ks := E_ret (some (.ref x)) hd ⟨rfl, cn, hr⟩ rfl hc hk hq
theorem E_retn {cn : String} (hd : decode M.2.1 pc = .ok (.areturn, 1)) (hr : M.2.2.2.1 = some (.object cn)) (hc : kc ≤ M.2.2.2.2.cells) (hk : ks ≤ M.2.2.2.2.slots) (hq : Q (some .null) sh h) : E M scr Q pc lv [.null] sh h kc ks := E_ret (some .null) hd ⟨rfl, cn, hr⟩ rfl hc hk hq
theorem E_retv (hd : decode M.2.1 pc = .ok (.return_, 1)) (hr : M.2.2.2.1 = none) (hc : kc ≤ M.2.2.2.2.cells) (hk : ks ≤ M.2.2.2.2.slots) (hq : Q none sh h) : E M scr Q pc lv [] sh h kc ks := E_ret none hd ⟨rfl, hr⟩ rfl hc hk hq
end ERT
theorem SpF_of {M : MI} {av : List Value} {sh : List Sh} {h : Hp} {Q : QT} (hy : plainFor M.1 = true) (hn : (lg_sl av).length ≤ M.2.2.1) (k : E M none Q 0 (lvE M.2.2.1 av) [] sh h 0 0) : Sp M av sh h Q := by
  intro l D cyc b adr sz
  refine va_MetF (cc := M.2.1) (maxL := M.2.2.1) (ret := M.2.2.2.1) hy rfl ?_
  intro p e s m args below meth c s₁ B hml hv
  obtain ⟨rfl, hsz, hP, hK, hD0, hnd, hN, hO⟩ := hv
  subst hsz
  have hts := atoms_spec (ws := Cond.code M.1 M.2.1 M.2.2.1 M.2.2.2.1 :: mGood) B.pre
  have hlocks := B.notSynchronized
  have hl := lv_entry (av.map (rv b adr)) (n := M.2.2.1) (by rw [lg_rv]; exact hn)
  rw [lg_entry_eq]
  generalize (lg_sl (av.map (rv b adr)) ++ List.replicate (M.2.2.1 - (lg_sl (av.map (rv b adr))).length) Slot.unset).toArray = ls at hl ⊢
  refine k p l e s m _ below meth c D cyc (va_A (wsl cyc adr h sh) s.heap.size) _ sh.length b adr ?_ adr [] s.heap ls ⟨hP, hD0.self, va_S.rf, fun _ _ => rfl, fun _ => rfl, Nat.le_refl _, hnd⟩ ⟨hl.1, hl.2.1, fun i v hi => hl.2.2 (i, rv b adr v) (by simpa using lvE_mem b adr av M.2.2.1 0 i v hi)⟩
  refine ⟨B.exec, B.bytes, hml, findClass_of_methodNamed B.named, fun w hw => hts w (List.mem_cons_of_mem _ hw), hN, hO, (name_of_methodNamed B.named B.method).1, fun q hq => Or.inr hq, hK, fun L xs hh => (by cases hh), ?_⟩
  intro v i sh' h' adr' H locs pc ls2 hq w hr hd
  obtain ⟨w1, w2, w3, w4, w5, w6, w7⟩ := w
  have key : ∀ t : State, t.heap = H → s.WarmedH t.vm → SQc Q D cyc b adr sh h s.heap.size (av.map (rv b adr)).toArray s (.returned (v.map (rv b adr'))) t := fun t ht hW =>
    ⟨v, sh', h', adr', rfl, hq, by rw [ht]; exact w1, w2, w4, w5, w6, w7, w3.F ht⟩
  match v, hr, key with
  | none, hr, key => exact W.vret B.exec B.bytes (B.returns.trans hr.2) key w3.2.2 (by rw [hd, hr.1])
  | some (.int x), hr, key =>
    obtain ⟨r1, ty, r2, r3⟩ := hr
    exact W.zret (ty := ty) B.exec B.bytes (B.returns.trans r2) r3 key w3.2.2 (by rw [hd, r1])
  | some (.long x), hr, key => exact W.lret B.exec B.bytes (B.returns.trans hr.2) key w3.2.2 (by rw [hd, hr.1])
  | some .null, hr, key =>
    obtain ⟨r1, n, r2⟩ := hr
    exact W.aret (rt := .object n) B.exec B.bytes (B.returns.trans r2) (Or.inl ⟨n, rfl⟩) (Or.inl rfl) key w3.2.2 (by rw [hd, r1])
  | some (.ref x), hr, key =>
    obtain ⟨r1, n, r2⟩ := hr
    exact W.aret (rt := .object n) B.exec B.bytes (B.returns.trans r2) (Or.inl ⟨n, rfl⟩) (Or.inr ⟨adr' x, rfl⟩) key w3.2.2 (by rw [hd, r1])
theorem Sp0F_of {M : MI} {av : List Value} {sh : List Sh} {h : Hp} {Q : Option Value → Hp → Prop} (hy : plainFor M.1 = true) (hn : (lg_sl av).length ≤ M.2.2.1) (k : E M none (fun v sh' h' => sh' = sh ∧ Q v h') 0 (lvE M.2.2.1 av) [] sh h 0 0) : Sp0 M av sh h Q := SpF_of hy hn k

