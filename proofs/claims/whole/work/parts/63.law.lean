/-! the law: one call of both, and both stay together -/
section CK
variable {M : MI} {scr : Option (Nat × (Nat → Int32))} {Q : QT} {pc : Nat} {lv : List (Option Value)} {st : List Value} {sh : List Sh} {h : Hp} {kc ks : Nat}
variable {N : MI} {av : List Value} {idx nP : Nat}
theorem cVk0 {Qn : Option Value → Hp → Prop} {a ci : Nat} (hd : decode M.2.1 pc = .ok (.invokevirtual idx, 3)) (cn : CN N 0) (lk : LV M.1.cls N idx) (rm : RM M N) (hs : sh[a]? = some (.inr ci)) (hci : vwCl[ci]?.map (fun q => q.1) = some N.1.cls) (hst : (st.map fun v => v.category).sum ≤ 8) (hz : N.2.2.2.2.cells = 0 ∧ N.2.2.2.2.slots = 0) (hc : kc ≤ M.2.2.2.2.cells ∧ ks ≤ M.2.2.2.2.slots) (hM : Sp0 N (.ref a :: []) sh h Qn) (kk : ∀ v h', Qn v h' → E M scr Q (pc + 3) lv (v.toList ++ st) sh h' kc ks) : E M scr Q pc lv (.ref a :: st) sh h kc ks := E_callV (av := []) hd cn lk rm hs hci rfl hst hz hc hM kk
theorem cVk1 {Qn : Option Value → Hp → Prop} {a ci : Nat} {v1 : Value} (hd : decode M.2.1 pc = .ok (.invokevirtual idx, 3)) (cn : CN N 1) (lk : LV M.1.cls N idx) (rm : RM M N) (hs : sh[a]? = some (.inr ci)) (hci : vwCl[ci]?.map (fun q => q.1) = some N.1.cls) (hst : (st.map fun v => v.category).sum ≤ 8) (hz : N.2.2.2.2.cells = 0 ∧ N.2.2.2.2.slots = 0) (hc : kc ≤ M.2.2.2.2.cells ∧ ks ≤ M.2.2.2.2.slots) (hM : Sp0 N (.ref a :: [v1]) sh h Qn) (kk : ∀ v h', Qn v h' → E M scr Q (pc + 3) lv (v.toList ++ st) sh h' kc ks) : E M scr Q pc lv (v1 :: .ref a :: st) sh h kc ks := E_callV (av := [v1]) hd cn lk rm hs hci rfl hst hz hc hM kk
theorem cVk2 {Qn : Option Value → Hp → Prop} {a ci : Nat} {v1 v2 : Value} (hd : decode M.2.1 pc = .ok (.invokevirtual idx, 3)) (cn : CN N 2) (lk : LV M.1.cls N idx) (rm : RM M N) (hs : sh[a]? = some (.inr ci)) (hci : vwCl[ci]?.map (fun q => q.1) = some N.1.cls) (hst : (st.map fun v => v.category).sum ≤ 8) (hz : N.2.2.2.2.cells = 0 ∧ N.2.2.2.2.slots = 0) (hc : kc ≤ M.2.2.2.2.cells ∧ ks ≤ M.2.2.2.2.slots) (hM : Sp0 N (.ref a :: [v1, v2]) sh h Qn) (kk : ∀ v h', Qn v h' → E M scr Q (pc + 3) lv (v.toList ++ st) sh h' kc ks) : E M scr Q pc lv (v2 :: v1 :: .ref a :: st) sh h kc ks := E_callV (av := [v1, v2]) hd cn lk rm hs hci rfl hst hz hc hM kk
theorem cVk3 {Qn : Option Value → Hp → Prop} {a ci : Nat} {v1 v2 v3 : Value} (hd : decode M.2.1 pc = .ok (.invokevirtual idx, 3)) (cn : CN N 3) (lk : LV M.1.cls N idx) (rm : RM M N) (hs : sh[a]? = some (.inr ci)) (hci : vwCl[ci]?.map (fun q => q.1) = some N.1.cls) (hst : (st.map fun v => v.category).sum ≤ 8) (hz : N.2.2.2.2.cells = 0 ∧ N.2.2.2.2.slots = 0) (hc : kc ≤ M.2.2.2.2.cells ∧ ks ≤ M.2.2.2.2.slots) (hM : Sp0 N (.ref a :: [v1, v2, v3]) sh h Qn) (kk : ∀ v h', Qn v h' → E M scr Q (pc + 3) lv (v.toList ++ st) sh h' kc ks) : E M scr Q pc lv (v3 :: v2 :: v1 :: .ref a :: st) sh h kc ks := E_callV (av := [v1, v2, v3]) hd cn lk rm hs hci rfl hst hz hc hM kk
theorem cVk4 {Qn : Option Value → Hp → Prop} {a ci : Nat} {v1 v2 v3 v4 : Value} (hd : decode M.2.1 pc = .ok (.invokevirtual idx, 3)) (cn : CN N 4) (lk : LV M.1.cls N idx) (rm : RM M N) (hs : sh[a]? = some (.inr ci)) (hci : vwCl[ci]?.map (fun q => q.1) = some N.1.cls) (hst : (st.map fun v => v.category).sum ≤ 8) (hz : N.2.2.2.2.cells = 0 ∧ N.2.2.2.2.slots = 0) (hc : kc ≤ M.2.2.2.2.cells ∧ ks ≤ M.2.2.2.2.slots) (hM : Sp0 N (.ref a :: [v1, v2, v3, v4]) sh h Qn) (kk : ∀ v h', Qn v h' → E M scr Q (pc + 3) lv (v.toList ++ st) sh h' kc ks) : E M scr Q pc lv (v4 :: v3 :: v2 :: v1 :: .ref a :: st) sh h kc ks := E_callV (av := [v1, v2, v3, v4]) hd cn lk rm hs hci rfl hst hz hc hM kk
theorem cVk5 {Qn : Option Value → Hp → Prop} {a ci : Nat} {v1 v2 v3 v4 v5 : Value} (hd : decode M.2.1 pc = .ok (.invokevirtual idx, 3)) (cn : CN N 5) (lk : LV M.1.cls N idx) (rm : RM M N) (hs : sh[a]? = some (.inr ci)) (hci : vwCl[ci]?.map (fun q => q.1) = some N.1.cls) (hst : (st.map fun v => v.category).sum ≤ 8) (hz : N.2.2.2.2.cells = 0 ∧ N.2.2.2.2.slots = 0) (hc : kc ≤ M.2.2.2.2.cells ∧ ks ≤ M.2.2.2.2.slots) (hM : Sp0 N (.ref a :: [v1, v2, v3, v4, v5]) sh h Qn) (kk : ∀ v h', Qn v h' → E M scr Q (pc + 3) lv (v.toList ++ st) sh h' kc ks) : E M scr Q pc lv (v5 :: v4 :: v3 :: v2 :: v1 :: .ref a :: st) sh h kc ks := E_callV (av := [v1, v2, v3, v4, v5]) hd cn lk rm hs hci rfl hst hz hc hM kk
end CK
abbrev mLn (nm : String) : MI := (⟨RL, nm, "([I)Z"⟩, cL_law, 4, some .boolean, room_1)
abbrev LE (nm : String) (L : Nat) (xs : Nat → Int32) (pc i : Nat) (h : Hp) : Prop := E (mLn nm) (some (L, xs)) (fun v _ _ => v = some (.int 1)) pc [some (.retAddr 0), some (.ref 0), some (.ref 59), some (.int (nI i))] [] SH h 76 21863
theorem law_write {nm : String} {L : Nat} {xs : Nat → Int32} {i : Nat} {a b : Ab} {h : Hp} (hin1 : vp_in (nI i + 1) L) (hin2 : vp_in (nI i + 2) L) (hin3 : vp_in (nI i + 3) L) (hin4 : vp_in (nI i + 4) L) (hin5 : vp_in (nI i + 5) L) (hin6 : vp_in (nI i + 6) L) (C : CRep a h) (M : MRep b h) (H : R a b) (kk : ∀ h' a' b', CRep a' h' → MRep b' h' → R a' b' → LE nm L xs 753 i h') : LE nm L xs 116 i h := by
  refine E_aload_n dL_law_116 rfl ?_
  refine E_aload_nS dL_law_117 rfl ?_
  refine E_iload_n dL_law_118 rfl ?_
  refine E_ic 1 dL_law_119 (by decide) ?_
  refine E_iadd dL_law_120 ?_
  refine E_sald rfl dL_law_121 hin1 ?_
  refine E_aload_nS dL_law_122 rfl ?_
  refine E_iload_n dL_law_123 rfl ?_
  refine E_ic 2 dL_law_124 (by decide) ?_
  refine E_iadd dL_law_125 ?_
  refine E_sald rfl dL_law_126 hin2 ?_
  refine E_aload_nS dL_law_127 rfl ?_
  refine E_iload_n dL_law_128 rfl ?_
  refine E_ic 3 dL_law_129 (by decide) ?_
  refine E_iadd dL_law_130 ?_
  refine E_sald rfl dL_law_131 hin3 ?_
  refine E_aload_nS dL_law_132 rfl ?_
  refine E_iload_n dL_law_133 rfl ?_
  refine E_ic 4 dL_law_134 (by decide) ?_
  refine E_iadd dL_law_135 ?_
  refine E_sald rfl dL_law_136 hin4 ?_
  refine E_i2l dL_law_137 ?_
  refine E_bi 32 dL_law_138 (by decide) ?_
  refine E_lshl dL_law_140 ?_
  refine E_aload_nS dL_law_141 rfl ?_
  refine E_iload_n dL_law_142 rfl ?_
  refine E_ic 5 dL_law_143 (by decide) ?_
  refine E_iadd dL_law_144 ?_
  refine E_sald rfl dL_law_145 hin5 ?_
  refine E_i2l dL_law_146 ?_
  refine E_ldc2 dL_law_147 kl_L_13 ?_
  refine E_land dL_law_150 ?_
  refine E_lor dL_law_151 ?_
  refine E_aload_nS dL_law_152 rfl ?_
  refine E_iload_n dL_law_153 rfl ?_
  refine E_bi 6 dL_law_154 (by decide) ?_
  refine E_iadd dL_law_156 ?_
  refine E_sald rfl dL_law_157 hin6 ?_
  refine cVk5 (N := mX8_write) dL_law_158 cn_X8_write lk_L_15 ⟨Nat.le_of_ble_eq_true rfl, Nat.le_of_ble_eq_true rfl⟩ rfl rfl (Nat.le_of_ble_eq_true rfl) ⟨rfl, rfl⟩ ⟨Nat.le_of_ble_eq_true rfl, Nat.le_of_ble_eq_true rfl⟩ (c_write C _ _ _ _ _) (fun v2 h2 ⟨hv2, C2, F2⟩ => ?_)
  rw [hv2]
  have M2 := M.cf F2
  refine E_aload_n dL_law_161 rfl ?_
  refine E_aload_nS dL_law_162 rfl ?_
  refine E_iload_n dL_law_163 rfl ?_
  refine E_ic 1 dL_law_164 (by decide) ?_
  refine E_iadd dL_law_165 ?_
  refine E_sald rfl dL_law_166 hin1 ?_
  refine E_aload_nS dL_law_167 rfl ?_
  refine E_iload_n dL_law_168 rfl ?_
  refine E_ic 2 dL_law_169 (by decide) ?_
  refine E_iadd dL_law_170 ?_
  refine E_sald rfl dL_law_171 hin2 ?_
  refine E_aload_nS dL_law_172 rfl ?_
  refine E_iload_n dL_law_173 rfl ?_
  refine E_ic 3 dL_law_174 (by decide) ?_
  refine E_iadd dL_law_175 ?_
  refine E_sald rfl dL_law_176 hin3 ?_
  refine E_aload_nS dL_law_177 rfl ?_
  refine E_iload_n dL_law_178 rfl ?_
  refine E_ic 4 dL_law_179 (by decide) ?_
  refine E_iadd dL_law_180 ?_
  refine E_sald rfl dL_law_181 hin4 ?_
  refine E_i2l dL_law_182 ?_
  refine E_bi 32 dL_law_183 (by decide) ?_
  refine E_lshl dL_law_185 ?_
  refine E_aload_nS dL_law_186 rfl ?_
  refine E_iload_n dL_law_187 rfl ?_
  refine E_ic 5 dL_law_188 (by decide) ?_
  refine E_iadd dL_law_189 ?_
  refine E_sald rfl dL_law_190 hin5 ?_
  refine E_i2l dL_law_191 ?_
  refine E_ldc2 dL_law_192 kl_L_13 ?_
  refine E_land dL_law_195 ?_
  refine E_lor dL_law_196 ?_
  refine E_aload_nS dL_law_197 rfl ?_
  refine E_iload_n dL_law_198 rfl ?_
  refine E_bi 6 dL_law_199 (by decide) ?_
  refine E_iadd dL_law_201 ?_
  refine E_sald rfl dL_law_202 hin6 ?_
  refine cVk5 (N := mX9_write) dL_law_203 cn_X9_write lk_L_19 ⟨Nat.le_of_ble_eq_true rfl, Nat.le_of_ble_eq_true rfl⟩ rfl rfl (Nat.le_of_ble_eq_true rfl) ⟨rfl, rfl⟩ ⟨Nat.le_of_ble_eq_true rfl, Nat.le_of_ble_eq_true rfl⟩ (m_write M2 _ _ _ _ _) (fun v3 h3 ⟨hv3, M3, F3⟩ => ?_)
  rw [hv3]
  have C3 := C2.mf F3
  obtain ⟨er, R3⟩ := wr_ok H _ _ _ _ _ C3.fb
  refine E_icmp_eq 753 dL_law_206 (by decide) (fun c_206 => ?_) (fun c_206 => absurd er c_206)
  exact kk h3 _ _ C3 M3 R3
theorem law_again {nm : String} {L : Nat} {xs : Nat → Int32} {i : Nat} {a b : Ab} {h : Hp} (hin1 : vp_in (nI i + 1) L) (hin2 : vp_in (nI i + 2) L) (hin3 : vp_in (nI i + 3) L) (hin4 : vp_in (nI i + 4) L) (hin5 : vp_in (nI i + 5) L) (hin6 : vp_in (nI i + 6) L) (C : CRep a h) (M : MRep b h) (H : R a b) (kk : ∀ h' a' b', CRep a' h' → MRep b' h' → R a' b' → LE nm L xs 753 i h') : LE nm L xs 211 i h := by
  refine E_aload_n dL_law_211 rfl ?_
  refine E_aload_nS dL_law_212 rfl ?_
  refine E_iload_n dL_law_213 rfl ?_
  refine E_ic 1 dL_law_214 (by decide) ?_
  refine E_iadd dL_law_215 ?_
  refine E_sald rfl dL_law_216 hin1 ?_
  refine E_aload_nS dL_law_217 rfl ?_
  refine E_iload_n dL_law_218 rfl ?_
  refine E_ic 2 dL_law_219 (by decide) ?_
  refine E_iadd dL_law_220 ?_
  refine E_sald rfl dL_law_221 hin2 ?_
  refine E_aload_nS dL_law_222 rfl ?_
  refine E_iload_n dL_law_223 rfl ?_
  refine E_ic 3 dL_law_224 (by decide) ?_
  refine E_iadd dL_law_225 ?_
  refine E_sald rfl dL_law_226 hin3 ?_
  refine E_aload_nS dL_law_227 rfl ?_
  refine E_iload_n dL_law_228 rfl ?_
  refine E_ic 4 dL_law_229 (by decide) ?_
  refine E_iadd dL_law_230 ?_
  refine E_sald rfl dL_law_231 hin4 ?_
  refine cVk4 (N := mX8_again) dL_law_232 cn_X8_again lk_L_20 ⟨Nat.le_of_ble_eq_true rfl, Nat.le_of_ble_eq_true rfl⟩ rfl rfl (Nat.le_of_ble_eq_true rfl) ⟨rfl, rfl⟩ ⟨Nat.le_of_ble_eq_true rfl, Nat.le_of_ble_eq_true rfl⟩ (c_again C _ _ _ _) (fun v2 h2 ⟨hv2, C2, F2⟩ => ?_)
  rw [hv2]
  have M2 := M.cf F2
  refine E_aload_n dL_law_235 rfl ?_
  refine E_aload_nS dL_law_236 rfl ?_
  refine E_iload_n dL_law_237 rfl ?_
  refine E_ic 1 dL_law_238 (by decide) ?_
  refine E_iadd dL_law_239 ?_
  refine E_sald rfl dL_law_240 hin1 ?_
  refine E_aload_nS dL_law_241 rfl ?_
  refine E_iload_n dL_law_242 rfl ?_
  refine E_ic 2 dL_law_243 (by decide) ?_
  refine E_iadd dL_law_244 ?_
  refine E_sald rfl dL_law_245 hin2 ?_
  refine E_aload_nS dL_law_246 rfl ?_
  refine E_iload_n dL_law_247 rfl ?_
  refine E_ic 3 dL_law_248 (by decide) ?_
  refine E_iadd dL_law_249 ?_
  refine E_sald rfl dL_law_250 hin3 ?_
  refine E_aload_nS dL_law_251 rfl ?_
  refine E_iload_n dL_law_252 rfl ?_
  refine E_ic 4 dL_law_253 (by decide) ?_
  refine E_iadd dL_law_254 ?_
  refine E_sald rfl dL_law_255 hin4 ?_
  refine cVk4 (N := mX9_again) dL_law_256 cn_X9_again lk_L_24 ⟨Nat.le_of_ble_eq_true rfl, Nat.le_of_ble_eq_true rfl⟩ rfl rfl (Nat.le_of_ble_eq_true rfl) ⟨rfl, rfl⟩ ⟨Nat.le_of_ble_eq_true rfl, Nat.le_of_ble_eq_true rfl⟩ (m_again M2 _ _ _ _) (fun v3 h3 ⟨hv3, M3, F3⟩ => ?_)
  rw [hv3]
  have C3 := C2.mf F3
  obtain ⟨er, R3⟩ := ag_ok H _ _ _ _ C3.fb
  refine E_icmp_eq 753 dL_law_259 (by decide) (fun c_259 => ?_) (fun c_259 => absurd er c_259)
  exact kk h3 _ _ C3 M3 R3
theorem law_trim {nm : String} {L : Nat} {xs : Nat → Int32} {i : Nat} {a b : Ab} {h : Hp} (hin1 : vp_in (nI i + 1) L) (hin2 : vp_in (nI i + 2) L) (hin3 : vp_in (nI i + 3) L) (hin4 : vp_in (nI i + 4) L) (hin5 : vp_in (nI i + 5) L) (hin6 : vp_in (nI i + 6) L) (C : CRep a h) (M : MRep b h) (H : R a b) (kk : ∀ h' a' b', CRep a' h' → MRep b' h' → R a' b' → LE nm L xs 753 i h') : LE nm L xs 264 i h := by
  refine E_aload_n dL_law_264 rfl ?_
  refine E_aload_nS dL_law_265 rfl ?_
  refine E_iload_n dL_law_266 rfl ?_
  refine E_ic 1 dL_law_267 (by decide) ?_
  refine E_iadd dL_law_268 ?_
  refine E_sald rfl dL_law_269 hin1 ?_
  refine E_aload_nS dL_law_270 rfl ?_
  refine E_iload_n dL_law_271 rfl ?_
  refine E_ic 2 dL_law_272 (by decide) ?_
  refine E_iadd dL_law_273 ?_
  refine E_sald rfl dL_law_274 hin2 ?_
  refine E_aload_nS dL_law_275 rfl ?_
  refine E_iload_n dL_law_276 rfl ?_
  refine E_ic 3 dL_law_277 (by decide) ?_
  refine E_iadd dL_law_278 ?_
  refine E_sald rfl dL_law_279 hin3 ?_
  refine cVk3 (N := mX8_trim) dL_law_280 cn_X8_trim lk_L_25 ⟨Nat.le_of_ble_eq_true rfl, Nat.le_of_ble_eq_true rfl⟩ rfl rfl (Nat.le_of_ble_eq_true rfl) ⟨rfl, rfl⟩ ⟨Nat.le_of_ble_eq_true rfl, Nat.le_of_ble_eq_true rfl⟩ (c_trim C _ _ _) (fun v2 h2 ⟨hv2, C2, F2⟩ => ?_)
  rw [hv2]
  have M2 := M.cf F2
  refine E_aload_n dL_law_283 rfl ?_
  refine E_aload_nS dL_law_284 rfl ?_
  refine E_iload_n dL_law_285 rfl ?_
  refine E_ic 1 dL_law_286 (by decide) ?_
  refine E_iadd dL_law_287 ?_
  refine E_sald rfl dL_law_288 hin1 ?_
  refine E_aload_nS dL_law_289 rfl ?_
  refine E_iload_n dL_law_290 rfl ?_
  refine E_ic 2 dL_law_291 (by decide) ?_
  refine E_iadd dL_law_292 ?_
  refine E_sald rfl dL_law_293 hin2 ?_
  refine E_aload_nS dL_law_294 rfl ?_
  refine E_iload_n dL_law_295 rfl ?_
  refine E_ic 3 dL_law_296 (by decide) ?_
  refine E_iadd dL_law_297 ?_
  refine E_sald rfl dL_law_298 hin3 ?_
  refine cVk3 (N := mX9_trim) dL_law_299 cn_X9_trim lk_L_29 ⟨Nat.le_of_ble_eq_true rfl, Nat.le_of_ble_eq_true rfl⟩ rfl rfl (Nat.le_of_ble_eq_true rfl) ⟨rfl, rfl⟩ ⟨Nat.le_of_ble_eq_true rfl, Nat.le_of_ble_eq_true rfl⟩ (m_trim M2 _ _ _) (fun v3 h3 ⟨hv3, M3, F3⟩ => ?_)
  rw [hv3]
  have C3 := C2.mf F3
  obtain ⟨er, R3⟩ := tr_ok H _ _ _ C3.fb
  refine E_icmp_eq 753 dL_law_302 (by decide) (fun c_302 => ?_) (fun c_302 => absurd er c_302)
  exact kk h3 _ _ C3 M3 R3
theorem law_drop {nm : String} {L : Nat} {xs : Nat → Int32} {i : Nat} {a b : Ab} {h : Hp} (hin1 : vp_in (nI i + 1) L) (hin2 : vp_in (nI i + 2) L) (hin3 : vp_in (nI i + 3) L) (hin4 : vp_in (nI i + 4) L) (hin5 : vp_in (nI i + 5) L) (hin6 : vp_in (nI i + 6) L) (C : CRep a h) (M : MRep b h) (H : R a b) (kk : ∀ h' a' b', CRep a' h' → MRep b' h' → R a' b' → LE nm L xs 753 i h') : LE nm L xs 307 i h := by
  refine E_aload_n dL_law_307 rfl ?_
  refine E_aload_nS dL_law_308 rfl ?_
  refine E_iload_n dL_law_309 rfl ?_
  refine E_ic 1 dL_law_310 (by decide) ?_
  refine E_iadd dL_law_311 ?_
  refine E_sald rfl dL_law_312 hin1 ?_
  refine E_aload_nS dL_law_313 rfl ?_
  refine E_iload_n dL_law_314 rfl ?_
  refine E_ic 2 dL_law_315 (by decide) ?_
  refine E_iadd dL_law_316 ?_
  refine E_sald rfl dL_law_317 hin2 ?_
  refine cVk2 (N := mX8_drop) dL_law_318 cn_X8_drop lk_L_30 ⟨Nat.le_of_ble_eq_true rfl, Nat.le_of_ble_eq_true rfl⟩ rfl rfl (Nat.le_of_ble_eq_true rfl) ⟨rfl, rfl⟩ ⟨Nat.le_of_ble_eq_true rfl, Nat.le_of_ble_eq_true rfl⟩ (c_drop C _ _) (fun v2 h2 ⟨hv2, C2, F2⟩ => ?_)
  rw [hv2]
  have M2 := M.cf F2
  refine E_aload_n dL_law_321 rfl ?_
  refine E_aload_nS dL_law_322 rfl ?_
  refine E_iload_n dL_law_323 rfl ?_
  refine E_ic 1 dL_law_324 (by decide) ?_
  refine E_iadd dL_law_325 ?_
  refine E_sald rfl dL_law_326 hin1 ?_
  refine E_aload_nS dL_law_327 rfl ?_
  refine E_iload_n dL_law_328 rfl ?_
  refine E_ic 2 dL_law_329 (by decide) ?_
  refine E_iadd dL_law_330 ?_
  refine E_sald rfl dL_law_331 hin2 ?_
  refine cVk2 (N := mX9_drop) dL_law_332 cn_X9_drop lk_L_34 ⟨Nat.le_of_ble_eq_true rfl, Nat.le_of_ble_eq_true rfl⟩ rfl rfl (Nat.le_of_ble_eq_true rfl) ⟨rfl, rfl⟩ ⟨Nat.le_of_ble_eq_true rfl, Nat.le_of_ble_eq_true rfl⟩ (m_drop M2 _ _) (fun v3 h3 ⟨hv3, M3, F3⟩ => ?_)
  rw [hv3]
  have C3 := C2.mf F3
  obtain ⟨er, R3⟩ := dr_ok H _ _ C3.fb
  refine E_icmp_eq 753 dL_law_335 (by decide) (fun c_335 => ?_) (fun c_335 => absurd er c_335)
  exact kk h3 _ _ C3 M3 R3
theorem law_same {nm : String} {L : Nat} {xs : Nat → Int32} {i : Nat} {a b : Ab} {h : Hp} (hin1 : vp_in (nI i + 1) L) (hin2 : vp_in (nI i + 2) L) (hin3 : vp_in (nI i + 3) L) (hin4 : vp_in (nI i + 4) L) (hin5 : vp_in (nI i + 5) L) (hin6 : vp_in (nI i + 6) L) (C : CRep a h) (M : MRep b h) (H : R a b) (kk : ∀ h' a' b', CRep a' h' → MRep b' h' → R a' b' → LE nm L xs 753 i h') : LE nm L xs 340 i h := by
  refine E_aload_n dL_law_340 rfl ?_
  refine E_aload_nS dL_law_341 rfl ?_
  refine E_iload_n dL_law_342 rfl ?_
  refine E_ic 1 dL_law_343 (by decide) ?_
  refine E_iadd dL_law_344 ?_
  refine E_sald rfl dL_law_345 hin1 ?_
  refine E_aload_nS dL_law_346 rfl ?_
  refine E_iload_n dL_law_347 rfl ?_
  refine E_ic 2 dL_law_348 (by decide) ?_
  refine E_iadd dL_law_349 ?_
  refine E_sald rfl dL_law_350 hin2 ?_
  refine cVk2 (N := mX8_same) dL_law_351 cn_X8_same lk_L_35 ⟨Nat.le_of_ble_eq_true rfl, Nat.le_of_ble_eq_true rfl⟩ rfl rfl (Nat.le_of_ble_eq_true rfl) ⟨rfl, rfl⟩ ⟨Nat.le_of_ble_eq_true rfl, Nat.le_of_ble_eq_true rfl⟩ (c_same C _ _) (fun v2 h2 ⟨hv2, C2, F2⟩ => ?_)
  rw [hv2]
  have M2 := M.cf F2
  refine E_aload_n dL_law_354 rfl ?_
  refine E_aload_nS dL_law_355 rfl ?_
  refine E_iload_n dL_law_356 rfl ?_
  refine E_ic 1 dL_law_357 (by decide) ?_
  refine E_iadd dL_law_358 ?_
  refine E_sald rfl dL_law_359 hin1 ?_
  refine E_aload_nS dL_law_360 rfl ?_
  refine E_iload_n dL_law_361 rfl ?_
  refine E_ic 2 dL_law_362 (by decide) ?_
  refine E_iadd dL_law_363 ?_
  refine E_sald rfl dL_law_364 hin2 ?_
  refine cVk2 (N := mX9_same) dL_law_365 cn_X9_same lk_L_38 ⟨Nat.le_of_ble_eq_true rfl, Nat.le_of_ble_eq_true rfl⟩ rfl rfl (Nat.le_of_ble_eq_true rfl) ⟨rfl, rfl⟩ ⟨Nat.le_of_ble_eq_true rfl, Nat.le_of_ble_eq_true rfl⟩ (m_same M2 _ _) (fun v3 h3 ⟨hv3, M3, F3⟩ => ?_)
  rw [hv3]
  have C3 := C2.mf F3
  obtain ⟨er, R3⟩ := sa_ok H _ _ C3.fb
  refine E_icmp_eq 753 dL_law_368 (by decide) (fun c_368 => ?_) (fun c_368 => absurd er c_368)
  exact kk h3 _ _ C3 M3 R3
theorem law_at {nm : String} {L : Nat} {xs : Nat → Int32} {i : Nat} {a b : Ab} {h : Hp} (hin1 : vp_in (nI i + 1) L) (hin2 : vp_in (nI i + 2) L) (hin3 : vp_in (nI i + 3) L) (hin4 : vp_in (nI i + 4) L) (hin5 : vp_in (nI i + 5) L) (hin6 : vp_in (nI i + 6) L) (C : CRep a h) (M : MRep b h) (H : R a b) (kk : ∀ h' a' b', CRep a' h' → MRep b' h' → R a' b' → LE nm L xs 753 i h') : LE nm L xs 373 i h := by
  refine E_aload_n dL_law_373 rfl ?_
  refine E_aload_nS dL_law_374 rfl ?_
  refine E_iload_n dL_law_375 rfl ?_
  refine E_ic 1 dL_law_376 (by decide) ?_
  refine E_iadd dL_law_377 ?_
  refine E_sald rfl dL_law_378 hin1 ?_
  refine E_aload_nS dL_law_379 rfl ?_
  refine E_iload_n dL_law_380 rfl ?_
  refine E_ic 2 dL_law_381 (by decide) ?_
  refine E_iadd dL_law_382 ?_
  refine E_sald rfl dL_law_383 hin2 ?_
  refine E_aload_nS dL_law_384 rfl ?_
  refine E_iload_n dL_law_385 rfl ?_
  refine E_ic 3 dL_law_386 (by decide) ?_
  refine E_iadd dL_law_387 ?_
  refine E_sald rfl dL_law_388 hin3 ?_
  refine cVk3 (N := mX8_at) dL_law_389 cn_X8_at lk_L_39 ⟨Nat.le_of_ble_eq_true rfl, Nat.le_of_ble_eq_true rfl⟩ rfl rfl (Nat.le_of_ble_eq_true rfl) ⟨rfl, rfl⟩ ⟨Nat.le_of_ble_eq_true rfl, Nat.le_of_ble_eq_true rfl⟩ (c_at C _ _ _) (fun v2 h2 ⟨hv2, hh2⟩ => ?_)
  rw [hv2, hh2]
  refine E_aload_n dL_law_392 rfl ?_
  refine E_aload_nS dL_law_393 rfl ?_
  refine E_iload_n dL_law_394 rfl ?_
  refine E_ic 1 dL_law_395 (by decide) ?_
  refine E_iadd dL_law_396 ?_
  refine E_sald rfl dL_law_397 hin1 ?_
  refine E_aload_nS dL_law_398 rfl ?_
  refine E_iload_n dL_law_399 rfl ?_
  refine E_ic 2 dL_law_400 (by decide) ?_
  refine E_iadd dL_law_401 ?_
  refine E_sald rfl dL_law_402 hin2 ?_
  refine E_aload_nS dL_law_403 rfl ?_
  refine E_iload_n dL_law_404 rfl ?_
  refine E_ic 3 dL_law_405 (by decide) ?_
  refine E_iadd dL_law_406 ?_
  refine E_sald rfl dL_law_407 hin3 ?_
  refine cVk3 (N := mX9_at) dL_law_408 cn_X9_at lk_L_42 ⟨Nat.le_of_ble_eq_true rfl, Nat.le_of_ble_eq_true rfl⟩ rfl rfl (Nat.le_of_ble_eq_true rfl) ⟨rfl, rfl⟩ ⟨Nat.le_of_ble_eq_true rfl, Nat.le_of_ble_eq_true rfl⟩ (m_at M _ _ _) (fun v3 h3 ⟨hv3, hh3⟩ => ?_)
  rw [hv3, hh3]
  refine E_icmp_eq 753 dL_law_411 (by decide) (fun c_411 => ?_) (fun c_411 => absurd (at_ok H _ _ _) c_411)
  exact kk h a b C M H
theorem law_size {nm : String} {L : Nat} {xs : Nat → Int32} {i : Nat} {a b : Ab} {h : Hp} (hin1 : vp_in (nI i + 1) L) (hin2 : vp_in (nI i + 2) L) (hin3 : vp_in (nI i + 3) L) (hin4 : vp_in (nI i + 4) L) (hin5 : vp_in (nI i + 5) L) (hin6 : vp_in (nI i + 6) L) (C : CRep a h) (M : MRep b h) (H : R a b) (kk : ∀ h' a' b', CRep a' h' → MRep b' h' → R a' b' → LE nm L xs 753 i h') : LE nm L xs 416 i h := by
  refine E_aload_n dL_law_416 rfl ?_
  refine E_aload_nS dL_law_417 rfl ?_
  refine E_iload_n dL_law_418 rfl ?_
  refine E_ic 1 dL_law_419 (by decide) ?_
  refine E_iadd dL_law_420 ?_
  refine E_sald rfl dL_law_421 hin1 ?_
  refine E_aload_nS dL_law_422 rfl ?_
  refine E_iload_n dL_law_423 rfl ?_
  refine E_ic 2 dL_law_424 (by decide) ?_
  refine E_iadd dL_law_425 ?_
  refine E_sald rfl dL_law_426 hin2 ?_
  refine cVk2 (N := mX8_size) dL_law_427 cn_X8_size lk_L_43 ⟨Nat.le_of_ble_eq_true rfl, Nat.le_of_ble_eq_true rfl⟩ rfl rfl (Nat.le_of_ble_eq_true rfl) ⟨rfl, rfl⟩ ⟨Nat.le_of_ble_eq_true rfl, Nat.le_of_ble_eq_true rfl⟩ (c_size C _ _) (fun v2 h2 ⟨hv2, hh2⟩ => ?_)
  rw [hv2, hh2]
  refine E_aload_n dL_law_430 rfl ?_
  refine E_aload_nS dL_law_431 rfl ?_
  refine E_iload_n dL_law_432 rfl ?_
  refine E_ic 1 dL_law_433 (by decide) ?_
  refine E_iadd dL_law_434 ?_
  refine E_sald rfl dL_law_435 hin1 ?_
  refine E_aload_nS dL_law_436 rfl ?_
  refine E_iload_n dL_law_437 rfl ?_
  refine E_ic 2 dL_law_438 (by decide) ?_
  refine E_iadd dL_law_439 ?_
  refine E_sald rfl dL_law_440 hin2 ?_
  refine cVk2 (N := mX9_size) dL_law_441 cn_X9_size lk_L_46 ⟨Nat.le_of_ble_eq_true rfl, Nat.le_of_ble_eq_true rfl⟩ rfl rfl (Nat.le_of_ble_eq_true rfl) ⟨rfl, rfl⟩ ⟨Nat.le_of_ble_eq_true rfl, Nat.le_of_ble_eq_true rfl⟩ (m_size M _ _) (fun v3 h3 ⟨hv3, hh3⟩ => ?_)
  rw [hv3, hh3]
  refine E_icmp_eq 753 dL_law_444 (by decide) (fun c_444 => ?_) (fun c_444 => absurd (sz_ok H _ _) c_444)
  exact kk h a b C M H
theorem law_node {nm : String} {L : Nat} {xs : Nat → Int32} {i : Nat} {a b : Ab} {h : Hp} (hin1 : vp_in (nI i + 1) L) (hin2 : vp_in (nI i + 2) L) (hin3 : vp_in (nI i + 3) L) (hin4 : vp_in (nI i + 4) L) (hin5 : vp_in (nI i + 5) L) (hin6 : vp_in (nI i + 6) L) (C : CRep a h) (M : MRep b h) (H : R a b) (kk : ∀ h' a' b', CRep a' h' → MRep b' h' → R a' b' → LE nm L xs 753 i h') : LE nm L xs 449 i h := by
  refine E_aload_n dL_law_449 rfl ?_
  refine E_aload_nS dL_law_450 rfl ?_
  refine E_iload_n dL_law_451 rfl ?_
  refine E_ic 1 dL_law_452 (by decide) ?_
  refine E_iadd dL_law_453 ?_
  refine E_sald rfl dL_law_454 hin1 ?_
  refine E_aload_nS dL_law_455 rfl ?_
  refine E_iload_n dL_law_456 rfl ?_
  refine E_ic 2 dL_law_457 (by decide) ?_
  refine E_iadd dL_law_458 ?_
  refine E_sald rfl dL_law_459 hin2 ?_
  refine cVk2 (N := mX8_node) dL_law_460 cn_X8_node lk_L_47 ⟨Nat.le_of_ble_eq_true rfl, Nat.le_of_ble_eq_true rfl⟩ rfl rfl (Nat.le_of_ble_eq_true rfl) ⟨rfl, rfl⟩ ⟨Nat.le_of_ble_eq_true rfl, Nat.le_of_ble_eq_true rfl⟩ (c_node C _ _) (fun v2 h2 ⟨hv2, hh2⟩ => ?_)
  rw [hv2, hh2]
  refine E_aload_n dL_law_463 rfl ?_
  refine E_aload_nS dL_law_464 rfl ?_
  refine E_iload_n dL_law_465 rfl ?_
  refine E_ic 1 dL_law_466 (by decide) ?_
  refine E_iadd dL_law_467 ?_
  refine E_sald rfl dL_law_468 hin1 ?_
  refine E_aload_nS dL_law_469 rfl ?_
  refine E_iload_n dL_law_470 rfl ?_
  refine E_ic 2 dL_law_471 (by decide) ?_
  refine E_iadd dL_law_472 ?_
  refine E_sald rfl dL_law_473 hin2 ?_
  refine cVk2 (N := mX9_node) dL_law_474 cn_X9_node lk_L_51 ⟨Nat.le_of_ble_eq_true rfl, Nat.le_of_ble_eq_true rfl⟩ rfl rfl (Nat.le_of_ble_eq_true rfl) ⟨rfl, rfl⟩ ⟨Nat.le_of_ble_eq_true rfl, Nat.le_of_ble_eq_true rfl⟩ (m_node M _ _) (fun v3 h3 ⟨hv3, F3⟩ => ?_)
  rw [hv3]
  refine E_lcmp dL_law_477 ?_
  refine E_if_eq 753 dL_law_478 (by decide) (fun c_478 => ?_) (fun c_478 => absurd ((lg_cmp_eq _ _).mpr (nd_ok H _ _)) c_478)
  exact kk h3 a b (C.mf F3.mf) (M.scr F3) H
theorem law_begin {nm : String} {L : Nat} {xs : Nat → Int32} {i : Nat} {a b : Ab} {h : Hp} (hin1 : vp_in (nI i + 1) L) (hin2 : vp_in (nI i + 2) L) (hin3 : vp_in (nI i + 3) L) (hin4 : vp_in (nI i + 4) L) (hin5 : vp_in (nI i + 5) L) (hin6 : vp_in (nI i + 6) L) (C : CRep a h) (M : MRep b h) (H : R a b) (kk : ∀ h' a' b', CRep a' h' → MRep b' h' → R a' b' → LE nm L xs 753 i h') : LE nm L xs 483 i h := by
  refine E_aload_n dL_law_483 rfl ?_
  refine E_aload_nS dL_law_484 rfl ?_
  refine E_iload_n dL_law_485 rfl ?_
  refine E_ic 1 dL_law_486 (by decide) ?_
  refine E_iadd dL_law_487 ?_
  refine E_sald rfl dL_law_488 hin1 ?_
  refine E_aload_nS dL_law_489 rfl ?_
  refine E_iload_n dL_law_490 rfl ?_
  refine E_ic 2 dL_law_491 (by decide) ?_
  refine E_iadd dL_law_492 ?_
  refine E_sald rfl dL_law_493 hin2 ?_
  refine E_aload_nS dL_law_494 rfl ?_
  refine E_iload_n dL_law_495 rfl ?_
  refine E_ic 3 dL_law_496 (by decide) ?_
  refine E_iadd dL_law_497 ?_
  refine E_sald rfl dL_law_498 hin3 ?_
  refine E_aload_nS dL_law_499 rfl ?_
  refine E_iload_n dL_law_500 rfl ?_
  refine E_ic 4 dL_law_501 (by decide) ?_
  refine E_iadd dL_law_502 ?_
  refine E_sald rfl dL_law_503 hin4 ?_
  refine cVk4 (N := mX8_begin) dL_law_504 cn_X8_begin lk_L_52 ⟨Nat.le_of_ble_eq_true rfl, Nat.le_of_ble_eq_true rfl⟩ rfl rfl (Nat.le_of_ble_eq_true rfl) ⟨rfl, rfl⟩ ⟨Nat.le_of_ble_eq_true rfl, Nat.le_of_ble_eq_true rfl⟩ (c_begin C _ _ _ _) (fun v2 h2 ⟨hv2, C2, F2⟩ => ?_)
  rw [hv2]
  have M2 := M.cf F2
  refine E_aload_n dL_law_507 rfl ?_
  refine E_aload_nS dL_law_508 rfl ?_
  refine E_iload_n dL_law_509 rfl ?_
  refine E_ic 1 dL_law_510 (by decide) ?_
  refine E_iadd dL_law_511 ?_
  refine E_sald rfl dL_law_512 hin1 ?_
  refine E_aload_nS dL_law_513 rfl ?_
  refine E_iload_n dL_law_514 rfl ?_
  refine E_ic 2 dL_law_515 (by decide) ?_
  refine E_iadd dL_law_516 ?_
  refine E_sald rfl dL_law_517 hin2 ?_
  refine E_aload_nS dL_law_518 rfl ?_
  refine E_iload_n dL_law_519 rfl ?_
  refine E_ic 3 dL_law_520 (by decide) ?_
  refine E_iadd dL_law_521 ?_
  refine E_sald rfl dL_law_522 hin3 ?_
  refine E_aload_nS dL_law_523 rfl ?_
  refine E_iload_n dL_law_524 rfl ?_
  refine E_ic 4 dL_law_525 (by decide) ?_
  refine E_iadd dL_law_526 ?_
  refine E_sald rfl dL_law_527 hin4 ?_
  refine cVk4 (N := mX9_begin) dL_law_528 cn_X9_begin lk_L_55 ⟨Nat.le_of_ble_eq_true rfl, Nat.le_of_ble_eq_true rfl⟩ rfl rfl (Nat.le_of_ble_eq_true rfl) ⟨rfl, rfl⟩ ⟨Nat.le_of_ble_eq_true rfl, Nat.le_of_ble_eq_true rfl⟩ (m_begin M2 _ _ _ _) (fun v3 h3 ⟨hv3, M3, F3⟩ => ?_)
  rw [hv3]
  have C3 := C2.mf F3
  obtain ⟨er, R3⟩ := be_ok H _ _ _ _
  refine E_icmp_eq 753 dL_law_531 (by decide) (fun c_531 => ?_) (fun c_531 => absurd er c_531)
  exact kk h3 _ _ C3 M3 R3
theorem law_step {nm : String} {L : Nat} {xs : Nat → Int32} {i : Nat} {a b : Ab} {h : Hp} (hin1 : vp_in (nI i + 1) L) (hin2 : vp_in (nI i + 2) L) (hin3 : vp_in (nI i + 3) L) (hin4 : vp_in (nI i + 4) L) (hin5 : vp_in (nI i + 5) L) (hin6 : vp_in (nI i + 6) L) (C : CRep a h) (M : MRep b h) (H : R a b) (kk : ∀ h' a' b', CRep a' h' → MRep b' h' → R a' b' → LE nm L xs 753 i h') : LE nm L xs 536 i h := by
  refine E_aload_n dL_law_536 rfl ?_
  refine E_aload_nS dL_law_537 rfl ?_
  refine E_iload_n dL_law_538 rfl ?_
  refine E_ic 1 dL_law_539 (by decide) ?_
  refine E_iadd dL_law_540 ?_
  refine E_sald rfl dL_law_541 hin1 ?_
  refine cVk1 (N := mX8_step) dL_law_542 cn_X8_step lk_L_56 ⟨Nat.le_of_ble_eq_true rfl, Nat.le_of_ble_eq_true rfl⟩ rfl rfl (Nat.le_of_ble_eq_true rfl) ⟨rfl, rfl⟩ ⟨Nat.le_of_ble_eq_true rfl, Nat.le_of_ble_eq_true rfl⟩ (c_step (I := fun a => ∃ b, R a b) (fun _ q p => I_pre q p) (fun _ q p => I_one q p) C ⟨b, H⟩ _) (fun v2 h2 ⟨hv2, C2, F2⟩ => ?_)
  rw [hv2]
  have M2 := M.cf F2
  refine E_aload_n dL_law_545 rfl ?_
  refine E_aload_nS dL_law_546 rfl ?_
  refine E_iload_n dL_law_547 rfl ?_
  refine E_ic 1 dL_law_548 (by decide) ?_
  refine E_iadd dL_law_549 ?_
  refine E_sald rfl dL_law_550 hin1 ?_
  refine cVk1 (N := mX9_step) dL_law_551 cn_X9_step lk_L_60 ⟨Nat.le_of_ble_eq_true rfl, Nat.le_of_ble_eq_true rfl⟩ rfl rfl (Nat.le_of_ble_eq_true rfl) ⟨rfl, rfl⟩ ⟨Nat.le_of_ble_eq_true rfl, Nat.le_of_ble_eq_true rfl⟩ (m_step (J := fun b => ∃ a, R a b) (fun _ q p => J_pre q p) (fun _ q p => J_one q p) M2 ⟨a, H⟩ _) (fun v3 h3 ⟨hv3, M3, F3⟩ => ?_)
  rw [hv3]
  have C3 := C2.mf F3
  obtain ⟨er, R3⟩ := st_ok H _
  refine E_icmp_eq 753 dL_law_554 (by decide) (fun c_554 => ?_) (fun c_554 => absurd er c_554)
  exact kk h3 _ _ C3 M3 R3
theorem law_lose {nm : String} {L : Nat} {xs : Nat → Int32} {i : Nat} {a b : Ab} {h : Hp} (hin1 : vp_in (nI i + 1) L) (hin2 : vp_in (nI i + 2) L) (hin3 : vp_in (nI i + 3) L) (hin4 : vp_in (nI i + 4) L) (hin5 : vp_in (nI i + 5) L) (hin6 : vp_in (nI i + 6) L) (C : CRep a h) (M : MRep b h) (H : R a b) (kk : ∀ h' a' b', CRep a' h' → MRep b' h' → R a' b' → LE nm L xs 753 i h') : LE nm L xs 559 i h := by
  have hT : ∀ t ∈ b.2.2.1 5, t ≤ 50 := fun t ht => (H.2.2.2.1.1 t (by rw [H.1.n 5 rfl]; exact ht)).2
  refine E_aload_n dL_law_559 rfl ?_
  refine E_aload_nS dL_law_560 rfl ?_
  refine E_iload_n dL_law_561 rfl ?_
  refine E_ic 1 dL_law_562 (by decide) ?_
  refine E_iadd dL_law_563 ?_
  refine E_sald rfl dL_law_564 hin1 ?_
  refine cVk1 (N := mX8_lose) dL_law_565 cn_X8_lose lk_L_61 ⟨Nat.le_of_ble_eq_true rfl, Nat.le_of_ble_eq_true rfl⟩ rfl rfl (Nat.le_of_ble_eq_true rfl) ⟨rfl, rfl⟩ ⟨Nat.le_of_ble_eq_true rfl, Nat.le_of_ble_eq_true rfl⟩ (c_lose C H.2.2.2.1 _) (fun v2 h2 ⟨hv2, C2, F2⟩ => ?_)
  rw [hv2]
  have M2 := M.cf F2
  refine E_aload_n dL_law_568 rfl ?_
  refine E_aload_nS dL_law_569 rfl ?_
  refine E_iload_n dL_law_570 rfl ?_
  refine E_ic 1 dL_law_571 (by decide) ?_
  refine E_iadd dL_law_572 ?_
  refine E_sald rfl dL_law_573 hin1 ?_
  refine cVk1 (N := mX9_lose) dL_law_574 cn_X9_lose lk_L_64 ⟨Nat.le_of_ble_eq_true rfl, Nat.le_of_ble_eq_true rfl⟩ rfl rfl (Nat.le_of_ble_eq_true rfl) ⟨rfl, rfl⟩ ⟨Nat.le_of_ble_eq_true rfl, Nat.le_of_ble_eq_true rfl⟩ (m_lose M2 hT _) (fun v3 h3 ⟨hv3, M3, F3⟩ => ?_)
  rw [hv3]
  have C3 := C2.mf F3
  obtain ⟨er, R3⟩ := lo_ok H _
  refine E_icmp_eq 753 dL_law_577 (by decide) (fun c_577 => ?_) (fun c_577 => absurd er c_577)
  exact kk h3 _ _ C3 M3 R3
theorem law_cut {nm : String} {L : Nat} {xs : Nat → Int32} {i : Nat} {a b : Ab} {h : Hp} (hin1 : vp_in (nI i + 1) L) (hin2 : vp_in (nI i + 2) L) (hin3 : vp_in (nI i + 3) L) (hin4 : vp_in (nI i + 4) L) (hin5 : vp_in (nI i + 5) L) (hin6 : vp_in (nI i + 6) L) (C : CRep a h) (M : MRep b h) (H : R a b) (kk : ∀ h' a' b', CRep a' h' → MRep b' h' → R a' b' → LE nm L xs 753 i h') : LE nm L xs 582 i h := by
  refine E_aload_n dL_law_582 rfl ?_
  refine cVk0 (N := mX8_cut) dL_law_583 cn_X8_cut lk_L_65 ⟨Nat.le_of_ble_eq_true rfl, Nat.le_of_ble_eq_true rfl⟩ rfl rfl (Nat.le_of_ble_eq_true rfl) ⟨rfl, rfl⟩ ⟨Nat.le_of_ble_eq_true rfl, Nat.le_of_ble_eq_true rfl⟩ (c_cut C) (fun v2 h2 ⟨hv2, C2, F2⟩ => ?_)
  rw [hv2]
  have M2 := M.cf F2
  refine E_aload_n dL_law_586 rfl ?_
  refine cVk0 (N := mX9_cut) dL_law_587 cn_X9_cut lk_L_69 ⟨Nat.le_of_ble_eq_true rfl, Nat.le_of_ble_eq_true rfl⟩ rfl rfl (Nat.le_of_ble_eq_true rfl) ⟨rfl, rfl⟩ ⟨Nat.le_of_ble_eq_true rfl, Nat.le_of_ble_eq_true rfl⟩ (m_cut M2) (fun v3 h3 ⟨hv3, M3, F3⟩ => ?_)
  rw [hv3]
  have C3 := C2.mf F3
  obtain ⟨er, R3⟩ := cu_ok H
  refine E_icmp_eq 753 dL_law_590 (by decide) (fun c_590 => ?_) (fun c_590 => absurd er c_590)
  exact kk h3 _ _ C3 M3 R3
theorem law_state {nm : String} {L : Nat} {xs : Nat → Int32} {i : Nat} {a b : Ab} {h : Hp} (hin1 : vp_in (nI i + 1) L) (hin2 : vp_in (nI i + 2) L) (hin3 : vp_in (nI i + 3) L) (hin4 : vp_in (nI i + 4) L) (hin5 : vp_in (nI i + 5) L) (hin6 : vp_in (nI i + 6) L) (C : CRep a h) (M : MRep b h) (H : R a b) (kk : ∀ h' a' b', CRep a' h' → MRep b' h' → R a' b' → LE nm L xs 753 i h') : LE nm L xs 595 i h := by
  refine E_aload_n dL_law_595 rfl ?_
  refine E_aload_nS dL_law_596 rfl ?_
  refine E_iload_n dL_law_597 rfl ?_
  refine E_ic 1 dL_law_598 (by decide) ?_
  refine E_iadd dL_law_599 ?_
  refine E_sald rfl dL_law_600 hin1 ?_
  refine cVk1 (N := mX8_state) dL_law_601 cn_X8_state lk_L_70 ⟨Nat.le_of_ble_eq_true rfl, Nat.le_of_ble_eq_true rfl⟩ rfl rfl (Nat.le_of_ble_eq_true rfl) ⟨rfl, rfl⟩ ⟨Nat.le_of_ble_eq_true rfl, Nat.le_of_ble_eq_true rfl⟩ (c_state C _) (fun v2 h2 ⟨hv2, hh2⟩ => ?_)
  rw [hv2, hh2]
  refine E_aload_n dL_law_604 rfl ?_
  refine E_aload_nS dL_law_605 rfl ?_
  refine E_iload_n dL_law_606 rfl ?_
  refine E_ic 1 dL_law_607 (by decide) ?_
  refine E_iadd dL_law_608 ?_
  refine E_sald rfl dL_law_609 hin1 ?_
  refine cVk1 (N := mX9_state) dL_law_610 cn_X9_state lk_L_73 ⟨Nat.le_of_ble_eq_true rfl, Nat.le_of_ble_eq_true rfl⟩ rfl rfl (Nat.le_of_ble_eq_true rfl) ⟨rfl, rfl⟩ ⟨Nat.le_of_ble_eq_true rfl, Nat.le_of_ble_eq_true rfl⟩ (m_state M _) (fun v3 h3 ⟨hv3, hh3⟩ => ?_)
  rw [hv3, hh3]
  refine E_icmp_eq 753 dL_law_613 (by decide) (fun c_613 => ?_) (fun c_613 => absurd (tell_ok H _) c_613)
  exact kk h a b C M H
theorem law_sent {nm : String} {L : Nat} {xs : Nat → Int32} {i : Nat} {a b : Ab} {h : Hp} (hin1 : vp_in (nI i + 1) L) (hin2 : vp_in (nI i + 2) L) (hin3 : vp_in (nI i + 3) L) (hin4 : vp_in (nI i + 4) L) (hin5 : vp_in (nI i + 5) L) (hin6 : vp_in (nI i + 6) L) (C : CRep a h) (M : MRep b h) (H : R a b) (kk : ∀ h' a' b', CRep a' h' → MRep b' h' → R a' b' → LE nm L xs 753 i h') : LE nm L xs 618 i h := by
  refine E_aload_n dL_law_618 rfl ?_
  refine E_aload_nS dL_law_619 rfl ?_
  refine E_iload_n dL_law_620 rfl ?_
  refine E_ic 1 dL_law_621 (by decide) ?_
  refine E_iadd dL_law_622 ?_
  refine E_sald rfl dL_law_623 hin1 ?_
  refine cVk1 (N := mX8_sent) dL_law_624 cn_X8_sent lk_L_74 ⟨Nat.le_of_ble_eq_true rfl, Nat.le_of_ble_eq_true rfl⟩ rfl rfl (Nat.le_of_ble_eq_true rfl) ⟨rfl, rfl⟩ ⟨Nat.le_of_ble_eq_true rfl, Nat.le_of_ble_eq_true rfl⟩ (c_sent C _) (fun v2 h2 ⟨hv2, hh2⟩ => ?_)
  rw [hv2, hh2]
  refine E_aload_n dL_law_627 rfl ?_
  refine E_aload_nS dL_law_628 rfl ?_
  refine E_iload_n dL_law_629 rfl ?_
  refine E_ic 1 dL_law_630 (by decide) ?_
  refine E_iadd dL_law_631 ?_
  refine E_sald rfl dL_law_632 hin1 ?_
  refine cVk1 (N := mX9_sent) dL_law_633 cn_X9_sent lk_L_78 ⟨Nat.le_of_ble_eq_true rfl, Nat.le_of_ble_eq_true rfl⟩ rfl rfl (Nat.le_of_ble_eq_true rfl) ⟨rfl, rfl⟩ ⟨Nat.le_of_ble_eq_true rfl, Nat.le_of_ble_eq_true rfl⟩ (m_sent M _) (fun v3 h3 ⟨hv3, hh3⟩ => ?_)
  rw [hv3, hh3]
  refine E_lcmp dL_law_636 ?_
  refine E_if_eq 753 dL_law_637 (by decide) (fun c_637 => ?_) (fun c_637 => absurd ((lg_cmp_eq _ _).mpr (se_ok H _)) c_637)
  exact kk h a b C M H
theorem law_built {nm : String} {L : Nat} {xs : Nat → Int32} {i : Nat} {a b : Ab} {h : Hp} (hin1 : vp_in (nI i + 1) L) (hin2 : vp_in (nI i + 2) L) (hin3 : vp_in (nI i + 3) L) (hin4 : vp_in (nI i + 4) L) (hin5 : vp_in (nI i + 5) L) (hin6 : vp_in (nI i + 6) L) (C : CRep a h) (M : MRep b h) (H : R a b) (kk : ∀ h' a' b', CRep a' h' → MRep b' h' → R a' b' → LE nm L xs 753 i h') : LE nm L xs 642 i h := by
  refine E_aload_n dL_law_642 rfl ?_
  refine E_aload_nS dL_law_643 rfl ?_
  refine E_iload_n dL_law_644 rfl ?_
  refine E_ic 1 dL_law_645 (by decide) ?_
  refine E_iadd dL_law_646 ?_
  refine E_sald rfl dL_law_647 hin1 ?_
  refine cVk1 (N := mX8_built) dL_law_648 cn_X8_built lk_L_79 ⟨Nat.le_of_ble_eq_true rfl, Nat.le_of_ble_eq_true rfl⟩ rfl rfl (Nat.le_of_ble_eq_true rfl) ⟨rfl, rfl⟩ ⟨Nat.le_of_ble_eq_true rfl, Nat.le_of_ble_eq_true rfl⟩ (c_built C _) (fun v2 h2 ⟨hv2, hh2⟩ => ?_)
  rw [hv2, hh2]
  refine E_aload_n dL_law_651 rfl ?_
  refine E_aload_nS dL_law_652 rfl ?_
  refine E_iload_n dL_law_653 rfl ?_
  refine E_ic 1 dL_law_654 (by decide) ?_
  refine E_iadd dL_law_655 ?_
  refine E_sald rfl dL_law_656 hin1 ?_
  refine cVk1 (N := mX9_built) dL_law_657 cn_X9_built lk_L_82 ⟨Nat.le_of_ble_eq_true rfl, Nat.le_of_ble_eq_true rfl⟩ rfl rfl (Nat.le_of_ble_eq_true rfl) ⟨rfl, rfl⟩ ⟨Nat.le_of_ble_eq_true rfl, Nat.le_of_ble_eq_true rfl⟩ (m_built M _) (fun v3 h3 ⟨hv3, hh3⟩ => ?_)
  rw [hv3, hh3]
  refine E_icmp_eq 753 dL_law_660 (by decide) (fun c_660 => ?_) (fun c_660 => absurd (gI_ok H _) c_660)
  exact kk h a b C M H
theorem law_sums {nm : String} {L : Nat} {xs : Nat → Int32} {i : Nat} {a b : Ab} {h : Hp} (hin1 : vp_in (nI i + 1) L) (hin2 : vp_in (nI i + 2) L) (hin3 : vp_in (nI i + 3) L) (hin4 : vp_in (nI i + 4) L) (hin5 : vp_in (nI i + 5) L) (hin6 : vp_in (nI i + 6) L) (C : CRep a h) (M : MRep b h) (H : R a b) (kk : ∀ h' a' b', CRep a' h' → MRep b' h' → R a' b' → LE nm L xs 753 i h') : LE nm L xs 665 i h := by
  refine E_aload_n dL_law_665 rfl ?_
  refine E_aload_nS dL_law_666 rfl ?_
  refine E_iload_n dL_law_667 rfl ?_
  refine E_ic 1 dL_law_668 (by decide) ?_
  refine E_iadd dL_law_669 ?_
  refine E_sald rfl dL_law_670 hin1 ?_
  refine E_aload_nS dL_law_671 rfl ?_
  refine E_iload_n dL_law_672 rfl ?_
  refine E_ic 2 dL_law_673 (by decide) ?_
  refine E_iadd dL_law_674 ?_
  refine E_sald rfl dL_law_675 hin2 ?_
  refine cVk2 (N := mX8_sums) dL_law_676 cn_X8_sums lk_L_83 ⟨Nat.le_of_ble_eq_true rfl, Nat.le_of_ble_eq_true rfl⟩ rfl rfl (Nat.le_of_ble_eq_true rfl) ⟨rfl, rfl⟩ ⟨Nat.le_of_ble_eq_true rfl, Nat.le_of_ble_eq_true rfl⟩ (c_sums C _ _) (fun v2 h2 ⟨hv2, hh2⟩ => ?_)
  rw [hv2, hh2]
  refine E_aload_n dL_law_679 rfl ?_
  refine E_aload_nS dL_law_680 rfl ?_
  refine E_iload_n dL_law_681 rfl ?_
  refine E_ic 1 dL_law_682 (by decide) ?_
  refine E_iadd dL_law_683 ?_
  refine E_sald rfl dL_law_684 hin1 ?_
  refine E_aload_nS dL_law_685 rfl ?_
  refine E_iload_n dL_law_686 rfl ?_
  refine E_ic 2 dL_law_687 (by decide) ?_
  refine E_iadd dL_law_688 ?_
  refine E_sald rfl dL_law_689 hin2 ?_
  refine cVk2 (N := mX9_sums) dL_law_690 cn_X9_sums lk_L_86 ⟨Nat.le_of_ble_eq_true rfl, Nat.le_of_ble_eq_true rfl⟩ rfl rfl (Nat.le_of_ble_eq_true rfl) ⟨rfl, rfl⟩ ⟨Nat.le_of_ble_eq_true rfl, Nat.le_of_ble_eq_true rfl⟩ (m_sums M _ _) (fun v3 h3 ⟨hv3, hh3⟩ => ?_)
  rw [hv3, hh3]
  refine E_lcmp dL_law_693 ?_
  refine E_if_eq 753 dL_law_694 (by decide) (fun c_694 => ?_) (fun c_694 => absurd ((lg_cmp_eq _ _).mpr (sum_ok H _ _)) c_694)
  exact kk h a b C M H
theorem law_weak {nm : String} {L : Nat} {xs : Nat → Int32} {i : Nat} {a b : Ab} {h : Hp} (hin1 : vp_in (nI i + 1) L) (hin2 : vp_in (nI i + 2) L) (hin3 : vp_in (nI i + 3) L) (hin4 : vp_in (nI i + 4) L) (hin5 : vp_in (nI i + 5) L) (hin6 : vp_in (nI i + 6) L) (C : CRep a h) (M : MRep b h) (H : R a b) (kk : ∀ h' a' b', CRep a' h' → MRep b' h' → R a' b' → LE nm L xs 753 i h') : LE nm L xs 699 i h := by
  refine E_aload_n dL_law_699 rfl ?_
  refine E_aload_nS dL_law_700 rfl ?_
  refine E_iload_n dL_law_701 rfl ?_
  refine E_ic 1 dL_law_702 (by decide) ?_
  refine E_iadd dL_law_703 ?_
  refine E_sald rfl dL_law_704 hin1 ?_
  refine E_aload_nS dL_law_705 rfl ?_
  refine E_iload_n dL_law_706 rfl ?_
  refine E_ic 2 dL_law_707 (by decide) ?_
  refine E_iadd dL_law_708 ?_
  refine E_sald rfl dL_law_709 hin2 ?_
  refine E_aload_nS dL_law_710 rfl ?_
  refine E_iload_n dL_law_711 rfl ?_
  refine E_ic 3 dL_law_712 (by decide) ?_
  refine E_iadd dL_law_713 ?_
  refine E_sald rfl dL_law_714 hin3 ?_
  refine E_aload_nS dL_law_715 rfl ?_
  refine E_iload_n dL_law_716 rfl ?_
  refine E_ic 4 dL_law_717 (by decide) ?_
  refine E_iadd dL_law_718 ?_
  refine E_sald rfl dL_law_719 hin4 ?_
  refine cVk4 (N := mX8_weak) dL_law_720 cn_X8_weak lk_L_87 ⟨Nat.le_of_ble_eq_true rfl, Nat.le_of_ble_eq_true rfl⟩ rfl rfl (Nat.le_of_ble_eq_true rfl) ⟨rfl, rfl⟩ ⟨Nat.le_of_ble_eq_true rfl, Nat.le_of_ble_eq_true rfl⟩ (c_weak C _ _ _ _) (fun v2 h2 ⟨hv2, hh2⟩ => ?_)
  rw [hv2, hh2]
  refine E_aload_n dL_law_723 rfl ?_
  refine E_aload_nS dL_law_724 rfl ?_
  refine E_iload_n dL_law_725 rfl ?_
  refine E_ic 1 dL_law_726 (by decide) ?_
  refine E_iadd dL_law_727 ?_
  refine E_sald rfl dL_law_728 hin1 ?_
  refine E_aload_nS dL_law_729 rfl ?_
  refine E_iload_n dL_law_730 rfl ?_
  refine E_ic 2 dL_law_731 (by decide) ?_
  refine E_iadd dL_law_732 ?_
  refine E_sald rfl dL_law_733 hin2 ?_
  refine E_aload_nS dL_law_734 rfl ?_
  refine E_iload_n dL_law_735 rfl ?_
  refine E_ic 3 dL_law_736 (by decide) ?_
  refine E_iadd dL_law_737 ?_
  refine E_sald rfl dL_law_738 hin3 ?_
  refine E_aload_nS dL_law_739 rfl ?_
  refine E_iload_n dL_law_740 rfl ?_
  refine E_ic 4 dL_law_741 (by decide) ?_
  refine E_iadd dL_law_742 ?_
  refine E_sald rfl dL_law_743 hin4 ?_
  refine cVk4 (N := mX9_weak) dL_law_744 cn_X9_weak lk_L_91 ⟨Nat.le_of_ble_eq_true rfl, Nat.le_of_ble_eq_true rfl⟩ rfl rfl (Nat.le_of_ble_eq_true rfl) ⟨rfl, rfl⟩ ⟨Nat.le_of_ble_eq_true rfl, Nat.le_of_ble_eq_true rfl⟩ (m_weak M _ _ _ _) (fun v3 h3 ⟨hv3, hh3⟩ => ?_)
  rw [hv3, hh3]
  refine E_lcmp dL_law_747 ?_
  refine E_if_eq 753 dL_law_748 (by decide) (fun c_748 => ?_) (fun c_748 => absurd ((lg_cmp_eq _ _).mpr (wk_ok H _ _ _ _)) c_748)
  exact kk h a b C M H
theorem and31 (x : Int32) : ∃ k, k < 32 ∧ x &&& 31 = nI k := by
  refine ⟨x.toBitVec.toNat % 32, Nat.mod_lt _ (by decide), ?_⟩
  apply Int32.toBitVec_inj.mp
  show x.toBitVec &&& BitVec.ofNat 32 31 = BitVec.ofNat 32 (x.toBitVec.toNat % 32)
  apply BitVec.eq_of_toNat_eq
  rw [BitVec.toNat_and, BitVec.toNat_ofNat, BitVec.toNat_ofNat, show 31 % 2 ^ 32 = 2 ^ 5 - 1 by decide, Nat.and_two_pow_sub_one_eq_mod]
  omega
theorem law_far {L i : Nat} (hL : L ≤ 3584) (hi : i ≤ 3600) (h : ¬ i + 7 ≤ L) : nI L - 7 < nI i := by
  by_cases h7 : 7 ≤ L
  · rw [show (7 : Int32) = nI 7 by decide, pk_sub h7]
    exact nI_lt (by omega) (by omega)
  · rw [i_lt, nI_toInt (n := i) (by omega)]
    rcases (show L = 0 ∨ L = 1 ∨ L = 2 ∨ L = 3 ∨ L = 4 ∨ L = 5 ∨ L = 6 by omega) with rfl | rfl | rfl | rfl | rfl | rfl | rfl
    · rw [show (nI 0 - 7).toInt = -7 by decide]; omega
    · rw [show (nI 1 - 7).toInt = -6 by decide]; omega
    · rw [show (nI 2 - 7).toInt = -5 by decide]; omega
    · rw [show (nI 3 - 7).toInt = -4 by decide]; omega
    · rw [show (nI 4 - 7).toInt = -3 by decide]; omega
    · rw [show (nI 5 - 7).toInt = -2 by decide]; omega
    · rw [show (nI 6 - 7).toInt = -1 by decide]; omega
theorem law_near {L i : Nat} (hL : L ≤ 3584) (h : i + 7 ≤ L) : ¬ nI L - 7 < nI i := by
  rw [show (7 : Int32) = nI 7 by decide, pk_sub (by omega)]
  exact nI_nlt (by omega) (by omega)
theorem law_case {nm : String} {L : Nat} {xs : Nat → Int32} {i k : Nat} {a b : Ab} {h : Hp} (hin1 : vp_in (nI i + 1) L) (hin2 : vp_in (nI i + 2) L) (hin3 : vp_in (nI i + 3) L) (hin4 : vp_in (nI i + 4) L) (hin5 : vp_in (nI i + 5) L) (hin6 : vp_in (nI i + 6) L) (C : CRep a h) (M : MRep b h) (H : R a b) (kk : ∀ h' a' b', CRep a' h' → MRep b' h' → R a' b' → LE nm L xs 753 i h') (hk : k < 32) : E (mLn nm) (some (L, xs)) (fun v _ _ => v = some (.int 1)) 33 [some (.retAddr 0), some (.ref 0), some (.ref 59), some (.int (nI i))] [.int (nI k)] SH h 76 21863 := by
  rcases (show k = 0 ∨ k = 1 ∨ k = 2 ∨ k = 3 ∨ k = 4 ∨ k = 5 ∨ k = 6 ∨ k = 7 ∨ k = 8 ∨ k = 9 ∨ k = 10 ∨ k = 11 ∨ k = 12 ∨ k = 13 ∨ k = 14 ∨ k = 15 ∨ k = 16 ∨ 17 ≤ k by omega) with rfl | rfl | rfl | rfl | rfl | rfl | rfl | rfl | rfl | rfl | rfl | rfl | rfl | rfl | rfl | rfl | rfl | hk2
  · exact E_tabIn 116 dL_law_33 (by decide) (by decide) rfl (by decide) (law_write hin1 hin2 hin3 hin4 hin5 hin6 C M H kk)
  · exact E_tabIn 211 dL_law_33 (by decide) (by decide) rfl (by decide) (law_again hin1 hin2 hin3 hin4 hin5 hin6 C M H kk)
  · exact E_tabIn 264 dL_law_33 (by decide) (by decide) rfl (by decide) (law_trim hin1 hin2 hin3 hin4 hin5 hin6 C M H kk)
  · exact E_tabIn 307 dL_law_33 (by decide) (by decide) rfl (by decide) (law_drop hin1 hin2 hin3 hin4 hin5 hin6 C M H kk)
  · exact E_tabIn 340 dL_law_33 (by decide) (by decide) rfl (by decide) (law_same hin1 hin2 hin3 hin4 hin5 hin6 C M H kk)
  · exact E_tabIn 373 dL_law_33 (by decide) (by decide) rfl (by decide) (law_at hin1 hin2 hin3 hin4 hin5 hin6 C M H kk)
  · exact E_tabIn 416 dL_law_33 (by decide) (by decide) rfl (by decide) (law_size hin1 hin2 hin3 hin4 hin5 hin6 C M H kk)
  · exact E_tabIn 449 dL_law_33 (by decide) (by decide) rfl (by decide) (law_node hin1 hin2 hin3 hin4 hin5 hin6 C M H kk)
  · exact E_tabIn 483 dL_law_33 (by decide) (by decide) rfl (by decide) (law_begin hin1 hin2 hin3 hin4 hin5 hin6 C M H kk)
  · exact E_tabIn 536 dL_law_33 (by decide) (by decide) rfl (by decide) (law_step hin1 hin2 hin3 hin4 hin5 hin6 C M H kk)
  · exact E_tabIn 559 dL_law_33 (by decide) (by decide) rfl (by decide) (law_lose hin1 hin2 hin3 hin4 hin5 hin6 C M H kk)
  · exact E_tabIn 582 dL_law_33 (by decide) (by decide) rfl (by decide) (law_cut hin1 hin2 hin3 hin4 hin5 hin6 C M H kk)
  · exact E_tabIn 595 dL_law_33 (by decide) (by decide) rfl (by decide) (law_state hin1 hin2 hin3 hin4 hin5 hin6 C M H kk)
  · exact E_tabIn 618 dL_law_33 (by decide) (by decide) rfl (by decide) (law_sent hin1 hin2 hin3 hin4 hin5 hin6 C M H kk)
  · exact E_tabIn 642 dL_law_33 (by decide) (by decide) rfl (by decide) (law_built hin1 hin2 hin3 hin4 hin5 hin6 C M H kk)
  · exact E_tabIn 665 dL_law_33 (by decide) (by decide) rfl (by decide) (law_sums hin1 hin2 hin3 hin4 hin5 hin6 C M H kk)
  · exact E_tabIn 699 dL_law_33 (by decide) (by decide) rfl (by decide) (law_weak hin1 hin2 hin3 hin4 hin5 hin6 C M H kk)
  · exact E_tabOut 753 dL_law_33 (Or.inr (by rw [nI_toInt (by omega)]; omega)) (by decide) (kk h a b C M H)
theorem law_loop {nm : String} {L : Nat} {xs : Nat → Int32} (hL : L ≤ 3584) : ∀ (n i : Nat) (h : Hp) (a b : Ab), L + 7 - i ≤ n → i ≤ L + 7 → CRep a h → MRep b h → R a b → LE nm L xs 18 i h := by
  intro n
  induction n with
  | zero =>
    intro i h a b hn hi C M H
    have hfar := law_far (i := i) hL (by omega) (by omega)
    refine E_iload_n dL_law_18 rfl ?_
    refine E_aload_nS dL_law_19 rfl ?_
    refine E_slen rfl dL_law_20 ?_
    refine E_bi 7 dL_law_21 (by decide) ?_
    refine E_isub dL_law_23 ?_
    refine E_icmp_gt 759 dL_law_24 (by decide) (fun c_24 => ?_) (fun c_24 => absurd hfar c_24)
    refine E_ic 1 dL_law_759 (by decide) ?_
    exact E_reti dL_law_760 rfl rfl (Nat.le_of_ble_eq_true rfl) (Nat.le_of_ble_eq_true rfl) rfl
  | succ n ih =>
    intro i h a b hn hi C M H
    by_cases hle : i + 7 ≤ L
    · have hnear := law_near hL hle
      have hin1 : vp_in (nI i + 1) L := by rw [show (1 : Int32) = nI 1 by decide, nI_add]; exact vp_in_nI (by omega) (by omega)
      have hin2 : vp_in (nI i + 2) L := by rw [show (2 : Int32) = nI 2 by decide, nI_add]; exact vp_in_nI (by omega) (by omega)
      have hin3 : vp_in (nI i + 3) L := by rw [show (3 : Int32) = nI 3 by decide, nI_add]; exact vp_in_nI (by omega) (by omega)
      have hin4 : vp_in (nI i + 4) L := by rw [show (4 : Int32) = nI 4 by decide, nI_add]; exact vp_in_nI (by omega) (by omega)
      have hin5 : vp_in (nI i + 5) L := by rw [show (5 : Int32) = nI 5 by decide, nI_add]; exact vp_in_nI (by omega) (by omega)
      have hin6 : vp_in (nI i + 6) L := by rw [show (6 : Int32) = nI 6 by decide, nI_add]; exact vp_in_nI (by omega) (by omega)
      refine E_iload_n dL_law_18 rfl ?_
      refine E_aload_nS dL_law_19 rfl ?_
      refine E_slen rfl dL_law_20 ?_
      refine E_bi 7 dL_law_21 (by decide) ?_
      refine E_isub dL_law_23 ?_
      refine E_icmp_gt 759 dL_law_24 (by decide) (fun c_24 => absurd c_24 hnear) (fun c_24 => ?_)
      refine E_aload_nS dL_law_27 rfl ?_
      refine E_iload_n dL_law_28 rfl ?_
      refine E_sald rfl dL_law_29 (vp_in_nI (by omega) (by omega)) ?_
      refine E_bi 31 dL_law_30 (by decide) ?_
      refine E_iand dL_law_32 ?_
      obtain ⟨k, hk, e⟩ := and31 (xs (nI i).toNatClampNeg)
      rw [e]
      refine law_case hin1 hin2 hin3 hin4 hin5 hin6 C M H (fun h' a' b' C' M' H' => ?_) hk
      refine E_iinc dL_law_753 rfl (Nat.le_of_ble_eq_true rfl) ?_
      refine E_goto 18 dL_law_756 (by decide) ?_
      rw [show Int32.ofInt 7 = nI 7 by decide, nI_add]
      exact ih (i + 7) h' a' b' (by omega) (by omega) C' M' H'
    · have hfar := law_far (i := i) hL (by omega) hle
      refine E_iload_n dL_law_18 rfl ?_
      refine E_aload_nS dL_law_19 rfl ?_
      refine E_slen rfl dL_law_20 ?_
      refine E_bi 7 dL_law_21 (by decide) ?_
      refine E_isub dL_law_23 ?_
      refine E_icmp_gt 759 dL_law_24 (by decide) (fun c_24 => ?_) (fun c_24 => absurd hfar c_24)
      refine E_ic 1 dL_law_759 (by decide) ?_
      exact E_reti dL_law_760 rfl rfl (Nat.le_of_ble_eq_true rfl) (Nat.le_of_ble_eq_true rfl) rfl
theorem law_E {nm : String} {L : Nat} {xs : Nat → Int32} (hL : L ≤ 3584) (h : Hp) : E (mLn nm) (some (L, xs)) (fun v _ _ => v = some (.int 1)) 0 [some (.retAddr 0), none, none, none] [] (SH.take 0) h 0 0 := by
  refine E_new dL_law_0 nw_L_7 (Nat.le_of_ble_eq_true rfl) (Nat.le_of_ble_eq_true rfl) (by rw [ln 0 (by decide)]; simp [old]) (by rw [ln 0 (by decide)]; simp [old]) ?_
  rw [ln 0 (by decide), tks (k := 0) (k' := 1) rfl rfl]
  refine E_dup rfl dL_law_3 ?_
  refine cI0 (N := mX8_init) dL_law_4 cn_X8_init lk_L_9 ⟨Nat.le_of_ble_eq_true rfl, Nat.le_of_ble_eq_true rfl⟩ (Nat.le_of_ble_eq_true rfl) ⟨Nat.le_of_ble_eq_true rfl, Nat.le_of_ble_eq_true rfl⟩ (by rw [ln 1 (by decide)]; simp [old]) (by rw [ln 1 (by decide)]; simp [old]) i_Top (fun v1 sh1 h1 ⟨hv1, hs1, C1⟩ => ?_)
  rw [hv1, hs1]
  refine E_astore_n dL_law_7 (Nat.le_of_ble_eq_true rfl) ?_
  show E (mLn nm) (some (L, xs)) _ 8 [some (.retAddr 0), some (.ref 0), none, none] [] (SH.take 59) h1 _ _
  refine E_new dL_law_8 nw_L_10 (Nat.le_of_ble_eq_true rfl) (Nat.le_of_ble_eq_true rfl) (by rw [ln 59 (by decide)]; simp [old]) (by rw [ln 59 (by decide)]; simp [old]) ?_
  rw [ln 59 (by decide), tks (k := 59) (k' := 60) rfl rfl]
  refine E_dup rfl dL_law_11 ?_
  refine cI0 (N := mX9_init) dL_law_12 cn_X9_init lk_L_12 ⟨Nat.le_of_ble_eq_true rfl, Nat.le_of_ble_eq_true rfl⟩ (Nat.le_of_ble_eq_true rfl) ⟨Nat.le_of_ble_eq_true rfl, Nat.le_of_ble_eq_true rfl⟩ (by rw [ln 60 (by decide)]; simp [old]) (by rw [ln 60 (by decide)]; simp [old]) (i_Model (fun j => by simp [clr]) (fun j => by simp [clr])) (fun v2 sh2 h2 ⟨hv2, hs2, M2, O2⟩ => ?_)
  rw [hv2, hs2]
  have C2 : CRep a0 h2 := C1.ow ((Ow_clr Ow.rf (Nat.le_refl _)).tr O2)
  refine E_astore_n dL_law_15 (Nat.le_of_ble_eq_true rfl) ?_
  refine E_ic 0 dL_law_16 (by decide) ?_
  refine E_istore_n dL_law_17 (Nat.le_of_ble_eq_true rfl) ?_
  exact law_loop hL (L + 7) 0 h2 a0 b0 (by omega) (by omega) C2 M2 R0

