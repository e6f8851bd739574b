/-! the model: makesOfFile -/
theorem MRep.load0 {b : Ab} {h : Hp} (M : MRep b h) : MRep (aN b 2 []) (sI h 59 30 0) :=
  M.load (W := []) ⟨by simp [sI, u2, nI_0], by simp, fun x hx => (by cases hx), fun j hj => (by simp at hj)⟩ rfl (fun x q1 q2 => by funext j; simp [sI, u2, q1]) (fun s q => by simp [sI, u2, q])
theorem MRep.load1 {b : Ab} {h : Hp} (M : MRep b h) {v : Nat} (hv : v < 256) (hl : (b.2.2.1 2).length < 16) : MRep (aN b 2 (b.2.2.1 2 ++ [v])) (sI (sI h 70 (b.2.2.1 2).length (sb v)) 59 30 (nI ((b.2.2.1 2).length + 1))) := by
  obtain ⟨f1, hl2, fB⟩ := id M.2.2.2.2.2.2.2.1
  have B2 := fB.rset (q := (b.2.2.1 2).length) (m := 16) (Nat.le_refl _) hl hv
  rw [rset, if_neg (by omega), if_pos hl, Nat.zero_add] at B2
  exact M.load (W := b.2.2.1 2 ++ [v]) ⟨by simp [sI, u2], by simp; omega, BSeg.off B2 (by funext y; simp [sI, u2])⟩ rfl (fun x q1 q2 => by funext j; simp [sI, u2, q1, q2]) (fun s q => by simp [sI, u2, q])
theorem of_fin {b : Ab} {h h3 : Hp} {x1 x2 : Option Value} (M3 : MRep b h3) (F3 : MF h h3) : E mX9_makesOfFile none (fun v sh' h' => sh' = SH ∧ v = none ∧ MRep (msgA b (b.1 1) 4 (2 + nI (b.2.2.1 2).length)) h' ∧ MF h h') 233 [some (.ref 59), x1, x2] [] SH h3 0 0 := by
  have g1 : h3.1 59 5 = b.1 1 := M3.1 1 (by decide)
  have f1 : h3.1 59 30 = nI (b.2.2.1 2).length := M3.2.2.2.2.2.2.2.1.1
  refine E_aload_n dX9_makesOfFile_233 rfl ?_
  refine E_aload_n dX9_makesOfFile_234 rfl ?_
  refine E_getI dX9_makesOfFile_235 fl_X9_90 rfl rfl ?_
  rw [g1]
  refine E_ic 4 dX9_makesOfFile_238 (by decide) ?_
  refine E_ic 2 dX9_makesOfFile_239 (by decide) ?_
  refine E_aload_n dX9_makesOfFile_240 rfl ?_
  refine E_getI dX9_makesOfFile_241 fl_X9_203 rfl rfl ?_
  rw [f1]
  refine E_iadd dX9_makesOfFile_244 ?_
  refine cV3 (N := mX9_message) dX9_makesOfFile_245 cn_X9_message lk_X9_163 ⟨Nat.le_of_ble_eq_true rfl, Nat.le_of_ble_eq_true rfl⟩ rfl rfl (Nat.le_of_ble_eq_true rfl) ⟨rfl, rfl⟩ (m_message M3 _ _ _) (fun v6 h6 ⟨hv6, M6, F6⟩ => ?_)
  rw [hv6]
  exact E_retv dX9_makesOfFile_248 rfl (Nat.le_of_ble_eq_true rfl) (Nat.le_of_ble_eq_true rfl) ⟨rfl, rfl, M6, F3.tr F6⟩
theorem of_loop {e g B K : Nat} {xs : List Nat} (he : e < 2) (hg : g < 8) (hB2 : B ≤ 64) (hK2 : K ≤ 8) (hm : xs.length ≤ 500) {Q : QT} (h0 : Hp) : ∀ (n i p : Nat) (b : Ab) (h : Hp), n + i = 16 → MRep b h → MF h0 h → (b.2.2.2.1 e g).getD [] = xs → b.1 16 = nI B → b.1 30 = nI K → b.1 13 = nI p → p ≤ xs.length → (b.2.2.1 2).length = i → (∀ h' x2, MRep (pLoop xs B K n p b) h' → MF h0 h' → E mX9_makesOfFile none Q 233 [some (.ref 59), some (.int (nI (8 * e + g))), x2] [] SH h' 0 0) → E mX9_makesOfFile none Q 139 [some (.ref 59), some (.int (nI (8 * e + g))), some (.int (-2))] [] SH h 0 0 := by
  intro n
  induction n with
  | zero =>
    intro i p b h hn M F hx hB hK hp hpl hlen kk
    have ei : i = 16 := by omega
    subst ei
    have f1 : h.1 59 30 = nI (b.2.2.1 2).length := M.2.2.2.2.2.2.2.1.1
    rw [hlen] at f1
    refine E_iload_n dX9_makesOfFile_139 rfl ?_
    refine E_bi (-2) dX9_makesOfFile_140 (by decide) ?_
    refine E_icmp_ne 233 dX9_makesOfFile_142 (by decide) (fun c_142 => absurd rfl c_142) (fun c_142 => ?_)
    refine E_aload_n dX9_makesOfFile_145 rfl ?_
    refine E_getI dX9_makesOfFile_146 fl_X9_203 rfl rfl ?_
    refine E_bi 16 dX9_makesOfFile_149 (by decide) ?_
    rw [f1]
    refine E_icmp_ge 233 dX9_makesOfFile_151 (by decide) (fun c_151 => ?_) (fun c_151 => absurd (by decide) c_151)
    exact kk h _ M F
  | succ n ih =>
    intro i p b h hn M F hx hB hK hp hpl hlen kk
    obtain ⟨q0, q1, q2, q3, q9, q10, q11, q13, q14, q22, q29, q33, q34, q36, q37, q40⟩ := id M.2.2.1
    have fm := M.fm he hg
    rw [hx] at fm
    have f1 : h.1 59 30 = nI (b.2.2.1 2).length := M.2.2.2.2.2.2.2.1.1
    have g13 : h.1 59 19 = nI p := (M.1 13 (by decide)).trans hp
    by_cases hlt : p < xs.length
    · rw [pLoop, if_pos hlt] at kk
      have hv := getD_lt (fm.2.2.1) p
      have hrd := fm.2.2.at hlt
      have M4 := M.load1 hv (by omega)
      have F4 : MF h0 (sI (sI h 70 (b.2.2.1 2).length (sb (xs.getD p 0))) 59 30 (nI ((b.2.2.1 2).length + 1))) := MF_sI (MF_sI F (by decide)) (by decide)
      have k30 : (sI h 70 (b.2.2.1 2).length (sb (xs.getD p 0))).1 59 30 = nI (b.2.2.1 2).length := by rw [← f1]; simp [sI, u2]
      have k13 : (sI (sI h 70 (b.2.2.1 2).length (sb (xs.getD p 0))) 59 30 (nI ((b.2.2.1 2).length + 1))).1 59 19 = nI p := (M4.1 13 (by decide)).trans hp
      have M5 := M4.setI 13 (nI (p + 1)) (by decide)
      have F5 : MF h0 (sI (sI (sI h 70 (b.2.2.1 2).length (sb (xs.getD p 0))) 59 30 (nI ((b.2.2.1 2).length + 1))) 59 19 (nI (p + 1))) := MF_sI F4 (by decide)
      have k30' : (sI (sI (sI h 70 (b.2.2.1 2).length (sb (xs.getD p 0))) 59 30 (nI ((b.2.2.1 2).length + 1))) 59 19 (nI (p + 1))).1 59 30 = nI (i + 1) := by rw [hlen]; simp [sI, u2]
      have hlen' : ((aI (aN b 2 (b.2.2.1 2 ++ [xs.getD p 0])) 13 (nI (p + 1))).2.2.1 2).length = i + 1 := by show ((aN b 2 _).2.2.1 2).length = _; rw [aN_at]; simp; omega
      have p13 : (aI (aN b 2 (b.2.2.1 2 ++ [xs.getD p 0])) 13 (nI (p + 1))).1 13 = nI (p + 1) := aI_at _ _ _
      refine E_iload_n dX9_makesOfFile_139 rfl ?_
      refine E_bi (-2) dX9_makesOfFile_140 (by decide) ?_
      refine E_icmp_ne 233 dX9_makesOfFile_142 (by decide) (fun c_142 => absurd rfl c_142) (fun c_142 => ?_)
      refine E_aload_n dX9_makesOfFile_145 rfl ?_
      refine E_getI dX9_makesOfFile_146 fl_X9_203 rfl rfl ?_
      refine E_bi 16 dX9_makesOfFile_149 (by decide) ?_
      rw [f1, show (16 : Int32) = nI 16 by decide]
      refine E_icmp_ge 233 dX9_makesOfFile_151 (by decide) (fun c_151 => absurd c_151 (nI_ge (by omega) (by omega))) (fun c_151 => ?_)
      refine E_aload_n dX9_makesOfFile_154 rfl ?_
      refine E_getI dX9_makesOfFile_155 fl_X9_197 rfl rfl ?_
      refine E_aload_n dX9_makesOfFile_158 rfl ?_
      refine E_iload_n dX9_makesOfFile_159 rfl ?_
      refine cV1 (N := mX9_sizeOf) dX9_makesOfFile_160 cn_X9_sizeOf lk_X9_69 ⟨Nat.le_of_ble_eq_true rfl, Nat.le_of_ble_eq_true rfl⟩ rfl rfl (Nat.le_of_ble_eq_true rfl) ⟨rfl, rfl⟩ (m_sizeOf q1 (by omega) (M.fm he hg).1 (by rw [hx]; exact hm)) (fun v2 h2 ⟨hv2, hh2⟩ => ?_)
      rw [hv2, hh2, hx]
      rw [g13]
      refine E_icmp_ge 233 dX9_makesOfFile_163 (by decide) (fun c_163 => absurd c_163 (nI_ge hlt (by omega))) (fun c_163 => ?_)
      refine E_aload_n dX9_makesOfFile_166 rfl ?_
      refine E_getR dX9_makesOfFile_167 fl_X9_43 rfl (by assumption) rfl ?_
      refine E_aload_n dX9_makesOfFile_170 rfl ?_
      refine E_getI dX9_makesOfFile_171 fl_X9_203 rfl rfl ?_
      refine E_aload_n dX9_makesOfFile_174 rfl ?_
      refine E_getR dX9_makesOfFile_175 fl_X9_7 rfl (by assumption) rfl ?_
      refine E_si 500 dX9_makesOfFile_178 (by decide) ?_
      refine E_iload_n dX9_makesOfFile_181 rfl ?_
      refine E_imul dX9_makesOfFile_182 ?_
      refine E_aload_n dX9_makesOfFile_183 rfl ?_
      refine E_getI dX9_makesOfFile_184 fl_X9_197 rfl rfl ?_
      refine E_iadd dX9_makesOfFile_187 ?_
      rw [f1, g13, show (500 : Int32) = nI 500 by decide, pk_mul, nI_add]
      refine E_bald dX9_makesOfFile_188 rfl (vp_in_nI (by omega) (by omega)) ?_
      rw [nI_clamp (by omega), hrd]
      refine E_bast dX9_makesOfFile_189 rfl (vp_in_nI (by omega) (by omega)) ?_
      rw [nI_clamp (by omega), sb_n _ hv]
      refine E_aload_n dX9_makesOfFile_190 rfl ?_
      refine E_dup rfl dX9_makesOfFile_191 ?_
      refine E_getI dX9_makesOfFile_192 fl_X9_203 rfl rfl ?_
      rw [k30]
      refine E_ic 1 dX9_makesOfFile_195 (by decide) ?_
      refine E_iadd dX9_makesOfFile_196 ?_
      rw [nI_1]
      refine E_putI dX9_makesOfFile_197 fl_X9_203 rfl rfl ?_
      refine E_aload_n dX9_makesOfFile_200 rfl ?_
      refine E_dup rfl dX9_makesOfFile_201 ?_
      refine E_getI dX9_makesOfFile_202 fl_X9_197 rfl rfl ?_
      rw [k13]
      refine E_ic 1 dX9_makesOfFile_205 (by decide) ?_
      refine E_iadd dX9_makesOfFile_206 ?_
      rw [nI_1]
      refine E_putI dX9_makesOfFile_207 fl_X9_197 rfl rfl ?_
      refine E_aload_n dX9_makesOfFile_210 rfl ?_
      refine E_getI dX9_makesOfFile_211 fl_X9_203 rfl rfl ?_
      refine E_bi 16 dX9_makesOfFile_214 (by decide) ?_
      rw [k30', show (16 : Int32) = nI 16 by decide]
      refine E_icmp_ge 227 dX9_makesOfFile_216 (by decide) (fun c_216 => ?_) (fun c_216 => ?_)
      · have hn0 : n = 0 := by have := (nI_leI (by omega) (by omega)).mp c_216; omega
        rw [if_pos hn0] at kk
        refine E_bi (-2) dX9_makesOfFile_227 (by decide) ?_
        refine E_istore_n dX9_makesOfFile_229 (by decide) ?_
        refine E_goto 139 dX9_makesOfFile_230 (by decide) ?_
        subst hn0
        exact ih (i + 1) (p + 1) _ _ (by omega) M5 F5 hx hB hK p13 (by omega) hlen' kk
      · have hn0 : ¬ n = 0 := fun z => c_216 (nI_le (by omega) (by omega))
        rw [if_neg hn0] at kk
        refine E_aload_n dX9_makesOfFile_219 rfl ?_
        refine E_iload_n dX9_makesOfFile_220 rfl ?_
        refine cV1 (N := mX9_look) dX9_makesOfFile_221 cn_X9_look lk_X9_200 ⟨Nat.le_of_ble_eq_true rfl, Nat.le_of_ble_eq_true rfl⟩ rfl rfl (Nat.le_of_ble_eq_true rfl) ⟨rfl, rfl⟩ (m_look (p := p + 1) M5 he hg hx p13 (by omega) hB hB2 hK hK2) (fun v6 h6 ⟨hv6, M6, F6⟩ => ?_)
        rw [hv6]
        refine E_goto 229 dX9_makesOfFile_224 (by decide) ?_
        refine E_istore_n dX9_makesOfFile_229 (by decide) ?_
        refine E_goto 139 dX9_makesOfFile_230 (by decide) ?_
        by_cases hl : lookR (aI (aN b 2 (b.2.2.1 2 ++ [xs.getD p 0])) 13 (nI (p + 1))) xs (p + 1) B K = -2
        · rw [if_pos hl] at kk
          rw [hl]
          exact ih (i + 1) (p + 1) _ h6 (by omega) M6 (F5.tr F6) (by rw [lookS_2]; exact hx) (by rw [lookS_i _ _ _ _ _ (by decide) (by decide)]; exact hB) (by rw [lookS_i _ _ _ _ _ (by decide) (by decide)]; exact hK) (by rw [lookS_i _ _ _ _ _ (by decide) (by decide)]; exact p13) (by omega) (by rw [lookS_2]; exact hlen') kk
        · rw [if_neg hl] at kk
          refine E_iload_n dX9_makesOfFile_139 rfl ?_
          refine E_bi (-2) dX9_makesOfFile_140 (by decide) ?_
          exact E_icmp_ne 233 dX9_makesOfFile_142 (by decide) (fun _ => kk h6 _ M6 (F5.tr F6)) (fun q => absurd q hl)
    · rw [pLoop, if_neg hlt] at kk
      refine E_iload_n dX9_makesOfFile_139 rfl ?_
      refine E_bi (-2) dX9_makesOfFile_140 (by decide) ?_
      refine E_icmp_ne 233 dX9_makesOfFile_142 (by decide) (fun c_142 => absurd rfl c_142) (fun c_142 => ?_)
      refine E_aload_n dX9_makesOfFile_145 rfl ?_
      refine E_getI dX9_makesOfFile_146 fl_X9_203 rfl rfl ?_
      refine E_bi 16 dX9_makesOfFile_149 (by decide) ?_
      rw [f1, show (16 : Int32) = nI 16 by decide]
      refine E_icmp_ge 233 dX9_makesOfFile_151 (by decide) (fun c_151 => absurd c_151 (nI_ge (by omega) (by omega))) (fun c_151 => ?_)
      refine E_aload_n dX9_makesOfFile_154 rfl ?_
      refine E_getI dX9_makesOfFile_155 fl_X9_197 rfl rfl ?_
      refine E_aload_n dX9_makesOfFile_158 rfl ?_
      refine E_iload_n dX9_makesOfFile_159 rfl ?_
      refine cV1 (N := mX9_sizeOf) dX9_makesOfFile_160 cn_X9_sizeOf lk_X9_69 ⟨Nat.le_of_ble_eq_true rfl, Nat.le_of_ble_eq_true rfl⟩ rfl rfl (Nat.le_of_ble_eq_true rfl) ⟨rfl, rfl⟩ (m_sizeOf q1 (by omega) (M.fm he hg).1 (by rw [hx]; exact hm)) (fun v2 h2 ⟨hv2, hh2⟩ => ?_)
      rw [hv2, hh2, hx]
      rw [g13]
      refine E_icmp_ge 233 dX9_makesOfFile_163 (by decide) (fun c_163 => ?_) (fun c_163 => absurd (nI_le (by omega) (by omega)) c_163)
      exact kk h _ M F
def mPartA (b : Ab) (xs : List Nat) (p B K : Nat) : Ab := if lookR b xs p B K = -2 then msgA (pLoop xs B K 16 p (aN (lookS b xs p B K) 2 [])) (b.1 1) 4 (2 + nI ((pLoop xs B K 16 p (aN (lookS b xs p B K) 2 [])).2.2.1 2).length) else msgA (aI (aI (lookS b xs p B K) 11 (lookR b xs p B K)) 13 (nI p + nI B)) (b.1 1) 5 4
def mFileA (b : Ab) (f p B K : Nat) : Ab := if ¬ b.1 27 = 0 ∧ sF b f = none then msgA b (b.1 1) 3 1 else if ((sF b f).getD []).length ≤ p then msgA (aL (aI b 27 0) 3 (dig ((sF b f).getD []))) (b.1 1) 6 11 else mPartA (aI b 27 0) ((sF b f).getD []) p B K
theorem pLoop_i {xs : List Nat} {B K k : Nat} (h1 : k ≠ 13) (h2 : k ≠ 14) (h3 : k ≠ 15) : ∀ (n p : Nat) (a : Ab), (pLoop xs B K n p a).1 k = a.1 k := by
  intro n
  induction n with
  | zero => intro p a; rfl
  | succ n ih =>
    intro p a
    have base : (aI (aN a 2 (a.2.2.1 2 ++ [xs.getD p 0])) 13 (nI (p + 1))).1 k = a.1 k := aI_ne _ _ h1
    rw [pLoop]
    split
    · split
      · exact base
      · split
        · rw [ih, lookS_i _ _ _ _ _ h2 h3]; exact base
        · rw [lookS_i _ _ _ _ _ h2 h3]; exact base
    · rfl
theorem of_part {b : Ab} {h h3 : Hp} {f p B K : Nat} {x2 : Option Value} {xs : List Nat} (M : MRep b h3) (F : MF h h3) (hf : f < 8) (hx : (sF b f).getD [] = xs) (hlt : p < xs.length) (hB : b.1 16 = nI B) (hB2 : B ≤ 64) (hK : b.1 30 = nI K) (hK2 : K ≤ 8) (hp : b.1 13 = nI p) : E mX9_makesOfFile none (fun v sh' h' => sh' = SH ∧ v = none ∧ MRep (mPartA b xs p B K) h' ∧ MF h h') 93 [some (.ref 59), some (.int (nI (8 * sr b + f))), x2] [] SH h3 0 0 := by
  have sl := sr_lt b
  have hm : xs.length ≤ 500 := by rw [← hx]; exact (M.fm sl hf).2.1
  by_cases hl : lookR b xs p B K = -2
  · rw [mPartA, if_pos hl]
    refine E_aload_n dX9_makesOfFile_93 rfl ?_
    refine E_iload_n dX9_makesOfFile_94 rfl ?_
    refine cV1 (N := mX9_look) dX9_makesOfFile_95 cn_X9_look lk_X9_200 ⟨Nat.le_of_ble_eq_true rfl, Nat.le_of_ble_eq_true rfl⟩ rfl rfl (Nat.le_of_ble_eq_true rfl) ⟨rfl, rfl⟩ (m_look M sl hf hx hp (by omega) hB hB2 hK hK2) (fun v4 h4 ⟨hv4, M4, F4⟩ => ?_)
    rw [hv4, hl]
    refine E_istore_n dX9_makesOfFile_98 (by decide) ?_
    refine E_iload_n dX9_makesOfFile_99 rfl ?_
    refine E_bi (-2) dX9_makesOfFile_100 (by decide) ?_
    refine E_icmp_eq 134 dX9_makesOfFile_102 (by decide) (fun c_102 => ?_) (fun c_102 => absurd rfl c_102)
    refine E_aload_n dX9_makesOfFile_134 rfl ?_
    refine E_ic 0 dX9_makesOfFile_135 (by decide) ?_
    refine E_putI dX9_makesOfFile_136 fl_X9_203 rfl rfl ?_
    have M5 := M4.load0
    refine of_loop sl hf hB2 hK2 hm h 16 0 p _ _ (by omega) M5 (MF_sI (F.tr F4) (by decide)) (by show ((lookS b xs p B K).2.2.2.1 (sr b) f).getD [] = xs; rw [lookS_2]; exact hx) (by show (lookS b xs p B K).1 16 = _; rw [lookS_i _ _ _ _ _ (by decide) (by decide)]; exact hB) (by show (lookS b xs p B K).1 30 = _; rw [lookS_i _ _ _ _ _ (by decide) (by decide)]; exact hK) (by show (lookS b xs p B K).1 13 = _; rw [lookS_i _ _ _ _ _ (by decide) (by decide)]; exact hp) (by omega) (by rw [aN_at]; rfl) (fun h' x3 M6 F6 => ?_)
    have e1 : (pLoop xs B K 16 p (aN (lookS b xs p B K) 2 [])).1 1 = b.1 1 := by rw [pLoop_i (by decide) (by decide) (by decide)]; show (lookS b xs p B K).1 1 = _; rw [lookS_i _ _ _ _ _ (by decide) (by decide)]
    rw [← e1]
    generalize pLoop xs B K 16 p (aN (lookS b xs p B K) 2 []) = c at M6 ⊢
    exact of_fin M6 F6
  · rw [mPartA, if_neg hl]
    refine E_aload_n dX9_makesOfFile_93 rfl ?_
    refine E_iload_n dX9_makesOfFile_94 rfl ?_
    refine cV1 (N := mX9_look) dX9_makesOfFile_95 cn_X9_look lk_X9_200 ⟨Nat.le_of_ble_eq_true rfl, Nat.le_of_ble_eq_true rfl⟩ rfl rfl (Nat.le_of_ble_eq_true rfl) ⟨rfl, rfl⟩ (m_look M sl hf hx hp (by omega) hB hB2 hK hK2) (fun v4 h4 ⟨hv4, M4, F4⟩ => ?_)
    rw [hv4]
    have M5 := M4.setI 11 (lookR b xs p B K) (by decide)
    have F5 : MF h (sI h4 59 27 (lookR b xs p B K)) := MF_sI (F.tr F4) (by decide)
    have k13 : (sI h4 59 27 (lookR b xs p B K)).1 59 19 = nI p := (M5.1 13 (by decide)).trans (by show (lookS b xs p B K).1 13 = _; rw [lookS_i _ _ _ _ _ (by decide) (by decide)]; exact hp)
    have k16 : (sI h4 59 27 (lookR b xs p B K)).1 59 6 = nI B := (M5.1 16 (by decide)).trans (by show (lookS b xs p B K).1 16 = _; rw [lookS_i _ _ _ _ _ (by decide) (by decide)]; exact hB)
    have M6 := M5.setI 13 (nI p + nI B) (by decide)
    have F6 : MF h (sI (sI h4 59 27 (lookR b xs p B K)) 59 19 (nI p + nI B)) := MF_sI F5 (by decide)
    have k1 : (sI (sI h4 59 27 (lookR b xs p B K)) 59 19 (nI p + nI B)).1 59 5 = b.1 1 := (M6.1 1 (by decide)).trans (by show (lookS b xs p B K).1 1 = _; rw [lookS_i _ _ _ _ _ (by decide) (by decide)])
    refine E_istore_n dX9_makesOfFile_98 (by decide) ?_
    refine E_iload_n dX9_makesOfFile_99 rfl ?_
    refine E_bi (-2) dX9_makesOfFile_100 (by decide) ?_
    refine E_icmp_eq 134 dX9_makesOfFile_102 (by decide) (fun c_102 => absurd c_102 hl) (fun c_102 => ?_)
    refine E_aload_n dX9_makesOfFile_105 rfl ?_
    refine E_iload_n dX9_makesOfFile_106 rfl ?_
    refine E_putI dX9_makesOfFile_107 fl_X9_134 rfl rfl ?_
    refine E_aload_n dX9_makesOfFile_110 rfl ?_
    refine E_dup rfl dX9_makesOfFile_111 ?_
    refine E_getI dX9_makesOfFile_112 fl_X9_197 rfl rfl ?_
    refine E_aload_n dX9_makesOfFile_115 rfl ?_
    refine E_getI dX9_makesOfFile_116 fl_X9_97 rfl rfl ?_
    rw [k13, k16]
    refine E_iadd dX9_makesOfFile_119 ?_
    refine E_putI dX9_makesOfFile_120 fl_X9_197 rfl rfl ?_
    refine E_aload_n dX9_makesOfFile_123 rfl ?_
    refine E_aload_n dX9_makesOfFile_124 rfl ?_
    refine E_getI dX9_makesOfFile_125 fl_X9_90 rfl rfl ?_
    rw [k1]
    refine E_ic 5 dX9_makesOfFile_128 (by decide) ?_
    refine E_ic 4 dX9_makesOfFile_129 (by decide) ?_
    refine cV3 (N := mX9_message) dX9_makesOfFile_130 cn_X9_message lk_X9_163 ⟨Nat.le_of_ble_eq_true rfl, Nat.le_of_ble_eq_true rfl⟩ rfl rfl (Nat.le_of_ble_eq_true rfl) ⟨rfl, rfl⟩ (m_message M6 _ _ _) (fun v7 h7 ⟨hv7, M7, F7⟩ => ?_)
    rw [hv7]
    exact E_retv dX9_makesOfFile_133 rfl (Nat.le_of_ble_eq_true rfl) (Nat.le_of_ble_eq_true rfl) ⟨rfl, rfl, M7, F6.tr F7⟩
theorem sz_none {o : Option (List Nat)} (h : szI o = -2) (hl : (o.getD []).length ≤ 500) : o = none := by
  cases o with
  | none => rfl
  | some xs => exact absurd h (nI_no2 (by have : xs.length ≤ 500 := hl; omega))
theorem m_makesOfFile {b : Ab} {h : Hp} (M : MRep b h) (hs : eOk (b.1 1)) {f p B K : Nat} (hf : f < 8) (hF : b.1 19 = nI f) (hB : b.1 16 = nI B) (hB2 : B ≤ 64) (hK : b.1 30 = nI K) (hK2 : K ≤ 8) (hp : b.1 13 = nI p) (hp2 : p ≤ 600) : Sp0 mX9_makesOfFile [.ref 59] SH h (fun v h' => v = none ∧ MRep (mFileA b f p B K) h' ∧ MF h h') := by
  have sl := sr_lt b
  have fm := M.fm sl hf
  have hsrc := src_n hs
  obtain ⟨q0, q1, q2, q3, q9, q10, q11, q13, q14, q22, q29, q33, q34, q36, q37, q40⟩ := id M.2.2.1
  have g1 : h.1 59 5 = b.1 1 := M.1 1 (by decide)
  have g19 : h.1 59 16 = b.1 19 := M.1 19 (by decide)
  have g27 : h.1 59 20 = b.1 27 := M.1 27 (by decide)
  rw [hF] at g19
  have M1 : MRep (aI b 27 0) (sI h 59 20 0) := M.setI 27 0 (by decide)
  have F1 : MF h (sI h 59 20 0) := MF_sI MF.rf (by decide)
  have fm1 : (sI h 59 20 0).1 61 (8 * sr b + f) = szI (b.2.2.2.1 (sr b) f) := (M1.fm sl hf).1
  have k13 : (sI h 59 20 0).1 59 19 = nI p := (M1.1 13 (by decide)).trans hp
  have hsF : b.2.2.2.1 (sr b) f = sF b f := rfl
  rw [hsF] at fm fm1
  generalize hxs : (sF b f).getD [] = xs at fm
  have M2 := M1.setL 3 (dig xs) (by decide) (by decide)
  have F2 : MF h (sL (sI h 59 20 0) 59 28 (dig xs)) := MF_sL F1 (by decide)
  have k1 : (sL (sI h 59 20 0) 59 28 (dig xs)).1 59 5 = b.1 1 := M2.1 1 (by decide)
  have fB1 : BSeg (sI h 59 20 0) 60 (500 * (8 * sr b + f)) xs := fm.2.2.off (by funext y; simp [sI, u2])
  have hm := fm.2.1
  have tail : ∀ (h3 : Hp), h3 = h → ¬ (¬ b.1 27 = 0 ∧ sF b f = none) → E mX9_makesOfFile none (fun v sh' h' => sh' = SH ∧ v = none ∧ MRep (mFileA b f p B K) h' ∧ MF h h') 42 [some (.ref 59), some (.int (nI (8 * sr b + f))), none] [] SH h3 0 0 := by
    intro h3 eh hno
    subst eh
    rw [mFileA, if_neg hno, hxs]
    refine E_aload_n dX9_makesOfFile_42 rfl ?_
    refine E_ic 0 dX9_makesOfFile_43 (by decide) ?_
    refine E_putZ dX9_makesOfFile_44 fl_X9_194 rfl rfl (by decide) ?_
    refine E_aload_n dX9_makesOfFile_47 rfl ?_
    refine E_getI dX9_makesOfFile_48 fl_X9_197 rfl rfl ?_
    refine E_aload_n dX9_makesOfFile_51 rfl ?_
    refine E_iload_n dX9_makesOfFile_52 rfl ?_
    refine cV1 (N := mX9_sizeOf) dX9_makesOfFile_53 cn_X9_sizeOf lk_X9_69 ⟨Nat.le_of_ble_eq_true rfl, Nat.le_of_ble_eq_true rfl⟩ rfl rfl (Nat.le_of_ble_eq_true rfl) ⟨rfl, rfl⟩ (m_sizeOf q1 (by omega) fm1 (by rw [hxs]; exact hm)) (fun v3 h4 ⟨hv3, hh3⟩ => ?_)
    rw [hv3, hh3, hxs]
    rw [k13]
    refine E_icmp_lt 93 dX9_makesOfFile_56 (by decide) (fun c_56 => ?_) (fun c_56 => ?_)
    · have hlt : p < xs.length := (nI_ltI (by omega) (by omega)).mp c_56
      rw [if_neg (by omega)]
      exact of_part M1 F1 hf hxs hlt hB hB2 hK hK2 hp
    · have hge : xs.length ≤ p := Nat.le_of_not_lt fun q => c_56 (nI_lt q (by omega))
      rw [if_pos hge]
      refine E_aload_n dX9_makesOfFile_59 rfl ?_
      refine E_aload_n dX9_makesOfFile_60 rfl ?_
      refine E_getR dX9_makesOfFile_61 fl_X9_7 rfl (by assumption) rfl ?_
      refine E_si 500 dX9_makesOfFile_64 (by decide) ?_
      refine E_iload_n dX9_makesOfFile_67 rfl ?_
      refine E_imul dX9_makesOfFile_68 ?_
      refine E_aload_n dX9_makesOfFile_69 rfl ?_
      refine E_iload_n dX9_makesOfFile_70 rfl ?_
      refine cV1 (N := mX9_sizeOf) dX9_makesOfFile_71 cn_X9_sizeOf lk_X9_69 ⟨Nat.le_of_ble_eq_true rfl, Nat.le_of_ble_eq_true rfl⟩ rfl rfl (Nat.le_of_ble_eq_true rfl) ⟨rfl, rfl⟩ (m_sizeOf q1 (by omega) fm1 (by rw [hxs]; exact hm)) (fun v4 h5 ⟨hv4, hh4⟩ => ?_)
      rw [hv4, hh4, hxs]
      rw [show (500 : Int32) = nI 500 by decide, pk_mul]
      refine cS3 (N := mX9_digest) dX9_makesOfFile_74 cn_X9_digest lk_X9_79 ⟨Nat.le_of_ble_eq_true rfl, Nat.le_of_ble_eq_true rfl⟩ (Nat.le_of_ble_eq_true rfl) ⟨rfl, rfl⟩ (m_digest (m := 8000) rfl (by decide) fB1 (by omega)) (fun v5 h6 ⟨hv5, hh5⟩ => ?_)
      rw [hv5, hh5]
      refine E_putL dX9_makesOfFile_77 fl_X9_171 rfl rfl ?_
      refine E_aload_n dX9_makesOfFile_80 rfl ?_
      refine E_aload_n dX9_makesOfFile_81 rfl ?_
      refine E_getI dX9_makesOfFile_82 fl_X9_90 rfl rfl ?_
      rw [k1]
      refine E_bi 6 dX9_makesOfFile_85 (by decide) ?_
      refine E_bi 11 dX9_makesOfFile_87 (by decide) ?_
      refine cV3 (N := mX9_message) dX9_makesOfFile_89 cn_X9_message lk_X9_163 ⟨Nat.le_of_ble_eq_true rfl, Nat.le_of_ble_eq_true rfl⟩ rfl rfl (Nat.le_of_ble_eq_true rfl) ⟨rfl, rfl⟩ (m_message M2 _ _ _) (fun v7 h7 ⟨hv7, M7, F7⟩ => ?_)
      rw [hv7]
      exact E_retv dX9_makesOfFile_92 rfl (Nat.le_of_ble_eq_true rfl) (Nat.le_of_ble_eq_true rfl) ⟨rfl, rfl, M7, F2.tr F7⟩
  refine Sp0.of (by decide) (Nat.le_of_ble_eq_true rfl) ?_
  show E mX9_makesOfFile none _ 0 [some (.ref 59), none, none] [] SH h 0 0
  refine E_bi 8 dX9_makesOfFile_0 (by decide) ?_
  refine E_aload_n dX9_makesOfFile_2 rfl ?_
  refine E_getI dX9_makesOfFile_3 fl_X9_90 rfl rfl ?_
  rw [g1, hsrc, show (8 : Int32) = nI 8 by decide]
  refine E_imul dX9_makesOfFile_6 ?_
  rw [pk_mul]
  refine E_aload_n dX9_makesOfFile_7 rfl ?_
  refine E_getI dX9_makesOfFile_8 fl_X9_112 rfl rfl ?_
  rw [g19]
  refine E_iadd dX9_makesOfFile_11 ?_
  rw [nI_add]
  refine E_istore_n dX9_makesOfFile_12 (by decide) ?_
  refine E_aload_n dX9_makesOfFile_13 rfl ?_
  refine E_getI dX9_makesOfFile_14 fl_X9_194 rfl rfl ?_
  rw [g27]
  refine E_if_eq 42 dX9_makesOfFile_17 (by decide) (fun c_17 => ?_) (fun c_17 => ?_)
  · exact tail h rfl (fun z => z.1 c_17)
  · refine E_aload_n dX9_makesOfFile_20 rfl ?_
    refine E_getR dX9_makesOfFile_21 fl_X9_13 rfl (by assumption) rfl ?_
    refine E_iload_n dX9_makesOfFile_24 rfl ?_
    refine E_iald dX9_makesOfFile_25 rfl (vp_in_nI (by omega) (by omega)) ?_
    rw [nI_clamp (by omega), fm.1]
    refine E_bi (-2) dX9_makesOfFile_26 (by decide) ?_
    refine E_icmp_ne 42 dX9_makesOfFile_28 (by decide) (fun c_28 => ?_) (fun c_28 => ?_)
    · exact tail h rfl (fun z => c_28 (by rw [z.2]; rfl))
    · have hnone : sF b f = none := sz_none c_28 (by rw [hxs]; exact hm)
      refine E_aload_n dX9_makesOfFile_31 rfl ?_
      refine E_aload_n dX9_makesOfFile_32 rfl ?_
      refine E_getI dX9_makesOfFile_33 fl_X9_90 rfl rfl ?_
      rw [g1]
      refine E_ic 3 dX9_makesOfFile_36 (by decide) ?_
      refine E_ic 1 dX9_makesOfFile_37 (by decide) ?_
      refine cV3 (N := mX9_message) dX9_makesOfFile_38 cn_X9_message lk_X9_163 ⟨Nat.le_of_ble_eq_true rfl, Nat.le_of_ble_eq_true rfl⟩ rfl rfl (Nat.le_of_ble_eq_true rfl) ⟨rfl, rfl⟩ (m_message M _ _ _) (fun v7 h7 ⟨hv7, M7, F7⟩ => ?_)
      rw [hv7]
      exact E_retv dX9_makesOfFile_41 rfl (Nat.le_of_ble_eq_true rfl) (Nat.le_of_ble_eq_true rfl) ⟨rfl, rfl, by rw [mFileA, if_pos ⟨c_17, hnone⟩]; exact M7, F7⟩

