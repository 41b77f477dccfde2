def R_law : String := "PlanCertificatesLaw"
def lw_P (b : Addr) (xs : List Int32) (args : Array Value) (s : State) : Prop := args = #[.ref b] ∧ s.IntsAt b xs ∧ xs.length ≤ 3072 ∧ (Jvm.Cond.and given_1 narrow_1).before args s = true
def lw_Q (_ : Array Value) (s : State) (o : Outcome) (t : State) : Prop := o = .returned (some (.int 1)) ∧ Framed s o t [] 601024 7293034
def lw_Z (below : List Frame) (a : Array Value) (s : State) : State → Prop := fun t => ∃ o, t.status = .running ∧ Ended t below o ∧ lw_Q a s o t
/-- the law's own end, with 1 on the stack, nothing written that was there before, its room as the claim has it -/
theorem lw_ret {p : Program} {l : Launch} {e : Env} {s : State} {m : MethodId} {below : List Frame} {meth : Method} {c : Code} {b : Nat} (hx : p.tables.exec = Jvm.exec) (hb : c.code = code) (hr : meth.sig.returnType = ret) (hlocks : meth.locks = false) {pc : Nat} {H : Heap} {ls : Array Slot} (hdg : decode code pc = .ok (.ireturn, 1)) : W p l e room_1 s m #[Value.ref b] below meth c H [] 601024 7293034 (lw_Z below #[Value.ref b] s) (F0 m pc ls [.int 1]) := by
  intro T hT X
  obtain ⟨fs, hret, hrun, hended, hW, hframe⟩ := X.leave (v := some (.int 1)) (hlocks := hlocks) (fun h => by rw [hr] at h; cases h)
  have hmeth' : T.vm.method? m = some meth := X.method'
  refine ⟨T.setFrames fs, ?_, .returned (some (.int 1)), hrun, hended, rfl, ⟨_, rfl⟩, hW, hframe⟩
  jvm_step X.here [X.here.top, hx, hb, hdg, hmeth', hr, ret, narrow_b1]
  (try refine ⟨rfl, ?_⟩); (try refine ⟨rfl, ?_⟩)
  first | (intro acts; rw [hret _ acts rfl rfl rfl]) | rw [hret _ _ rfl rfl rfl]
  exact Steps.refl _
/-- what holds at the law's entry: the machine, the code, the tables' words (any of lw_tbl by 'hts w (by decide +kernel)'), the script of L ints xs at the cell b, what the Statement gives of the start (any of its parts by flat_of_before) -/
def lw_At (p : Program) (s : State) (m : MethodId) (meth : Method) (c : Code) (b L : Nat) (xs : Nat → Int32) : Prop :=
  p.tables.exec = Jvm.exec ∧ c.code = code ∧ meth.sig.returnType = ret ∧ c.maxLocals = 8 ∧ s.vm.findClass R_law = some m.cls ∧ (∀ w ∈ lw_tbl, w.before #[Value.ref b] s = true) ∧ va_X b L xs s s.heap ∧ b < s.heap.size ∧ meth.locks = false ∧ (Jvm.Cond.and given_1 narrow_1).before #[Value.ref b] s = true
/-! THE LAW'S OWN RULES -/
theorem x_sld {p : Program} {l : Launch} {e : Env} {R : Room} {s : State} {m : MethodId} {args : Array Value} {below : List Frame} {meth : Method} {c : Code} {cc : ByteArray} {nL : Nat} {own : String} {ret : Option FieldType} {G : xG} {cells slots : Nat} {Q : State → Prop} {pc : Nat} {lv : List (Nat × Value)} {st : List Value} {σ : xS} (X : xC p s m meth c cc nL own ret G) {b L j : Nat} {xs : Nat → Int32} (hX : va_X b L xs s s.heap) (hbl : b < s.heap.size) (hbA : ¬ xA G b) (hj : j < L) (hL : L ≤ 3072) (d : decode cc pc = .ok (.iaload, 1)) (K : xW p l e R s m args below meth c nL G cells slots Q (pc + 1) lv (.int (xs j) :: st) σ) : xW p l e R s m args below meth c nL G cells slots Q pc lv (.int (nI j) :: .ref b :: st) σ :=
  fun H locs ls hH hS hl => va_sld X.x X.b hX hbl hbA hS (vp_in_nI hj (by omega)) d (by rw [nI_clamp (by omega)]; exact K H locs ls hH hS hl)
theorem x_slen {p : Program} {l : Launch} {e : Env} {R : Room} {s : State} {m : MethodId} {args : Array Value} {below : List Frame} {meth : Method} {c : Code} {cc : ByteArray} {nL : Nat} {own : String} {ret : Option FieldType} {G : xG} {cells slots : Nat} {Q : State → Prop} {pc : Nat} {lv : List (Nat × Value)} {st : List Value} {σ : xS} (X : xC p s m meth c cc nL own ret G) {b L : Nat} {xs : Nat → Int32} (hX : va_X b L xs s s.heap) (hbl : b < s.heap.size) (hbA : ¬ xA G b) (d : decode cc pc = .ok (.arraylength, 1)) (K : xW p l e R s m args below meth c nL G cells slots Q (pc + 1) lv (.int (nI L) :: st) σ) : xW p l e R s m args below meth c nL G cells slots Q pc lv (.ref b :: st) σ :=
  fun H locs ls hH hS hl => va_slen X.x X.b hX hbl hbA hS d (K H locs ls hH hS hl)
theorem x_wid {p : Program} {l : Launch} {e : Env} {R : Room} {s : State} {m : MethodId} {args : Array Value} {below : List Frame} {meth : Method} {c : Code} {nL : Nat} {G : xG} {cells slots c2 s2 : Nat} {Q : State → Prop} {pc : Nat} {lv : List (Nat × Value)} {st : List Value} {σ : xS} (h1 : cells ≤ c2) (h2 : slots ≤ s2) (K : xW p l e R s m args below meth c nL G c2 s2 Q pc lv st σ) : xW p l e R s m args below meth c nL G cells slots Q pc lv st σ :=
  fun H locs ls hH hS hl => W.widen h1 h2 (K H locs ls hH hS hl)
theorem x_callW {p : Program} {l : Launch} {e : Env} {R : Room} {s : State} {m : MethodId} {args : Array Value} {below : List Frame} {meth : Method} {c : Code} {cc : ByteArray} {nL : Nat} {own : String} {ret : Option FieldType} {G : xG} {cells slots : Nat} {Q : State → Prop} {pc : Nat} {lv : List (Nat × Value)} {st rest As : List Value} {σ : xS} {y : MethodName} {bytes : ByteArray} {n f lo index k : Nat} {ry : Option FieldType} {hh : List (Nat × Nat × Nat × Nat)} {Post : Option Value → xS → Prop} (X : xC p s m meth c cc nL own ret G) (hKt : xKt G s s.heap) (hM : xMw l G y bytes n ry hh f lo As σ Post) (hn : xNm y k) (w1 : Cond.methodLink own index y ∈ lw_tbl) (w2 : Cond.static y ∈ lw_tbl) (w4 : Cond.initialized y.cls ∈ lw_tbl) (w5 : Cond.codeWith y bytes n ry hh ∈ lw_tbl) (d : decode cc pc = .ok (.invokestatic index, 3)) (hR : f + 1 ≤ R.frames ∧ 8 + (n + 11) + lo ≤ R.locals ∧ cells + 1 ≤ R.cells ∧ slots + 6 ≤ R.slots) (hst : st = As.reverse ++ rest) (hlen : As.length = k) (hw : (rest.map fun v => v.category).sum ≤ 8)
    (K : ∀ (r : Option Value) (τ : xS), Post r τ → xW p l e R s m args below meth c nL G (cells + 1) (slots + 6) Q (pc + 3) lv (r.toList ++ rest) τ) : xW p l e R s m args below meth c nL G cells slots Q pc lv st σ := by
  intro H locs ls hH hS hl
  intro T hT Xs
  obtain ⟨v, st₀, t, T', L, h0, X', hL, e1, e2, ⟨⟨r, τ, hv, hp, hb⟩, hz, hk⟩, sp⟩ := vx_runSW (Ts := []) (g := F0 m pc ls st) (rest := rest) ⟨X.x, X.b, X.ml, X.o, fun _ h => nomatch h⟩ hM ⟨⟨rfl, rfl, hR.1, hR.2.1, fun w hw a' U hW => by rw [List.mem_singleton.mp hw]; exact (hKt.moved hW).word w5 rfl, List.mem_cons_self⟩, hKt.word w5 rfl, X.k.word w4 rfl, ⟨hn.1, hn.2.1⟩, fun sig h => by
    have h2 := hn.2.2
    rw [h] at h2
    exact (Option.some.inj h2).symm, X.k.word w1 rfl, X.k.word w2 rfl⟩ ⟨xt_blind, fun U hU hW => ⟨rfl, by rw [hU]; exact hH, by rw [hU]; exact (hKt.kept hS).moved hW⟩⟩ rfl hlen hl.1 hst (lv_room hw) d ⟨hR.2.2.1, hR.2.2.2⟩ T hT Xs
  cases hv
  rw [h0] at hz hk
  obtain ⟨t2, a1, b1⟩ := K v τ hp T'.heap (locs ++ L) ls (by rw [e1]; exact hb) ⟨Nat.le_trans hS.1 (by rw [e1]; exact hz), fun q h1 h2 => by rw [e1, hk q (Nat.lt_of_lt_of_le h1 hS.1) h2]; exact hS.2.1 q h1 h2, fun q hq => by
      rcases List.mem_append.mp hq with h | h
      · exact hS.2.2 q h
      · exact hL q h⟩ hl T' rfl X'
  exact ⟨t2, sp t2 a1, b1⟩
theorem lawc {L i : Nat} (hL : L ≤ 3072) (hi : i ≤ L) (h : ¬ nI L - nI 6 < nI i) : i + 6 ≤ L := by
  rcases Nat.lt_or_ge L 6 with q | q
  · refine absurd ?_ h
    have e := nI_toInt (n := i) (by omega)
    rw [Int32.lt_iff_toInt_lt, e]
    rcases (show L = 0 ∨ L = 1 ∨ L = 2 ∨ L = 3 ∨ L = 4 ∨ L = 5 by omega) with rfl | rfl | rfl | rfl | rfl | rfl
    · rw [show (nI 0 - nI 6).toInt = -6 by decide]; omega
    · rw [show (nI 1 - nI 6).toInt = -5 by decide]; omega
    · rw [show (nI 2 - nI 6).toInt = -4 by decide]; omega
    · rw [show (nI 3 - nI 6).toInt = -3 by decide]; omega
    · rw [show (nI 4 - nI 6).toInt = -2 by decide]; omega
    · rw [show (nI 5 - nI 6).toInt = -1 by decide]; omega
  · rw [pk_sub (a := L) (b := 6) q] at h
    have h2 : ¬ (L - 6 < i) := fun z => h ((nI_ltI (by omega) (by omega)).mpr z)
    omega
/-- what stays the same in the law's loop -/
def nC (p : Program) (l : Launch) (s : State) (m : MethodId) (meth : Method) (c : Code) (G : xG) (b L : Nat) (xs : Nat → Int32) : Prop := xC p s m meth c cL_law 8 RL ret G ∧ xKt G s s.heap ∧ va_X b L xs s s.heap ∧ b < s.heap.size ∧ ¬ xA G b ∧ L ≤ 3072 ∧ l.stackTraces = false

theorem xnm_L_cost : xNm yL_cost 3 := ⟨by decide, by decide, by decide +kernel⟩
theorem xnm_L_row : xNm yL_row 4 := ⟨by decide, by decide, by decide +kernel⟩
theorem xnm_L_assumes : xNm yL_assumes 4 := ⟨by decide, by decide, by decide +kernel⟩
theorem xnm_L_holds : xNm yL_holds 4 := ⟨by decide, by decide, by decide +kernel⟩
theorem xnm_L_best : xNm yL_best 2 := ⟨by decide, by decide, by decide +kernel⟩
theorem xnm_L_least : xNm yL_least 2 := ⟨by decide, by decide, by decide +kernel⟩
theorem xnm_L_trim : xNm yL_trim 3 := ⟨by decide, by decide, by decide +kernel⟩
theorem xnm_L_number : xNm yL_number 3 := ⟨by decide, by decide, by decide +kernel⟩
set_option maxHeartbeats 4000000 in
set_option maxRecDepth 100000 in
theorem arm_put {p : Program} {l : Launch} {e : Env} {s : State} {m : MethodId} {args : Array Value} {below : List Frame} {meth : Method} {c : Code} {G : xG} {cells slots : Nat} {Q : State → Prop} {b L i : Nat} {xs : Nat → Int32} {σ : xS} (C : nC p l s m meth c G b L xs) (hi : i + 6 ≤ L) (hc : cells + 1 ≤ room_1.cells) (hs : slots + 6 ≤ room_1.slots) (hI : oI σ) (K : ∀ σ2, oI σ2 → xW p l e room_1 s m args below meth c 8 G (cells + 1) (slots + 6) Q 827 [(0, .ref b), (1, .ref (G.2.1 0)), (2, .ref (G.2.1 37)), (3, .ref (G.2.1 60)), (4, .int (nI i))] [] σ2) : xW p l e room_1 s m args below meth c 8 G cells slots Q 132 [(0, .ref b), (1, .ref (G.2.1 0)), (2, .ref (G.2.1 37)), (3, .ref (G.2.1 60)), (4, .int (nI i))] [] σ := by
  obtain ⟨X, hKt, hX, hbl, hbA, hL, hst⟩ := C
  obtain ⟨v, J, h8, h9⟩ := n_put (l := l) (G := G) (n := xs (i + 1)) (a := xs (i + 2)) (b := xs (i + 3)) (c := xs (i + 4)) (d := xs (i + 5)) hI
  refine x_aload_n X dL_law_132 rfl ?_
  refine x_aload_n X dL_law_133 rfl ?_
  refine x_iload X dL_law_134 rfl ?_
  refine x_iconst (v := nI 1) X dL_law_136 (by decide) ?_
  refine x_iadd X dL_law_137 ?_
  rw [nI_add i 1]
  refine x_sld X hX hbl hbA (by omega) hL dL_law_138 ?_
  refine x_aload_n X dL_law_139 rfl ?_
  refine x_iload X dL_law_140 rfl ?_
  refine x_iconst (v := nI 2) X dL_law_142 (by decide) ?_
  refine x_iadd X dL_law_143 ?_
  rw [nI_add i 2]
  refine x_sld X hX hbl hbA (by omega) hL dL_law_144 ?_
  refine x_aload_n X dL_law_145 rfl ?_
  refine x_iload X dL_law_146 rfl ?_
  refine x_iconst (v := nI 3) X dL_law_148 (by decide) ?_
  refine x_iadd X dL_law_149 ?_
  rw [nI_add i 3]
  refine x_sld X hX hbl hbA (by omega) hL dL_law_150 ?_
  refine x_aload_n X dL_law_151 rfl ?_
  refine x_iload X dL_law_152 rfl ?_
  refine x_iconst (v := nI 4) X dL_law_154 (by decide) ?_
  refine x_iadd X dL_law_155 ?_
  rw [nI_add i 4]
  refine x_sld X hX hbl hbA (by omega) hL dL_law_156 ?_
  refine x_aload_n X dL_law_157 rfl ?_
  refine x_iload X dL_law_158 rfl ?_
  refine x_iconst (v := nI 5) X dL_law_160 (by decide) ?_
  refine x_iadd X dL_law_161 ?_
  rw [nI_add i 5]
  refine x_sld X hX hbl hbA (by omega) hL dL_law_162 ?_
  refine cv_L_46 X h8 dL_law_163 rfl ⟨Nat.le_of_ble_eq_true rfl, Nat.le_of_ble_eq_true rfl, by omega, by omega⟩ rfl rfl (Nat.le_of_ble_eq_true rfl) (fun r0 u hp => ?_)
  obtain ⟨rfl, hJ⟩ := hp
  refine x_aload_n X dL_law_166 rfl ?_
  refine x_aload_n X dL_law_167 rfl ?_
  refine x_iload X dL_law_168 rfl ?_
  refine x_iconst (v := nI 1) X dL_law_170 (by decide) ?_
  refine x_iadd X dL_law_171 ?_
  rw [nI_add i 1]
  refine x_sld X hX hbl hbA (by omega) hL dL_law_172 ?_
  refine x_aload_n X dL_law_173 rfl ?_
  refine x_iload X dL_law_174 rfl ?_
  refine x_iconst (v := nI 2) X dL_law_176 (by decide) ?_
  refine x_iadd X dL_law_177 ?_
  rw [nI_add i 2]
  refine x_sld X hX hbl hbA (by omega) hL dL_law_178 ?_
  refine x_aload_n X dL_law_179 rfl ?_
  refine x_iload X dL_law_180 rfl ?_
  refine x_iconst (v := nI 3) X dL_law_182 (by decide) ?_
  refine x_iadd X dL_law_183 ?_
  rw [nI_add i 3]
  refine x_sld X hX hbl hbA (by omega) hL dL_law_184 ?_
  refine x_aload_n X dL_law_185 rfl ?_
  refine x_iload X dL_law_186 rfl ?_
  refine x_iconst (v := nI 4) X dL_law_188 (by decide) ?_
  refine x_iadd X dL_law_189 ?_
  rw [nI_add i 4]
  refine x_sld X hX hbl hbA (by omega) hL dL_law_190 ?_
  refine x_aload_n X dL_law_191 rfl ?_
  refine x_iload X dL_law_192 rfl ?_
  refine x_iconst (v := nI 5) X dL_law_194 (by decide) ?_
  refine x_iadd X dL_law_195 ?_
  rw [nI_add i 5]
  refine x_sld X hX hbl hbA (by omega) hL dL_law_196 ?_
  refine cv_L_50 X (h9 u hJ) dL_law_197 rfl ⟨Nat.le_of_ble_eq_true rfl, Nat.le_of_ble_eq_true rfl, by omega, by omega⟩ rfl rfl (Nat.le_of_ble_eq_true rfl) (fun r1 w hp => ?_)
  obtain ⟨rfl, hI2⟩ := hp
  refine x_icmpeq (tgt := 827) X dL_law_200 (by decide) (fun _ => ?_) (fun h => absurd rfl h)
  exact x_wid (by omega) (by omega) (K w hI2)
set_option maxHeartbeats 4000000 in
set_option maxRecDepth 100000 in
theorem arm_drop {p : Program} {l : Launch} {e : Env} {s : State} {m : MethodId} {args : Array Value} {below : List Frame} {meth : Method} {c : Code} {G : xG} {cells slots : Nat} {Q : State → Prop} {b L i : Nat} {xs : Nat → Int32} {σ : xS} (C : nC p l s m meth c G b L xs) (hi : i + 6 ≤ L) (hc : cells + 1 ≤ room_1.cells) (hs : slots + 6 ≤ room_1.slots) (hI : oI σ) (K : ∀ σ2, oI σ2 → xW p l e room_1 s m args below meth c 8 G (cells + 1) (slots + 6) Q 827 [(0, .ref b), (1, .ref (G.2.1 0)), (2, .ref (G.2.1 37)), (3, .ref (G.2.1 60)), (4, .int (nI i))] [] σ2) : xW p l e room_1 s m args below meth c 8 G cells slots Q 205 [(0, .ref b), (1, .ref (G.2.1 0)), (2, .ref (G.2.1 37)), (3, .ref (G.2.1 60)), (4, .int (nI i))] [] σ := by
  obtain ⟨X, hKt, hX, hbl, hbA, hL, hst⟩ := C
  obtain ⟨v, J, h8, h9⟩ := n_drop (l := l) (G := G)  hI
  refine x_aload_n X dL_law_205 rfl ?_
  refine cv_L_51 X h8 dL_law_206 rfl ⟨Nat.le_of_ble_eq_true rfl, Nat.le_of_ble_eq_true rfl, by omega, by omega⟩ rfl rfl (Nat.le_of_ble_eq_true rfl) (fun r0 u hp => ?_)
  obtain ⟨rfl, hJ⟩ := hp
  refine x_aload_n X dL_law_209 rfl ?_
  refine cv_L_55 X (h9 u hJ) dL_law_210 rfl ⟨Nat.le_of_ble_eq_true rfl, Nat.le_of_ble_eq_true rfl, by omega, by omega⟩ rfl rfl (Nat.le_of_ble_eq_true rfl) (fun r1 w hp => ?_)
  obtain ⟨rfl, hI2⟩ := hp
  refine x_icmpeq (tgt := 827) X dL_law_213 (by decide) (fun _ => ?_) (fun h => absurd rfl h)
  exact x_wid (by omega) (by omega) (K w hI2)
set_option maxHeartbeats 4000000 in
set_option maxRecDepth 100000 in
theorem arm_model {p : Program} {l : Launch} {e : Env} {s : State} {m : MethodId} {args : Array Value} {below : List Frame} {meth : Method} {c : Code} {G : xG} {cells slots : Nat} {Q : State → Prop} {b L i : Nat} {xs : Nat → Int32} {σ : xS} (C : nC p l s m meth c G b L xs) (hi : i + 6 ≤ L) (hc : cells + 1 ≤ room_1.cells) (hs : slots + 6 ≤ room_1.slots) (hI : oI σ) (K : ∀ σ2, oI σ2 → xW p l e room_1 s m args below meth c 8 G (cells + 1) (slots + 6) Q 827 [(0, .ref b), (1, .ref (G.2.1 0)), (2, .ref (G.2.1 37)), (3, .ref (G.2.1 60)), (4, .int (nI i))] [] σ2) : xW p l e room_1 s m args below meth c 8 G cells slots Q 218 [(0, .ref b), (1, .ref (G.2.1 0)), (2, .ref (G.2.1 37)), (3, .ref (G.2.1 60)), (4, .int (nI i))] [] σ := by
  obtain ⟨X, hKt, hX, hbl, hbA, hL, hst⟩ := C
  obtain ⟨v, J, h8, h9⟩ := n_model (l := l) (G := G)  hI
  refine x_aload_n X dL_law_218 rfl ?_
  refine cv_L_56 X h8 dL_law_219 rfl ⟨Nat.le_of_ble_eq_true rfl, Nat.le_of_ble_eq_true rfl, by omega, by omega⟩ rfl rfl (Nat.le_of_ble_eq_true rfl) (fun r0 u hp => ?_)
  obtain ⟨rfl, hJ⟩ := hp
  refine x_aload_n X dL_law_222 rfl ?_
  refine cv_L_59 X (h9 u hJ) dL_law_223 rfl ⟨Nat.le_of_ble_eq_true rfl, Nat.le_of_ble_eq_true rfl, by omega, by omega⟩ rfl rfl (Nat.le_of_ble_eq_true rfl) (fun r1 w hp => ?_)
  obtain ⟨rfl, hI2⟩ := hp
  refine x_icmpeq (tgt := 827) X dL_law_226 (by decide) (fun _ => ?_) (fun h => absurd rfl h)
  exact x_wid (by omega) (by omega) (K w hI2)
set_option maxHeartbeats 4000000 in
set_option maxRecDepth 100000 in
theorem arm_plan {p : Program} {l : Launch} {e : Env} {s : State} {m : MethodId} {args : Array Value} {below : List Frame} {meth : Method} {c : Code} {G : xG} {cells slots : Nat} {Q : State → Prop} {b L i : Nat} {xs : Nat → Int32} {σ : xS} (C : nC p l s m meth c G b L xs) (hi : i + 6 ≤ L) (hc : cells + 1 ≤ room_1.cells) (hs : slots + 6 ≤ room_1.slots) (hI : oI σ) (K : ∀ σ2, oI σ2 → xW p l e room_1 s m args below meth c 8 G (cells + 1) (slots + 6) Q 827 [(0, .ref b), (1, .ref (G.2.1 0)), (2, .ref (G.2.1 37)), (3, .ref (G.2.1 60)), (4, .int (nI i))] [] σ2) : xW p l e room_1 s m args below meth c 8 G cells slots Q 231 [(0, .ref b), (1, .ref (G.2.1 0)), (2, .ref (G.2.1 37)), (3, .ref (G.2.1 60)), (4, .int (nI i))] [] σ := by
  obtain ⟨X, hKt, hX, hbl, hbA, hL, hst⟩ := C
  obtain ⟨v, J, h8, h9⟩ := n_plan (l := l) (G := G)  hI
  refine x_aload_n X dL_law_231 rfl ?_
  refine cv_L_60 X h8 dL_law_232 rfl ⟨Nat.le_of_ble_eq_true rfl, Nat.le_of_ble_eq_true rfl, by omega, by omega⟩ rfl rfl (Nat.le_of_ble_eq_true rfl) (fun r0 u hp => ?_)
  obtain ⟨rfl, hJ⟩ := hp
  refine x_aload_n X dL_law_235 rfl ?_
  refine cv_L_63 X (h9 u hJ) dL_law_236 rfl ⟨Nat.le_of_ble_eq_true rfl, Nat.le_of_ble_eq_true rfl, by omega, by omega⟩ rfl rfl (Nat.le_of_ble_eq_true rfl) (fun r1 w hp => ?_)
  obtain ⟨rfl, hI2⟩ := hp
  refine x_icmpeq (tgt := 827) X dL_law_239 (by decide) (fun _ => ?_) (fun h => absurd rfl h)
  exact x_wid (by omega) (by omega) (K w hI2)
set_option maxHeartbeats 4000000 in
set_option maxRecDepth 100000 in
theorem arm_breaks {p : Program} {l : Launch} {e : Env} {s : State} {m : MethodId} {args : Array Value} {below : List Frame} {meth : Method} {c : Code} {G : xG} {cells slots : Nat} {Q : State → Prop} {b L i : Nat} {xs : Nat → Int32} {σ : xS} (C : nC p l s m meth c G b L xs) (hi : i + 6 ≤ L) (hc : cells + 1 ≤ room_1.cells) (hs : slots + 6 ≤ room_1.slots) (hI : oI σ) (K : ∀ σ2, oI σ2 → xW p l e room_1 s m args below meth c 8 G (cells + 1) (slots + 6) Q 827 [(0, .ref b), (1, .ref (G.2.1 0)), (2, .ref (G.2.1 37)), (3, .ref (G.2.1 60)), (4, .int (nI i))] [] σ2) : xW p l e room_1 s m args below meth c 8 G cells slots Q 244 [(0, .ref b), (1, .ref (G.2.1 0)), (2, .ref (G.2.1 37)), (3, .ref (G.2.1 60)), (4, .int (nI i))] [] σ := by
  obtain ⟨X, hKt, hX, hbl, hbA, hL, hst⟩ := C
  obtain ⟨v, J, h8, h9⟩ := n_breaks (l := l) (G := G) (x := xs (i + 1)) hI
  refine x_aload_n X dL_law_244 rfl ?_
  refine x_aload_n X dL_law_245 rfl ?_
  refine x_iload X dL_law_246 rfl ?_
  refine x_iconst (v := nI 1) X dL_law_248 (by decide) ?_
  refine x_iadd X dL_law_249 ?_
  rw [nI_add i 1]
  refine x_sld X hX hbl hbA (by omega) hL dL_law_250 ?_
  refine cv_L_64 X h8 dL_law_251 rfl ⟨Nat.le_of_ble_eq_true rfl, Nat.le_of_ble_eq_true rfl, by omega, by omega⟩ rfl rfl (Nat.le_of_ble_eq_true rfl) (fun r0 u hp => ?_)
  obtain ⟨rfl, hJ⟩ := hp
  refine x_aload_n X dL_law_254 rfl ?_
  refine x_aload_n X dL_law_255 rfl ?_
  refine x_iload X dL_law_256 rfl ?_
  refine x_iconst (v := nI 1) X dL_law_258 (by decide) ?_
  refine x_iadd X dL_law_259 ?_
  rw [nI_add i 1]
  refine x_sld X hX hbl hbA (by omega) hL dL_law_260 ?_
  refine cv_L_67 X (h9 u hJ) dL_law_261 rfl ⟨Nat.le_of_ble_eq_true rfl, Nat.le_of_ble_eq_true rfl, by omega, by omega⟩ rfl rfl (Nat.le_of_ble_eq_true rfl) (fun r1 w hp => ?_)
  obtain ⟨rfl, hI2⟩ := hp
  refine x_icmpeq (tgt := 827) X dL_law_264 (by decide) (fun _ => ?_) (fun h => absurd rfl h)
  exact x_wid (by omega) (by omega) (K w hI2)
set_option maxHeartbeats 4000000 in
set_option maxRecDepth 100000 in
theorem arm_cost {p : Program} {l : Launch} {e : Env} {s : State} {m : MethodId} {args : Array Value} {below : List Frame} {meth : Method} {c : Code} {G : xG} {cells slots : Nat} {Q : State → Prop} {b L i : Nat} {xs : Nat → Int32} {σ : xS} (C : nC p l s m meth c G b L xs) (hi : i + 6 ≤ L) (hc : cells + 1 ≤ room_1.cells) (hs : slots + 6 ≤ room_1.slots) (hI : oI σ) (K : ∀ σ2, oI σ2 → xW p l e room_1 s m args below meth c 8 G (cells + 1) (slots + 6) Q 827 [(0, .ref b), (1, .ref (G.2.1 0)), (2, .ref (G.2.1 37)), (3, .ref (G.2.1 60)), (4, .int (nI i))] [] σ2) : xW p l e room_1 s m args below meth c 8 G cells slots Q 269 [(0, .ref b), (1, .ref (G.2.1 0)), (2, .ref (G.2.1 37)), (3, .ref (G.2.1 60)), (4, .int (nI i))] [] σ := by
  obtain ⟨X, hKt, hX, hbl, hbA, hL, hst⟩ := C
  obtain ⟨k0, v, J, h8, h9⟩ := n_cost (l := l) (G := G) (q := xs (i + 1)) hst hI
  refine x_aload_n X dL_law_269 rfl ?_
  refine x_aload_n X dL_law_270 rfl ?_
  refine x_iload X dL_law_271 rfl ?_
  refine x_iconst (v := nI 1) X dL_law_273 (by decide) ?_
  refine x_iadd X dL_law_274 ?_
  rw [nI_add i 1]
  refine x_sld X hX hbl hbA (by omega) hL dL_law_275 ?_
  refine x_aload_n X dL_law_276 rfl ?_
  refine x_callW X hKt h8 xnm_L_cost wl_L_68 wt_L_cost wi_L wc_L_cost dL_law_277 ⟨Nat.le_of_ble_eq_true rfl, Nat.le_of_ble_eq_true rfl, by omega, by omega⟩ rfl rfl (Nat.le_of_ble_eq_true rfl) (fun r0 u hp => ?_)
  obtain ⟨rfl, hJ⟩ := hp
  refine x_istore (lv' := [(5, .int k0), (0, .ref b), (1, .ref (G.2.1 0)), (2, .ref (G.2.1 37)), (3, .ref (G.2.1 60)), (4, .int (nI i))]) X dL_law_280 (by decide) rfl ?_
  refine x_aload_n X dL_law_282 rfl ?_
  refine x_aload_n X dL_law_283 rfl ?_
  refine x_iload X dL_law_284 rfl ?_
  refine x_iconst (v := nI 1) X dL_law_286 (by decide) ?_
  refine x_iadd X dL_law_287 ?_
  rw [nI_add i 1]
  refine x_sld X hX hbl hbA (by omega) hL dL_law_288 ?_
  refine cv_L_73 X (h9 u hJ) dL_law_289 rfl ⟨Nat.le_of_ble_eq_true rfl, Nat.le_of_ble_eq_true rfl, by omega, by omega⟩ rfl rfl (Nat.le_of_ble_eq_true rfl) (fun r1 w hp => ?_)
  obtain ⟨rfl, hI2, hk, hv⟩ := hp
  refine x_lstore (lv' := [(6, .long v), (5, .int k0), (0, .ref b), (1, .ref (G.2.1 0)), (2, .ref (G.2.1 37)), (3, .ref (G.2.1 60)), (4, .int (nI i))]) X dL_law_292 (by decide) rfl ?_
  refine x_aload_n X dL_law_294 rfl ?_
  refine cv_L_74 X c_X9_thrown dL_law_295 rfl ⟨Nat.le_of_ble_eq_true rfl, Nat.le_of_ble_eq_true rfl, by omega, by omega⟩ rfl rfl (Nat.le_of_ble_eq_true rfl) (xk_i ?_)
  refine x_iload X dL_law_298 rfl ?_
  refine x_icmpeq (tgt := 305) X dL_law_300 (by decide) (fun _ => ?_) (fun h => absurd hk h)
  refine x_iload X dL_law_305 rfl ?_
  refine x_ifne (tgt := 321) X dL_law_307 (by decide) (fun _ => ?_) (fun hz => ?_)
  · refine x_goto (tgt := 827) X dL_law_321 (by decide) ?_
    refine x_pick [2, 3, 4, 5, 6] rfl ?_
    exact K w hI2
  refine x_aload_n X dL_law_310 rfl ?_
  refine x_iconst (v := nI 0) X dL_law_311 (by decide) ?_
  refine x_laldN X dL_law_312 rfl (by omega) (by omega) ?_
  refine x_lload X dL_law_313 rfl ?_
  refine x_lcmp X dL_law_315 ?_
  refine x_ifeq (tgt := 321) X dL_law_316 (by decide) (fun _ => ?_) (fun h => absurd (by rw [lg_cmp_eq]; exact hv hz) h)
  refine x_goto (tgt := 827) X dL_law_321 (by decide) ?_
  refine x_pick [2, 3, 4, 5, 6] rfl ?_
  exact K w hI2
set_option maxHeartbeats 4000000 in
set_option maxRecDepth 100000 in
theorem arm_digest {p : Program} {l : Launch} {e : Env} {s : State} {m : MethodId} {args : Array Value} {below : List Frame} {meth : Method} {c : Code} {G : xG} {cells slots : Nat} {Q : State → Prop} {b L i : Nat} {xs : Nat → Int32} {σ : xS} (C : nC p l s m meth c G b L xs) (hi : i + 6 ≤ L) (hc : cells + 1 ≤ room_1.cells) (hs : slots + 6 ≤ room_1.slots) (hI : oI σ) (K : ∀ σ2, oI σ2 → xW p l e room_1 s m args below meth c 8 G (cells + 1) (slots + 6) Q 827 [(0, .ref b), (1, .ref (G.2.1 0)), (2, .ref (G.2.1 37)), (3, .ref (G.2.1 60)), (4, .int (nI i))] [] σ2) : xW p l e room_1 s m args below meth c 8 G cells slots Q 324 [(0, .ref b), (1, .ref (G.2.1 0)), (2, .ref (G.2.1 37)), (3, .ref (G.2.1 60)), (4, .int (nI i))] [] σ := by
  obtain ⟨X, hKt, hX, hbl, hbA, hL, hst⟩ := C
  obtain ⟨v, J, h8, h9⟩ := n_digest (l := l) (G := G)  hI
  refine x_aload_n X dL_law_324 rfl ?_
  refine cv_L_77 X h8 dL_law_325 rfl ⟨Nat.le_of_ble_eq_true rfl, Nat.le_of_ble_eq_true rfl, by omega, by omega⟩ rfl rfl (Nat.le_of_ble_eq_true rfl) (fun r0 u hp => ?_)
  obtain ⟨rfl, hJ⟩ := hp
  refine x_aload_n X dL_law_328 rfl ?_
  refine cv_L_80 X (h9 u hJ) dL_law_329 rfl ⟨Nat.le_of_ble_eq_true rfl, Nat.le_of_ble_eq_true rfl, by omega, by omega⟩ rfl rfl (Nat.le_of_ble_eq_true rfl) (fun r1 w hp => ?_)
  obtain ⟨rfl, hI2⟩ := hp
  refine x_icmpeq (tgt := 827) X dL_law_332 (by decide) (fun _ => ?_) (fun h => absurd rfl h)
  exact x_wid (by omega) (by omega) (K w hI2)
set_option maxHeartbeats 4000000 in
set_option maxRecDepth 100000 in
theorem arm_begin {p : Program} {l : Launch} {e : Env} {s : State} {m : MethodId} {args : Array Value} {below : List Frame} {meth : Method} {c : Code} {G : xG} {cells slots : Nat} {Q : State → Prop} {b L i : Nat} {xs : Nat → Int32} {σ : xS} (C : nC p l s m meth c G b L xs) (hi : i + 6 ≤ L) (hc : cells + 1 ≤ room_1.cells) (hs : slots + 6 ≤ room_1.slots) (hI : oI σ) (K : ∀ σ2, oI σ2 → xW p l e room_1 s m args below meth c 8 G (cells + 1) (slots + 6) Q 827 [(0, .ref b), (1, .ref (G.2.1 0)), (2, .ref (G.2.1 37)), (3, .ref (G.2.1 60)), (4, .int (nI i))] [] σ2) : xW p l e room_1 s m args below meth c 8 G cells slots Q 337 [(0, .ref b), (1, .ref (G.2.1 0)), (2, .ref (G.2.1 37)), (3, .ref (G.2.1 60)), (4, .int (nI i))] [] σ := by
  obtain ⟨X, hKt, hX, hbl, hbA, hL, hst⟩ := C
  obtain ⟨v, J, h8, h9⟩ := n_begin (l := l) (G := G)  hI
  refine x_aload_n X dL_law_337 rfl ?_
  refine cv_L_81 X h8 dL_law_338 rfl ⟨Nat.le_of_ble_eq_true rfl, Nat.le_of_ble_eq_true rfl, by omega, by omega⟩ rfl rfl (Nat.le_of_ble_eq_true rfl) (fun r0 u hp => ?_)
  obtain ⟨rfl, hJ⟩ := hp
  refine x_aload_n X dL_law_341 rfl ?_
  refine cv_L_84 X (h9 u hJ) dL_law_342 rfl ⟨Nat.le_of_ble_eq_true rfl, Nat.le_of_ble_eq_true rfl, by omega, by omega⟩ rfl rfl (Nat.le_of_ble_eq_true rfl) (fun r1 w hp => ?_)
  obtain ⟨rfl, hI2⟩ := hp
  refine x_icmpeq (tgt := 827) X dL_law_345 (by decide) (fun _ => ?_) (fun h => absurd rfl h)
  exact x_wid (by omega) (by omega) (K w hI2)
set_option maxHeartbeats 4000000 in
set_option maxRecDepth 100000 in
theorem arm_read {p : Program} {l : Launch} {e : Env} {s : State} {m : MethodId} {args : Array Value} {below : List Frame} {meth : Method} {c : Code} {G : xG} {cells slots : Nat} {Q : State → Prop} {b L i : Nat} {xs : Nat → Int32} {σ : xS} (C : nC p l s m meth c G b L xs) (hi : i + 6 ≤ L) (hc : cells + 1 ≤ room_1.cells) (hs : slots + 6 ≤ room_1.slots) (hI : oI σ) (K : ∀ σ2, oI σ2 → xW p l e room_1 s m args below meth c 8 G (cells + 1) (slots + 6) Q 827 [(0, .ref b), (1, .ref (G.2.1 0)), (2, .ref (G.2.1 37)), (3, .ref (G.2.1 60)), (4, .int (nI i))] [] σ2) : xW p l e room_1 s m args below meth c 8 G cells slots Q 350 [(0, .ref b), (1, .ref (G.2.1 0)), (2, .ref (G.2.1 37)), (3, .ref (G.2.1 60)), (4, .int (nI i))] [] σ := by
  obtain ⟨X, hKt, hX, hbl, hbA, hL, hst⟩ := C
  obtain ⟨v, J, h8, h9⟩ := n_read (l := l) (G := G)  hI
  refine x_aload_n X dL_law_350 rfl ?_
  refine cv_L_85 X h8 dL_law_351 rfl ⟨Nat.le_of_ble_eq_true rfl, Nat.le_of_ble_eq_true rfl, by omega, by omega⟩ rfl rfl (Nat.le_of_ble_eq_true rfl) (fun r0 u hp => ?_)
  obtain ⟨rfl, hJ⟩ := hp
  refine x_aload_n X dL_law_354 rfl ?_
  refine cv_L_88 X (h9 u hJ) dL_law_355 rfl ⟨Nat.le_of_ble_eq_true rfl, Nat.le_of_ble_eq_true rfl, by omega, by omega⟩ rfl rfl (Nat.le_of_ble_eq_true rfl) (fun r1 w hp => ?_)
  obtain ⟨rfl, hI2⟩ := hp
  refine x_icmpeq (tgt := 827) X dL_law_358 (by decide) (fun _ => ?_) (fun h => absurd rfl h)
  exact x_wid (by omega) (by omega) (K w hI2)
set_option maxHeartbeats 4000000 in
set_option maxRecDepth 100000 in
theorem arm_fault {p : Program} {l : Launch} {e : Env} {s : State} {m : MethodId} {args : Array Value} {below : List Frame} {meth : Method} {c : Code} {G : xG} {cells slots : Nat} {Q : State → Prop} {b L i : Nat} {xs : Nat → Int32} {σ : xS} (C : nC p l s m meth c G b L xs) (hi : i + 6 ≤ L) (hc : cells + 1 ≤ room_1.cells) (hs : slots + 6 ≤ room_1.slots) (hI : oI σ) (K : ∀ σ2, oI σ2 → xW p l e room_1 s m args below meth c 8 G (cells + 1) (slots + 6) Q 827 [(0, .ref b), (1, .ref (G.2.1 0)), (2, .ref (G.2.1 37)), (3, .ref (G.2.1 60)), (4, .int (nI i))] [] σ2) : xW p l e room_1 s m args below meth c 8 G cells slots Q 363 [(0, .ref b), (1, .ref (G.2.1 0)), (2, .ref (G.2.1 37)), (3, .ref (G.2.1 60)), (4, .int (nI i))] [] σ := by
  obtain ⟨X, hKt, hX, hbl, hbA, hL, hst⟩ := C
  obtain ⟨v, J, h8, h9⟩ := n_fault (l := l) (G := G) (w := xs (i + 1)) hI
  refine x_aload_n X dL_law_363 rfl ?_
  refine x_aload_n X dL_law_364 rfl ?_
  refine x_iload X dL_law_365 rfl ?_
  refine x_iconst (v := nI 1) X dL_law_367 (by decide) ?_
  refine x_iadd X dL_law_368 ?_
  rw [nI_add i 1]
  refine x_sld X hX hbl hbA (by omega) hL dL_law_369 ?_
  refine cv_L_89 X h8 dL_law_370 rfl ⟨Nat.le_of_ble_eq_true rfl, Nat.le_of_ble_eq_true rfl, by omega, by omega⟩ rfl rfl (Nat.le_of_ble_eq_true rfl) (fun r0 u hp => ?_)
  obtain ⟨rfl, hJ⟩ := hp
  refine x_aload_n X dL_law_373 rfl ?_
  refine x_aload_n X dL_law_374 rfl ?_
  refine x_iload X dL_law_375 rfl ?_
  refine x_iconst (v := nI 1) X dL_law_377 (by decide) ?_
  refine x_iadd X dL_law_378 ?_
  rw [nI_add i 1]
  refine x_sld X hX hbl hbA (by omega) hL dL_law_379 ?_
  refine cv_L_92 X (h9 u hJ) dL_law_380 rfl ⟨Nat.le_of_ble_eq_true rfl, Nat.le_of_ble_eq_true rfl, by omega, by omega⟩ rfl rfl (Nat.le_of_ble_eq_true rfl) (fun r1 w hp => ?_)
  obtain ⟨rfl, hI2⟩ := hp
  refine x_icmpeq (tgt := 827) X dL_law_383 (by decide) (fun _ => ?_) (fun h => absurd rfl h)
  exact x_wid (by omega) (by omega) (K w hI2)
set_option maxHeartbeats 4000000 in
set_option maxRecDepth 100000 in
theorem arm_row {p : Program} {l : Launch} {e : Env} {s : State} {m : MethodId} {args : Array Value} {below : List Frame} {meth : Method} {c : Code} {G : xG} {cells slots : Nat} {Q : State → Prop} {b L i : Nat} {xs : Nat → Int32} {σ : xS} (C : nC p l s m meth c G b L xs) (hi : i + 6 ≤ L) (hc : cells + 1 ≤ room_1.cells) (hs : slots + 6 ≤ room_1.slots) (hI : oI σ) (K : ∀ σ2, oI σ2 → xW p l e room_1 s m args below meth c 8 G (cells + 1) (slots + 6) Q 827 [(0, .ref b), (1, .ref (G.2.1 0)), (2, .ref (G.2.1 37)), (3, .ref (G.2.1 60)), (4, .int (nI i))] [] σ2) : xW p l e room_1 s m args below meth c 8 G cells slots Q 388 [(0, .ref b), (1, .ref (G.2.1 0)), (2, .ref (G.2.1 37)), (3, .ref (G.2.1 60)), (4, .int (nI i))] [] σ := by
  obtain ⟨X, hKt, hX, hbl, hbA, hL, hst⟩ := C
  obtain ⟨k0, v, J, h8, h9⟩ := n_row (l := l) (G := G) (q := xs (i + 1)) (i := xs (i + 2)) hst hI
  refine x_aload_n X dL_law_388 rfl ?_
  refine x_aload_n X dL_law_389 rfl ?_
  refine x_iload X dL_law_390 rfl ?_
  refine x_iconst (v := nI 1) X dL_law_392 (by decide) ?_
  refine x_iadd X dL_law_393 ?_
  rw [nI_add i 1]
  refine x_sld X hX hbl hbA (by omega) hL dL_law_394 ?_
  refine x_aload_n X dL_law_395 rfl ?_
  refine x_iload X dL_law_396 rfl ?_
  refine x_iconst (v := nI 2) X dL_law_398 (by decide) ?_
  refine x_iadd X dL_law_399 ?_
  rw [nI_add i 2]
  refine x_sld X hX hbl hbA (by omega) hL dL_law_400 ?_
  refine x_aload_n X dL_law_401 rfl ?_
  refine x_callW X hKt h8 xnm_L_row wl_L_93 wt_L_row wi_L wc_L_row dL_law_402 ⟨Nat.le_of_ble_eq_true rfl, Nat.le_of_ble_eq_true rfl, by omega, by omega⟩ rfl rfl (Nat.le_of_ble_eq_true rfl) (fun r0 u hp => ?_)
  obtain ⟨rfl, hJ⟩ := hp
  refine x_istore (lv' := [(5, .int k0), (0, .ref b), (1, .ref (G.2.1 0)), (2, .ref (G.2.1 37)), (3, .ref (G.2.1 60)), (4, .int (nI i))]) X dL_law_405 (by decide) rfl ?_
  refine x_aload_n X dL_law_407 rfl ?_
  refine x_aload_n X dL_law_408 rfl ?_
  refine x_iload X dL_law_409 rfl ?_
  refine x_iconst (v := nI 1) X dL_law_411 (by decide) ?_
  refine x_iadd X dL_law_412 ?_
  rw [nI_add i 1]
  refine x_sld X hX hbl hbA (by omega) hL dL_law_413 ?_
  refine x_aload_n X dL_law_414 rfl ?_
  refine x_iload X dL_law_415 rfl ?_
  refine x_iconst (v := nI 2) X dL_law_417 (by decide) ?_
  refine x_iadd X dL_law_418 ?_
  rw [nI_add i 2]
  refine x_sld X hX hbl hbA (by omega) hL dL_law_419 ?_
  refine cv_L_96 X (h9 u hJ) dL_law_420 rfl ⟨Nat.le_of_ble_eq_true rfl, Nat.le_of_ble_eq_true rfl, by omega, by omega⟩ rfl rfl (Nat.le_of_ble_eq_true rfl) (fun r1 w hp => ?_)
  obtain ⟨rfl, hI2, hk, hv⟩ := hp
  refine x_lstore (lv' := [(6, .long v), (5, .int k0), (0, .ref b), (1, .ref (G.2.1 0)), (2, .ref (G.2.1 37)), (3, .ref (G.2.1 60)), (4, .int (nI i))]) X dL_law_423 (by decide) rfl ?_
  refine x_aload_n X dL_law_425 rfl ?_
  refine cv_L_74 X c_X9_thrown dL_law_426 rfl ⟨Nat.le_of_ble_eq_true rfl, Nat.le_of_ble_eq_true rfl, by omega, by omega⟩ rfl rfl (Nat.le_of_ble_eq_true rfl) (xk_i ?_)
  refine x_iload X dL_law_429 rfl ?_
  refine x_icmpeq (tgt := 436) X dL_law_431 (by decide) (fun _ => ?_) (fun h => absurd hk h)
  refine x_iload X dL_law_436 rfl ?_
  refine x_ifne (tgt := 452) X dL_law_438 (by decide) (fun _ => ?_) (fun hz => ?_)
  · refine x_goto (tgt := 827) X dL_law_452 (by decide) ?_
    refine x_pick [2, 3, 4, 5, 6] rfl ?_
    exact K w hI2
  refine x_aload_n X dL_law_441 rfl ?_
  refine x_iconst (v := nI 0) X dL_law_442 (by decide) ?_
  refine x_laldN X dL_law_443 rfl (by omega) (by omega) ?_
  refine x_lload X dL_law_444 rfl ?_
  refine x_lcmp X dL_law_446 ?_
  refine x_ifeq (tgt := 452) X dL_law_447 (by decide) (fun _ => ?_) (fun h => absurd (by rw [lg_cmp_eq]; exact hv hz) h)
  refine x_goto (tgt := 827) X dL_law_452 (by decide) ?_
  refine x_pick [2, 3, 4, 5, 6] rfl ?_
  exact K w hI2
set_option maxHeartbeats 4000000 in
set_option maxRecDepth 100000 in
theorem arm_assumes {p : Program} {l : Launch} {e : Env} {s : State} {m : MethodId} {args : Array Value} {below : List Frame} {meth : Method} {c : Code} {G : xG} {cells slots : Nat} {Q : State → Prop} {b L i : Nat} {xs : Nat → Int32} {σ : xS} (C : nC p l s m meth c G b L xs) (hi : i + 6 ≤ L) (hc : cells + 1 ≤ room_1.cells) (hs : slots + 6 ≤ room_1.slots) (hI : oI σ) (K : ∀ σ2, oI σ2 → xW p l e room_1 s m args below meth c 8 G (cells + 1) (slots + 6) Q 827 [(0, .ref b), (1, .ref (G.2.1 0)), (2, .ref (G.2.1 37)), (3, .ref (G.2.1 60)), (4, .int (nI i))] [] σ2) : xW p l e room_1 s m args below meth c 8 G cells slots Q 455 [(0, .ref b), (1, .ref (G.2.1 0)), (2, .ref (G.2.1 37)), (3, .ref (G.2.1 60)), (4, .int (nI i))] [] σ := by
  obtain ⟨X, hKt, hX, hbl, hbA, hL, hst⟩ := C
  obtain ⟨k0, v, J, h8, h9⟩ := n_assumes (l := l) (G := G) (q := xs (i + 1)) (i := xs (i + 2)) hst hI
  refine x_aload_n X dL_law_455 rfl ?_
  refine x_aload_n X dL_law_456 rfl ?_
  refine x_iload X dL_law_457 rfl ?_
  refine x_iconst (v := nI 1) X dL_law_459 (by decide) ?_
  refine x_iadd X dL_law_460 ?_
  rw [nI_add i 1]
  refine x_sld X hX hbl hbA (by omega) hL dL_law_461 ?_
  refine x_aload_n X dL_law_462 rfl ?_
  refine x_iload X dL_law_463 rfl ?_
  refine x_iconst (v := nI 2) X dL_law_465 (by decide) ?_
  refine x_iadd X dL_law_466 ?_
  rw [nI_add i 2]
  refine x_sld X hX hbl hbA (by omega) hL dL_law_467 ?_
  refine x_aload_n X dL_law_468 rfl ?_
  refine x_callW X hKt h8 xnm_L_assumes wl_L_97 wt_L_assumes wi_L wc_L_assumes dL_law_469 ⟨Nat.le_of_ble_eq_true rfl, Nat.le_of_ble_eq_true rfl, by omega, by omega⟩ rfl rfl (Nat.le_of_ble_eq_true rfl) (fun r0 u hp => ?_)
  obtain ⟨rfl, hJ⟩ := hp
  refine x_istore (lv' := [(5, .int k0), (0, .ref b), (1, .ref (G.2.1 0)), (2, .ref (G.2.1 37)), (3, .ref (G.2.1 60)), (4, .int (nI i))]) X dL_law_472 (by decide) rfl ?_
  refine x_aload_n X dL_law_474 rfl ?_
  refine x_aload_n X dL_law_475 rfl ?_
  refine x_iload X dL_law_476 rfl ?_
  refine x_iconst (v := nI 1) X dL_law_478 (by decide) ?_
  refine x_iadd X dL_law_479 ?_
  rw [nI_add i 1]
  refine x_sld X hX hbl hbA (by omega) hL dL_law_480 ?_
  refine x_aload_n X dL_law_481 rfl ?_
  refine x_iload X dL_law_482 rfl ?_
  refine x_iconst (v := nI 2) X dL_law_484 (by decide) ?_
  refine x_iadd X dL_law_485 ?_
  rw [nI_add i 2]
  refine x_sld X hX hbl hbA (by omega) hL dL_law_486 ?_
  refine cv_L_99 X (h9 u hJ) dL_law_487 rfl ⟨Nat.le_of_ble_eq_true rfl, Nat.le_of_ble_eq_true rfl, by omega, by omega⟩ rfl rfl (Nat.le_of_ble_eq_true rfl) (fun r1 w hp => ?_)
  obtain ⟨rfl, hI2, hk, hv⟩ := hp
  refine x_istore (lv' := [(6, .int v), (5, .int k0), (0, .ref b), (1, .ref (G.2.1 0)), (2, .ref (G.2.1 37)), (3, .ref (G.2.1 60)), (4, .int (nI i))]) X dL_law_490 (by decide) rfl ?_
  refine x_aload_n X dL_law_492 rfl ?_
  refine cv_L_74 X c_X9_thrown dL_law_493 rfl ⟨Nat.le_of_ble_eq_true rfl, Nat.le_of_ble_eq_true rfl, by omega, by omega⟩ rfl rfl (Nat.le_of_ble_eq_true rfl) (xk_i ?_)
  refine x_iload X dL_law_496 rfl ?_
  refine x_icmpeq (tgt := 503) X dL_law_498 (by decide) (fun _ => ?_) (fun h => absurd hk h)
  refine x_iload X dL_law_503 rfl ?_
  refine x_ifne (tgt := 520) X dL_law_505 (by decide) (fun _ => ?_) (fun hz => ?_)
  · refine x_goto (tgt := 827) X dL_law_520 (by decide) ?_
    refine x_pick [2, 3, 4, 5, 6] rfl ?_
    exact K w hI2
  refine x_aload_n X dL_law_508 rfl ?_
  refine x_iconst (v := nI 0) X dL_law_509 (by decide) ?_
  refine x_laldN X dL_law_510 rfl (by omega) (by omega) ?_
  refine x_iload X dL_law_511 rfl ?_
  refine x_i2l X dL_law_513 ?_
  refine x_lcmp X dL_law_514 ?_
  refine x_ifeq (tgt := 520) X dL_law_515 (by decide) (fun _ => ?_) (fun h => absurd (by rw [lg_cmp_eq]; exact hv hz) h)
  refine x_goto (tgt := 827) X dL_law_520 (by decide) ?_
  refine x_pick [2, 3, 4, 5, 6] rfl ?_
  exact K w hI2
set_option maxHeartbeats 4000000 in
set_option maxRecDepth 100000 in
theorem arm_holds {p : Program} {l : Launch} {e : Env} {s : State} {m : MethodId} {args : Array Value} {below : List Frame} {meth : Method} {c : Code} {G : xG} {cells slots : Nat} {Q : State → Prop} {b L i : Nat} {xs : Nat → Int32} {σ : xS} (C : nC p l s m meth c G b L xs) (hi : i + 6 ≤ L) (hc : cells + 1 ≤ room_1.cells) (hs : slots + 6 ≤ room_1.slots) (hI : oI σ) (K : ∀ σ2, oI σ2 → xW p l e room_1 s m args below meth c 8 G (cells + 1) (slots + 6) Q 827 [(0, .ref b), (1, .ref (G.2.1 0)), (2, .ref (G.2.1 37)), (3, .ref (G.2.1 60)), (4, .int (nI i))] [] σ2) : xW p l e room_1 s m args below meth c 8 G cells slots Q 523 [(0, .ref b), (1, .ref (G.2.1 0)), (2, .ref (G.2.1 37)), (3, .ref (G.2.1 60)), (4, .int (nI i))] [] σ := by
  obtain ⟨X, hKt, hX, hbl, hbA, hL, hst⟩ := C
  obtain ⟨k0, v, J, h8, h9⟩ := n_holds (l := l) (G := G) (q := xs (i + 1)) (i := xs (i + 2)) hst hI
  refine x_aload_n X dL_law_523 rfl ?_
  refine x_aload_n X dL_law_524 rfl ?_
  refine x_iload X dL_law_525 rfl ?_
  refine x_iconst (v := nI 1) X dL_law_527 (by decide) ?_
  refine x_iadd X dL_law_528 ?_
  rw [nI_add i 1]
  refine x_sld X hX hbl hbA (by omega) hL dL_law_529 ?_
  refine x_aload_n X dL_law_530 rfl ?_
  refine x_iload X dL_law_531 rfl ?_
  refine x_iconst (v := nI 2) X dL_law_533 (by decide) ?_
  refine x_iadd X dL_law_534 ?_
  rw [nI_add i 2]
  refine x_sld X hX hbl hbA (by omega) hL dL_law_535 ?_
  refine x_aload_n X dL_law_536 rfl ?_
  refine x_callW X hKt h8 xnm_L_holds wl_L_100 wt_L_holds wi_L wc_L_holds dL_law_537 ⟨Nat.le_of_ble_eq_true rfl, Nat.le_of_ble_eq_true rfl, by omega, by omega⟩ rfl rfl (Nat.le_of_ble_eq_true rfl) (fun r0 u hp => ?_)
  obtain ⟨rfl, hJ⟩ := hp
  refine x_istore (lv' := [(5, .int k0), (0, .ref b), (1, .ref (G.2.1 0)), (2, .ref (G.2.1 37)), (3, .ref (G.2.1 60)), (4, .int (nI i))]) X dL_law_540 (by decide) rfl ?_
  refine x_aload_n X dL_law_542 rfl ?_
  refine x_aload_n X dL_law_543 rfl ?_
  refine x_iload X dL_law_544 rfl ?_
  refine x_iconst (v := nI 1) X dL_law_546 (by decide) ?_
  refine x_iadd X dL_law_547 ?_
  rw [nI_add i 1]
  refine x_sld X hX hbl hbA (by omega) hL dL_law_548 ?_
  refine x_aload_n X dL_law_549 rfl ?_
  refine x_iload X dL_law_550 rfl ?_
  refine x_iconst (v := nI 2) X dL_law_552 (by decide) ?_
  refine x_iadd X dL_law_553 ?_
  rw [nI_add i 2]
  refine x_sld X hX hbl hbA (by omega) hL dL_law_554 ?_
  refine cv_L_102 X (h9 u hJ) dL_law_555 rfl ⟨Nat.le_of_ble_eq_true rfl, Nat.le_of_ble_eq_true rfl, by omega, by omega⟩ rfl rfl (Nat.le_of_ble_eq_true rfl) (fun r1 w hp => ?_)
  obtain ⟨rfl, hI2, hk, hv⟩ := hp
  refine x_istore (lv' := [(6, .int v), (5, .int k0), (0, .ref b), (1, .ref (G.2.1 0)), (2, .ref (G.2.1 37)), (3, .ref (G.2.1 60)), (4, .int (nI i))]) X dL_law_558 (by decide) rfl ?_
  refine x_aload_n X dL_law_560 rfl ?_
  refine cv_L_74 X c_X9_thrown dL_law_561 rfl ⟨Nat.le_of_ble_eq_true rfl, Nat.le_of_ble_eq_true rfl, by omega, by omega⟩ rfl rfl (Nat.le_of_ble_eq_true rfl) (xk_i ?_)
  refine x_iload X dL_law_564 rfl ?_
  refine x_icmpeq (tgt := 571) X dL_law_566 (by decide) (fun _ => ?_) (fun h => absurd hk h)
  refine x_iload X dL_law_571 rfl ?_
  refine x_ifne (tgt := 588) X dL_law_573 (by decide) (fun _ => ?_) (fun hz => ?_)
  · refine x_goto (tgt := 827) X dL_law_588 (by decide) ?_
    refine x_pick [2, 3, 4, 5, 6] rfl ?_
    exact K w hI2
  refine x_aload_n X dL_law_576 rfl ?_
  refine x_iconst (v := nI 0) X dL_law_577 (by decide) ?_
  refine x_laldN X dL_law_578 rfl (by omega) (by omega) ?_
  refine x_iload X dL_law_579 rfl ?_
  refine x_i2l X dL_law_581 ?_
  refine x_lcmp X dL_law_582 ?_
  refine x_ifeq (tgt := 588) X dL_law_583 (by decide) (fun _ => ?_) (fun h => absurd (by rw [lg_cmp_eq]; exact hv hz) h)
  refine x_goto (tgt := 827) X dL_law_588 (by decide) ?_
  refine x_pick [2, 3, 4, 5, 6] rfl ?_
  exact K w hI2
set_option maxHeartbeats 4000000 in
set_option maxRecDepth 100000 in
theorem arm_proved {p : Program} {l : Launch} {e : Env} {s : State} {m : MethodId} {args : Array Value} {below : List Frame} {meth : Method} {c : Code} {G : xG} {cells slots : Nat} {Q : State → Prop} {b L i : Nat} {xs : Nat → Int32} {σ : xS} (C : nC p l s m meth c G b L xs) (hi : i + 6 ≤ L) (hc : cells + 1 ≤ room_1.cells) (hs : slots + 6 ≤ room_1.slots) (hI : oI σ) (K : ∀ σ2, oI σ2 → xW p l e room_1 s m args below meth c 8 G (cells + 1) (slots + 6) Q 827 [(0, .ref b), (1, .ref (G.2.1 0)), (2, .ref (G.2.1 37)), (3, .ref (G.2.1 60)), (4, .int (nI i))] [] σ2) : xW p l e room_1 s m args below meth c 8 G cells slots Q 591 [(0, .ref b), (1, .ref (G.2.1 0)), (2, .ref (G.2.1 37)), (3, .ref (G.2.1 60)), (4, .int (nI i))] [] σ := by
  obtain ⟨X, hKt, hX, hbl, hbA, hL, hst⟩ := C
  obtain ⟨v, J, h8, h9⟩ := n_proved (l := l) (G := G)  hI
  refine x_aload_n X dL_law_591 rfl ?_
  refine cv_L_103 X h8 dL_law_592 rfl ⟨Nat.le_of_ble_eq_true rfl, Nat.le_of_ble_eq_true rfl, by omega, by omega⟩ rfl rfl (Nat.le_of_ble_eq_true rfl) (fun r0 u hp => ?_)
  obtain ⟨rfl, hJ⟩ := hp
  refine x_aload_n X dL_law_595 rfl ?_
  refine cv_L_106 X (h9 u hJ) dL_law_596 rfl ⟨Nat.le_of_ble_eq_true rfl, Nat.le_of_ble_eq_true rfl, by omega, by omega⟩ rfl rfl (Nat.le_of_ble_eq_true rfl) (fun r1 w hp => ?_)
  obtain ⟨rfl, hI2⟩ := hp
  refine x_icmpeq (tgt := 827) X dL_law_599 (by decide) (fun _ => ?_) (fun h => absurd rfl h)
  exact x_wid (by omega) (by omega) (K w hI2)
set_option maxHeartbeats 4000000 in
set_option maxRecDepth 100000 in
theorem arm_best {p : Program} {l : Launch} {e : Env} {s : State} {m : MethodId} {args : Array Value} {below : List Frame} {meth : Method} {c : Code} {G : xG} {cells slots : Nat} {Q : State → Prop} {b L i : Nat} {xs : Nat → Int32} {σ : xS} (C : nC p l s m meth c G b L xs) (hi : i + 6 ≤ L) (hc : cells + 1 ≤ room_1.cells) (hs : slots + 6 ≤ room_1.slots) (hI : oI σ) (K : ∀ σ2, oI σ2 → xW p l e room_1 s m args below meth c 8 G (cells + 1) (slots + 6) Q 827 [(0, .ref b), (1, .ref (G.2.1 0)), (2, .ref (G.2.1 37)), (3, .ref (G.2.1 60)), (4, .int (nI i))] [] σ2) : xW p l e room_1 s m args below meth c 8 G cells slots Q 604 [(0, .ref b), (1, .ref (G.2.1 0)), (2, .ref (G.2.1 37)), (3, .ref (G.2.1 60)), (4, .int (nI i))] [] σ := by
  obtain ⟨X, hKt, hX, hbl, hbA, hL, hst⟩ := C
  obtain ⟨k0, v, J, h8, h9⟩ := n_best (l := l) (G := G)  hst hI
  refine x_aload_n X dL_law_604 rfl ?_
  refine x_aload_n X dL_law_605 rfl ?_
  refine x_callW X hKt h8 xnm_L_best wl_L_107 wt_L_best wi_L wc_L_best dL_law_606 ⟨Nat.le_of_ble_eq_true rfl, Nat.le_of_ble_eq_true rfl, by omega, by omega⟩ rfl rfl (Nat.le_of_ble_eq_true rfl) (fun r0 u hp => ?_)
  obtain ⟨rfl, hJ⟩ := hp
  refine x_istore (lv' := [(5, .int k0), (0, .ref b), (1, .ref (G.2.1 0)), (2, .ref (G.2.1 37)), (3, .ref (G.2.1 60)), (4, .int (nI i))]) X dL_law_609 (by decide) rfl ?_
  refine x_aload_n X dL_law_611 rfl ?_
  refine cv_L_110 X (h9 u hJ) dL_law_612 rfl ⟨Nat.le_of_ble_eq_true rfl, Nat.le_of_ble_eq_true rfl, by omega, by omega⟩ rfl rfl (Nat.le_of_ble_eq_true rfl) (fun r1 w hp => ?_)
  obtain ⟨rfl, hI2, hk, hv⟩ := hp
  refine x_lstore (lv' := [(6, .long v), (5, .int k0), (0, .ref b), (1, .ref (G.2.1 0)), (2, .ref (G.2.1 37)), (3, .ref (G.2.1 60)), (4, .int (nI i))]) X dL_law_615 (by decide) rfl ?_
  refine x_aload_n X dL_law_617 rfl ?_
  refine cv_L_74 X c_X9_thrown dL_law_618 rfl ⟨Nat.le_of_ble_eq_true rfl, Nat.le_of_ble_eq_true rfl, by omega, by omega⟩ rfl rfl (Nat.le_of_ble_eq_true rfl) (xk_i ?_)
  refine x_iload X dL_law_621 rfl ?_
  refine x_icmpeq (tgt := 628) X dL_law_623 (by decide) (fun _ => ?_) (fun h => absurd hk h)
  refine x_iload X dL_law_628 rfl ?_
  refine x_ifne (tgt := 644) X dL_law_630 (by decide) (fun _ => ?_) (fun hz => ?_)
  · refine x_goto (tgt := 827) X dL_law_644 (by decide) ?_
    refine x_pick [2, 3, 4, 5, 6] rfl ?_
    exact K w hI2
  refine x_aload_n X dL_law_633 rfl ?_
  refine x_iconst (v := nI 0) X dL_law_634 (by decide) ?_
  refine x_laldN X dL_law_635 rfl (by omega) (by omega) ?_
  refine x_lload X dL_law_636 rfl ?_
  refine x_lcmp X dL_law_638 ?_
  refine x_ifeq (tgt := 644) X dL_law_639 (by decide) (fun _ => ?_) (fun h => absurd (by rw [lg_cmp_eq]; exact hv hz) h)
  refine x_goto (tgt := 827) X dL_law_644 (by decide) ?_
  refine x_pick [2, 3, 4, 5, 6] rfl ?_
  exact K w hI2
set_option maxHeartbeats 4000000 in
set_option maxRecDepth 100000 in
theorem arm_least {p : Program} {l : Launch} {e : Env} {s : State} {m : MethodId} {args : Array Value} {below : List Frame} {meth : Method} {c : Code} {G : xG} {cells slots : Nat} {Q : State → Prop} {b L i : Nat} {xs : Nat → Int32} {σ : xS} (C : nC p l s m meth c G b L xs) (hi : i + 6 ≤ L) (hc : cells + 1 ≤ room_1.cells) (hs : slots + 6 ≤ room_1.slots) (hI : oI σ) (K : ∀ σ2, oI σ2 → xW p l e room_1 s m args below meth c 8 G (cells + 1) (slots + 6) Q 827 [(0, .ref b), (1, .ref (G.2.1 0)), (2, .ref (G.2.1 37)), (3, .ref (G.2.1 60)), (4, .int (nI i))] [] σ2) : xW p l e room_1 s m args below meth c 8 G cells slots Q 647 [(0, .ref b), (1, .ref (G.2.1 0)), (2, .ref (G.2.1 37)), (3, .ref (G.2.1 60)), (4, .int (nI i))] [] σ := by
  obtain ⟨X, hKt, hX, hbl, hbA, hL, hst⟩ := C
  obtain ⟨k0, v, J, h8, h9⟩ := n_least (l := l) (G := G)  hst hI
  refine x_aload_n X dL_law_647 rfl ?_
  refine x_aload_n X dL_law_648 rfl ?_
  refine x_callW X hKt h8 xnm_L_least wl_L_111 wt_L_least wi_L wc_L_least dL_law_649 ⟨Nat.le_of_ble_eq_true rfl, Nat.le_of_ble_eq_true rfl, by omega, by omega⟩ rfl rfl (Nat.le_of_ble_eq_true rfl) (fun r0 u hp => ?_)
  obtain ⟨rfl, hJ⟩ := hp
  refine x_istore (lv' := [(5, .int k0), (0, .ref b), (1, .ref (G.2.1 0)), (2, .ref (G.2.1 37)), (3, .ref (G.2.1 60)), (4, .int (nI i))]) X dL_law_652 (by decide) rfl ?_
  refine x_aload_n X dL_law_654 rfl ?_
  refine cv_L_113 X (h9 u hJ) dL_law_655 rfl ⟨Nat.le_of_ble_eq_true rfl, Nat.le_of_ble_eq_true rfl, by omega, by omega⟩ rfl rfl (Nat.le_of_ble_eq_true rfl) (fun r1 w hp => ?_)
  obtain ⟨rfl, hI2, hk, hv⟩ := hp
  refine x_lstore (lv' := [(6, .long v), (5, .int k0), (0, .ref b), (1, .ref (G.2.1 0)), (2, .ref (G.2.1 37)), (3, .ref (G.2.1 60)), (4, .int (nI i))]) X dL_law_658 (by decide) rfl ?_
  refine x_aload_n X dL_law_660 rfl ?_
  refine cv_L_74 X c_X9_thrown dL_law_661 rfl ⟨Nat.le_of_ble_eq_true rfl, Nat.le_of_ble_eq_true rfl, by omega, by omega⟩ rfl rfl (Nat.le_of_ble_eq_true rfl) (xk_i ?_)
  refine x_iload X dL_law_664 rfl ?_
  refine x_icmpeq (tgt := 671) X dL_law_666 (by decide) (fun _ => ?_) (fun h => absurd hk h)
  refine x_iload X dL_law_671 rfl ?_
  refine x_ifne (tgt := 687) X dL_law_673 (by decide) (fun _ => ?_) (fun hz => ?_)
  · refine x_goto (tgt := 827) X dL_law_687 (by decide) ?_
    refine x_pick [2, 3, 4, 5, 6] rfl ?_
    exact K w hI2
  refine x_aload_n X dL_law_676 rfl ?_
  refine x_iconst (v := nI 0) X dL_law_677 (by decide) ?_
  refine x_laldN X dL_law_678 rfl (by omega) (by omega) ?_
  refine x_lload X dL_law_679 rfl ?_
  refine x_lcmp X dL_law_681 ?_
  refine x_ifeq (tgt := 687) X dL_law_682 (by decide) (fun _ => ?_) (fun h => absurd (by rw [lg_cmp_eq]; exact hv hz) h)
  refine x_goto (tgt := 827) X dL_law_687 (by decide) ?_
  refine x_pick [2, 3, 4, 5, 6] rfl ?_
  exact K w hI2
set_option maxHeartbeats 4000000 in
set_option maxRecDepth 100000 in
theorem arm_trim {p : Program} {l : Launch} {e : Env} {s : State} {m : MethodId} {args : Array Value} {below : List Frame} {meth : Method} {c : Code} {G : xG} {cells slots : Nat} {Q : State → Prop} {b L i : Nat} {xs : Nat → Int32} {σ : xS} (C : nC p l s m meth c G b L xs) (hi : i + 6 ≤ L) (hc : cells + 1 ≤ room_1.cells) (hs : slots + 6 ≤ room_1.slots) (hI : oI σ) (K : ∀ σ2, oI σ2 → xW p l e room_1 s m args below meth c 8 G (cells + 1) (slots + 6) Q 827 [(0, .ref b), (1, .ref (G.2.1 0)), (2, .ref (G.2.1 37)), (3, .ref (G.2.1 60)), (4, .int (nI i))] [] σ2) : xW p l e room_1 s m args below meth c 8 G cells slots Q 690 [(0, .ref b), (1, .ref (G.2.1 0)), (2, .ref (G.2.1 37)), (3, .ref (G.2.1 60)), (4, .int (nI i))] [] σ := by
  obtain ⟨X, hKt, hX, hbl, hbA, hL, hst⟩ := C
  obtain ⟨k0, v, J, h8, h9⟩ := n_trim (l := l) (G := G) (q := xs (i + 1)) hst hI
  refine x_aload_n X dL_law_690 rfl ?_
  refine x_aload_n X dL_law_691 rfl ?_
  refine x_iload X dL_law_692 rfl ?_
  refine x_iconst (v := nI 1) X dL_law_694 (by decide) ?_
  refine x_iadd X dL_law_695 ?_
  rw [nI_add i 1]
  refine x_sld X hX hbl hbA (by omega) hL dL_law_696 ?_
  refine x_aload_n X dL_law_697 rfl ?_
  refine x_callW X hKt h8 xnm_L_trim wl_L_114 wt_L_trim wi_L wc_L_trim dL_law_698 ⟨Nat.le_of_ble_eq_true rfl, Nat.le_of_ble_eq_true rfl, by omega, by omega⟩ rfl rfl (Nat.le_of_ble_eq_true rfl) (fun r0 u hp => ?_)
  obtain ⟨rfl, hJ⟩ := hp
  refine x_istore (lv' := [(5, .int k0), (0, .ref b), (1, .ref (G.2.1 0)), (2, .ref (G.2.1 37)), (3, .ref (G.2.1 60)), (4, .int (nI i))]) X dL_law_701 (by decide) rfl ?_
  refine x_aload_n X dL_law_703 rfl ?_
  refine x_aload_n X dL_law_704 rfl ?_
  refine x_iload X dL_law_705 rfl ?_
  refine x_iconst (v := nI 1) X dL_law_707 (by decide) ?_
  refine x_iadd X dL_law_708 ?_
  rw [nI_add i 1]
  refine x_sld X hX hbl hbA (by omega) hL dL_law_709 ?_
  refine cv_L_116 X (h9 u hJ) dL_law_710 rfl ⟨Nat.le_of_ble_eq_true rfl, Nat.le_of_ble_eq_true rfl, by omega, by omega⟩ rfl rfl (Nat.le_of_ble_eq_true rfl) (fun r1 w hp => ?_)
  obtain ⟨rfl, hI2, hk, hv⟩ := hp
  refine x_istore (lv' := [(6, .int v), (5, .int k0), (0, .ref b), (1, .ref (G.2.1 0)), (2, .ref (G.2.1 37)), (3, .ref (G.2.1 60)), (4, .int (nI i))]) X dL_law_713 (by decide) rfl ?_
  refine x_aload_n X dL_law_715 rfl ?_
  refine cv_L_74 X c_X9_thrown dL_law_716 rfl ⟨Nat.le_of_ble_eq_true rfl, Nat.le_of_ble_eq_true rfl, by omega, by omega⟩ rfl rfl (Nat.le_of_ble_eq_true rfl) (xk_i ?_)
  refine x_iload X dL_law_719 rfl ?_
  refine x_icmpeq (tgt := 726) X dL_law_721 (by decide) (fun _ => ?_) (fun h => absurd hk h)
  refine x_iload X dL_law_726 rfl ?_
  refine x_ifne (tgt := 743) X dL_law_728 (by decide) (fun _ => ?_) (fun hz => ?_)
  · refine x_goto (tgt := 827) X dL_law_743 (by decide) ?_
    refine x_pick [2, 3, 4, 5, 6] rfl ?_
    exact K w hI2
  refine x_aload_n X dL_law_731 rfl ?_
  refine x_iconst (v := nI 0) X dL_law_732 (by decide) ?_
  refine x_laldN X dL_law_733 rfl (by omega) (by omega) ?_
  refine x_iload X dL_law_734 rfl ?_
  refine x_i2l X dL_law_736 ?_
  refine x_lcmp X dL_law_737 ?_
  refine x_ifeq (tgt := 743) X dL_law_738 (by decide) (fun _ => ?_) (fun h => absurd (by rw [lg_cmp_eq]; exact hv hz) h)
  refine x_goto (tgt := 827) X dL_law_743 (by decide) ?_
  refine x_pick [2, 3, 4, 5, 6] rfl ?_
  exact K w hI2
set_option maxHeartbeats 4000000 in
set_option maxRecDepth 100000 in
theorem arm_number {p : Program} {l : Launch} {e : Env} {s : State} {m : MethodId} {args : Array Value} {below : List Frame} {meth : Method} {c : Code} {G : xG} {cells slots : Nat} {Q : State → Prop} {b L i : Nat} {xs : Nat → Int32} {σ : xS} (C : nC p l s m meth c G b L xs) (hi : i + 6 ≤ L) (hc : cells + 1 ≤ room_1.cells) (hs : slots + 6 ≤ room_1.slots) (hI : oI σ) (K : ∀ σ2, oI σ2 → xW p l e room_1 s m args below meth c 8 G (cells + 1) (slots + 6) Q 827 [(0, .ref b), (1, .ref (G.2.1 0)), (2, .ref (G.2.1 37)), (3, .ref (G.2.1 60)), (4, .int (nI i))] [] σ2) : xW p l e room_1 s m args below meth c 8 G cells slots Q 746 [(0, .ref b), (1, .ref (G.2.1 0)), (2, .ref (G.2.1 37)), (3, .ref (G.2.1 60)), (4, .int (nI i))] [] σ := by
  obtain ⟨X, hKt, hX, hbl, hbA, hL, hst⟩ := C
  obtain ⟨k0, v, J, h8, h9⟩ := n_number (l := l) (G := G) (q := xs (i + 1)) hst hI
  refine x_aload_n X dL_law_746 rfl ?_
  refine x_aload_n X dL_law_747 rfl ?_
  refine x_iload X dL_law_748 rfl ?_
  refine x_iconst (v := nI 1) X dL_law_750 (by decide) ?_
  refine x_iadd X dL_law_751 ?_
  rw [nI_add i 1]
  refine x_sld X hX hbl hbA (by omega) hL dL_law_752 ?_
  refine x_aload_n X dL_law_753 rfl ?_
  refine x_callW X hKt h8 xnm_L_number wl_L_117 wt_L_number wi_L wc_L_number dL_law_754 ⟨Nat.le_of_ble_eq_true rfl, Nat.le_of_ble_eq_true rfl, by omega, by omega⟩ rfl rfl (Nat.le_of_ble_eq_true rfl) (fun r0 u hp => ?_)
  obtain ⟨rfl, hJ⟩ := hp
  refine x_istore (lv' := [(5, .int k0), (0, .ref b), (1, .ref (G.2.1 0)), (2, .ref (G.2.1 37)), (3, .ref (G.2.1 60)), (4, .int (nI i))]) X dL_law_757 (by decide) rfl ?_
  refine x_aload_n X dL_law_759 rfl ?_
  refine x_aload_n X dL_law_760 rfl ?_
  refine x_iload X dL_law_761 rfl ?_
  refine x_iconst (v := nI 1) X dL_law_763 (by decide) ?_
  refine x_iadd X dL_law_764 ?_
  rw [nI_add i 1]
  refine x_sld X hX hbl hbA (by omega) hL dL_law_765 ?_
  refine cv_L_119 X (h9 u hJ) dL_law_766 rfl ⟨Nat.le_of_ble_eq_true rfl, Nat.le_of_ble_eq_true rfl, by omega, by omega⟩ rfl rfl (Nat.le_of_ble_eq_true rfl) (fun r1 w hp => ?_)
  obtain ⟨rfl, hI2, hk, hv⟩ := hp
  refine x_istore (lv' := [(6, .int v), (5, .int k0), (0, .ref b), (1, .ref (G.2.1 0)), (2, .ref (G.2.1 37)), (3, .ref (G.2.1 60)), (4, .int (nI i))]) X dL_law_769 (by decide) rfl ?_
  refine x_aload_n X dL_law_771 rfl ?_
  refine cv_L_74 X c_X9_thrown dL_law_772 rfl ⟨Nat.le_of_ble_eq_true rfl, Nat.le_of_ble_eq_true rfl, by omega, by omega⟩ rfl rfl (Nat.le_of_ble_eq_true rfl) (xk_i ?_)
  refine x_iload X dL_law_775 rfl ?_
  refine x_icmpeq (tgt := 782) X dL_law_777 (by decide) (fun _ => ?_) (fun h => absurd hk h)
  refine x_iload X dL_law_782 rfl ?_
  refine x_ifne (tgt := 799) X dL_law_784 (by decide) (fun _ => ?_) (fun hz => ?_)
  · refine x_goto (tgt := 827) X dL_law_799 (by decide) ?_
    refine x_pick [2, 3, 4, 5, 6] rfl ?_
    exact K w hI2
  refine x_aload_n X dL_law_787 rfl ?_
  refine x_iconst (v := nI 0) X dL_law_788 (by decide) ?_
  refine x_laldN X dL_law_789 rfl (by omega) (by omega) ?_
  refine x_iload X dL_law_790 rfl ?_
  refine x_i2l X dL_law_792 ?_
  refine x_lcmp X dL_law_793 ?_
  refine x_ifeq (tgt := 799) X dL_law_794 (by decide) (fun _ => ?_) (fun h => absurd (by rw [lg_cmp_eq]; exact hv hz) h)
  refine x_goto (tgt := 827) X dL_law_799 (by decide) ?_
  refine x_pick [2, 3, 4, 5, 6] rfl ?_
  exact K w hI2
set_option maxHeartbeats 4000000 in
set_option maxRecDepth 100000 in
theorem arm_told {p : Program} {l : Launch} {e : Env} {s : State} {m : MethodId} {args : Array Value} {below : List Frame} {meth : Method} {c : Code} {G : xG} {cells slots : Nat} {Q : State → Prop} {b L i : Nat} {xs : Nat → Int32} {σ : xS} (C : nC p l s m meth c G b L xs) (hi : i + 6 ≤ L) (hc : cells + 1 ≤ room_1.cells) (hs : slots + 6 ≤ room_1.slots) (hI : oI σ) (K : ∀ σ2, oI σ2 → xW p l e room_1 s m args below meth c 8 G (cells + 1) (slots + 6) Q 827 [(0, .ref b), (1, .ref (G.2.1 0)), (2, .ref (G.2.1 37)), (3, .ref (G.2.1 60)), (4, .int (nI i))] [] σ2) : xW p l e room_1 s m args below meth c 8 G cells slots Q 802 [(0, .ref b), (1, .ref (G.2.1 0)), (2, .ref (G.2.1 37)), (3, .ref (G.2.1 60)), (4, .int (nI i))] [] σ := by
  obtain ⟨X, hKt, hX, hbl, hbA, hL, hst⟩ := C
  obtain ⟨v, J, h8, h9⟩ := n_told (l := l) (G := G) (w := xs (i + 1)) hI
  refine x_aload_n X dL_law_802 rfl ?_
  refine x_aload_n X dL_law_803 rfl ?_
  refine x_iload X dL_law_804 rfl ?_
  refine x_iconst (v := nI 1) X dL_law_806 (by decide) ?_
  refine x_iadd X dL_law_807 ?_
  rw [nI_add i 1]
  refine x_sld X hX hbl hbA (by omega) hL dL_law_808 ?_
  refine cv_L_120 X h8 dL_law_809 rfl ⟨Nat.le_of_ble_eq_true rfl, Nat.le_of_ble_eq_true rfl, by omega, by omega⟩ rfl rfl (Nat.le_of_ble_eq_true rfl) (fun r0 u hp => ?_)
  obtain ⟨rfl, hJ⟩ := hp
  refine x_aload_n X dL_law_812 rfl ?_
  refine x_aload_n X dL_law_813 rfl ?_
  refine x_iload X dL_law_814 rfl ?_
  refine x_iconst (v := nI 1) X dL_law_816 (by decide) ?_
  refine x_iadd X dL_law_817 ?_
  rw [nI_add i 1]
  refine x_sld X hX hbl hbA (by omega) hL dL_law_818 ?_
  refine cv_L_123 X (h9 u hJ) dL_law_819 rfl ⟨Nat.le_of_ble_eq_true rfl, Nat.le_of_ble_eq_true rfl, by omega, by omega⟩ rfl rfl (Nat.le_of_ble_eq_true rfl) (fun r1 w hp => ?_)
  obtain ⟨rfl, hI2⟩ := hp
  refine x_icmpeq (tgt := 827) X dL_law_822 (by decide) (fun _ => ?_) (fun h => absurd rfl h)
  exact x_wid (by omega) (by omega) (K w hI2)
set_option maxHeartbeats 4000000 in
set_option maxRecDepth 100000 in
/-- THE LAW'S LOOP, at its head -/
theorem law_loop {p : Program} {l : Launch} {e : Env} {s : State} {m : MethodId} {below : List Frame} {meth : Method} {c : Code} {G : xG} {b L : Nat} {xs : Nat → Int32} (C : nC p l s m meth c G b L xs) (hA : ∀ q, xA G q → s.heap.size ≤ q) (hr : meth.sig.returnType = ret) :
    ∀ (n i : Nat) (σ : xS), i ≤ L → L + 1 ≤ i + n → oI σ → xW p l e room_1 s m #[Value.ref b] below meth c 8 G (600 + i) (56000 + 6 * i) (lw_Z below #[Value.ref b] s) 23 [(0, .ref b), (1, .ref (G.2.1 0)), (2, .ref (G.2.1 37)), (3, .ref (G.2.1 60)), (4, .int (nI i))] [] σ := by
  intro n
  induction n with
  | zero =>
    intro i σ h1 h2
    exact absurd h2 (by omega)
  | succ n ih =>
    intro i σ h1 h2 hI
    have C0 := C
    obtain ⟨X, hKt, hX, hbl, hbA, hL, hst⟩ := C
    refine x_iload X dL_law_23 rfl ?_
    refine x_aload_n X dL_law_25 rfl ?_
    refine x_slen X hX hbl hbA dL_law_26 ?_
    refine x_bipush (v := nI 6) X dL_law_27 (by decide) ?_
    refine x_isub X dL_law_29 ?_
    refine x_icmpgt (tgt := 833) X dL_law_30 (by decide) (fun _ => ?_) (fun h => ?_)
    · refine x_iconst (v := 1) X dL_law_833 (by decide) ?_
      intro H locs ls hH hS hl
      refine va_forget (fun q hq => hA _ (hS.2.2 q hq)) ?_
      refine W.widen (k := 601024) (n := 7293034) (by omega) (by omega) ?_
      exact lw_ret X.x X.b hr X.n dL_law_834
    · have hi := lawc hL h1 h
      have K : ∀ σ2, oI σ2 → xW p l e room_1 s m #[Value.ref b] below meth c 8 G (600 + i + 1) (56000 + 6 * i + 6) (lw_Z below #[Value.ref b] s) 827 [(0, .ref b), (1, .ref (G.2.1 0)), (2, .ref (G.2.1 37)), (3, .ref (G.2.1 60)), (4, .int (nI i))] [] σ2 := by
        intro σ2 hI2
        refine x_iinc (k := 4) (v := nI (i + 6)) (lv' := [(4, .int (nI (i + 6))), (0, .ref b), (1, .ref (G.2.1 0)), (2, .ref (G.2.1 37)), (3, .ref (G.2.1 60))]) X dL_law_827 rfl (nI_add i 6) (by decide) rfl ?_
        refine x_goto (tgt := 23) X dL_law_830 (by decide) ?_
        refine x_pick [1, 2, 3, 4, 0] rfl ?_
        exact x_wid (by omega) (by omega) (ih (i + 6) σ2 hi (by omega) hI2)
      have hc : 600 + i + 1 ≤ room_1.cells := Nat.le_trans (by omega : 600 + i + 1 ≤ 4000) (Nat.le_of_ble_eq_true rfl)
      have hs : 56000 + 6 * i + 6 ≤ room_1.slots := Nat.le_trans (by omega : 56000 + 6 * i + 6 ≤ 80000) (Nat.le_of_ble_eq_true rfl)
      refine x_aload_n X dL_law_33 rfl ?_
      refine x_iload X dL_law_34 rfl ?_
      refine x_sld X hX hbl hbA (by omega) hL dL_law_36 ?_
      refine x_bipush (v := 31) X dL_law_37 (by decide) ?_
      refine x_iand X dL_law_39 ?_
      refine x_topi (fun w hw => ?_)
      by_cases h40 : w.toInt < 0 ∨ 18 < w.toInt
      · refine x_tableOut (tgt := 827) X dL_law_40 h40 (by decide) ?_
        exact x_wid (by omega) (by omega) (K σ hI)
      rcases (show w.toInt = 0 ∨ w.toInt = 1 ∨ w.toInt = 2 ∨ w.toInt = 3 ∨ w.toInt = 4 ∨ w.toInt = 5 ∨ w.toInt = 6 ∨ w.toInt = 7 ∨ w.toInt = 8 ∨ w.toInt = 9 ∨ w.toInt = 10 ∨ w.toInt = 11 ∨ w.toInt = 12 ∨ w.toInt = 13 ∨ w.toInt = 14 ∨ w.toInt = 15 ∨ w.toInt = 16 ∨ w.toInt = 17 ∨ w.toInt = 18 by omega) with g | g | g | g | g | g | g | g | g | g | g | g | g | g | g | g | g | g | g
      · refine x_tableIn (off := 92) (tgt := 132) X dL_law_40 (by rw [g]; decide) (by rw [g]; decide) (by rw [g]; rfl) (by decide) ?_
        exact arm_put C0 hi hc hs hI K
      · refine x_tableIn (off := 165) (tgt := 205) X dL_law_40 (by rw [g]; decide) (by rw [g]; decide) (by rw [g]; rfl) (by decide) ?_
        exact arm_drop C0 hi hc hs hI K
      · refine x_tableIn (off := 178) (tgt := 218) X dL_law_40 (by rw [g]; decide) (by rw [g]; decide) (by rw [g]; rfl) (by decide) ?_
        exact arm_model C0 hi hc hs hI K
      · refine x_tableIn (off := 191) (tgt := 231) X dL_law_40 (by rw [g]; decide) (by rw [g]; decide) (by rw [g]; rfl) (by decide) ?_
        exact arm_plan C0 hi hc hs hI K
      · refine x_tableIn (off := 204) (tgt := 244) X dL_law_40 (by rw [g]; decide) (by rw [g]; decide) (by rw [g]; rfl) (by decide) ?_
        exact arm_breaks C0 hi hc hs hI K
      · refine x_tableIn (off := 229) (tgt := 269) X dL_law_40 (by rw [g]; decide) (by rw [g]; decide) (by rw [g]; rfl) (by decide) ?_
        exact arm_cost C0 hi hc hs hI K
      · refine x_tableIn (off := 284) (tgt := 324) X dL_law_40 (by rw [g]; decide) (by rw [g]; decide) (by rw [g]; rfl) (by decide) ?_
        exact arm_digest C0 hi hc hs hI K
      · refine x_tableIn (off := 297) (tgt := 337) X dL_law_40 (by rw [g]; decide) (by rw [g]; decide) (by rw [g]; rfl) (by decide) ?_
        exact arm_begin C0 hi hc hs hI K
      · refine x_tableIn (off := 310) (tgt := 350) X dL_law_40 (by rw [g]; decide) (by rw [g]; decide) (by rw [g]; rfl) (by decide) ?_
        exact arm_read C0 hi hc hs hI K
      · refine x_tableIn (off := 323) (tgt := 363) X dL_law_40 (by rw [g]; decide) (by rw [g]; decide) (by rw [g]; rfl) (by decide) ?_
        exact arm_fault C0 hi hc hs hI K
      · refine x_tableIn (off := 348) (tgt := 388) X dL_law_40 (by rw [g]; decide) (by rw [g]; decide) (by rw [g]; rfl) (by decide) ?_
        exact arm_row C0 hi hc hs hI K
      · refine x_tableIn (off := 415) (tgt := 455) X dL_law_40 (by rw [g]; decide) (by rw [g]; decide) (by rw [g]; rfl) (by decide) ?_
        exact arm_assumes C0 hi hc hs hI K
      · refine x_tableIn (off := 483) (tgt := 523) X dL_law_40 (by rw [g]; decide) (by rw [g]; decide) (by rw [g]; rfl) (by decide) ?_
        exact arm_holds C0 hi hc hs hI K
      · refine x_tableIn (off := 551) (tgt := 591) X dL_law_40 (by rw [g]; decide) (by rw [g]; decide) (by rw [g]; rfl) (by decide) ?_
        exact arm_proved C0 hi hc hs hI K
      · refine x_tableIn (off := 564) (tgt := 604) X dL_law_40 (by rw [g]; decide) (by rw [g]; decide) (by rw [g]; rfl) (by decide) ?_
        exact arm_best C0 hi hc hs hI K
      · refine x_tableIn (off := 607) (tgt := 647) X dL_law_40 (by rw [g]; decide) (by rw [g]; decide) (by rw [g]; rfl) (by decide) ?_
        exact arm_least C0 hi hc hs hI K
      · refine x_tableIn (off := 650) (tgt := 690) X dL_law_40 (by rw [g]; decide) (by rw [g]; decide) (by rw [g]; rfl) (by decide) ?_
        exact arm_trim C0 hi hc hs hI K
      · refine x_tableIn (off := 706) (tgt := 746) X dL_law_40 (by rw [g]; decide) (by rw [g]; decide) (by rw [g]; rfl) (by decide) ?_
        exact arm_number C0 hi hc hs hI K
      · refine x_tableIn (off := 762) (tgt := 802) X dL_law_40 (by rw [g]; decide) (by rw [g]; decide) (by rw [g]; rfl) (by decide) ?_
        exact arm_told C0 hi hc hs hI K
