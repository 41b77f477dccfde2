/-! small rows for the walks -/
theorem xn_inc (i : Nat) : nI i + Int32.ofInt 1 = nI (i + 1) := nI_1 i
theorem xb_lt {x y : Int32} {a b : Nat} (hx : x = nI a) (hy : y = nI b) (ha : a < 2 ^ 31) (hb : b < 2 ^ 31) : (x < y) = (a < b) := by subst hx hy; exact propext (nI_ltI ha hb)
theorem xb_ge {x y : Int32} {a b : Nat} (hx : x = nI a) (hy : y = nI b) (ha : a < 2 ^ 31) (hb : b < 2 ^ 31) : (y ≤ x) = (b ≤ a) := by subst hx hy; exact propext (nI_leI hb ha)
theorem xb_gt {x y : Int32} {a b : Nat} (hx : x = nI a) (hy : y = nI b) (ha : a < 2 ^ 31) (hb : b < 2 ^ 31) : (y < x) = (b < a) := by subst hx hy; exact propext (nI_ltI hb ha)
theorem xb_le {x y : Int32} {a b : Nat} (hx : x = nI a) (hy : y = nI b) (ha : a < 2 ^ 31) (hb : b < 2 ^ 31) : (x ≤ y) = (a ≤ b) := by subst hx hy; exact propext (nI_leI ha hb)
theorem xb_eq {x y : Int32} {a b : Nat} (hx : x = nI a) (hy : y = nI b) (ha : a < 2 ^ 31) (hb : b < 2 ^ 31) : (x = y) = (a = b) := by subst hx hy; exact propext (nI_eq ha hb)
theorem xb_ne {x y : Int32} {a b : Nat} (hx : x = nI a) (hy : y = nI b) (ha : a < 2 ^ 31) (hb : b < 2 ^ 31) : (x = y) = (a = b) := xb_eq hx hy ha hb
theorem xp_i {x v : Int32} {σ τ : xS} (h1 : x = v) (h2 : σ = τ) : some (Value.int x) = some (Value.int v) ∧ σ = τ := ⟨by rw [h1], h2⟩
theorem xp_l {x v : Int64} {σ τ : xS} (h1 : x = v) (h2 : σ = τ) : some (Value.long x) = some (Value.long v) ∧ σ = τ := ⟨by rw [h1], h2⟩
theorem xp_r {G : xG} {x v : Nat} {σ τ : xS} (h1 : x = v) (h2 : σ = τ) : some (Value.ref (G.2.1 x)) = some (Value.ref (G.2.1 v)) ∧ σ = τ := ⟨by rw [h1], h2⟩
theorem xck_row {i : Nat} (h : i < 201) : xck (61 + i) = (4, 0) := by unfold xck; rw [if_neg (by omega), if_pos (by omega)]
theorem xck_fac {i : Nat} (h : i < 201) : xck (262 + i) = (11, 8) := by unfold xck; rw [if_neg (by omega), if_neg (by omega), if_pos (by omega)]
theorem xck_pln {i : Nat} (h : i < 48) : xck (463 + i) = (10, 8) := by unfold xck; rw [if_neg (by omega), if_neg (by omega), if_neg (by omega), if_pos (by omega)]
theorem xck_prs {i : Nat} (h : i < 16) : xck (511 + i) = (10, 20) := by unfold xck; rw [if_neg (by omega), if_neg (by omega), if_neg (by omega), if_neg (by omega), if_pos (by omega)]
theorem xrf_row {σ : xS} {i : Nat} : xrf σ (61 + i) 0 = 262 + i := by unfold xrf; rw [if_neg (by omega)]; omega
theorem xin_lt {i : Int32} {n : Nat} (h0 : ¬ i < 0) (h1 : ¬ nI n ≤ i) (hn : n < 2 ^ 31) : vp_in i n := by
  rcases pk_ix i hn with h | h | ⟨j, hj, rfl⟩
  · exact absurd h h0
  · exact absurd h h1
  · exact vp_in_nI hj hn
theorem xin_l2 {i : Int32} {n : Nat} (h0 : ¬ i < 0) (h1 : i < nI n) (hn : n < 2 ^ 31) : vp_in i n := xin_lt h0 (fun h => by rw [Int32.le_iff_toInt_le] at h; rw [Int32.lt_iff_toInt_lt] at h1; omega) hn
section XN
variable {p : Program} {l : Launch} {e : Env} {R : Room} {s : State} {m : MethodId} {args : Array Value} {below : List Frame} {meth : Method} {c : Code} {cc : ByteArray} {nL : Nat} {own : String} {ret : Option FieldType} {G : xG} {cells slots : Nat} {Q : State → Prop} {pc : Nat} {lv lv' : List (Nat × Value)} {st : List Value} {σ : xS} {k n i k' : Nat}
theorem x_pick (ks : List Nat) (h : lv_pick lv ks = lv') (K : xW p l e R s m args below meth c nL G cells slots Q pc lv' st σ) : xW p l e R s m args below meth c nL G cells slots Q pc lv st σ := fun H locs ls hH hS hl => K H locs ls hH hS (lv_sub hl ks h)
theorem x_ialdN (X : xC p s m meth c cc nL own ret G) (d : decode cc pc = .ok (.iaload, 1)) (hk : xck k = (10, n)) (h : i < n) (hn : n < 2 ^ 31) (K : xW p l e R s m args below meth c nL G cells slots Q (pc + 1) lv (.int (xgI σ k i) :: st) σ) : xW p l e R s m args below meth c nL G cells slots Q pc lv (.int (nI i) :: .ref (G.2.1 k) :: st) σ := x_iald X d hk (vp_in_nI h hn) (by rw [nI_clamp (by omega)]; exact K)
theorem x_laldN (X : xC p s m meth c cc nL own ret G) (d : decode cc pc = .ok (.laload, 1)) (hk : xck k = (11, n)) (h : i < n) (hn : n < 2 ^ 31) (K : xW p l e R s m args below meth c nL G cells slots Q (pc + 1) lv (.long (xgL σ k i) :: st) σ) : xW p l e R s m args below meth c nL G cells slots Q pc lv (.int (nI i) :: .ref (G.2.1 k) :: st) σ := x_lald X d hk (vp_in_nI h hn) (by rw [nI_clamp (by omega)]; exact K)
theorem x_zaldN (X : xC p s m meth c cc nL own ret G) (d : decode cc pc = .ok (.baload, 1)) (hk : xck k = (12, n)) (h : i < n) (hn : n < 2 ^ 31) (K : xW p l e R s m args below meth c nL G cells slots Q (pc + 1) lv (.int (xgI σ k i) :: st) σ) : xW p l e R s m args below meth c nL G cells slots Q pc lv (.int (nI i) :: .ref (G.2.1 k) :: st) σ := x_zald X d hk (vp_in_nI h hn) (by rw [nI_clamp (by omega)]; exact K)
theorem x_raldN (X : xC p s m meth c cc nL own ret G) (d : decode cc pc = .ok (.aaload, 1)) (hk : xck k = (13, n)) (h : i < n) (hn : n < 2 ^ 31) (hr : xrf σ k i = k') (K : xW p l e R s m args below meth c nL G cells slots Q (pc + 1) lv (.ref (G.2.1 k') :: st) σ) : xW p l e R s m args below meth c nL G cells slots Q pc lv (.int (nI i) :: .ref (G.2.1 k) :: st) σ := x_rald X d hk (vp_in_nI h hn) (by rw [nI_clamp (by omega)]; exact hr) K
theorem x_aaldN (X : xC p s m meth c cc nL own ret G) (d : decode cc pc = .ok (.aaload, 1)) (hk : xck k = (14, n)) (h : i < n) (hn : n < 2 ^ 31) (hr : xrf σ k i = k') (K : xW p l e R s m args below meth c nL G cells slots Q (pc + 1) lv (.ref (G.2.1 k') :: st) σ) : xW p l e R s m args below meth c nL G cells slots Q pc lv (.int (nI i) :: .ref (G.2.1 k) :: st) σ := x_aald X d hk (vp_in_nI h hn) (by rw [nI_clamp (by omega)]; exact hr) K
theorem x_iastN {v : Int32} (X : xC p s m meth c cc nL own ret G) (d : decode cc pc = .ok (.iastore, 1)) (hk : xck k = (10, n)) (h : i < n) (hn : n < 2 ^ 31) (K : xW p l e R s m args below meth c nL G cells slots Q (pc + 1) lv st (xsI σ k i v)) : xW p l e R s m args below meth c nL G cells slots Q pc lv (.int v :: .int (nI i) :: .ref (G.2.1 k) :: st) σ := x_iast X d hk (vp_in_nI h hn) (by rw [nI_clamp (by omega)]; exact K)
theorem x_lastN {v : Int64} (X : xC p s m meth c cc nL own ret G) (d : decode cc pc = .ok (.lastore, 1)) (hk : xck k = (11, n)) (h : i < n) (hn : n < 2 ^ 31) (K : xW p l e R s m args below meth c nL G cells slots Q (pc + 1) lv st (xsL σ k i v)) : xW p l e R s m args below meth c nL G cells slots Q pc lv (.long v :: .int (nI i) :: .ref (G.2.1 k) :: st) σ := x_last X d hk (vp_in_nI h hn) (by rw [nI_clamp (by omega)]; exact K)
theorem x_zastN {v : Int32} (X : xC p s m meth c cc nL own ret G) (d : decode cc pc = .ok (.bastore, 1)) (hk : xck k = (12, n)) (h : i < n) (hn : n < 2 ^ 31) (hv : v = 0 ∨ v = 1) (K : xW p l e R s m args below meth c nL G cells slots Q (pc + 1) lv st (xsI σ k i v)) : xW p l e R s m args below meth c nL G cells slots Q pc lv (.int v :: .int (nI i) :: .ref (G.2.1 k) :: st) σ := x_zast X d hk (vp_in_nI h hn) hv (by rw [nI_clamp (by omega)]; exact K)
end XN
