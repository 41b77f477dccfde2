/-! PlanCertificates -/
theorem xrf_congr {σ τ : xS} {k j : Nat} (h : k ≠ 0) : xrf σ k j = xrf τ k j := by
  unfold xrf
  congr 1
  unfold xrt
  split <;> first | rfl | exact absurd rfl h

theorem x_putC {p : Program} {l : Launch} {e : Env} {R : Room} {s : State} {m : MethodId} {args : Array Value} {below : List Frame} {meth : Method} {c : Code} {cc : ByteArray} {nL : Nat} {ret : Option FieldType} {G : xG} {cells slots : Nat} {Q : State → Prop} {pc : Nat} {lv : List (Nat × Value)} {st : List Value} {σ : xS} (X : xC p s m meth c cc nL RX8 ret G) {v : Nat} (d : decode cc pc = .ok (.putfield 33, 3)) (K : xW p l e R s m args below meth c nL G cells slots Q (pc + 3) lv st (xsC σ v)) : xW p l e R s m args below meth c nL G cells slots Q pc lv (.ref (G.2.1 v) :: .ref (G.2.1 0) :: st) σ := fun H locs ls hH hS hl => by
  have hcl := @xcell_o G σ 0 7 rfl (by decide)
  refine va_put (D := G.1) X.x X.b (xlay X.k (ci := 7) rfl) (fun _ h => h) tyX8 tyX8_ok nmX8 X.o X.k.1 hH (xwl_D X.k.2.2) hS 0 ((xwl_at (by decide)).trans (by rw [hcl])) (show vwCl[7]? = some (RX8, TX8, 6) from rfl) 4 (by decide) (X.k.word wf_X8_33 rfl) (fun _ h => h) rfl (tyX8_ok 4 (by decide)) rfl rfl (by rw [xfl_len]; decide) d (fun H1 locs1 hP1 _ hS1 => K H1 locs1 ls ?_ hS1 hl)
  rw [show (xfl G σ 0 0 (xfk 7)).set 4 (.ref (G.2.1 v)) = xfl G (xsC σ v) 0 0 (xfk 7) from rfl, xwl_set (G := G) (σ := σ) (τ := xsC σ v) (by decide) (xcell_o rfl (by decide)) (fun a ha => xcell_congr (fun _ => rfl) (fun _ => rfl) (fun b => xrf_congr ha))] at hP1
  exact hP1

theorem x_putD {p : Program} {l : Launch} {e : Env} {R : Room} {s : State} {m : MethodId} {args : Array Value} {below : List Frame} {meth : Method} {c : Code} {cc : ByteArray} {nL : Nat} {ret : Option FieldType} {G : xG} {cells slots : Nat} {Q : State → Prop} {pc : Nat} {lv : List (Nat × Value)} {st : List Value} {σ : xS} (X : xC p s m meth c cc nL RX8 ret G) {v : Nat} (d : decode cc pc = .ok (.putfield 37, 3)) (K : xW p l e R s m args below meth c nL G cells slots Q (pc + 3) lv st (xsD σ v)) : xW p l e R s m args below meth c nL G cells slots Q pc lv (.ref (G.2.1 v) :: .ref (G.2.1 0) :: st) σ := fun H locs ls hH hS hl => by
  have hcl := @xcell_o G σ 0 7 rfl (by decide)
  refine va_put (D := G.1) X.x X.b (xlay X.k (ci := 7) rfl) (fun _ h => h) tyX8 tyX8_ok nmX8 X.o X.k.1 hH (xwl_D X.k.2.2) hS 0 ((xwl_at (by decide)).trans (by rw [hcl])) (show vwCl[7]? = some (RX8, TX8, 6) from rfl) 5 (by decide) (X.k.word wf_X8_37 rfl) (fun _ h => h) rfl (tyX8_ok 5 (by decide)) rfl rfl (by rw [xfl_len]; decide) d (fun H1 locs1 hP1 _ hS1 => K H1 locs1 ls ?_ hS1 hl)
  rw [show (xfl G σ 0 0 (xfk 7)).set 5 (.ref (G.2.1 v)) = xfl G (xsD σ v) 0 0 (xfk 7) from rfl, xwl_set (G := G) (σ := σ) (τ := xsD σ v) (by decide) (xcell_o rfl (by decide)) (fun a ha => xcell_congr (fun _ => rfl) (fun _ => rfl) (fun b => xrf_congr ha))] at hP1
  exact hP1

/-- the part of a state that reading a model leaves alone -/
theorem tNext_2 {σ : xS} {lo hi : Int32} : (tNext σ lo hi).2.2 = σ.2 := by
  unfold tNext
  split
  · rfl
  · split
    · rfl
    · split <;> rfl
theorem tPut_2 {σ : xS} {lo hi : Int32} {k j : Nat} : (tPut σ lo hi k j).2 = σ.2 := tNext_2
theorem tBut_2 {σ : xS} {o : Int32} : (tBut σ o).2 = σ.2 := by
  unfold tBut
  split
  · rfl
  · split <;> rfl
theorem tSkip_2 {σ : xS} {lo hi : Int32} : ∀ n, (tSkip lo hi σ n).2 = σ.2
  | 0 => rfl
  | n + 1 => by rw [tSkip, tNext_2, tSkip_2 n]
theorem tSkip_o {σ : xS} {lo hi : Int32} {a : Nat} (b : Nat) (h : a ≠ 1) : ∀ n, xgI (tSkip lo hi σ n) a b = xgI σ a b
  | 0 => rfl
  | n + 1 => by rw [tSkip, tNext_o b h, tSkip_o b h n]
theorem mVs_2 {σ : xS} {c V : Nat} : ∀ n, (mVs σ c V n).2 = σ.2
  | 0 => rfl
  | n + 1 => by
    rw [mVs]
    unfold mVar
    split
    · rw [tPut_2, tPut_2, tPut_2, mVs_2 n]
    · exact mVs_2 n
theorem mFs_2 {σ : xS} {c V r : Nat} : ∀ n, (mFs σ c V r n).2 = σ.2
  | 0 => rfl
  | n + 1 => by
    rw [mFs]
    split
    · rw [tPut_2, mFs_2 n]
    · exact mFs_2 n
theorem mRs_2 {σ : xS} {c V : Nat} : ∀ n, (mRs σ c V n).2 = σ.2
  | 0 => rfl
  | n + 1 => by rw [mRs, tPut_2, mFs_2, mRs_2 n]
theorem mPs_2 {σ : xS} {c t : Nat} : ∀ n, (mPs σ c t n).2 = σ.2
  | 0 => rfl
  | n + 1 => by rw [mPs, tPut_2, tPut_2, mPs_2 n]
theorem mTs_2 {σ : xS} {c V : Nat} : ∀ n, (mTs σ c V n).2 = σ.2
  | 0 => rfl
  | n + 1 => by rw [mTs, mTab, mPs_2, mT3, tPut_2, tPut_2, tBut_2, tPut_2, mTs_2 n]
theorem mS7_2 {σ : xS} {c z : Nat} : (mS7 σ c z).2 = σ.2 := by
  show (mS6 σ c).2 = σ.2
  unfold mS6 mS5 mS4 mS3 mS2 mS1
  rw [mTs_2, tPut_2, mRs_2, tPut_2, mVs_2, tPut_2]
  rfl
theorem xgC_of {σ τ : xS} (h : τ.2 = σ.2) : xgC τ = xgC σ := by unfold xgC; rw [h]
theorem xgD_of {σ τ : xS} (h : τ.2 = σ.2) : xgD τ = xgD σ := by unfold xgD; rw [h]
def pPut (σ : xS) (n a b c d : Int32) : Int32 × xS := if n < 1 then (-3, σ) else if n ≤ 4 then (if tRoom σ n = 0 then (-5, σ) else (xgI (if n ≤ 3 then (if n ≤ 2 then (if n ≤ 1 then tAppend σ a else tAppend (tAppend σ a) b) else tAppend (if n ≤ 1 then tAppend σ a else tAppend (tAppend σ a) b) c) else tAppend (if n ≤ 2 then (if n ≤ 1 then tAppend σ a else tAppend (tAppend σ a) b) else tAppend (if n ≤ 1 then tAppend σ a else tAppend (tAppend σ a) b) c) d) 1 1, if n ≤ 3 then (if n ≤ 2 then (if n ≤ 1 then tAppend σ a else tAppend (tAppend σ a) b) else tAppend (if n ≤ 1 then tAppend σ a else tAppend (tAppend σ a) b) c) else tAppend (if n ≤ 2 then (if n ≤ 1 then tAppend σ a else tAppend (tAppend σ a) b) else tAppend (if n ≤ 1 then tAppend σ a else tAppend (tAppend σ a) b) c) d)) else (-3, σ)
def pModel (σ : xS) (c d z : Nat) : Int32 × xS := if tWhole (mS7 σ d z) = 0 then (-10 - xgI (mS7 σ d z) 1 2, xsI (mS7 σ d z) 1 1 0) else (1, cEnd (xsI (xsI (xsD (xsC (xsI (mS7 σ d z) 1 1 0) d) c) 0 3 1) 3 2 0))
def pSk (σ : xS) (V : Nat) : xS := tSkip (-1000000) 1000000 (tRew σ) V
theorem pSk_o {σ : xS} {V a : Nat} (b : Nat) (h : a ≠ 1) : xgI (pSk σ V) a b = xgI σ a b := by
  unfold pSk tRew
  rw [tSkip_o b h, xgI_n (fun z => h z.1), xgI_n (fun z => h z.1)]
theorem pSk_2 {σ : xS} {V : Nat} : (pSk σ V).2 = σ.2 := tSkip_2 V
/-- telling a plan, ahead of the tape's clearing -/
def pTell (σ : xS) (V np : Nat) : Int32 × xS := if xgI σ 0 3 = 0 then (-4, σ) else if tWhole (pSk σ V) = 0 then (-3, pSk σ V) else if np = 8 then (-5, pSk σ V) else (nI np, pNew (pSk σ V) np V)

set_option maxHeartbeats 4000000 in
set_option maxRecDepth 100000 in
theorem c_X8_put {l : Launch} {G : xG} {σ : xS} {n a b c d : Int32} : xFi l G yX8_put cX8_put 6 (Option.some Jvm.ClassFile.FieldType.int) 1 21 [.ref (G.2.1 0), .int n, .int a, .int b, .int c, .int d] σ ((pPut σ n a b c d).1) ((pPut σ n a b c d).2) := by
  refine xM.of (by decide) (Nat.le_of_ble_eq_true rfl) (fun pp ee ss mm aa bel met kk X => ?_)
  have X : xC pp ss mm met kk cX8_put 6 RX8 (Option.some Jvm.ClassFile.FieldType.int) G := X
  show xW pp l ee { frames := 1, cells := 0, slots := 0, locals := 21 } ss mm aa bel met kk 6 G 0 0 (xQ bel G (fun rv_ tv_ => rv_ = some (.int ((pPut σ n a b c d).1)) ∧ tv_ = ((pPut σ n a b c d).2)) aa ss) 0 [(0, .ref (G.2.1 0)), (1, .int n), (2, .int a), (3, .int b), (4, .int c), (5, .int d)] [] σ
  refine x_iload_n X dX8_put_0 rfl ?_
  refine x_iconst (v := 1) X dX8_put_1 (by decide) ?_
  refine x_icmplt (tgt := 10) X dX8_put_2 (by decide) (fun h2 => ?_) (fun h2 => ?_)
  · skip
    refine x_bipush (v := (-3)) X dX8_put_10 (by decide) ?_
    exact x_iret X dX8_put_12 (xp_i (by simp [pPut, *]) (by simp [pPut, *]))
  · skip
    refine x_iload_n X dX8_put_5 rfl ?_
    refine x_iconst (v := 4) X dX8_put_6 (by decide) ?_
    refine x_icmple (tgt := 13) X dX8_put_7 (by decide) (fun h7 => ?_) (fun h7 => ?_)
    · skip
      refine x_aload_n X dX8_put_13 rfl ?_
      refine gf_X8_12 (k' := 1) X dX8_put_14 rfl rfl ?_
      refine x_iload_n X dX8_put_17 rfl ?_
      refine cv_X8_40 X c_X7_hasRoomFor dX8_put_18 rfl ⟨by decide, by decide, by decide, by decide⟩ rfl rfl (Nat.le_of_ble_eq_true rfl) (xk_i ?_)
      refine x_ifne (tgt := 27) X dX8_put_21 (by decide) (fun h21 => ?_) (fun h21 => ?_)
      · skip
        refine x_aload_n X dX8_put_27 rfl ?_
        refine gf_X8_12 (k' := 1) X dX8_put_28 rfl rfl ?_
        refine x_iload_n X dX8_put_31 rfl ?_
        refine cv_X8_44 X c_X7_append dX8_put_32 rfl ⟨by decide, by decide, by decide, by decide⟩ rfl rfl (Nat.le_of_ble_eq_true rfl) (xk_v ?_)
        refine x_iload_n X dX8_put_35 rfl ?_
        refine x_iconst (v := 1) X dX8_put_36 (by decide) ?_
        refine x_icmple (tgt := 48) X dX8_put_37 (by decide) (fun h37 => ?_) (fun h37 => ?_)
        · skip
          refine x_iload_n X dX8_put_48 rfl ?_
          refine x_iconst (v := 2) X dX8_put_49 (by decide) ?_
          refine x_icmple (tgt := 62) X dX8_put_50 (by decide) (fun h50 => ?_) (fun h50 => ?_)
          · skip
            refine x_iload_n X dX8_put_62 rfl ?_
            refine x_iconst (v := 3) X dX8_put_63 (by decide) ?_
            refine x_icmple (tgt := 76) X dX8_put_64 (by decide) (fun h64 => ?_) (fun h64 => ?_)
            · skip
              refine x_aload_n X dX8_put_76 rfl ?_
              refine gf_X8_12 (k' := 1) X dX8_put_77 rfl rfl ?_
              refine gf_X8_48 X dX8_put_80 rfl ?_
              exact x_iret X dX8_put_83 (xp_i (by simp [pPut, *]) (by simp [pPut, *]))
            · skip
              refine x_aload_n X dX8_put_67 rfl ?_
              refine gf_X8_12 (k' := 1) X dX8_put_68 rfl rfl ?_
              refine x_iload X dX8_put_71 rfl ?_
              refine cv_X8_44 X c_X7_append dX8_put_73 rfl ⟨by decide, by decide, by decide, by decide⟩ rfl rfl (Nat.le_of_ble_eq_true rfl) (xk_v ?_)
              refine x_aload_n X dX8_put_76 rfl ?_
              refine gf_X8_12 (k' := 1) X dX8_put_77 rfl rfl ?_
              refine gf_X8_48 X dX8_put_80 rfl ?_
              exact x_iret X dX8_put_83 (xp_i (by simp [pPut, *]) (by simp [pPut, *]))
          · skip
            refine x_aload_n X dX8_put_53 rfl ?_
            refine gf_X8_12 (k' := 1) X dX8_put_54 rfl rfl ?_
            refine x_iload X dX8_put_57 rfl ?_
            refine cv_X8_44 X c_X7_append dX8_put_59 rfl ⟨by decide, by decide, by decide, by decide⟩ rfl rfl (Nat.le_of_ble_eq_true rfl) (xk_v ?_)
            refine x_iload_n X dX8_put_62 rfl ?_
            refine x_iconst (v := 3) X dX8_put_63 (by decide) ?_
            refine x_icmple (tgt := 76) X dX8_put_64 (by decide) (fun h64 => ?_) (fun h64 => ?_)
            · skip
              refine x_aload_n X dX8_put_76 rfl ?_
              refine gf_X8_12 (k' := 1) X dX8_put_77 rfl rfl ?_
              refine gf_X8_48 X dX8_put_80 rfl ?_
              exact x_iret X dX8_put_83 (xp_i (by simp [pPut, *]) (by simp [pPut, *]))
            · skip
              refine x_aload_n X dX8_put_67 rfl ?_
              refine gf_X8_12 (k' := 1) X dX8_put_68 rfl rfl ?_
              refine x_iload X dX8_put_71 rfl ?_
              refine cv_X8_44 X c_X7_append dX8_put_73 rfl ⟨by decide, by decide, by decide, by decide⟩ rfl rfl (Nat.le_of_ble_eq_true rfl) (xk_v ?_)
              refine x_aload_n X dX8_put_76 rfl ?_
              refine gf_X8_12 (k' := 1) X dX8_put_77 rfl rfl ?_
              refine gf_X8_48 X dX8_put_80 rfl ?_
              exact x_iret X dX8_put_83 (xp_i (by simp [pPut, *]) (by simp [pPut, *]))
        · skip
          refine x_aload_n X dX8_put_40 rfl ?_
          refine gf_X8_12 (k' := 1) X dX8_put_41 rfl rfl ?_
          refine x_iload_n X dX8_put_44 rfl ?_
          refine cv_X8_44 X c_X7_append dX8_put_45 rfl ⟨by decide, by decide, by decide, by decide⟩ rfl rfl (Nat.le_of_ble_eq_true rfl) (xk_v ?_)
          refine x_iload_n X dX8_put_48 rfl ?_
          refine x_iconst (v := 2) X dX8_put_49 (by decide) ?_
          refine x_icmple (tgt := 62) X dX8_put_50 (by decide) (fun h50 => ?_) (fun h50 => ?_)
          · skip
            refine x_iload_n X dX8_put_62 rfl ?_
            refine x_iconst (v := 3) X dX8_put_63 (by decide) ?_
            refine x_icmple (tgt := 76) X dX8_put_64 (by decide) (fun h64 => ?_) (fun h64 => ?_)
            · skip
              refine x_aload_n X dX8_put_76 rfl ?_
              refine gf_X8_12 (k' := 1) X dX8_put_77 rfl rfl ?_
              refine gf_X8_48 X dX8_put_80 rfl ?_
              exact x_iret X dX8_put_83 (xp_i (by simp [pPut, *]) (by simp [pPut, *]))
            · skip
              refine x_aload_n X dX8_put_67 rfl ?_
              refine gf_X8_12 (k' := 1) X dX8_put_68 rfl rfl ?_
              refine x_iload X dX8_put_71 rfl ?_
              refine cv_X8_44 X c_X7_append dX8_put_73 rfl ⟨by decide, by decide, by decide, by decide⟩ rfl rfl (Nat.le_of_ble_eq_true rfl) (xk_v ?_)
              refine x_aload_n X dX8_put_76 rfl ?_
              refine gf_X8_12 (k' := 1) X dX8_put_77 rfl rfl ?_
              refine gf_X8_48 X dX8_put_80 rfl ?_
              exact x_iret X dX8_put_83 (xp_i (by simp [pPut, *]) (by simp [pPut, *]))
          · skip
            refine x_aload_n X dX8_put_53 rfl ?_
            refine gf_X8_12 (k' := 1) X dX8_put_54 rfl rfl ?_
            refine x_iload X dX8_put_57 rfl ?_
            refine cv_X8_44 X c_X7_append dX8_put_59 rfl ⟨by decide, by decide, by decide, by decide⟩ rfl rfl (Nat.le_of_ble_eq_true rfl) (xk_v ?_)
            refine x_iload_n X dX8_put_62 rfl ?_
            refine x_iconst (v := 3) X dX8_put_63 (by decide) ?_
            refine x_icmple (tgt := 76) X dX8_put_64 (by decide) (fun h64 => ?_) (fun h64 => ?_)
            · skip
              refine x_aload_n X dX8_put_76 rfl ?_
              refine gf_X8_12 (k' := 1) X dX8_put_77 rfl rfl ?_
              refine gf_X8_48 X dX8_put_80 rfl ?_
              exact x_iret X dX8_put_83 (xp_i (by simp [pPut, *]) (by simp [pPut, *]))
            · skip
              refine x_aload_n X dX8_put_67 rfl ?_
              refine gf_X8_12 (k' := 1) X dX8_put_68 rfl rfl ?_
              refine x_iload X dX8_put_71 rfl ?_
              refine cv_X8_44 X c_X7_append dX8_put_73 rfl ⟨by decide, by decide, by decide, by decide⟩ rfl rfl (Nat.le_of_ble_eq_true rfl) (xk_v ?_)
              refine x_aload_n X dX8_put_76 rfl ?_
              refine gf_X8_12 (k' := 1) X dX8_put_77 rfl rfl ?_
              refine gf_X8_48 X dX8_put_80 rfl ?_
              exact x_iret X dX8_put_83 (xp_i (by simp [pPut, *]) (by simp [pPut, *]))
      · skip
        refine x_bipush (v := (-5)) X dX8_put_24 (by decide) ?_
        exact x_iret X dX8_put_26 (xp_i (by simp [pPut, *]) (by simp [pPut, *]))
    · skip
      refine x_bipush (v := (-3)) X dX8_put_10 (by decide) ?_
      exact x_iret X dX8_put_12 (xp_i (by simp [pPut, *]) (by simp [pPut, *]))

set_option maxHeartbeats 4000000 in
set_option maxRecDepth 100000 in
theorem c_X8_drop {l : Launch} {G : xG} {σ : xS} : xFi l G yX8_drop cX8_drop 2 (Option.some Jvm.ClassFile.FieldType.int) 1 20 [.ref (G.2.1 0)] σ (xgI σ 1 1) (xsI σ 1 1 0) := by
  refine xM.of (by decide) (Nat.le_of_ble_eq_true rfl) (fun pp ee ss mm aa bel met kk X => ?_)
  have X : xC pp ss mm met kk cX8_drop 2 RX8 (Option.some Jvm.ClassFile.FieldType.int) G := X
  show xW pp l ee { frames := 1, cells := 0, slots := 0, locals := 20 } ss mm aa bel met kk 2 G 0 0 (xQ bel G (fun rv_ tv_ => rv_ = some (.int (xgI σ 1 1)) ∧ tv_ = (xsI σ 1 1 0)) aa ss) 0 [(0, .ref (G.2.1 0))] [] σ
  refine x_aload_n X dX8_drop_0 rfl ?_
  refine gf_X8_12 (k' := 1) X dX8_drop_1 rfl rfl ?_
  refine gf_X8_48 X dX8_drop_4 rfl ?_
  refine x_topi (fun had hhad => ?_)
  refine x_istore_n (lv' := [(1, .int had), (0, .ref (G.2.1 0))]) X dX8_drop_7 rfl (by decide) rfl ?_
  refine x_aload_n X dX8_drop_8 rfl ?_
  refine gf_X8_12 (k' := 1) X dX8_drop_9 rfl rfl ?_
  refine cv_X8_52 X c_X7_clear dX8_drop_12 rfl ⟨by decide, by decide, by decide, by decide⟩ rfl rfl (Nat.le_of_ble_eq_true rfl) (xk_v ?_)
  refine x_iload_n X dX8_drop_15 rfl ?_
  exact x_iret X dX8_drop_16 (xp_i (by first | rfl | simp [*]) (by first | rfl | simp [*]))

set_option maxHeartbeats 4000000 in
set_option maxRecDepth 100000 in
theorem c_X8_model {l : Launch} {G : xG} {σ : xS} {c d z : Nat} (hm : xMod c) (hC : xgC σ = c) (hmd : xMod d) (hD : xgD σ = d) (hz : z ≤ 1000) (hs : xgI σ 1 1 = nI z) : xFi l G yX8_model cX8_model 4 (Option.some Jvm.ClassFile.FieldType.int) 5 114 [.ref (G.2.1 0)] σ ((pModel σ c d z).1) ((pModel σ c d z).2) := by
  refine xM.of (by decide) (Nat.le_of_ble_eq_true rfl) (fun pp ee ss mm aa bel met kk X => ?_)
  have X : xC pp ss mm met kk cX8_model 4 RX8 (Option.some Jvm.ClassFile.FieldType.int) G := X
  show xW pp l ee { frames := 5, cells := 0, slots := 0, locals := 114 } ss mm aa bel met kk 4 G 0 0 (xQ bel G (fun rv_ tv_ => rv_ = some (.int ((pModel σ c d z).1)) ∧ tv_ = ((pModel σ c d z).2)) aa ss) 0 [(0, .ref (G.2.1 0))] [] σ
  refine x_aload_n X dX8_model_0 rfl ?_
  refine gf_X8_37 (k' := d) X dX8_model_1 rfl hD ?_
  refine x_aload_n X dX8_model_4 rfl ?_
  refine gf_X8_12 (k' := 1) X dX8_model_5 rfl rfl ?_
  refine cv_X8_55 X (c_X2_fillFrom hmd hz hs) dX8_model_8 (xk0 hmd) ⟨by decide, by decide, by decide, by decide⟩ rfl rfl (Nat.le_of_ble_eq_true rfl) (xk_i ?_)
  refine x_topi (fun ok hok => ?_)
  refine x_istore_n (lv' := [(1, .int ok), (0, .ref (G.2.1 0))]) X dX8_model_11 rfl (by decide) rfl ?_
  refine x_aload_n X dX8_model_12 rfl ?_
  refine gf_X8_12 (k' := 1) X dX8_model_13 rfl rfl ?_
  refine gf_X8_59 X dX8_model_16 rfl ?_
  refine x_topi (fun pl hpl => ?_)
  refine x_istore_n (lv' := [(2, .int pl), (1, .int ok), (0, .ref (G.2.1 0))]) X dX8_model_19 rfl (by decide) rfl ?_
  refine x_aload_n X dX8_model_20 rfl ?_
  refine gf_X8_12 (k' := 1) X dX8_model_21 rfl rfl ?_
  refine cv_X8_52 X c_X7_clear dX8_model_24 rfl ⟨by decide, by decide, by decide, by decide⟩ rfl rfl (Nat.le_of_ble_eq_true rfl) (xk_v ?_)
  refine x_iload_n X dX8_model_27 rfl ?_
  refine x_ifne (tgt := 36) X dX8_model_28 (by decide) (fun h28 => ?_) (fun h28 => ?_)
  · skip
    rw [hok] at h28
    refine x_aload_n X dX8_model_36 rfl ?_
    refine gf_X8_33 (k' := c) X dX8_model_37 rfl ((xgC_of (mS7_2 (σ := σ) (c := d) (z := z))).trans hC) ?_
    refine x_astore_n (lv' := [(3, .ref (G.2.1 c)), (2, .int pl), (1, .int ok), (0, .ref (G.2.1 0))]) X dX8_model_40 rfl (by decide) rfl ?_
    refine x_aload_n X dX8_model_41 rfl ?_
    refine x_aload_n X dX8_model_42 rfl ?_
    refine gf_X8_37 (k' := d) X dX8_model_43 rfl ((xgD_of (mS7_2 (σ := σ) (c := d) (z := z))).trans hD) ?_
    refine x_putC X dX8_model_46 ?_
    refine x_aload_n X dX8_model_49 rfl ?_
    refine x_aload_n X dX8_model_50 rfl ?_
    refine x_putD X dX8_model_51 ?_
    refine x_aload_n X dX8_model_54 rfl ?_
    refine x_iconst (v := 1) X dX8_model_55 (by decide) ?_
    refine pf_X8_62 X dX8_model_56 rfl (Or.inr rfl) ?_
    refine x_aload_n X dX8_model_59 rfl ?_
    refine gf_X8_19 (k' := 3) X dX8_model_60 rfl rfl ?_
    refine cv_X8_66 X c_X4_clear dX8_model_63 rfl ⟨by decide, by decide, by decide, by decide⟩ rfl rfl (Nat.le_of_ble_eq_true rfl) (xk_v ?_)
    refine x_aload_n X dX8_model_66 rfl ?_
    refine gf_X8_26 (k' := 6) X dX8_model_67 rfl rfl ?_
    refine cv_X8_67 X c_X0_end dX8_model_70 rfl ⟨by decide, by decide, by decide, by decide⟩ rfl rfl (Nat.le_of_ble_eq_true rfl) (xk_v ?_)
    refine x_iconst (v := 1) X dX8_model_73 (by decide) ?_
    exact x_iret X dX8_model_74 (by unfold pModel; rw [if_neg h28]; exact ⟨rfl, rfl⟩)
  · skip
    rw [hok] at h28
    refine x_bipush (v := (-10)) X dX8_model_31 (by decide) ?_
    refine x_iload_n X dX8_model_33 rfl ?_
    refine x_isub X dX8_model_34 ?_
    exact x_iret X dX8_model_35 (by unfold pModel; rw [if_pos h28]; exact ⟨by rw [hpl], rfl⟩)

set_option maxHeartbeats 4000000 in
set_option maxRecDepth 100000 in
theorem c_X8_tellPlan {l : Launch} {G : xG} {σ : xS} {V np : Nat} {c : Nat} (hm : xMod c) (hC : xgC σ = c) (hV : xgI σ c 0 = nI V) (hV8 : V ≤ 8) (hp : np ≤ 8) (hc : xgI σ 3 2 = nI np) (hz : ∃ z, z ≤ 1000 ∧ xgI σ 1 1 = nI z) : xFi l G yX8_tellPlan cX8_tellPlan 1 (Option.some Jvm.ClassFile.FieldType.int) 3 67 [.ref (G.2.1 0)] σ ((pTell σ V np).1) ((pTell σ V np).2) := by
  refine xM.of (by decide) (Nat.le_of_ble_eq_true rfl) (fun pp ee ss mm aa bel met kk X => ?_)
  have X : xC pp ss mm met kk cX8_tellPlan 1 RX8 (Option.some Jvm.ClassFile.FieldType.int) G := X
  show xW pp l ee { frames := 3, cells := 0, slots := 0, locals := 67 } ss mm aa bel met kk 1 G 0 0 (xQ bel G (fun rv_ tv_ => rv_ = some (.int ((pTell σ V np).1)) ∧ tv_ = ((pTell σ V np).2)) aa ss) 0 [(0, .ref (G.2.1 0))] [] σ
  refine x_aload_n X dX8_tellPlan_0 rfl ?_
  refine gf_X8_62 X dX8_tellPlan_1 rfl ?_
  refine x_ifne (tgt := 10) X dX8_tellPlan_4 (by decide) (fun h4 => ?_) (fun h4 => ?_)
  · skip
    refine x_aload_n X dX8_tellPlan_10 rfl ?_
    refine gf_X8_12 (k' := 1) X dX8_tellPlan_11 rfl rfl ?_
    refine x_aload_n X dX8_tellPlan_14 rfl ?_
    refine gf_X8_33 (k' := c) X dX8_tellPlan_15 rfl hC ?_
    refine gf_X8_74 X dX8_tellPlan_18 (xk0 hm) ?_
    rw [hV]
    refine cv_X8_77 X (c_X7_isPlanOf (by omega)) dX8_tellPlan_21 rfl ⟨by decide, by decide, by decide, by decide⟩ rfl rfl (Nat.le_of_ble_eq_true rfl) (xk_i ?_)
    refine x_ifne (tgt := 30) X dX8_tellPlan_24 (by decide) (fun h24 => ?_) (fun h24 => ?_)
    · skip
      have h24 : ¬ tWhole (pSk σ V) = 0 := h24
      refine x_aload_n X dX8_tellPlan_30 rfl ?_
      refine gf_X8_19 (k' := 3) X dX8_tellPlan_31 rfl rfl ?_
      refine x_aload_n X dX8_tellPlan_34 rfl ?_
      refine gf_X8_12 (k' := 1) X dX8_tellPlan_35 rfl rfl ?_
      refine x_aload_n X dX8_tellPlan_38 rfl ?_
      refine gf_X8_33 (k' := c) X dX8_tellPlan_39 rfl ((xgC_of pSk_2).trans hC) ?_
      refine gf_X8_74 X dX8_tellPlan_42 (xk0 hm) ?_
      rw [show xgI (tSkip (-1000000) 1000000 (tRew σ) V) c 0 = nI V from (pSk_o 0 (by have := mC_b hm; omega)).trans hV]
      by_cases hn8 : np = 8
      · refine cv_X8_80 X (c_X4_add8 (((pSk_o 2 (by omega)).trans hc).trans (by rw [hn8]; rfl))) dX8_tellPlan_45 rfl ⟨by decide, by decide, by decide, by decide⟩ rfl rfl (Nat.le_of_ble_eq_true rfl) (xk_i ?_)
        exact x_iret X dX8_tellPlan_48 (by unfold pTell; rw [if_neg h4, if_neg h24, if_pos hn8]; exact ⟨rfl, rfl⟩)
      refine cv_X8_80 X (c_X4_add hV8 (by omega) ((pSk_o 2 (by omega)).trans hc)) dX8_tellPlan_45 rfl ⟨by decide, by decide, by decide, by decide⟩ rfl rfl (Nat.le_of_ble_eq_true rfl) (xk_i ?_)
      exact x_iret X dX8_tellPlan_48 (by unfold pTell; rw [if_neg h4, if_neg h24, if_neg hn8]; exact ⟨rfl, rfl⟩)
    · skip
      have h24 : tWhole (pSk σ V) = 0 := h24
      refine x_bipush (v := (-3)) X dX8_tellPlan_27 (by decide) ?_
      exact x_iret X dX8_tellPlan_29 (by unfold pTell; rw [if_neg h4, if_pos h24]; exact ⟨rfl, rfl⟩)
  · skip
    refine x_bipush (v := (-4)) X dX8_tellPlan_7 (by decide) ?_
    exact x_iret X dX8_tellPlan_9 (by unfold pTell; rw [if_pos h4]; exact ⟨rfl, rfl⟩)

set_option maxHeartbeats 4000000 in
set_option maxRecDepth 100000 in
theorem c_X8_plan {l : Launch} {G : xG} {σ : xS} {V np : Nat} {c : Nat} (hm : xMod c) (hC : xgC σ = c) (hV : xgI σ c 0 = nI V) (hV8 : V ≤ 8) (hp : np ≤ 8) (hc : xgI σ 3 2 = nI np) (hz : ∃ z, z ≤ 1000 ∧ xgI σ 1 1 = nI z) : xFi l G yX8_plan cX8_plan 2 (Option.some Jvm.ClassFile.FieldType.int) 4 87 [.ref (G.2.1 0)] σ ((pTell σ V np).1) (xsI (pTell σ V np).2 1 1 0) := by
  refine xM.of (by decide) (Nat.le_of_ble_eq_true rfl) (fun pp ee ss mm aa bel met kk X => ?_)
  have X : xC pp ss mm met kk cX8_plan 2 RX8 (Option.some Jvm.ClassFile.FieldType.int) G := X
  show xW pp l ee { frames := 4, cells := 0, slots := 0, locals := 87 } ss mm aa bel met kk 2 G 0 0 (xQ bel G (fun rv_ tv_ => rv_ = some (.int ((pTell σ V np).1)) ∧ tv_ = (xsI (pTell σ V np).2 1 1 0)) aa ss) 0 [(0, .ref (G.2.1 0))] [] σ
  refine x_aload_n X dX8_plan_0 rfl ?_
  refine cv_X8_70 X (c_X8_tellPlan hm hC hV hV8 hp hc hz) dX8_plan_1 rfl ⟨by decide, by decide, by decide, by decide⟩ rfl rfl (Nat.le_of_ble_eq_true rfl) (xk_i ?_)
  refine x_topi (fun an han => ?_)
  refine x_istore_n (lv' := [(1, .int an), (0, .ref (G.2.1 0))]) X dX8_plan_4 rfl (by decide) rfl ?_
  refine x_aload_n X dX8_plan_5 rfl ?_
  refine gf_X8_12 (k' := 1) X dX8_plan_6 rfl rfl ?_
  refine cv_X8_52 X c_X7_clear dX8_plan_9 rfl ⟨by decide, by decide, by decide, by decide⟩ rfl rfl (Nat.le_of_ble_eq_true rfl) (xk_v ?_)
  refine x_iload_n X dX8_plan_12 rfl ?_
  exact x_iret X dX8_plan_13 (xp_i (by exact han) (by first | rfl | simp [*]))

set_option maxHeartbeats 4000000 in
set_option maxRecDepth 100000 in
theorem c_X8_breaksN {l : Launch} {G : xG} {σ : xS} {x : Int32} {c : Nat} (hm : xMod c) (hC : xgC σ = c) {np N M : Nat} (hN : xgI σ c 1 = nI N) (hN2 : N ≤ 20) (hM : xgI σ c 2 = nI M) (hM2 : M ≤ 4) (hT : ∀ t, t < M → ∃ P, P ≤ 20 ∧ xgI σ (c + 8) t = nI P) (hp : np ≤ 8) (hc : xgI σ 3 2 = nI np) (hx : ¬ xLt x np) : xFi l G yX8_breaks cX8_breaks 2 (Option.some Jvm.ClassFile.FieldType.int) 2 46 [.ref (G.2.1 0), .int x] σ (-2) (σ) := by
  refine xM.of (by decide) (Nat.le_of_ble_eq_true rfl) (fun pp ee ss mm aa bel met kk X => ?_)
  have X : xC pp ss mm met kk cX8_breaks 2 RX8 (Option.some Jvm.ClassFile.FieldType.int) G := X
  show xW pp l ee { frames := 2, cells := 0, slots := 0, locals := 46 } ss mm aa bel met kk 2 G 0 0 (xQ bel G (fun rv_ tv_ => rv_ = some (.int (-2)) ∧ tv_ = (σ)) aa ss) 0 [(0, .ref (G.2.1 0)), (1, .int x)] [] σ
  refine x_aload_n X dX8_breaks_0 rfl ?_
  refine gf_X8_19 (k' := 3) X dX8_breaks_1 rfl rfl ?_
  refine x_iload_n X dX8_breaks_4 rfl ?_
  refine cv_X8_84 X (c_X4_has hp hc) dX8_breaks_5 rfl ⟨by decide, by decide, by decide, by decide⟩ rfl rfl (Nat.le_of_ble_eq_true rfl) (xk_i ?_)
  refine x_ifne (tgt := 14) X dX8_breaks_8 (by decide) (fun h8 => ?_) (fun h8 => ?_)
  · skip
    exact absurd (xB_f hx) h8
  · skip
    refine x_bipush (v := (-2)) X dX8_breaks_11 (by decide) ?_
    exact x_iret X dX8_breaks_13 (xp_i (by first | rfl | simp [*]) (by first | rfl | simp [*]))

set_option maxHeartbeats 4000000 in
set_option maxRecDepth 100000 in
theorem c_X8_breaks {l : Launch} {G : xG} {σ : xS} {j : Nat} {c : Nat} (hm : xMod c) (hC : xgC σ = c) {np N M : Nat} (hN : xgI σ c 1 = nI N) (hN2 : N ≤ 20) (hM : xgI σ c 2 = nI M) (hM2 : M ≤ 4) (hT : ∀ t, t < M → ∃ P, P ≤ 20 ∧ xgI σ (c + 8) t = nI P) (hp : np ≤ 8) (hc : xgI σ 3 2 = nI np) (hj : j < np) : xFi l G yX8_breaks cX8_breaks 2 (Option.some Jvm.ClassFile.FieldType.int) 2 46 [.ref (G.2.1 0), .int (nI j)] σ (mBrk σ c (463 + j) N M) (σ) := by
  refine xM.of (by decide) (Nat.le_of_ble_eq_true rfl) (fun pp ee ss mm aa bel met kk X => ?_)
  have X : xC pp ss mm met kk cX8_breaks 2 RX8 (Option.some Jvm.ClassFile.FieldType.int) G := X
  show xW pp l ee { frames := 2, cells := 0, slots := 0, locals := 46 } ss mm aa bel met kk 2 G 0 0 (xQ bel G (fun rv_ tv_ => rv_ = some (.int (mBrk σ c (463 + j) N M)) ∧ tv_ = (σ)) aa ss) 0 [(0, .ref (G.2.1 0)), (1, .int (nI j))] [] σ
  refine x_aload_n X dX8_breaks_0 rfl ?_
  refine gf_X8_19 (k' := 3) X dX8_breaks_1 rfl rfl ?_
  refine x_iload_n X dX8_breaks_4 rfl ?_
  refine cv_X8_84 X (c_X4_has hp hc) dX8_breaks_5 rfl ⟨by decide, by decide, by decide, by decide⟩ rfl rfl (Nat.le_of_ble_eq_true rfl) (xk_i ?_)
  refine x_ifne (tgt := 14) X dX8_breaks_8 (by decide) (fun h8 => ?_) (fun h8 => ?_)
  · skip
    refine x_aload_n X dX8_breaks_14 rfl ?_
    refine gf_X8_33 (k' := c) X dX8_breaks_15 rfl hC ?_
    refine x_aload_n X dX8_breaks_18 rfl ?_
    refine gf_X8_19 (k' := 3) X dX8_breaks_19 rfl rfl ?_
    refine x_iload_n X dX8_breaks_22 rfl ?_
    refine cv_X8_87 X (c_X4_at hp hc hj) dX8_breaks_23 rfl ⟨by decide, by decide, by decide, by decide⟩ rfl rfl (Nat.le_of_ble_eq_true rfl) (xk_r ?_)
    refine cv_X8_91 X (c_X2_firstBroken hm (xck_pln (i := j) (by omega)) hN hN2 hM hM2 hT) dX8_breaks_26 (xk0 hm) ⟨by decide, by decide, by decide, by decide⟩ rfl rfl (Nat.le_of_ble_eq_true rfl) (xk_i ?_)
    exact x_iret X dX8_breaks_29 (xp_i (by first | rfl | simp [*]) (by first | rfl | simp [*]))
  · skip
    exact absurd ⟨j, hj, rfl⟩ (xB_0.mp h8)

set_option maxHeartbeats 4000000 in
set_option maxRecDepth 100000 in
theorem c_X8_cost {l : Launch} {G : xG} {σ : xS} {j np : Nat} {c : Nat} (hm : xMod c) (hC : xgC σ = c) (hp : np ≤ 8) (hc : xgI σ 3 2 = nI np) (hj : j < np) : xFl l G yX8_cost cX8_cost 2 (Option.some Jvm.ClassFile.FieldType.long) 2 45 [.ref (G.2.1 0), .int (nI j)] σ (xSum (xgI σ (c + 3)) (xgI σ (463 + j)) 8) (σ) := by
  refine xM.of (by decide) (Nat.le_of_ble_eq_true rfl) (fun pp ee ss mm aa bel met kk X => ?_)
  have X : xC pp ss mm met kk cX8_cost 2 RX8 (Option.some Jvm.ClassFile.FieldType.long) G := X
  show xW pp l ee { frames := 2, cells := 0, slots := 0, locals := 45 } ss mm aa bel met kk 2 G 0 0 (xQ bel G (fun rv_ tv_ => rv_ = some (.long (xSum (xgI σ (c + 3)) (xgI σ (463 + j)) 8)) ∧ tv_ = (σ)) aa ss) 0 [(0, .ref (G.2.1 0)), (1, .int (nI j))] [] σ
  refine x_aload_n X dX8_cost_0 rfl ?_
  refine gf_X8_19 (k' := 3) X dX8_cost_1 rfl rfl ?_
  refine x_iload_n X dX8_cost_4 rfl ?_
  refine cv_X8_84 X (c_X4_has hp hc) dX8_cost_5 rfl ⟨by decide, by decide, by decide, by decide⟩ rfl rfl (Nat.le_of_ble_eq_true rfl) (xk_i ?_)
  refine x_ifne (tgt := 21) X dX8_cost_8 (by decide) (fun h8 => ?_) (fun h8 => ?_)
  · skip
    refine x_aload_n X dX8_cost_21 rfl ?_
    refine gf_X8_33 (k' := c) X dX8_cost_22 rfl hC ?_
    refine x_aload_n X dX8_cost_25 rfl ?_
    refine gf_X8_19 (k' := 3) X dX8_cost_26 rfl rfl ?_
    refine x_iload_n X dX8_cost_29 rfl ?_
    refine cv_X8_87 X (c_X4_at hp hc hj) dX8_cost_30 rfl ⟨by decide, by decide, by decide, by decide⟩ rfl rfl (Nat.le_of_ble_eq_true rfl) (xk_r ?_)
    refine cv_X8_102 X (c_X2_costOf hm (xck_pln (i := j) (by omega))) dX8_cost_33 (xk0 hm) ⟨by decide, by decide, by decide, by decide⟩ rfl rfl (Nat.le_of_ble_eq_true rfl) (xk_l ?_)
    exact x_lret X dX8_cost_36 (xp_l (by first | rfl | simp [*]) (by first | rfl | simp [*]))
  · skip
    exact absurd ⟨j, hj, rfl⟩ (xB_0.mp h8)

set_option maxHeartbeats 4000000 in
set_option maxRecDepth 100000 in
theorem c_X8_digest {l : Launch} {G : xG} {σ : xS} {c : Nat} (hm : xMod c) (hC : xgC σ = c) : xFi l G yX8_digest cX8_digest 1 (Option.some Jvm.ClassFile.FieldType.int) 0 0 [.ref (G.2.1 0)] σ (if xgI σ 0 3 = 0 then 0 else xgI σ c 3) (σ) := by
  refine xM.of (by decide) (Nat.le_of_ble_eq_true rfl) (fun pp ee ss mm aa bel met kk X => ?_)
  have X : xC pp ss mm met kk cX8_digest 1 RX8 (Option.some Jvm.ClassFile.FieldType.int) G := X
  show xW pp l ee { frames := 0, cells := 0, slots := 0, locals := 0 } ss mm aa bel met kk 1 G 0 0 (xQ bel G (fun rv_ tv_ => rv_ = some (.int (if xgI σ 0 3 = 0 then 0 else xgI σ c 3)) ∧ tv_ = (σ)) aa ss) 0 [(0, .ref (G.2.1 0))] [] σ
  refine x_aload_n X dX8_digest_0 rfl ?_
  refine gf_X8_62 X dX8_digest_1 rfl ?_
  refine x_ifeq (tgt := 17) X dX8_digest_4 (by decide) (fun h4 => ?_) (fun h4 => ?_)
  · skip
    refine x_iconst (v := 0) X dX8_digest_17 (by decide) ?_
    exact x_iret X dX8_digest_18 (xp_i (by simp [*]) (by first | rfl | simp [*]))
  · skip
    refine x_aload_n X dX8_digest_7 rfl ?_
    refine gf_X8_33 (k' := c) X dX8_digest_8 rfl hC ?_
    refine gf_X8_106 X dX8_digest_11 (xk0 hm) ?_
    refine x_goto (tgt := 18) X dX8_digest_14 (by decide) ?_
    exact x_iret X dX8_digest_18 (xp_i (by simp [*]) (by first | rfl | simp [*]))

set_option maxHeartbeats 4000000 in
set_option maxRecDepth 100000 in
theorem c_X8_begin {l : Launch} {G : xG} {σ : xS} : xFi l G yX8_begin cX8_begin 2 (Option.some Jvm.ClassFile.FieldType.int) 3 60 [.ref (G.2.1 0)] σ (if xgI σ 0 3 = 0 then -4 else xgI σ 6 1) (if xgI σ 0 3 = 0 then σ else cStart σ) := by
  refine xM.of (by decide) (Nat.le_of_ble_eq_true rfl) (fun pp ee ss mm aa bel met kk X => ?_)
  have X : xC pp ss mm met kk cX8_begin 2 RX8 (Option.some Jvm.ClassFile.FieldType.int) G := X
  show xW pp l ee { frames := 3, cells := 0, slots := 0, locals := 60 } ss mm aa bel met kk 2 G 0 0 (xQ bel G (fun rv_ tv_ => rv_ = some (.int (if xgI σ 0 3 = 0 then -4 else xgI σ 6 1)) ∧ tv_ = (if xgI σ 0 3 = 0 then σ else cStart σ)) aa ss) 0 [(0, .ref (G.2.1 0))] [] σ
  refine x_aload_n X dX8_begin_0 rfl ?_
  refine gf_X8_62 X dX8_begin_1 rfl ?_
  refine x_ifne (tgt := 10) X dX8_begin_4 (by decide) (fun h4 => ?_) (fun h4 => ?_)
  · skip
    refine x_aload_n X dX8_begin_10 rfl ?_
    refine gf_X8_26 (k' := 6) X dX8_begin_11 rfl rfl ?_
    refine gf_X8_109 X dX8_begin_14 rfl ?_
    refine x_topi (fun had hhad => ?_)
    refine x_istore_n (lv' := [(1, .int had), (0, .ref (G.2.1 0))]) X dX8_begin_17 rfl (by decide) rfl ?_
    refine x_aload_n X dX8_begin_18 rfl ?_
    refine gf_X8_26 (k' := 6) X dX8_begin_19 rfl rfl ?_
    refine cv_X8_110 X c_X0_start dX8_begin_22 rfl ⟨by decide, by decide, by decide, by decide⟩ rfl rfl (Nat.le_of_ble_eq_true rfl) (xk_v ?_)
    refine x_iload_n X dX8_begin_25 rfl ?_
    exact x_iret X dX8_begin_26 (xp_i (by simp [*]) (by simp [*]))
  · skip
    refine x_bipush (v := (-4)) X dX8_begin_7 (by decide) ?_
    exact x_iret X dX8_begin_9 (xp_i (by simp [*]) (by simp [*]))

set_option maxHeartbeats 4000000 in
set_option maxRecDepth 100000 in
theorem c_X8_fault {l : Launch} {G : xG} {σ : xS} {w : Int32} : xFi l G yX8_fault cX8_fault 2 (Option.some Jvm.ClassFile.FieldType.int) 0 0 [.ref (G.2.1 0), .int w] σ (if w = 0 then xgI σ 6 3 else if w = 1 then xgI σ 6 4 else if w = 2 then xgI σ 6 5 else -3) (σ) := by
  refine xM.of (by decide) (Nat.le_of_ble_eq_true rfl) (fun pp ee ss mm aa bel met kk X => ?_)
  have X : xC pp ss mm met kk cX8_fault 2 RX8 (Option.some Jvm.ClassFile.FieldType.int) G := X
  show xW pp l ee { frames := 0, cells := 0, slots := 0, locals := 0 } ss mm aa bel met kk 2 G 0 0 (xQ bel G (fun rv_ tv_ => rv_ = some (.int (if w = 0 then xgI σ 6 3 else if w = 1 then xgI σ 6 4 else if w = 2 then xgI σ 6 5 else -3)) ∧ tv_ = (σ)) aa ss) 0 [(0, .ref (G.2.1 0)), (1, .int w)] [] σ
  refine x_iload_n X dX8_fault_0 rfl ?_
  by_cases h1 : w.toInt < 0 ∨ 2 < w.toInt
  · skip
    have n0 : ¬ w = 0 := fun z => by rw [z] at h1; exact absurd h1 (by decide)
    have n1 : ¬ w = 1 := fun z => by rw [z] at h1; exact absurd h1 (by decide)
    have n2 : ¬ w = 2 := fun z => by rw [z] at h1; exact absurd h1 (by decide)
    refine x_tableOut (tgt := 52) X dX8_fault_1 h1 (by decide) ?_
    refine x_bipush (v := (-3)) X dX8_fault_52 (by decide) ?_
    exact x_iret X dX8_fault_54 (xp_i (by first | (rw [hw]; rfl) | rw [if_neg n0, if_neg n1, if_neg n2]) (by first | rfl | simp [*]))
  rcases (show w.toInt = 0 ∨ w.toInt = 1 ∨ w.toInt = 2 by omega) with g1 | g1 | g1
  · skip
    have hw : w = 0 := xi_of g1 (show (0 : Int32).toInt = 0 by decide) rfl
    refine x_tableIn (off := 27) (tgt := 28) X dX8_fault_1 (by rw [g1]; decide) (by rw [g1]; decide) (by rw [g1]; rfl) (by decide) ?_
    refine x_aload_n X dX8_fault_28 rfl ?_
    refine gf_X8_26 (k' := 6) X dX8_fault_29 rfl rfl ?_
    refine gf_X8_123 X dX8_fault_32 rfl ?_
    exact x_iret X dX8_fault_35 (xp_i (by first | (rw [hw]; rfl) | rw [if_neg n0, if_neg n1, if_neg n2]) (by first | rfl | simp [*]))
  · skip
    have hw : w = 1 := xi_of g1 (show (1 : Int32).toInt = 1 by decide) rfl
    refine x_tableIn (off := 35) (tgt := 36) X dX8_fault_1 (by rw [g1]; decide) (by rw [g1]; decide) (by rw [g1]; rfl) (by decide) ?_
    refine x_aload_n X dX8_fault_36 rfl ?_
    refine gf_X8_26 (k' := 6) X dX8_fault_37 rfl rfl ?_
    refine gf_X8_135 X dX8_fault_40 rfl ?_
    exact x_iret X dX8_fault_43 (xp_i (by first | (rw [hw]; rfl) | rw [if_neg n0, if_neg n1, if_neg n2]) (by first | rfl | simp [*]))
  · skip
    have hw : w = 2 := xi_of g1 (show (2 : Int32).toInt = 2 by decide) rfl
    refine x_tableIn (off := 43) (tgt := 44) X dX8_fault_1 (by rw [g1]; decide) (by rw [g1]; decide) (by rw [g1]; rfl) (by decide) ?_
    refine x_aload_n X dX8_fault_44 rfl ?_
    refine gf_X8_26 (k' := 6) X dX8_fault_45 rfl rfl ?_
    refine gf_X8_138 X dX8_fault_48 rfl ?_
    exact x_iret X dX8_fault_51 (xp_i (by first | (rw [hw]; rfl) | rw [if_neg n0, if_neg n1, if_neg n2]) (by first | rfl | simp [*]))

set_option maxHeartbeats 4000000 in
set_option maxRecDepth 100000 in
theorem c_X8_proved {l : Launch} {G : xG} {σ : xS} {nr : Nat} (hr : nr ≤ 200) (hrc : xgI σ 8 3 = nI nr) : xFi l G yX8_proved cX8_proved 1 (Option.some Jvm.ClassFile.FieldType.int) 3 64 [.ref (G.2.1 0)] σ (if kPrf σ 0 nr 0 = -1 then (if kPrf σ 1 nr 0 = -1 then 0 else 2) else 1) (σ) := by
  refine xM.of (by decide) (Nat.le_of_ble_eq_true rfl) (fun pp ee ss mm aa bel met kk X => ?_)
  have X : xC pp ss mm met kk cX8_proved 1 RX8 (Option.some Jvm.ClassFile.FieldType.int) G := X
  show xW pp l ee { frames := 3, cells := 0, slots := 0, locals := 64 } ss mm aa bel met kk 1 G 0 0 (xQ bel G (fun rv_ tv_ => rv_ = some (.int (if kPrf σ 0 nr 0 = -1 then (if kPrf σ 1 nr 0 = -1 then 0 else 2) else 1)) ∧ tv_ = (σ)) aa ss) 0 [(0, .ref (G.2.1 0))] [] σ
  refine x_aload_n X dX8_proved_0 rfl ?_
  refine gf_X8_26 (k' := 6) X dX8_proved_1 rfl rfl ?_
  refine gf_X8_126 (k' := 8) X dX8_proved_4 rfl rfl ?_
  refine x_iconst (v := 0) X dX8_proved_7 (by decide) ?_
  refine cv_X8_192 X (c_X6_firstProof hr hrc) dX8_proved_8 rfl ⟨by decide, by decide, by decide, by decide⟩ rfl rfl (Nat.le_of_ble_eq_true rfl) (xk_i ?_)
  refine x_iconst (v := (-1)) X dX8_proved_11 (by decide) ?_
  refine x_icmpeq (tgt := 17) X dX8_proved_12 (by decide) (fun h12 => ?_) (fun h12 => ?_)
  · skip
    refine x_aload_n X dX8_proved_17 rfl ?_
    refine gf_X8_26 (k' := 6) X dX8_proved_18 rfl rfl ?_
    refine gf_X8_126 (k' := 8) X dX8_proved_21 rfl rfl ?_
    refine x_iconst (v := 1) X dX8_proved_24 (by decide) ?_
    refine cv_X8_192 X (c_X6_firstProof hr hrc) dX8_proved_25 rfl ⟨by decide, by decide, by decide, by decide⟩ rfl rfl (Nat.le_of_ble_eq_true rfl) (xk_i ?_)
    refine x_iconst (v := (-1)) X dX8_proved_28 (by decide) ?_
    refine x_icmpeq (tgt := 36) X dX8_proved_29 (by decide) (fun h29 => ?_) (fun h29 => ?_)
    · skip
      refine x_iconst (v := 0) X dX8_proved_36 (by decide) ?_
      exact x_iret X dX8_proved_37 (xp_i (by simp [*]) (by first | rfl | simp [*]))
    · skip
      refine x_iconst (v := 2) X dX8_proved_32 (by decide) ?_
      refine x_goto (tgt := 37) X dX8_proved_33 (by decide) ?_
      exact x_iret X dX8_proved_37 (xp_i (by simp [*]) (by first | rfl | simp [*]))
  · skip
    refine x_iconst (v := 1) X dX8_proved_15 (by decide) ?_
    exact x_iret X dX8_proved_16 (xp_i (by simp [*]) (by first | rfl | simp [*]))

set_option maxHeartbeats 4000000 in
set_option maxRecDepth 100000 in
theorem c_X8_told {l : Launch} {G : xG} {σ : xS} {w : Int32} {c : Nat} (hm : xMod c) (hC : xgC σ = c) : xFi l G yX8_told cX8_told 2 (Option.some Jvm.ClassFile.FieldType.int) 0 0 [.ref (G.2.1 0), .int w] σ (if w = 0 then xgI σ 1 1 else if w = 1 then (if xgI σ 0 3 = 0 then 0 else xgI σ c 0) else if w = 2 then (if xgI σ 0 3 = 0 then 0 else xgI σ c 1) else if w = 3 then (if xgI σ 0 3 = 0 then 0 else xgI σ c 2) else if w = 4 then xgI σ 3 2 else if w = 5 then xgI σ 8 3 else if w = 6 then xgI σ 8 4 else if w = 7 then xgI σ 6 1 else -3) (σ) := by
  refine xM.of (by decide) (Nat.le_of_ble_eq_true rfl) (fun pp ee ss mm aa bel met kk X => ?_)
  have X : xC pp ss mm met kk cX8_told 2 RX8 (Option.some Jvm.ClassFile.FieldType.int) G := X
  show xW pp l ee { frames := 0, cells := 0, slots := 0, locals := 0 } ss mm aa bel met kk 2 G 0 0 (xQ bel G (fun rv_ tv_ => rv_ = some (.int (if w = 0 then xgI σ 1 1 else if w = 1 then (if xgI σ 0 3 = 0 then 0 else xgI σ c 0) else if w = 2 then (if xgI σ 0 3 = 0 then 0 else xgI σ c 1) else if w = 3 then (if xgI σ 0 3 = 0 then 0 else xgI σ c 2) else if w = 4 then xgI σ 3 2 else if w = 5 then xgI σ 8 3 else if w = 6 then xgI σ 8 4 else if w = 7 then xgI σ 6 1 else -3)) ∧ tv_ = (σ)) aa ss) 0 [(0, .ref (G.2.1 0)), (1, .int w)] [] σ
  refine x_iload_n X dX8_told_0 rfl ?_
  by_cases h1 : w.toInt < 0 ∨ 7 < w.toInt
  · skip
    have n0 : ¬ w = 0 := fun z => by rw [z] at h1; exact absurd h1 (by decide)
    have n1 : ¬ w = 1 := fun z => by rw [z] at h1; exact absurd h1 (by decide)
    have n2 : ¬ w = 2 := fun z => by rw [z] at h1; exact absurd h1 (by decide)
    have n3 : ¬ w = 3 := fun z => by rw [z] at h1; exact absurd h1 (by decide)
    have n4 : ¬ w = 4 := fun z => by rw [z] at h1; exact absurd h1 (by decide)
    have n5 : ¬ w = 5 := fun z => by rw [z] at h1; exact absurd h1 (by decide)
    have n6 : ¬ w = 6 := fun z => by rw [z] at h1; exact absurd h1 (by decide)
    have n7 : ¬ w = 7 := fun z => by rw [z] at h1; exact absurd h1 (by decide)
    refine x_tableOut (tgt := 151) X dX8_told_1 h1 (by decide) ?_
    refine x_bipush (v := (-3)) X dX8_told_151 (by decide) ?_
    exact x_iret X dX8_told_153 (xp_i (by first | (rw [hw]; rfl) | (rw [hw]; simp [*]; done) | rw [if_neg n0, if_neg n1, if_neg n2, if_neg n3, if_neg n4, if_neg n5, if_neg n6, if_neg n7]) (by first | rfl | simp [*]))
  rcases (show w.toInt = 0 ∨ w.toInt = 1 ∨ w.toInt = 2 ∨ w.toInt = 3 ∨ w.toInt = 4 ∨ w.toInt = 5 ∨ w.toInt = 6 ∨ w.toInt = 7 by omega) with g1 | g1 | g1 | g1 | g1 | g1 | g1 | g1
  · skip
    have hw : w = 0 := xi_of g1 (show (0 : Int32).toInt = 0 by decide) rfl
    refine x_tableIn (off := 47) (tgt := 48) X dX8_told_1 (by rw [g1]; decide) (by rw [g1]; decide) (by rw [g1]; rfl) (by decide) ?_
    refine x_aload_n X dX8_told_48 rfl ?_
    refine gf_X8_12 (k' := 1) X dX8_told_49 rfl rfl ?_
    refine gf_X8_48 X dX8_told_52 rfl ?_
    exact x_iret X dX8_told_55 (xp_i (by first | (rw [hw]; rfl) | (rw [hw]; simp [*]; done) | rw [if_neg n0, if_neg n1, if_neg n2, if_neg n3, if_neg n4, if_neg n5, if_neg n6, if_neg n7]) (by first | rfl | simp [*]))
  · skip
    have hw : w = 1 := xi_of g1 (show (1 : Int32).toInt = 1 by decide) rfl
    refine x_tableIn (off := 55) (tgt := 56) X dX8_told_1 (by rw [g1]; decide) (by rw [g1]; decide) (by rw [g1]; rfl) (by decide) ?_
    refine x_aload_n X dX8_told_56 rfl ?_
    refine gf_X8_62 X dX8_told_57 rfl ?_
    refine x_ifeq (tgt := 73) X dX8_told_60 (by decide) (fun h60 => ?_) (fun h60 => ?_)
    · skip
      refine x_iconst (v := 0) X dX8_told_73 (by decide) ?_
      exact x_iret X dX8_told_74 (xp_i (by first | (rw [hw]; rfl) | (rw [hw]; simp [*]; done) | rw [if_neg n0, if_neg n1, if_neg n2, if_neg n3, if_neg n4, if_neg n5, if_neg n6, if_neg n7]) (by first | rfl | simp [*]))
    · skip
      refine x_aload_n X dX8_told_63 rfl ?_
      refine gf_X8_33 (k' := c) X dX8_told_64 rfl hC ?_
      refine gf_X8_74 X dX8_told_67 (xk0 hm) ?_
      refine x_goto (tgt := 74) X dX8_told_70 (by decide) ?_
      exact x_iret X dX8_told_74 (xp_i (by first | (rw [hw]; rfl) | (rw [hw]; simp [*]; done) | rw [if_neg n0, if_neg n1, if_neg n2, if_neg n3, if_neg n4, if_neg n5, if_neg n6, if_neg n7]) (by first | rfl | simp [*]))
  · skip
    have hw : w = 2 := xi_of g1 (show (2 : Int32).toInt = 2 by decide) rfl
    refine x_tableIn (off := 74) (tgt := 75) X dX8_told_1 (by rw [g1]; decide) (by rw [g1]; decide) (by rw [g1]; rfl) (by decide) ?_
    refine x_aload_n X dX8_told_75 rfl ?_
    refine gf_X8_62 X dX8_told_76 rfl ?_
    refine x_ifeq (tgt := 92) X dX8_told_79 (by decide) (fun h79 => ?_) (fun h79 => ?_)
    · skip
      refine x_iconst (v := 0) X dX8_told_92 (by decide) ?_
      exact x_iret X dX8_told_93 (xp_i (by first | (rw [hw]; rfl) | (rw [hw]; simp [*]; done) | rw [if_neg n0, if_neg n1, if_neg n2, if_neg n3, if_neg n4, if_neg n5, if_neg n6, if_neg n7]) (by first | rfl | simp [*]))
    · skip
      refine x_aload_n X dX8_told_82 rfl ?_
      refine gf_X8_33 (k' := c) X dX8_told_83 rfl hC ?_
      refine gf_X8_222 X dX8_told_86 (xk0 hm) ?_
      refine x_goto (tgt := 93) X dX8_told_89 (by decide) ?_
      exact x_iret X dX8_told_93 (xp_i (by first | (rw [hw]; rfl) | (rw [hw]; simp [*]; done) | rw [if_neg n0, if_neg n1, if_neg n2, if_neg n3, if_neg n4, if_neg n5, if_neg n6, if_neg n7]) (by first | rfl | simp [*]))
  · skip
    have hw : w = 3 := xi_of g1 (show (3 : Int32).toInt = 3 by decide) rfl
    refine x_tableIn (off := 93) (tgt := 94) X dX8_told_1 (by rw [g1]; decide) (by rw [g1]; decide) (by rw [g1]; rfl) (by decide) ?_
    refine x_aload_n X dX8_told_94 rfl ?_
    refine gf_X8_62 X dX8_told_95 rfl ?_
    refine x_ifeq (tgt := 111) X dX8_told_98 (by decide) (fun h98 => ?_) (fun h98 => ?_)
    · skip
      refine x_iconst (v := 0) X dX8_told_111 (by decide) ?_
      exact x_iret X dX8_told_112 (xp_i (by first | (rw [hw]; rfl) | (rw [hw]; simp [*]; done) | rw [if_neg n0, if_neg n1, if_neg n2, if_neg n3, if_neg n4, if_neg n5, if_neg n6, if_neg n7]) (by first | rfl | simp [*]))
    · skip
      refine x_aload_n X dX8_told_101 rfl ?_
      refine gf_X8_33 (k' := c) X dX8_told_102 rfl hC ?_
      refine gf_X8_225 X dX8_told_105 (xk0 hm) ?_
      refine x_goto (tgt := 112) X dX8_told_108 (by decide) ?_
      exact x_iret X dX8_told_112 (xp_i (by first | (rw [hw]; rfl) | (rw [hw]; simp [*]; done) | rw [if_neg n0, if_neg n1, if_neg n2, if_neg n3, if_neg n4, if_neg n5, if_neg n6, if_neg n7]) (by first | rfl | simp [*]))
  · skip
    have hw : w = 4 := xi_of g1 (show (4 : Int32).toInt = 4 by decide) rfl
    refine x_tableIn (off := 112) (tgt := 113) X dX8_told_1 (by rw [g1]; decide) (by rw [g1]; decide) (by rw [g1]; rfl) (by decide) ?_
    refine x_aload_n X dX8_told_113 rfl ?_
    refine gf_X8_19 (k' := 3) X dX8_told_114 rfl rfl ?_
    refine gf_X8_228 X dX8_told_117 rfl ?_
    exact x_iret X dX8_told_120 (xp_i (by first | (rw [hw]; rfl) | (rw [hw]; simp [*]; done) | rw [if_neg n0, if_neg n1, if_neg n2, if_neg n3, if_neg n4, if_neg n5, if_neg n6, if_neg n7]) (by first | rfl | simp [*]))
  · skip
    have hw : w = 5 := xi_of g1 (show (5 : Int32).toInt = 5 by decide) rfl
    refine x_tableIn (off := 120) (tgt := 121) X dX8_told_1 (by rw [g1]; decide) (by rw [g1]; decide) (by rw [g1]; rfl) (by decide) ?_
    refine x_aload_n X dX8_told_121 rfl ?_
    refine gf_X8_26 (k' := 6) X dX8_told_122 rfl rfl ?_
    refine gf_X8_126 (k' := 8) X dX8_told_125 rfl rfl ?_
    refine gf_X8_130 X dX8_told_128 rfl ?_
    exact x_iret X dX8_told_131 (xp_i (by first | (rw [hw]; rfl) | (rw [hw]; simp [*]; done) | rw [if_neg n0, if_neg n1, if_neg n2, if_neg n3, if_neg n4, if_neg n5, if_neg n6, if_neg n7]) (by first | rfl | simp [*]))
  · skip
    have hw : w = 6 := xi_of g1 (show (6 : Int32).toInt = 6 by decide) rfl
    refine x_tableIn (off := 131) (tgt := 132) X dX8_told_1 (by rw [g1]; decide) (by rw [g1]; decide) (by rw [g1]; rfl) (by decide) ?_
    refine x_aload_n X dX8_told_132 rfl ?_
    refine gf_X8_26 (k' := 6) X dX8_told_133 rfl rfl ?_
    refine gf_X8_126 (k' := 8) X dX8_told_136 rfl rfl ?_
    refine gf_X8_229 X dX8_told_139 rfl ?_
    exact x_iret X dX8_told_142 (xp_i (by first | (rw [hw]; rfl) | (rw [hw]; simp [*]; done) | rw [if_neg n0, if_neg n1, if_neg n2, if_neg n3, if_neg n4, if_neg n5, if_neg n6, if_neg n7]) (by first | rfl | simp [*]))
  · skip
    have hw : w = 7 := xi_of g1 (show (7 : Int32).toInt = 7 by decide) rfl
    refine x_tableIn (off := 142) (tgt := 143) X dX8_told_1 (by rw [g1]; decide) (by rw [g1]; decide) (by rw [g1]; rfl) (by decide) ?_
    refine x_aload_n X dX8_told_143 rfl ?_
    refine gf_X8_26 (k' := 6) X dX8_told_144 rfl rfl ?_
    refine gf_X8_109 X dX8_told_147 rfl ?_
    exact x_iret X dX8_told_150 (xp_i (by first | (rw [hw]; rfl) | (rw [hw]; simp [*]; done) | rw [if_neg n0, if_neg n1, if_neg n2, if_neg n3, if_neg n4, if_neg n5, if_neg n6, if_neg n7]) (by first | rfl | simp [*]))

set_option maxHeartbeats 4000000 in
set_option maxRecDepth 100000 in
theorem c_X8_demandRow {l : Launch} {G : xG} {σ : xS} {w : Nat} {nr : Nat} (hr : nr ≤ 200) (hrc : xgI σ 8 3 = nI nr) (hw : w < nr) : xFv l G yX8_demandRow cX8_demandRow 2 (Option.none : Option Jvm.ClassFile.FieldType) 1 21 [.ref (G.2.1 0), .int (nI w)] σ (σ) := by
  refine xM.of (by decide) (Nat.le_of_ble_eq_true rfl) (fun pp ee ss mm aa bel met kk X => ?_)
  have X : xC pp ss mm met kk cX8_demandRow 2 RX8 (Option.none : Option Jvm.ClassFile.FieldType) G := X
  show xW pp l ee { frames := 1, cells := 0, slots := 0, locals := 21 } ss mm aa bel met kk 2 G 0 0 (xQ bel G (fun rv_ tv_ => rv_ = none ∧ tv_ = (σ)) aa ss) 0 [(0, .ref (G.2.1 0)), (1, .int (nI w))] [] σ
  refine x_aload_n X dX8_demandRow_0 rfl ?_
  refine gf_X8_26 (k' := 6) X dX8_demandRow_1 rfl rfl ?_
  refine gf_X8_126 (k' := 8) X dX8_demandRow_4 rfl rfl ?_
  refine x_iload_n X dX8_demandRow_7 rfl ?_
  refine cv_X8_232 X (c_X6_has hr hrc) dX8_demandRow_8 rfl ⟨by decide, by decide, by decide, by decide⟩ rfl rfl (Nat.le_of_ble_eq_true rfl) (xk_i ?_)
  refine x_ifne (tgt := 24) X dX8_demandRow_11 (by decide) (fun h11 => ?_) (fun h11 => ?_)
  · skip
    exact x_vret X dX8_demandRow_24 (⟨rfl, by first | rfl | simp [*]⟩)
  · skip
    exact absurd ⟨w, hw, rfl⟩ (xB_0.mp h11)
