/-! The reference: what a row needs -/
def xsF (σ : xS) (k : Nat) (f : Nat → Int32) : xS := (fun a b => if a = k then f b else σ.1 a b, σ.2)
theorem xsF_s {σ : xS} {k j : Nat} {f : Nat → Int32} {v : Int32} : xsI (xsF σ k f) k j v = xsF σ k (fun b => if b = j then v else f b) := by
  unfold xsI xsF
  congr 1
  funext a b
  by_cases h : a = k
  · by_cases h2 : b = j <;> simp [h, h2]
  · simp [h]
theorem xgI_F {σ : xS} {k b : Nat} {f : Nat → Int32} : xgI (xsF σ k f) k b = f b := if_pos rfl
theorem xgI_Fn {σ : xS} {k a b : Nat} {f : Nat → Int32} (h : a ≠ k) : xgI (xsF σ k f) a b = xgI σ a b := if_neg h
theorem xgL_F {σ : xS} {k a b : Nat} {f : Nat → Int32} : xgL (xsF σ k f) a b = xgL σ a b := rfl
theorem xsF_id {σ : xS} {k : Nat} : σ = xsF σ k (xgI σ k) := by
  unfold xsF
  refine Prod.ext ?_ rfl
  funext a b
  show σ.1 a b = if a = k then σ.1 k b else σ.1 a b
  by_cases h : a = k
  · rw [if_pos h, h]
  · rw [if_neg h]
def aSrc (num : Nat → Int32) (p : Nat) : List Nat := if num p = 4 then (List.range (num (p + 1)).toNatClampNeg).map (fun i => (num (p + 2 + 2 * i)).toNatClampNeg) else if num p = 5 ∨ num p = 9 then [(num (p + 1)).toNatClampNeg] else if num p = 7 then (List.range 4).map (fun i => (num (p + (i + 1))).toNatClampNeg) else []
def aMk (l : List Nat) (nd : Nat → Int32) : Nat → Int32 := fun b => if b ∈ l then 1 else nd b
theorem aMk_0 {nd : Nat → Int32} : aMk [] nd = nd := by funext b; unfold aMk; rw [if_neg (by simp)]
theorem aMk_1 {nd : Nat → Int32} {j : Nat} : (fun b => if b = j then (1 : Int32) else nd b) = aMk [j] nd := by
  funext b
  unfold aMk
  by_cases h : b = j
  · rw [if_pos h, if_pos (by simp [h])]
  · rw [if_neg h, if_neg (by simp [h])]
theorem aMk_r {nd : Nat → Int32} {f : Nat → Nat} {i s : Nat} (h : f i = s) : (fun b => if b = s then (1 : Int32) else aMk ((List.range i).map f) nd b) = aMk ((List.range (i + 1)).map f) nd := by
  funext b
  unfold aMk
  rw [List.range_succ, List.map_append]
  by_cases hb : b = s
  · rw [if_pos hb, if_pos (by simp [hb, h])]
  · rw [if_neg hb]
    by_cases h2 : b ∈ (List.range i).map f
    · rw [if_pos h2, if_pos (List.mem_append.mpr (Or.inl h2))]
    · rw [if_neg h2, if_neg (by intro z; rcases List.mem_append.mp z with z | z; exact h2 z; simp [h] at z; exact hb z)]
def aNd (num : Nat → Int32) (rf : Nat → Nat) : Nat → Nat × (Nat → Int32) → Nat × (Nat → Int32)
  | 0, s => s
  | k + 1, s => aNd num rf k (if s.2 k = 0 then s else (s.1 + 1, aMk (aSrc num (rf k)) s.2))
theorem aNd_0 {num : Nat → Int32} {rf : Nat → Nat} {k : Nat} {s : Nat × (Nat → Int32)} (h : s.2 k = 0) : aNd num rf (k + 1) s = aNd num rf k s := by rw [aNd, if_pos h]
theorem aNd_1 {num : Nat → Int32} {rf : Nat → Nat} {k : Nat} {s : Nat × (Nat → Int32)} (h : ¬ s.2 k = 0) : aNd num rf (k + 1) s = aNd num rf k (s.1 + 1, aMk (aSrc num (rf k)) s.2) := by rw [aNd, if_neg h]
def nd0 (σ : xS) (r k : Nat) : Nat → Int32 := fun b => if b < k then (if b = r then 1 else 0) else xgI σ 57 b
theorem nd0_s {σ : xS} {r k : Nat} {v : Int32} (h : (if k = r then (1 : Int32) else 0) = v) : xsI (xsF σ 57 (nd0 σ r k)) 57 k v = xsF σ 57 (nd0 σ r (k + 1)) := by
  rw [xsF_s]
  congr 1
  funext b
  unfold nd0
  by_cases hb : b = k
  · rw [if_pos hb, if_pos (by omega), hb, h]
  · rw [if_neg hb]
    by_cases h2 : b < k
    · rw [if_pos h2, if_pos (show b < k + 1 by omega)]
    · rw [if_neg h2, if_neg (show ¬ b < k + 1 by omega)]
theorem nd0_0 {σ : xS} {r : Nat} : σ = xsF σ 57 (nd0 σ r 0) := by
  rw [show nd0 σ r 0 = xgI σ 57 from funext (fun b => if_neg (by omega))]
  exact xsF_id
/-- what the reference's rows below nr say in the numbers -/
def qRows (σ : xS) (nr : Nat) (rf : Nat → Nat) : Prop := ∀ k, k < nr → xgI σ 51 k = nI (rf k) ∧ rf k + 1 < 1500 ∧ ∃ q, q < 10 ∧ xgI σ 50 (rf k) = nI q ∧ (q = 4 → ∃ m, m ≤ 4 ∧ xgI σ 50 (rf k + 1) = nI m ∧ rf k + 2 + 2 * m ≤ 1500 ∧ ∀ i, i < m → ∃ s, s < k ∧ xgI σ 50 (rf k + 2 + 2 * i) = nI s) ∧ (q = 5 ∨ q = 9 → ∃ s, s < k ∧ xgI σ 50 (rf k + 1) = nI s) ∧ (q = 7 → rf k + 5 ≤ 1500 ∧ ∀ i, i < 4 → ∃ s, s < k ∧ xgI σ 50 (rf k + (i + 1)) = nI s)
/-- what row r needs: how many, and which -/
def aNeed (σ : xS) (rf : Nat → Nat) (r : Nat) : Nat × (Nat → Int32) := aNd (xgI σ 50) rf (r + 1) (0, nd0 σ r 200)

set_option maxHeartbeats 4000000 in
set_option maxRecDepth 100000 in
theorem c_X9_need {l : Launch} {G : xG} {σ : xS} {r : Nat} {rf : Nat → Nat} (hr : r < 200) (hN : qRows σ (r + 1) rf) : xFi l G yX9_need cX9_need 7 (Option.some Jvm.ClassFile.FieldType.int) 0 0 [.ref (G.2.1 37), .int (nI r)] σ (nI (aNeed σ rf r).1) (xsF σ 57 (aNeed σ rf r).2) := by
  refine xM.of (by decide) (Nat.le_of_ble_eq_true rfl) (fun pp ee ss mm aa bel met kk X => ?_)
  have X : xC pp ss mm met kk cX9_need 7 RX9 (Option.some Jvm.ClassFile.FieldType.int) G := X
  show xW pp l ee { frames := 0, cells := 0, slots := 0, locals := 0 } ss mm aa bel met kk 7 G 0 0 (xQ bel G (fun rv_ tv_ => rv_ = some (.int (nI (aNeed σ rf r).1)) ∧ tv_ = (xsF σ 57 (aNeed σ rf r).2)) aa ss) 0 [(0, .ref (G.2.1 37)), (1, .int (nI r))] [] σ
  refine x_iconst (v := nI 0) X dX9_need_0 (by decide) ?_
  refine x_istore_n (lv' := [(2, .int (nI 0)), (0, .ref (G.2.1 37)), (1, .int (nI r))]) X dX9_need_1 rfl (by decide) rfl ?_
  have lp2 : ∀ (NN2 : Nat) (k : Nat) (hk : k ≤ 200) (τ : xS) (hτ : τ = xsF σ 57 (nd0 σ r k)), 200 - k = NN2 → xW pp l ee { frames := 0, cells := 0, slots := 0, locals := 0 } ss mm aa bel met kk 7 G 0 0 (xQ bel G (fun rv_ tv_ => rv_ = some (.int (nI (aNeed σ rf r).1)) ∧ tv_ = (xsF σ 57 (aNeed σ rf r).2)) aa ss) 2 [(2, .int (nI k)), (1, .int (nI r)), (0, .ref (G.2.1 37))] [] (τ) := by
    intro NN2
    induction NN2 using Nat.strongRecOn with
    | ind NN2 ih2 =>
      intro k hk τ hτ hNN2
      subst hτ
      refine x_iload_n X dX9_need_2 rfl ?_
      refine x_sipush (v := nI 200) X dX9_need_3 (by decide) ?_
      refine x_icmpge (tgt := 31) X dX9_need_6 (by decide) (fun h6 => ?_) (fun h6 => ?_)
      · skip
        rw [xb_ge (x := nI k) (y := nI 200) (a := k) (b := 200) rfl rfl (by omega) (by omega)] at h6
        obtain rfl : k = 200 := by omega
        refine x_iconst (v := nI 0) X dX9_need_31 (by decide) ?_
        refine x_istore_n (lv' := [(2, .int (nI 0)), (1, .int (nI r)), (0, .ref (G.2.1 37))]) X dX9_need_32 rfl (by decide) rfl ?_
        refine x_iload_n X dX9_need_33 rfl ?_
        refine x_istore_n (lv' := [(3, .int (nI r)), (2, .int (nI 0)), (1, .int (nI r)), (0, .ref (G.2.1 37))]) X dX9_need_34 rfl (by decide) rfl ?_
        have lp35 : ∀ (NN35 : Nat) (k : Nat) (hk : k ≤ r + 1) (rr : Int32) (hrr : rr = nI k + -1) (cnt : Nat) (nd : Nat → Int32) (hP : aNeed σ rf r = aNd (xgI σ 50) rf k (cnt, nd)), k = NN35 → xW pp l ee { frames := 0, cells := 0, slots := 0, locals := 0 } ss mm aa bel met kk 7 G 0 0 (xQ bel G (fun rv_ tv_ => rv_ = some (.int (nI (aNeed σ rf r).1)) ∧ tv_ = (xsF σ 57 (aNeed σ rf r).2)) aa ss) 35 [(3, .int rr), (2, .int (nI cnt)), (1, .int (nI r)), (0, .ref (G.2.1 37))] [] (xsF σ 57 nd) := by
          intro NN35
          induction NN35 using Nat.strongRecOn with
          | ind NN35 ih35 =>
            intro k hk rr hrr cnt nd hP hNN35
            refine x_iload_n X dX9_need_35 rfl ?_
            refine x_iflt (tgt := 195) X dX9_need_36 (by decide) (fun h36 => ?_) (fun h36 => ?_)
            · skip
              have hk0 : k = 0 := by
                by_cases z : k = 0
                · exact z
                · obtain ⟨j, rfl⟩ : ∃ j, k = j + 1 := ⟨k - 1, by omega⟩
                  rw [hrr, show nI (j + 1) + -1 = nI j from pk_m1 j] at h36
                  exact absurd h36 (nI_pos (by omega))
              subst hk0
              refine x_iload_n X dX9_need_195 rfl ?_
              exact x_iret X dX9_need_196 (xp_i (by rw [hP]; rfl) (by rw [hP]; rfl))
            · skip
              obtain ⟨k2, rfl⟩ : ∃ j, k = j + 1 := by
                by_cases z : k = 0
                · exact absurd (by rw [hrr, z]; decide) h36
                · exact ⟨k - 1, by omega⟩
              have hrr2 : rr = nI k2 := hrr.trans (pk_m1 k2)
              subst hrr2
              refine x_aload_n X dX9_need_39 rfl ?_
              refine gf_X9_77 (k' := 57) X dX9_need_40 rfl rfl ?_
              refine x_iload_n X dX9_need_43 rfl ?_
              refine x_zaldN X dX9_need_44 rfl (by omega) (by omega) ?_
              rw [xgI_F]
              refine x_ifeq (tgt := 189) X dX9_need_45 (by decide) (fun h45 => ?_) (fun h45 => ?_)
              · skip
                have hP2 := hP.trans (aNd_0 (s := (cnt, nd)) h45)
                obtain ⟨rr9, hrr9⟩ : ∃ z : Int32, z = nI k2 + Int32.ofInt (-1) := ⟨_, rfl⟩
                refine x_iinc (k := 0) (v := rr9) (lv' := [(3, .int rr9), (2, .int (nI cnt)), (1, .int (nI r)), (0, .ref (G.2.1 37))]) X dX9_need_189 rfl hrr9.symm (by decide) rfl ?_
                refine x_goto (tgt := 35) X dX9_need_192 (by decide) ?_
                refine x_pick [0, 1, 2, 3] rfl ?_
                exact ih35 _ (by omega) k2 (by omega) rr9 hrr9 _ _ hP2 rfl
              · skip
                have hP1 : aNeed σ rf r = aNd (xgI σ 50) rf k2 (cnt + 1, aMk (aSrc (xgI σ 50) (rf k2)) nd) := hP.trans (aNd_1 (s := (cnt, nd)) h45)
                obtain ⟨q1, q2, q, q9, q3, q4, q5, q7⟩ := hN k2 (by omega)
                refine x_iinc (k := 1) (v := nI (cnt + 1)) (lv' := [(2, .int (nI (cnt + 1))), (3, .int (nI k2)), (1, .int (nI r)), (0, .ref (G.2.1 37))]) X dX9_need_48 rfl (xn_inc _) (by decide) rfl ?_
                refine x_aload_n X dX9_need_51 rfl ?_
                refine gf_X9_56 (k' := 51) X dX9_need_52 rfl rfl ?_
                refine x_iload_n X dX9_need_55 rfl ?_
                refine x_ialdN X dX9_need_56 rfl (by omega) (by omega) ?_
                rw [xgI_Fn (by omega), q1]
                refine x_istore (lv' := [(4, .int (nI (rf k2))), (2, .int (nI (cnt + 1))), (3, .int (nI k2)), (1, .int (nI r)), (0, .ref (G.2.1 37))]) X dX9_need_57 (by decide) rfl ?_
                refine x_aload_n X dX9_need_59 rfl ?_
                refine gf_X9_46 (k' := 50) X dX9_need_60 rfl rfl ?_
                refine x_iload X dX9_need_63 rfl ?_
                refine x_ialdN X dX9_need_65 rfl (by omega) (by omega) ?_
                rw [xgI_Fn (by omega), q3]
                refine x_istore (lv' := [(5, .int (nI q)), (4, .int (nI (rf k2))), (2, .int (nI (cnt + 1))), (3, .int (nI k2)), (1, .int (nI r)), (0, .ref (G.2.1 37))]) X dX9_need_66 (by decide) rfl ?_
                refine x_iload X dX9_need_68 rfl ?_
                refine x_iconst (v := nI 4) X dX9_need_70 (by decide) ?_
                refine x_icmpne (tgt := 120) X dX9_need_71 (by decide) (fun h71 => ?_) (fun h71 => ?_)
                · skip
                  rw [xb_ne (x := nI q) (y := nI 4) (a := q) (b := 4) rfl rfl (by omega) (by omega)] at h71
                  refine x_iload X dX9_need_120 rfl ?_
                  refine x_iconst (v := nI 5) X dX9_need_122 (by decide) ?_
                  refine x_icmpeq (tgt := 133) X dX9_need_123 (by decide) (fun h123 => ?_) (fun h123 => ?_)
                  · skip
                    rw [xb_eq (x := nI q) (y := nI 5) (a := q) (b := 5) rfl rfl (by omega) (by omega)] at h123
                    obtain ⟨s, s1, s2⟩ := q5 (by omega)
                    have hsr : aSrc (xgI σ 50) (rf k2) = [s] := by unfold aSrc; rw [q3, if_neg (fun z => by have := (nI_eq (by omega) (by omega)).mp (show nI q = nI 4 from z); omega), if_pos (by rcases (show q = 5 ∨ q = 9 by omega) with z | z; (exact Or.inl (by rw [z]; rfl)); exact Or.inr (by rw [z]; rfl)), s2, nI_clamp (by omega)]
                    have hP2 := hP1
                    rw [hsr, ← aMk_1] at hP2
                    refine x_aload_n X dX9_need_133 rfl ?_
                    refine gf_X9_77 (k' := 57) X dX9_need_134 rfl rfl ?_
                    refine x_aload_n X dX9_need_137 rfl ?_
                    refine gf_X9_46 (k' := 50) X dX9_need_138 rfl rfl ?_
                    refine x_iload X dX9_need_141 rfl ?_
                    refine x_iconst (v := nI 1) X dX9_need_143 (by decide) ?_
                    refine x_iadd X dX9_need_144 ?_
                    rw [nI_add (rf k2) 1]
                    refine x_ialdN X dX9_need_145 rfl (by omega) (by omega) ?_
                    rw [xgI_Fn (by omega), s2]
                    refine x_iconst (v := nI 1) X dX9_need_146 (by decide) ?_
                    refine x_zastN X dX9_need_147 rfl (by omega) (by omega) (Or.inr rfl) ?_
                    rw [xsF_s]
                    refine x_goto (tgt := 189) X dX9_need_148 (by decide) ?_
                    obtain ⟨rr9, hrr9⟩ : ∃ z : Int32, z = nI k2 + Int32.ofInt (-1) := ⟨_, rfl⟩
                    refine x_iinc (k := 3) (v := rr9) (lv' := [(3, .int rr9), (5, .int (nI q)), (4, .int (nI (rf k2))), (2, .int (nI (cnt + 1))), (1, .int (nI r)), (0, .ref (G.2.1 37))]) X dX9_need_189 rfl hrr9.symm (by decide) rfl ?_
                    refine x_goto (tgt := 35) X dX9_need_192 (by decide) ?_
                    refine x_pick [0, 3, 4, 5] rfl ?_
                    exact ih35 _ (by omega) k2 (by omega) rr9 hrr9 _ _ hP2 rfl
                  · skip
                    rw [xb_eq (x := nI q) (y := nI 5) (a := q) (b := 5) rfl rfl (by omega) (by omega)] at h123
                    refine x_iload X dX9_need_126 rfl ?_
                    refine x_bipush (v := nI 9) X dX9_need_128 (by decide) ?_
                    refine x_icmpne (tgt := 151) X dX9_need_130 (by decide) (fun h130 => ?_) (fun h130 => ?_)
                    · skip
                      rw [xb_ne (x := nI q) (y := nI 9) (a := q) (b := 9) rfl rfl (by omega) (by omega)] at h130
                      refine x_iload X dX9_need_151 rfl ?_
                      refine x_bipush (v := nI 7) X dX9_need_153 (by decide) ?_
                      refine x_icmpne (tgt := 189) X dX9_need_155 (by decide) (fun h155 => ?_) (fun h155 => ?_)
                      · skip
                        rw [xb_ne (x := nI q) (y := nI 7) (a := q) (b := 7) rfl rfl (by omega) (by omega)] at h155
                        have hsr : aSrc (xgI σ 50) (rf k2) = [] := by unfold aSrc; rw [q3, if_neg (fun z => by have := (nI_eq (by omega) (by omega)).mp (show nI q = nI 4 from z); omega), if_neg (fun z => by rcases z with z | z; (have := (nI_eq (by omega) (by omega)).mp (show nI q = nI 5 from z); omega); (have := (nI_eq (by omega) (by omega)).mp (show nI q = nI 9 from z); omega)), if_neg (fun z => by have := (nI_eq (by omega) (by omega)).mp (show nI q = nI 7 from z); omega)]
                        have hP2 := hP1
                        rw [hsr, aMk_0] at hP2
                        obtain ⟨rr9, hrr9⟩ : ∃ z : Int32, z = nI k2 + Int32.ofInt (-1) := ⟨_, rfl⟩
                        refine x_iinc (k := 3) (v := rr9) (lv' := [(3, .int rr9), (5, .int (nI q)), (4, .int (nI (rf k2))), (2, .int (nI (cnt + 1))), (1, .int (nI r)), (0, .ref (G.2.1 37))]) X dX9_need_189 rfl hrr9.symm (by decide) rfl ?_
                        refine x_goto (tgt := 35) X dX9_need_192 (by decide) ?_
                        refine x_pick [0, 3, 4, 5] rfl ?_
                        exact ih35 _ (by omega) k2 (by omega) rr9 hrr9 _ _ hP2 rfl
                      · skip
                        rw [xb_ne (x := nI q) (y := nI 7) (a := q) (b := 7) rfl rfl (by omega) (by omega)] at h155
                        obtain ⟨m2, m3⟩ := q7 h155
                        have hsr : aSrc (xgI σ 50) (rf k2) = (List.range 4).map (fun i => (xgI σ 50 (rf k2 + (i + 1))).toNatClampNeg) := by unfold aSrc; rw [q3, if_neg (by rw [h155]; decide), if_neg (by rw [h155]; decide), if_pos (by rw [h155]; rfl)]
                        refine x_iconst (v := nI 1) X dX9_need_158 (by decide) ?_
                        refine x_istore (lv' := [(6, .int (nI 1)), (5, .int (nI q)), (4, .int (nI (rf k2))), (2, .int (nI (cnt + 1))), (3, .int (nI k2)), (1, .int (nI r)), (0, .ref (G.2.1 37))]) X dX9_need_159 (by decide) rfl ?_
                        have lp161 : ∀ (NN161 : Nat) (i : Nat) (hi : i ≤ 4) (nd2 : Nat → Int32) (hnd : nd2 = aMk ((List.range i).map (fun i => (xgI σ 50 (rf k2 + (i + 1))).toNatClampNeg)) nd), 4 - i = NN161 → xW pp l ee { frames := 0, cells := 0, slots := 0, locals := 0 } ss mm aa bel met kk 7 G 0 0 (xQ bel G (fun rv_ tv_ => rv_ = some (.int (nI (aNeed σ rf r).1)) ∧ tv_ = (xsF σ 57 (aNeed σ rf r).2)) aa ss) 161 [(6, .int (nI (i + 1))), (5, .int (nI q)), (4, .int (nI (rf k2))), (3, .int (nI k2)), (2, .int (nI (cnt + 1))), (1, .int (nI r)), (0, .ref (G.2.1 37))] [] (xsF σ 57 nd2) := by
                          intro NN161
                          induction NN161 using Nat.strongRecOn with
                          | ind NN161 ih161 =>
                            intro i hi nd2 hnd hNN161
                            refine x_iload X dX9_need_161 rfl ?_
                            refine x_iconst (v := nI 4) X dX9_need_163 (by decide) ?_
                            refine x_icmpgt (tgt := 189) X dX9_need_164 (by decide) (fun h164 => ?_) (fun h164 => ?_)
                            · skip
                              rw [xb_gt (x := nI (i + 1)) (y := nI 4) (a := (i + 1)) (b := 4) rfl rfl (by omega) (by omega)] at h164
                              have hP2 := hP1
                              rw [hsr, ← show i = 4 by omega, ← hnd] at hP2
                              obtain ⟨rr9, hrr9⟩ : ∃ z : Int32, z = nI k2 + Int32.ofInt (-1) := ⟨_, rfl⟩
                              refine x_iinc (k := 3) (v := rr9) (lv' := [(3, .int rr9), (6, .int (nI (i + 1))), (5, .int (nI q)), (4, .int (nI (rf k2))), (2, .int (nI (cnt + 1))), (1, .int (nI r)), (0, .ref (G.2.1 37))]) X dX9_need_189 rfl hrr9.symm (by decide) rfl ?_
                              refine x_goto (tgt := 35) X dX9_need_192 (by decide) ?_
                              refine x_pick [0, 4, 5, 6] rfl ?_
                              exact ih35 _ (by omega) k2 (by omega) rr9 hrr9 _ _ hP2 rfl
                            · skip
                              rw [xb_gt (x := nI (i + 1)) (y := nI 4) (a := (i + 1)) (b := 4) rfl rfl (by omega) (by omega)] at h164
                              obtain ⟨s, s1, s2⟩ := m3 i (by omega)
                              have hnd9 : (fun b => if b = s then nI 1 else nd2 b) = aMk ((List.range (i + 1)).map (fun i => (xgI σ 50 (rf k2 + (i + 1))).toNatClampNeg)) nd := by rw [hnd]; exact aMk_r (by rw [s2, nI_clamp (by omega)])
                              refine x_aload_n X dX9_need_167 rfl ?_
                              refine gf_X9_77 (k' := 57) X dX9_need_168 rfl rfl ?_
                              refine x_aload_n X dX9_need_171 rfl ?_
                              refine gf_X9_46 (k' := 50) X dX9_need_172 rfl rfl ?_
                              refine x_iload X dX9_need_175 rfl ?_
                              refine x_iload X dX9_need_177 rfl ?_
                              refine x_iadd X dX9_need_179 ?_
                              rw [nI_add (rf k2) (i + 1)]
                              refine x_ialdN X dX9_need_180 rfl (by omega) (by omega) ?_
                              rw [xgI_Fn (by omega), s2]
                              refine x_iconst (v := nI 1) X dX9_need_181 (by decide) ?_
                              refine x_zastN X dX9_need_182 rfl (by omega) (by omega) (Or.inr rfl) ?_
                              rw [xsF_s]
                              refine x_iinc (k := 0) (v := nI ((i + 1) + 1)) (lv' := [(6, .int (nI ((i + 1) + 1))), (5, .int (nI q)), (4, .int (nI (rf k2))), (3, .int (nI k2)), (2, .int (nI (cnt + 1))), (1, .int (nI r)), (0, .ref (G.2.1 37))]) X dX9_need_183 rfl (xn_inc _) (by decide) rfl ?_
                              refine x_goto (tgt := 161) X dX9_need_186 (by decide) ?_
                              refine x_pick [0, 1, 2, 3, 4, 5, 6] rfl ?_
                              exact ih161 _ (by omega) (i + 1) (by omega) _ hnd9 rfl
                        refine x_pick [0, 1, 2, 4, 3, 5, 6] rfl ?_
                        exact lp161 _ 0 (by omega) nd aMk_0.symm rfl
                    · skip
                      rw [xb_ne (x := nI q) (y := nI 9) (a := q) (b := 9) rfl rfl (by omega) (by omega)] at h130
                      obtain ⟨s, s1, s2⟩ := q5 (by omega)
                      have hsr : aSrc (xgI σ 50) (rf k2) = [s] := by unfold aSrc; rw [q3, if_neg (fun z => by have := (nI_eq (by omega) (by omega)).mp (show nI q = nI 4 from z); omega), if_pos (by rcases (show q = 5 ∨ q = 9 by omega) with z | z; (exact Or.inl (by rw [z]; rfl)); exact Or.inr (by rw [z]; rfl)), s2, nI_clamp (by omega)]
                      have hP2 := hP1
                      rw [hsr, ← aMk_1] at hP2
                      refine x_aload_n X dX9_need_133 rfl ?_
                      refine gf_X9_77 (k' := 57) X dX9_need_134 rfl rfl ?_
                      refine x_aload_n X dX9_need_137 rfl ?_
                      refine gf_X9_46 (k' := 50) X dX9_need_138 rfl rfl ?_
                      refine x_iload X dX9_need_141 rfl ?_
                      refine x_iconst (v := nI 1) X dX9_need_143 (by decide) ?_
                      refine x_iadd X dX9_need_144 ?_
                      rw [nI_add (rf k2) 1]
                      refine x_ialdN X dX9_need_145 rfl (by omega) (by omega) ?_
                      rw [xgI_Fn (by omega), s2]
                      refine x_iconst (v := nI 1) X dX9_need_146 (by decide) ?_
                      refine x_zastN X dX9_need_147 rfl (by omega) (by omega) (Or.inr rfl) ?_
                      rw [xsF_s]
                      refine x_goto (tgt := 189) X dX9_need_148 (by decide) ?_
                      obtain ⟨rr9, hrr9⟩ : ∃ z : Int32, z = nI k2 + Int32.ofInt (-1) := ⟨_, rfl⟩
                      refine x_iinc (k := 3) (v := rr9) (lv' := [(3, .int rr9), (5, .int (nI q)), (4, .int (nI (rf k2))), (2, .int (nI (cnt + 1))), (1, .int (nI r)), (0, .ref (G.2.1 37))]) X dX9_need_189 rfl hrr9.symm (by decide) rfl ?_
                      refine x_goto (tgt := 35) X dX9_need_192 (by decide) ?_
                      refine x_pick [0, 3, 4, 5] rfl ?_
                      exact ih35 _ (by omega) k2 (by omega) rr9 hrr9 _ _ hP2 rfl
                · skip
                  rw [xb_ne (x := nI q) (y := nI 4) (a := q) (b := 4) rfl rfl (by omega) (by omega)] at h71
                  obtain ⟨m, m4, m1, m2, m3⟩ := q4 h71
                  have hsr : aSrc (xgI σ 50) (rf k2) = (List.range m).map (fun i => (xgI σ 50 (rf k2 + 2 + 2 * i)).toNatClampNeg) := by unfold aSrc; rw [q3, if_pos (by rw [h71]; rfl), m1, nI_clamp (by omega)]
                  refine x_iconst (v := nI 0) X dX9_need_74 (by decide) ?_
                  refine x_istore (lv' := [(6, .int (nI 0)), (5, .int (nI q)), (4, .int (nI (rf k2))), (2, .int (nI (cnt + 1))), (3, .int (nI k2)), (1, .int (nI r)), (0, .ref (G.2.1 37))]) X dX9_need_75 (by decide) rfl ?_
                  have lp77 : ∀ (NN77 : Nat) (i : Nat) (hi : i ≤ m) (nd2 : Nat → Int32) (hnd : nd2 = aMk ((List.range i).map (fun i => (xgI σ 50 (rf k2 + 2 + 2 * i)).toNatClampNeg)) nd), m - i = NN77 → xW pp l ee { frames := 0, cells := 0, slots := 0, locals := 0 } ss mm aa bel met kk 7 G 0 0 (xQ bel G (fun rv_ tv_ => rv_ = some (.int (nI (aNeed σ rf r).1)) ∧ tv_ = (xsF σ 57 (aNeed σ rf r).2)) aa ss) 77 [(6, .int (nI i)), (5, .int (nI q)), (4, .int (nI (rf k2))), (3, .int (nI k2)), (2, .int (nI (cnt + 1))), (1, .int (nI r)), (0, .ref (G.2.1 37))] [] (xsF σ 57 nd2) := by
                    intro NN77
                    induction NN77 using Nat.strongRecOn with
                    | ind NN77 ih77 =>
                      intro i hi nd2 hnd hNN77
                      refine x_iload X dX9_need_77 rfl ?_
                      refine x_aload_n X dX9_need_79 rfl ?_
                      refine gf_X9_46 (k' := 50) X dX9_need_80 rfl rfl ?_
                      refine x_iload X dX9_need_83 rfl ?_
                      refine x_iconst (v := nI 1) X dX9_need_85 (by decide) ?_
                      refine x_iadd X dX9_need_86 ?_
                      rw [nI_add (rf k2) 1]
                      refine x_ialdN X dX9_need_87 rfl (by omega) (by omega) ?_
                      rw [xgI_Fn (by omega), m1]
                      refine x_icmpge (tgt := 117) X dX9_need_88 (by decide) (fun h88 => ?_) (fun h88 => ?_)
                      · skip
                        rw [xb_ge (x := nI i) (y := nI m) (a := i) (b := m) rfl rfl (by omega) (by omega)] at h88
                        have hP2 := hP1
                        rw [hsr, ← show i = m by omega, ← hnd] at hP2
                        refine x_goto (tgt := 189) X dX9_need_117 (by decide) ?_
                        obtain ⟨rr9, hrr9⟩ : ∃ z : Int32, z = nI k2 + Int32.ofInt (-1) := ⟨_, rfl⟩
                        refine x_iinc (k := 3) (v := rr9) (lv' := [(3, .int rr9), (6, .int (nI i)), (5, .int (nI q)), (4, .int (nI (rf k2))), (2, .int (nI (cnt + 1))), (1, .int (nI r)), (0, .ref (G.2.1 37))]) X dX9_need_189 rfl hrr9.symm (by decide) rfl ?_
                        refine x_goto (tgt := 35) X dX9_need_192 (by decide) ?_
                        refine x_pick [0, 4, 5, 6] rfl ?_
                        exact ih35 _ (by omega) k2 (by omega) rr9 hrr9 _ _ hP2 rfl
                      · skip
                        rw [xb_ge (x := nI i) (y := nI m) (a := i) (b := m) rfl rfl (by omega) (by omega)] at h88
                        obtain ⟨s, s1, s2⟩ := m3 i (by omega)
                        have hnd9 : (fun b => if b = s then nI 1 else nd2 b) = aMk ((List.range (i + 1)).map (fun i => (xgI σ 50 (rf k2 + 2 + 2 * i)).toNatClampNeg)) nd := by rw [hnd]; exact aMk_r (by rw [s2, nI_clamp (by omega)])
                        refine x_aload_n X dX9_need_91 rfl ?_
                        refine gf_X9_77 (k' := 57) X dX9_need_92 rfl rfl ?_
                        refine x_aload_n X dX9_need_95 rfl ?_
                        refine gf_X9_46 (k' := 50) X dX9_need_96 rfl rfl ?_
                        refine x_iload X dX9_need_99 rfl ?_
                        refine x_iconst (v := nI 2) X dX9_need_101 (by decide) ?_
                        refine x_iadd X dX9_need_102 ?_
                        rw [nI_add (rf k2) 2]
                        refine x_iconst (v := nI 2) X dX9_need_103 (by decide) ?_
                        refine x_iload X dX9_need_104 rfl ?_
                        refine x_imul X dX9_need_106 ?_
                        rw [pk_mul 2 i]
                        refine x_iadd X dX9_need_107 ?_
                        rw [nI_add ((rf k2) + 2) (2 * i)]
                        refine x_ialdN X dX9_need_108 rfl (by omega) (by omega) ?_
                        rw [xgI_Fn (by omega), s2]
                        refine x_iconst (v := nI 1) X dX9_need_109 (by decide) ?_
                        refine x_zastN X dX9_need_110 rfl (by omega) (by omega) (Or.inr rfl) ?_
                        rw [xsF_s]
                        refine x_iinc (k := 0) (v := nI (i + 1)) (lv' := [(6, .int (nI (i + 1))), (5, .int (nI q)), (4, .int (nI (rf k2))), (3, .int (nI k2)), (2, .int (nI (cnt + 1))), (1, .int (nI r)), (0, .ref (G.2.1 37))]) X dX9_need_111 rfl (xn_inc _) (by decide) rfl ?_
                        refine x_goto (tgt := 77) X dX9_need_114 (by decide) ?_
                        refine x_pick [0, 1, 2, 3, 4, 5, 6] rfl ?_
                        exact ih77 _ (by omega) (i + 1) (by omega) _ hnd9 rfl
                  refine x_pick [0, 1, 2, 4, 3, 5, 6] rfl ?_
                  exact lp77 _ 0 (by omega) nd aMk_0.symm rfl
        refine x_pick [0, 1, 2, 3] rfl ?_
        exact lp35 _ (r + 1) (by omega) _ (pk_m1 r).symm 0 _ rfl rfl
      · skip
        rw [xb_ge (x := nI k) (y := nI 200) (a := k) (b := 200) rfl rfl (by omega) (by omega)] at h6
        refine x_aload_n X dX9_need_9 rfl ?_
        refine gf_X9_77 (k' := 57) X dX9_need_10 rfl rfl ?_
        refine x_iload_n X dX9_need_13 rfl ?_
        refine x_iload_n X dX9_need_14 rfl ?_
        refine x_iload_n X dX9_need_15 rfl ?_
        refine x_icmpne (tgt := 23) X dX9_need_16 (by decide) (fun h16 => ?_) (fun h16 => ?_)
        · skip
          rw [xb_ne (x := nI k) (y := nI r) (a := k) (b := r) rfl rfl (by omega) (by omega)] at h16
          have hs2 := nd0_s (σ := σ) (if_neg h16)
          refine x_iconst (v := nI 0) X dX9_need_23 (by decide) ?_
          refine x_zastN X dX9_need_24 rfl (by omega) (by omega) (Or.inl rfl) ?_
          refine x_iinc (k := 0) (v := nI (k + 1)) (lv' := [(2, .int (nI (k + 1))), (1, .int (nI r)), (0, .ref (G.2.1 37))]) X dX9_need_25 rfl (xn_inc _) (by decide) rfl ?_
          refine x_goto (tgt := 2) X dX9_need_28 (by decide) ?_
          refine x_pick [0, 1, 2] rfl ?_
          exact ih2 _ (by omega) (k + 1) (by omega) _ hs2 rfl
        · skip
          rw [xb_ne (x := nI k) (y := nI r) (a := k) (b := r) rfl rfl (by omega) (by omega)] at h16
          have hs2 := nd0_s (σ := σ) (if_pos h16)
          refine x_iconst (v := nI 1) X dX9_need_19 (by decide) ?_
          refine x_goto (tgt := 24) X dX9_need_20 (by decide) ?_
          refine x_zastN X dX9_need_24 rfl (by omega) (by omega) (Or.inr rfl) ?_
          refine x_iinc (k := 0) (v := nI (k + 1)) (lv' := [(2, .int (nI (k + 1))), (1, .int (nI r)), (0, .ref (G.2.1 37))]) X dX9_need_25 rfl (xn_inc _) (by decide) rfl ?_
          refine x_goto (tgt := 2) X dX9_need_28 (by decide) ?_
          refine x_pick [0, 1, 2] rfl ?_
          exact ih2 _ (by omega) (k + 1) (by omega) _ hs2 rfl
  refine x_pick [0, 2, 1] rfl ?_
  exact lp2 _ 0 (by omega) σ nd0_0 rfl

theorem qRows_0 {σ : xS} {nr j : Nat} {rf : Nat → Nat} {v : Int32} (h : qRows σ nr rf) : qRows (xsI σ 37 j v) nr rf := h

set_option maxHeartbeats 4000000 in
set_option maxRecDepth 100000 in
theorem c_X9_row13 {l : Launch} {G : xG} {σ : xS} {r : Nat} {rf : Nat → Nat} {nr : Nat} (hr : xgI σ 37 26 = nI nr) (hr2 : nr ≤ 200) {V : Nat} (hV : xgI σ 37 3 = nI V) (hV8 : V ≤ 8) (hj : r < nr) (hN : qRows σ (r + 1) rf) : xFl l G yX9_row_ cX9_row_ 3 (Option.some Jvm.ClassFile.FieldType.long) 1 26 [.ref (G.2.1 37), .int (nI r), .int 13] σ ((nI (aNeed (xsI σ 37 0 0) rf r).1).toInt64) (xsF (xsI σ 37 0 0) 57 (aNeed (xsI σ 37 0 0) rf r).2) := by
  refine xM.of (by decide) (Nat.le_of_ble_eq_true rfl) (fun pp ee ss mm aa bel met kk X => ?_)
  have X : xC pp ss mm met kk cX9_row_ 3 RX9 (Option.some Jvm.ClassFile.FieldType.long) G := X
  show xW pp l ee { frames := 1, cells := 0, slots := 0, locals := 26 } ss mm aa bel met kk 3 G 0 0 (xQ bel G (fun rv_ tv_ => rv_ = some (.long ((nI (aNeed (xsI σ 37 0 0) rf r).1).toInt64)) ∧ tv_ = (xsF (xsI σ 37 0 0) 57 (aNeed (xsI σ 37 0 0) rf r).2)) aa ss) 0 [(0, .ref (G.2.1 37)), (1, .int (nI r)), (2, .int 13)] [] σ
  refine x_aload_n X dX9_row__0 rfl ?_
  refine x_iload_n X dX9_row__1 rfl ?_
  refine x_iconst (v := nI 0) X dX9_row__2 (by decide) ?_
  refine x_aload_n X dX9_row__3 rfl ?_
  refine gf_X9_145 X dX9_row__4 rfl ?_
  rw [hr]
  refine x_iconst (v := nI 1) X dX9_row__7 (by decide) ?_
  refine x_isub X dX9_row__8 ?_
  refine cs_X9_89 X c_X9_in dX9_row__9 ⟨by decide, by decide, by decide, by decide⟩ rfl rfl (Nat.le_of_ble_eq_true rfl) (xk_i ?_)
  rw [xIn_lt (by omega)]
  refine x_ifeq (tgt := 40) X dX9_row__12 (by decide) (fun h12 => ?_) (fun h12 => ?_)
  · skip
    exact absurd ⟨r, hj, rfl⟩ (xB_0.mp h12)
  · skip
    refine x_iload_n X dX9_row__15 rfl ?_
    refine x_iconst (v := nI 0) X dX9_row__16 (by decide) ?_
    refine x_aload_n X dX9_row__17 rfl ?_
    refine gf_X9_112 X dX9_row__18 rfl ?_
    rw [hV]
    refine x_iconst (v := nI 1) X dX9_row__21 (by decide) ?_
    refine x_isub X dX9_row__22 ?_
    refine cs_X9_89 X c_X9_in dX9_row__23 ⟨by decide, by decide, by decide, by decide⟩ rfl rfl (Nat.le_of_ble_eq_true rfl) (xk_i ?_)
    rw [xIn_lt (by omega)]
    refine x_ifne (tgt := 44) X dX9_row__26 (by decide) (fun h26 => ?_) (fun h26 => ?_)
    · skip
      exact absurd (xB_f (by rintro ⟨i, hi, e⟩; have := (nI_eq (a := 13) (b := i) (by omega) (by omega)).mp e; omega)) h26
    · skip
      refine x_iload_n X dX9_row__29 rfl ?_
      refine x_bipush (v := nI 8) X dX9_row__30 (by decide) ?_
      refine x_bipush (v := nI 13) X dX9_row__32 (by decide) ?_
      refine cs_X9_89 X c_X9_in dX9_row__34 ⟨by decide, by decide, by decide, by decide⟩ rfl rfl (Nat.le_of_ble_eq_true rfl) (xk_i ?_)
      refine x_ifne (tgt := 44) X dX9_row__37 (by decide) (fun h37 => ?_) (fun h37 => ?_)
      · skip
        refine x_iconst (v := nI 0) X dX9_row__44 (by decide) ?_
        refine cv_X9_157 X (c_X9_refuses (Or.inl rfl)) dX9_row__45 rfl ⟨by decide, by decide, by decide, by decide⟩ rfl rfl (Nat.le_of_ble_eq_true rfl) (xk_i ?_)
        refine x_ifeq (tgt := 53) X dX9_row__48 (by decide) (fun h48 => ?_) (fun h48 => ?_)
        · skip
          refine x_iload_n X dX9_row__53 rfl ?_
          refine x_tableIn (off := 94) (tgt := 148) X dX9_row__54 (by decide) (by decide) rfl (by decide) ?_
          refine x_aload_n X dX9_row__148 rfl ?_
          refine x_iload_n X dX9_row__149 rfl ?_
          refine cv_X9_242 X (c_X9_need (by omega) (qRows_0 hN)) dX9_row__150 rfl ⟨by decide, by decide, by decide, by decide⟩ rfl rfl (Nat.le_of_ble_eq_true rfl) (xk_i ?_)
          refine x_i2l X dX9_row__153 ?_
          exact x_lret X dX9_row__154 (xp_l (by first | rfl | simp [*]) (by first | rfl | simp [*]))
        · skip
          exact absurd (by decide) h48
      · skip
        exact absurd h37 (by decide)
