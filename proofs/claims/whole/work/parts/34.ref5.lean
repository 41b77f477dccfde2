/-! The reference: joining -/
def qJc (σ : xS) (rf : Nat → Nat) (c d : Nat) : Prop := (xgI σ 50 (rf c) = 6 ∧ xgI σ 50 (rf d) = 6) ∧ (xgI σ 50 (rf c + 1) = xgI σ 50 (rf d + 1) ∧ xgI σ 50 (rf c + 2) = xgI σ 50 (rf d + 2)) ∧ xgI σ 50 (rf c + 3) = 0 ∧ xgI σ 50 (rf d + 3) = 1
def qSame (σ : xS) (a b n : Nat) : Prop := ∀ v, v < n → xgL σ 52 (8 * a + v) = xgL σ 52 (8 * b + v)
def qCp (σ : xS) (n y : Nat) : Nat → xS
  | 0 => σ
  | k + 1 => xsL (qCp σ n y k) 52 (8 * n + k) (xgL σ 52 (8 * y + k))
theorem qCp_off {σ : xS} {n y : Nat} : ∀ k, k ≤ 8 → qOff n σ (qCp σ n y k)
  | 0, _ => qOff.rf
  | k + 1, h => (qCp_off k (by omega)).tr (qOff.f (by omega))
def qJf (σ : xS) (n a b c d y V : Nat) : xS := qAssumes (qAssumes (xsL (qCp σ n y V) 53 n (xgL (qCp σ n y V) 53 y)) n a (nI c)) n b (nI d)

set_option maxHeartbeats 4000000 in
set_option maxRecDepth 100000 in
theorem c_X9_joins6 {l : Launch} {G : xG} {σ : xS} {n f a b c d V : Nat} {rf : Nat → Nat} (hn : n < 200) (hf : xgI σ 37 25 = nI f) (hf2 : f + 5 ≤ 1500) (ha : xgI σ 50 (f + 1) = nI a) (ha2 : a < n) (hb : xgI σ 50 (f + 2) = nI b) (hb2 : b < n) (hc : xgI σ 50 (f + 3) = nI c) (hc2 : c < n) (hd : xgI σ 50 (f + 4) = nI d) (hd2 : d < n) (hrf : ∀ r, r < n → xgI σ 51 r = nI (rf r) ∧ rf r + 3 < 1500) (hV : xgI σ 37 3 = nI V) (hV8 : V ≤ 8) (hj : ¬ qJc σ rf c d) : xFi l G yX9_joins cX9_joins 10 (Option.some Jvm.ClassFile.FieldType.int) 1 24 [.ref (G.2.1 37), .int (nI n)] σ (6) (σ) := by
  refine xM.of (by decide) (Nat.le_of_ble_eq_true rfl) (fun pp ee ss mm aa bel met kk X => ?_)
  have X : xC pp ss mm met kk cX9_joins 10 RX9 (Option.some Jvm.ClassFile.FieldType.int) G := X
  show xW pp l ee { frames := 1, cells := 0, slots := 0, locals := 24 } ss mm aa bel met kk 10 G 0 0 (xQ bel G (fun rv_ tv_ => rv_ = some (.int (6)) ∧ tv_ = (σ)) aa ss) 0 [(0, .ref (G.2.1 37)), (1, .int (nI n))] [] σ
  refine x_aload_n X dX9_joins_0 rfl ?_
  refine x_iconst (v := nI 1) X dX9_joins_1 (by decide) ?_
  refine cv_X9_187 X (c_X9_of (k := 1) hf (by omega)) dX9_joins_2 rfl ⟨by decide, by decide, by decide, by decide⟩ rfl rfl (Nat.le_of_ble_eq_true rfl) (xk_i ?_)
  rw [ha]
  refine x_istore_n (lv' := [(2, .int (nI a)), (0, .ref (G.2.1 37)), (1, .int (nI n))]) X dX9_joins_5 rfl (by decide) rfl ?_
  refine x_aload_n X dX9_joins_6 rfl ?_
  refine x_iconst (v := nI 2) X dX9_joins_7 (by decide) ?_
  refine cv_X9_187 X (c_X9_of (k := 2) hf (by omega)) dX9_joins_8 rfl ⟨by decide, by decide, by decide, by decide⟩ rfl rfl (Nat.le_of_ble_eq_true rfl) (xk_i ?_)
  rw [hb]
  refine x_istore_n (lv' := [(3, .int (nI b)), (2, .int (nI a)), (0, .ref (G.2.1 37)), (1, .int (nI n))]) X dX9_joins_11 rfl (by decide) rfl ?_
  refine x_aload_n X dX9_joins_12 rfl ?_
  refine x_iconst (v := nI 3) X dX9_joins_13 (by decide) ?_
  refine cv_X9_187 X (c_X9_of (k := 3) hf (by omega)) dX9_joins_14 rfl ⟨by decide, by decide, by decide, by decide⟩ rfl rfl (Nat.le_of_ble_eq_true rfl) (xk_i ?_)
  rw [hc]
  refine x_istore (lv' := [(4, .int (nI c)), (3, .int (nI b)), (2, .int (nI a)), (0, .ref (G.2.1 37)), (1, .int (nI n))]) X dX9_joins_17 (by decide) rfl ?_
  refine x_aload_n X dX9_joins_19 rfl ?_
  refine x_iconst (v := nI 4) X dX9_joins_20 (by decide) ?_
  refine cv_X9_187 X (c_X9_of (k := 4) hf (by omega)) dX9_joins_21 rfl ⟨by decide, by decide, by decide, by decide⟩ rfl rfl (Nat.le_of_ble_eq_true rfl) (xk_i ?_)
  rw [hd]
  refine x_istore (lv' := [(5, .int (nI d)), (4, .int (nI c)), (3, .int (nI b)), (2, .int (nI a)), (0, .ref (G.2.1 37)), (1, .int (nI n))]) X dX9_joins_24 (by decide) rfl ?_
  refine x_aload_n X dX9_joins_26 rfl ?_
  refine x_iload X dX9_joins_27 rfl ?_
  have hrc := hrf c hc2
  have hrd := hrf d hd2
  refine cv_X9_233 X (c_X9_kind (by omega) hrc.1 (by omega)) dX9_joins_29 rfl ⟨by decide, by decide, by decide, by decide⟩ rfl rfl (Nat.le_of_ble_eq_true rfl) (xk_i ?_)
  refine x_bipush (v := nI 6) X dX9_joins_32 (by decide) ?_
  refine x_icmpne (tgt := 52) X dX9_joins_34 (by decide) (fun h34 => ?_) (fun h34 => ?_)
  · skip
    refine x_iconst (v := nI 0) X dX9_joins_52 (by decide) ?_
    refine x_istore (lv' := [(6, .int (nI 0)), (5, .int (nI d)), (4, .int (nI c)), (3, .int (nI b)), (2, .int (nI a)), (0, .ref (G.2.1 37)), (1, .int (nI n))]) X dX9_joins_53 (by decide) rfl ?_
    refine x_iload X dX9_joins_55 rfl ?_
    refine x_ifeq (tgt := 126) X dX9_joins_57 (by decide) (fun h57 => ?_) (fun h57 => ?_)
    · skip
      rw [xb_eq (x := nI 0) (y := 0) (a := 0) (b := 0) rfl rfl (by omega) (by omega)] at h57
      refine x_iconst (v := nI 0) X dX9_joins_126 (by decide) ?_
      refine x_istore (lv' := [(6, .int (nI 0)), (5, .int (nI d)), (4, .int (nI c)), (3, .int (nI b)), (2, .int (nI a)), (0, .ref (G.2.1 37)), (1, .int (nI n))]) X dX9_joins_127 (by decide) rfl ?_
      refine x_iload X dX9_joins_129 rfl ?_
      refine x_ifeq (tgt := 169) X dX9_joins_131 (by decide) (fun h131 => ?_) (fun h131 => ?_)
      · skip
        rw [xb_eq (x := nI 0) (y := 0) (a := 0) (b := 0) rfl rfl (by omega) (by omega)] at h131
        refine x_bipush (v := nI 6) X dX9_joins_169 (by decide) ?_
        exact x_iret X dX9_joins_171 (xp_i (by first | rfl | simp [*]) (by first | rfl | simp [*]))
      · skip
        exact absurd (by decide) h131
    · skip
      exact absurd (by decide) h57
  · skip
    refine x_aload_n X dX9_joins_37 rfl ?_
    refine x_iload X dX9_joins_38 rfl ?_
    refine cv_X9_233 X (c_X9_kind (by omega) hrd.1 (by omega)) dX9_joins_40 rfl ⟨by decide, by decide, by decide, by decide⟩ rfl rfl (Nat.le_of_ble_eq_true rfl) (xk_i ?_)
    refine x_bipush (v := nI 6) X dX9_joins_43 (by decide) ?_
    refine x_icmpne (tgt := 52) X dX9_joins_45 (by decide) (fun h45 => ?_) (fun h45 => ?_)
    · skip
      refine x_iconst (v := nI 0) X dX9_joins_52 (by decide) ?_
      refine x_istore (lv' := [(6, .int (nI 0)), (5, .int (nI d)), (4, .int (nI c)), (3, .int (nI b)), (2, .int (nI a)), (0, .ref (G.2.1 37)), (1, .int (nI n))]) X dX9_joins_53 (by decide) rfl ?_
      refine x_iload X dX9_joins_55 rfl ?_
      refine x_ifeq (tgt := 126) X dX9_joins_57 (by decide) (fun h57 => ?_) (fun h57 => ?_)
      · skip
        rw [xb_eq (x := nI 0) (y := 0) (a := 0) (b := 0) rfl rfl (by omega) (by omega)] at h57
        refine x_iconst (v := nI 0) X dX9_joins_126 (by decide) ?_
        refine x_istore (lv' := [(6, .int (nI 0)), (5, .int (nI d)), (4, .int (nI c)), (3, .int (nI b)), (2, .int (nI a)), (0, .ref (G.2.1 37)), (1, .int (nI n))]) X dX9_joins_127 (by decide) rfl ?_
        refine x_iload X dX9_joins_129 rfl ?_
        refine x_ifeq (tgt := 169) X dX9_joins_131 (by decide) (fun h131 => ?_) (fun h131 => ?_)
        · skip
          rw [xb_eq (x := nI 0) (y := 0) (a := 0) (b := 0) rfl rfl (by omega) (by omega)] at h131
          refine x_bipush (v := nI 6) X dX9_joins_169 (by decide) ?_
          exact x_iret X dX9_joins_171 (xp_i (by first | rfl | simp [*]) (by first | rfl | simp [*]))
        · skip
          exact absurd (by decide) h131
      · skip
        exact absurd (by decide) h57
    · skip
      refine x_iconst (v := nI 1) X dX9_joins_48 (by decide) ?_
      refine x_goto (tgt := 53) X dX9_joins_49 (by decide) ?_
      refine x_istore (lv' := [(6, .int (nI 1)), (5, .int (nI d)), (4, .int (nI c)), (3, .int (nI b)), (2, .int (nI a)), (0, .ref (G.2.1 37)), (1, .int (nI n))]) X dX9_joins_53 (by decide) rfl ?_
      refine x_iload X dX9_joins_55 rfl ?_
      refine x_ifeq (tgt := 126) X dX9_joins_57 (by decide) (fun h57 => ?_) (fun h57 => ?_)
      · skip
        exact absurd h57 (by decide)
      · skip
        rw [xb_eq (x := nI 1) (y := 0) (a := 1) (b := 0) rfl rfl (by omega) (by omega)] at h57
        refine x_aload_n X dX9_joins_60 rfl ?_
        refine gf_X9_46 (k' := 50) X dX9_joins_61 rfl rfl ?_
        refine x_aload_n X dX9_joins_64 rfl ?_
        refine gf_X9_56 (k' := 51) X dX9_joins_65 rfl rfl ?_
        refine x_iload X dX9_joins_68 rfl ?_
        refine x_ialdN X dX9_joins_70 rfl (by omega) (by omega) ?_
        rw [(hrf c (by omega)).1]
        refine x_iconst (v := nI 1) X dX9_joins_71 (by decide) ?_
        refine x_iadd X dX9_joins_72 ?_
        rw [nI_add (rf c) 1]
        refine x_ialdN X dX9_joins_73 rfl (by omega) (by omega) ?_
        refine x_aload_n X dX9_joins_74 rfl ?_
        refine gf_X9_46 (k' := 50) X dX9_joins_75 rfl rfl ?_
        refine x_aload_n X dX9_joins_78 rfl ?_
        refine gf_X9_56 (k' := 51) X dX9_joins_79 rfl rfl ?_
        refine x_iload X dX9_joins_82 rfl ?_
        refine x_ialdN X dX9_joins_84 rfl (by omega) (by omega) ?_
        rw [(hrf d (by omega)).1]
        refine x_iconst (v := nI 1) X dX9_joins_85 (by decide) ?_
        refine x_iadd X dX9_joins_86 ?_
        rw [nI_add (rf d) 1]
        refine x_ialdN X dX9_joins_87 rfl (by omega) (by omega) ?_
        refine x_icmpne (tgt := 126) X dX9_joins_88 (by decide) (fun h88 => ?_) (fun h88 => ?_)
        · skip
          refine x_iconst (v := nI 0) X dX9_joins_126 (by decide) ?_
          refine x_istore (lv' := [(6, .int (nI 0)), (5, .int (nI d)), (4, .int (nI c)), (3, .int (nI b)), (2, .int (nI a)), (0, .ref (G.2.1 37)), (1, .int (nI n))]) X dX9_joins_127 (by decide) rfl ?_
          refine x_iload X dX9_joins_129 rfl ?_
          refine x_ifeq (tgt := 169) X dX9_joins_131 (by decide) (fun h131 => ?_) (fun h131 => ?_)
          · skip
            rw [xb_eq (x := nI 0) (y := 0) (a := 0) (b := 0) rfl rfl (by omega) (by omega)] at h131
            refine x_bipush (v := nI 6) X dX9_joins_169 (by decide) ?_
            exact x_iret X dX9_joins_171 (xp_i (by first | rfl | simp [*]) (by first | rfl | simp [*]))
          · skip
            exact absurd (by decide) h131
        · skip
          refine x_aload_n X dX9_joins_91 rfl ?_
          refine gf_X9_46 (k' := 50) X dX9_joins_92 rfl rfl ?_
          refine x_aload_n X dX9_joins_95 rfl ?_
          refine gf_X9_56 (k' := 51) X dX9_joins_96 rfl rfl ?_
          refine x_iload X dX9_joins_99 rfl ?_
          refine x_ialdN X dX9_joins_101 rfl (by omega) (by omega) ?_
          rw [(hrf c (by omega)).1]
          refine x_iconst (v := nI 2) X dX9_joins_102 (by decide) ?_
          refine x_iadd X dX9_joins_103 ?_
          rw [nI_add (rf c) 2]
          refine x_ialdN X dX9_joins_104 rfl (by omega) (by omega) ?_
          refine x_aload_n X dX9_joins_105 rfl ?_
          refine gf_X9_46 (k' := 50) X dX9_joins_106 rfl rfl ?_
          refine x_aload_n X dX9_joins_109 rfl ?_
          refine gf_X9_56 (k' := 51) X dX9_joins_110 rfl rfl ?_
          refine x_iload X dX9_joins_113 rfl ?_
          refine x_ialdN X dX9_joins_115 rfl (by omega) (by omega) ?_
          rw [(hrf d (by omega)).1]
          refine x_iconst (v := nI 2) X dX9_joins_116 (by decide) ?_
          refine x_iadd X dX9_joins_117 ?_
          rw [nI_add (rf d) 2]
          refine x_ialdN X dX9_joins_118 rfl (by omega) (by omega) ?_
          refine x_icmpne (tgt := 126) X dX9_joins_119 (by decide) (fun h119 => ?_) (fun h119 => ?_)
          · skip
            refine x_iconst (v := nI 0) X dX9_joins_126 (by decide) ?_
            refine x_istore (lv' := [(6, .int (nI 0)), (5, .int (nI d)), (4, .int (nI c)), (3, .int (nI b)), (2, .int (nI a)), (0, .ref (G.2.1 37)), (1, .int (nI n))]) X dX9_joins_127 (by decide) rfl ?_
            refine x_iload X dX9_joins_129 rfl ?_
            refine x_ifeq (tgt := 169) X dX9_joins_131 (by decide) (fun h131 => ?_) (fun h131 => ?_)
            · skip
              rw [xb_eq (x := nI 0) (y := 0) (a := 0) (b := 0) rfl rfl (by omega) (by omega)] at h131
              refine x_bipush (v := nI 6) X dX9_joins_169 (by decide) ?_
              exact x_iret X dX9_joins_171 (xp_i (by first | rfl | simp [*]) (by first | rfl | simp [*]))
            · skip
              exact absurd (by decide) h131
          · skip
            refine x_iconst (v := nI 1) X dX9_joins_122 (by decide) ?_
            refine x_goto (tgt := 127) X dX9_joins_123 (by decide) ?_
            refine x_istore (lv' := [(6, .int (nI 1)), (5, .int (nI d)), (4, .int (nI c)), (3, .int (nI b)), (2, .int (nI a)), (0, .ref (G.2.1 37)), (1, .int (nI n))]) X dX9_joins_127 (by decide) rfl ?_
            refine x_iload X dX9_joins_129 rfl ?_
            refine x_ifeq (tgt := 169) X dX9_joins_131 (by decide) (fun h131 => ?_) (fun h131 => ?_)
            · skip
              exact absurd h131 (by decide)
            · skip
              rw [xb_eq (x := nI 1) (y := 0) (a := 1) (b := 0) rfl rfl (by omega) (by omega)] at h131
              refine x_aload_n X dX9_joins_134 rfl ?_
              refine gf_X9_46 (k' := 50) X dX9_joins_135 rfl rfl ?_
              refine x_aload_n X dX9_joins_138 rfl ?_
              refine gf_X9_56 (k' := 51) X dX9_joins_139 rfl rfl ?_
              refine x_iload X dX9_joins_142 rfl ?_
              refine x_ialdN X dX9_joins_144 rfl (by omega) (by omega) ?_
              rw [(hrf c (by omega)).1]
              refine x_iconst (v := nI 3) X dX9_joins_145 (by decide) ?_
              refine x_iadd X dX9_joins_146 ?_
              rw [nI_add (rf c) 3]
              refine x_ialdN X dX9_joins_147 rfl (by omega) (by omega) ?_
              refine x_ifne (tgt := 169) X dX9_joins_148 (by decide) (fun h148 => ?_) (fun h148 => ?_)
              · skip
                refine x_bipush (v := nI 6) X dX9_joins_169 (by decide) ?_
                exact x_iret X dX9_joins_171 (xp_i (by first | rfl | simp [*]) (by first | rfl | simp [*]))
              · skip
                refine x_aload_n X dX9_joins_151 rfl ?_
                refine gf_X9_46 (k' := 50) X dX9_joins_152 rfl rfl ?_
                refine x_aload_n X dX9_joins_155 rfl ?_
                refine gf_X9_56 (k' := 51) X dX9_joins_156 rfl rfl ?_
                refine x_iload X dX9_joins_159 rfl ?_
                refine x_ialdN X dX9_joins_161 rfl (by omega) (by omega) ?_
                rw [(hrf d (by omega)).1]
                refine x_iconst (v := nI 3) X dX9_joins_162 (by decide) ?_
                refine x_iadd X dX9_joins_163 ?_
                rw [nI_add (rf d) 3]
                refine x_ialdN X dX9_joins_164 rfl (by omega) (by omega) ?_
                refine x_iconst (v := nI 1) X dX9_joins_165 (by decide) ?_
                refine x_icmpeq (tgt := 172) X dX9_joins_166 (by decide) (fun h166 => ?_) (fun h166 => ?_)
                · skip
                  exact absurd ⟨⟨h34, h45⟩, ⟨h88, h119⟩, h148, h166⟩ hj
                · skip
                  refine x_bipush (v := nI 6) X dX9_joins_169 (by decide) ?_
                  exact x_iret X dX9_joins_171 (xp_i (by first | rfl | simp [*]) (by first | rfl | simp [*]))

set_option maxHeartbeats 4000000 in
set_option maxRecDepth 100000 in
theorem c_X9_joins7 {l : Launch} {G : xG} {σ : xS} {n f a b c d V : Nat} {rf : Nat → Nat} (hn : n < 200) (hf : xgI σ 37 25 = nI f) (hf2 : f + 5 ≤ 1500) (ha : xgI σ 50 (f + 1) = nI a) (ha2 : a < n) (hb : xgI σ 50 (f + 2) = nI b) (hb2 : b < n) (hc : xgI σ 50 (f + 3) = nI c) (hc2 : c < n) (hd : xgI σ 50 (f + 4) = nI d) (hd2 : d < n) (hrf : ∀ r, r < n → xgI σ 51 r = nI (rf r) ∧ rf r + 3 < 1500) (hV : xgI σ 37 3 = nI V) (hV8 : V ≤ 8) (hj : qJc σ rf c d) (hs : ¬ qSame σ a b V) (hia : ¬ qImp σ a V) (hib : ¬ qImp σ b V) : xFi l G yX9_joins cX9_joins 10 (Option.some Jvm.ClassFile.FieldType.int) 1 24 [.ref (G.2.1 37), .int (nI n)] σ (7) (σ) := by
  refine xM.of (by decide) (Nat.le_of_ble_eq_true rfl) (fun pp ee ss mm aa bel met kk X => ?_)
  have X : xC pp ss mm met kk cX9_joins 10 RX9 (Option.some Jvm.ClassFile.FieldType.int) G := X
  show xW pp l ee { frames := 1, cells := 0, slots := 0, locals := 24 } ss mm aa bel met kk 10 G 0 0 (xQ bel G (fun rv_ tv_ => rv_ = some (.int (7)) ∧ tv_ = (σ)) aa ss) 0 [(0, .ref (G.2.1 37)), (1, .int (nI n))] [] σ
  refine x_aload_n X dX9_joins_0 rfl ?_
  refine x_iconst (v := nI 1) X dX9_joins_1 (by decide) ?_
  refine cv_X9_187 X (c_X9_of (k := 1) hf (by omega)) dX9_joins_2 rfl ⟨by decide, by decide, by decide, by decide⟩ rfl rfl (Nat.le_of_ble_eq_true rfl) (xk_i ?_)
  rw [ha]
  refine x_istore_n (lv' := [(2, .int (nI a)), (0, .ref (G.2.1 37)), (1, .int (nI n))]) X dX9_joins_5 rfl (by decide) rfl ?_
  refine x_aload_n X dX9_joins_6 rfl ?_
  refine x_iconst (v := nI 2) X dX9_joins_7 (by decide) ?_
  refine cv_X9_187 X (c_X9_of (k := 2) hf (by omega)) dX9_joins_8 rfl ⟨by decide, by decide, by decide, by decide⟩ rfl rfl (Nat.le_of_ble_eq_true rfl) (xk_i ?_)
  rw [hb]
  refine x_istore_n (lv' := [(3, .int (nI b)), (2, .int (nI a)), (0, .ref (G.2.1 37)), (1, .int (nI n))]) X dX9_joins_11 rfl (by decide) rfl ?_
  refine x_aload_n X dX9_joins_12 rfl ?_
  refine x_iconst (v := nI 3) X dX9_joins_13 (by decide) ?_
  refine cv_X9_187 X (c_X9_of (k := 3) hf (by omega)) dX9_joins_14 rfl ⟨by decide, by decide, by decide, by decide⟩ rfl rfl (Nat.le_of_ble_eq_true rfl) (xk_i ?_)
  rw [hc]
  refine x_istore (lv' := [(4, .int (nI c)), (3, .int (nI b)), (2, .int (nI a)), (0, .ref (G.2.1 37)), (1, .int (nI n))]) X dX9_joins_17 (by decide) rfl ?_
  refine x_aload_n X dX9_joins_19 rfl ?_
  refine x_iconst (v := nI 4) X dX9_joins_20 (by decide) ?_
  refine cv_X9_187 X (c_X9_of (k := 4) hf (by omega)) dX9_joins_21 rfl ⟨by decide, by decide, by decide, by decide⟩ rfl rfl (Nat.le_of_ble_eq_true rfl) (xk_i ?_)
  rw [hd]
  refine x_istore (lv' := [(5, .int (nI d)), (4, .int (nI c)), (3, .int (nI b)), (2, .int (nI a)), (0, .ref (G.2.1 37)), (1, .int (nI n))]) X dX9_joins_24 (by decide) rfl ?_
  refine x_aload_n X dX9_joins_26 rfl ?_
  refine x_iload X dX9_joins_27 rfl ?_
  have hrc := hrf c hc2
  have hrd := hrf d hd2
  refine cv_X9_233 X (c_X9_kind (by omega) hrc.1 (by omega)) dX9_joins_29 rfl ⟨by decide, by decide, by decide, by decide⟩ rfl rfl (Nat.le_of_ble_eq_true rfl) (xk_i ?_)
  refine x_bipush (v := nI 6) X dX9_joins_32 (by decide) ?_
  refine x_icmpne (tgt := 52) X dX9_joins_34 (by decide) (fun h34 => ?_) (fun h34 => ?_)
  · skip
    exact absurd hj.1.1 h34
  · skip
    refine x_aload_n X dX9_joins_37 rfl ?_
    refine x_iload X dX9_joins_38 rfl ?_
    refine cv_X9_233 X (c_X9_kind (by omega) hrd.1 (by omega)) dX9_joins_40 rfl ⟨by decide, by decide, by decide, by decide⟩ rfl rfl (Nat.le_of_ble_eq_true rfl) (xk_i ?_)
    refine x_bipush (v := nI 6) X dX9_joins_43 (by decide) ?_
    refine x_icmpne (tgt := 52) X dX9_joins_45 (by decide) (fun h45 => ?_) (fun h45 => ?_)
    · skip
      exact absurd hj.1.2 h45
    · skip
      refine x_iconst (v := nI 1) X dX9_joins_48 (by decide) ?_
      refine x_goto (tgt := 53) X dX9_joins_49 (by decide) ?_
      refine x_istore (lv' := [(6, .int (nI 1)), (5, .int (nI d)), (4, .int (nI c)), (3, .int (nI b)), (2, .int (nI a)), (0, .ref (G.2.1 37)), (1, .int (nI n))]) X dX9_joins_53 (by decide) rfl ?_
      refine x_iload X dX9_joins_55 rfl ?_
      refine x_ifeq (tgt := 126) X dX9_joins_57 (by decide) (fun h57 => ?_) (fun h57 => ?_)
      · skip
        exact absurd h57 (by decide)
      · skip
        rw [xb_eq (x := nI 1) (y := 0) (a := 1) (b := 0) rfl rfl (by omega) (by omega)] at h57
        refine x_aload_n X dX9_joins_60 rfl ?_
        refine gf_X9_46 (k' := 50) X dX9_joins_61 rfl rfl ?_
        refine x_aload_n X dX9_joins_64 rfl ?_
        refine gf_X9_56 (k' := 51) X dX9_joins_65 rfl rfl ?_
        refine x_iload X dX9_joins_68 rfl ?_
        refine x_ialdN X dX9_joins_70 rfl (by omega) (by omega) ?_
        rw [(hrf c (by omega)).1]
        refine x_iconst (v := nI 1) X dX9_joins_71 (by decide) ?_
        refine x_iadd X dX9_joins_72 ?_
        rw [nI_add (rf c) 1]
        refine x_ialdN X dX9_joins_73 rfl (by omega) (by omega) ?_
        refine x_aload_n X dX9_joins_74 rfl ?_
        refine gf_X9_46 (k' := 50) X dX9_joins_75 rfl rfl ?_
        refine x_aload_n X dX9_joins_78 rfl ?_
        refine gf_X9_56 (k' := 51) X dX9_joins_79 rfl rfl ?_
        refine x_iload X dX9_joins_82 rfl ?_
        refine x_ialdN X dX9_joins_84 rfl (by omega) (by omega) ?_
        rw [(hrf d (by omega)).1]
        refine x_iconst (v := nI 1) X dX9_joins_85 (by decide) ?_
        refine x_iadd X dX9_joins_86 ?_
        rw [nI_add (rf d) 1]
        refine x_ialdN X dX9_joins_87 rfl (by omega) (by omega) ?_
        refine x_icmpne (tgt := 126) X dX9_joins_88 (by decide) (fun h88 => ?_) (fun h88 => ?_)
        · skip
          exact absurd hj.2.1.1 h88
        · skip
          refine x_aload_n X dX9_joins_91 rfl ?_
          refine gf_X9_46 (k' := 50) X dX9_joins_92 rfl rfl ?_
          refine x_aload_n X dX9_joins_95 rfl ?_
          refine gf_X9_56 (k' := 51) X dX9_joins_96 rfl rfl ?_
          refine x_iload X dX9_joins_99 rfl ?_
          refine x_ialdN X dX9_joins_101 rfl (by omega) (by omega) ?_
          rw [(hrf c (by omega)).1]
          refine x_iconst (v := nI 2) X dX9_joins_102 (by decide) ?_
          refine x_iadd X dX9_joins_103 ?_
          rw [nI_add (rf c) 2]
          refine x_ialdN X dX9_joins_104 rfl (by omega) (by omega) ?_
          refine x_aload_n X dX9_joins_105 rfl ?_
          refine gf_X9_46 (k' := 50) X dX9_joins_106 rfl rfl ?_
          refine x_aload_n X dX9_joins_109 rfl ?_
          refine gf_X9_56 (k' := 51) X dX9_joins_110 rfl rfl ?_
          refine x_iload X dX9_joins_113 rfl ?_
          refine x_ialdN X dX9_joins_115 rfl (by omega) (by omega) ?_
          rw [(hrf d (by omega)).1]
          refine x_iconst (v := nI 2) X dX9_joins_116 (by decide) ?_
          refine x_iadd X dX9_joins_117 ?_
          rw [nI_add (rf d) 2]
          refine x_ialdN X dX9_joins_118 rfl (by omega) (by omega) ?_
          refine x_icmpne (tgt := 126) X dX9_joins_119 (by decide) (fun h119 => ?_) (fun h119 => ?_)
          · skip
            exact absurd hj.2.1.2 h119
          · skip
            refine x_iconst (v := nI 1) X dX9_joins_122 (by decide) ?_
            refine x_goto (tgt := 127) X dX9_joins_123 (by decide) ?_
            refine x_istore (lv' := [(6, .int (nI 1)), (5, .int (nI d)), (4, .int (nI c)), (3, .int (nI b)), (2, .int (nI a)), (0, .ref (G.2.1 37)), (1, .int (nI n))]) X dX9_joins_127 (by decide) rfl ?_
            refine x_iload X dX9_joins_129 rfl ?_
            refine x_ifeq (tgt := 169) X dX9_joins_131 (by decide) (fun h131 => ?_) (fun h131 => ?_)
            · skip
              exact absurd h131 (by decide)
            · skip
              rw [xb_eq (x := nI 1) (y := 0) (a := 1) (b := 0) rfl rfl (by omega) (by omega)] at h131
              refine x_aload_n X dX9_joins_134 rfl ?_
              refine gf_X9_46 (k' := 50) X dX9_joins_135 rfl rfl ?_
              refine x_aload_n X dX9_joins_138 rfl ?_
              refine gf_X9_56 (k' := 51) X dX9_joins_139 rfl rfl ?_
              refine x_iload X dX9_joins_142 rfl ?_
              refine x_ialdN X dX9_joins_144 rfl (by omega) (by omega) ?_
              rw [(hrf c (by omega)).1]
              refine x_iconst (v := nI 3) X dX9_joins_145 (by decide) ?_
              refine x_iadd X dX9_joins_146 ?_
              rw [nI_add (rf c) 3]
              refine x_ialdN X dX9_joins_147 rfl (by omega) (by omega) ?_
              refine x_ifne (tgt := 169) X dX9_joins_148 (by decide) (fun h148 => ?_) (fun h148 => ?_)
              · skip
                exact absurd hj.2.2.1 h148
              · skip
                refine x_aload_n X dX9_joins_151 rfl ?_
                refine gf_X9_46 (k' := 50) X dX9_joins_152 rfl rfl ?_
                refine x_aload_n X dX9_joins_155 rfl ?_
                refine gf_X9_56 (k' := 51) X dX9_joins_156 rfl rfl ?_
                refine x_iload X dX9_joins_159 rfl ?_
                refine x_ialdN X dX9_joins_161 rfl (by omega) (by omega) ?_
                rw [(hrf d (by omega)).1]
                refine x_iconst (v := nI 3) X dX9_joins_162 (by decide) ?_
                refine x_iadd X dX9_joins_163 ?_
                rw [nI_add (rf d) 3]
                refine x_ialdN X dX9_joins_164 rfl (by omega) (by omega) ?_
                refine x_iconst (v := nI 1) X dX9_joins_165 (by decide) ?_
                refine x_icmpeq (tgt := 172) X dX9_joins_166 (by decide) (fun h166 => ?_) (fun h166 => ?_)
                · skip
                  refine x_iconst (v := nI 1) X dX9_joins_172 (by decide) ?_
                  refine x_istore (lv' := [(7, .int (nI 1)), (6, .int (nI 1)), (5, .int (nI d)), (4, .int (nI c)), (3, .int (nI b)), (2, .int (nI a)), (0, .ref (G.2.1 37)), (1, .int (nI n))]) X dX9_joins_173 (by decide) rfl ?_
                  refine x_iconst (v := nI 0) X dX9_joins_175 (by decide) ?_
                  refine x_istore (lv' := [(8, .int (nI 0)), (7, .int (nI 1)), (6, .int (nI 1)), (5, .int (nI d)), (4, .int (nI c)), (3, .int (nI b)), (2, .int (nI a)), (0, .ref (G.2.1 37)), (1, .int (nI n))]) X dX9_joins_176 (by decide) rfl ?_
                  have lp178 : ∀ (NN178 : Nat) (k : Nat) (hk : k ≤ V) (is0 : Int32) (his : is0 = xB (qSame σ a b k)), V - k = NN178 → xW pp l ee { frames := 1, cells := 0, slots := 0, locals := 24 } ss mm aa bel met kk 10 G 0 0 (xQ bel G (fun rv_ tv_ => rv_ = some (.int (7)) ∧ tv_ = (σ)) aa ss) 178 [(8, .int (nI k)), (7, .int is0), (6, .int (nI 1)), (5, .int (nI d)), (4, .int (nI c)), (3, .int (nI b)), (2, .int (nI a)), (1, .int (nI n)), (0, .ref (G.2.1 37))] [] (σ) := by
                    intro NN178
                    induction NN178 using Nat.strongRecOn with
                    | ind NN178 ih178 =>
                      intro k hk is0 his hNN178
                      refine x_iload X dX9_joins_178 rfl ?_
                      refine x_aload_n X dX9_joins_180 rfl ?_
                      refine gf_X9_112 X dX9_joins_181 rfl ?_
                      rw [hV]
                      refine x_icmpge (tgt := 233) X dX9_joins_184 (by decide) (fun h184 => ?_) (fun h184 => ?_)
                      · skip
                        rw [xb_ge (x := nI k) (y := nI V) (a := k) (b := V) rfl rfl (by omega) (by omega)] at h184
                        rw [show k = V from by omega] at his
                        refine x_iload X dX9_joins_233 rfl ?_
                        refine x_ifne (tgt := 257) X dX9_joins_235 (by decide) (fun h235 => ?_) (fun h235 => ?_)
                        · skip
                          exact absurd (by rw [his, xB_f hs]) h235
                        · skip
                          refine x_aload_n X dX9_joins_238 rfl ?_
                          refine x_iload_n X dX9_joins_239 rfl ?_
                          refine cv_X9_236 X (c_X9_isImpossible (by omega) hV hV8) dX9_joins_240 rfl ⟨by decide, by decide, by decide, by decide⟩ rfl rfl (Nat.le_of_ble_eq_true rfl) (xk_i ?_)
                          refine x_ifne (tgt := 257) X dX9_joins_243 (by decide) (fun h243 => ?_) (fun h243 => ?_)
                          · skip
                            exact absurd (xB_f hia) h243
                          · skip
                            refine x_aload_n X dX9_joins_246 rfl ?_
                            refine x_iload_n X dX9_joins_247 rfl ?_
                            refine cv_X9_236 X (c_X9_isImpossible (by omega) hV hV8) dX9_joins_248 rfl ⟨by decide, by decide, by decide, by decide⟩ rfl rfl (Nat.le_of_ble_eq_true rfl) (xk_i ?_)
                            refine x_ifne (tgt := 257) X dX9_joins_251 (by decide) (fun h251 => ?_) (fun h251 => ?_)
                            · skip
                              exact absurd (xB_f hib) h251
                            · skip
                              refine x_bipush (v := nI 7) X dX9_joins_254 (by decide) ?_
                              exact x_iret X dX9_joins_256 (xp_i (by first | rfl | simp [*]) (by first | rfl | simp [*]))
                      · skip
                        rw [xb_ge (x := nI k) (y := nI V) (a := k) (b := V) rfl rfl (by omega) (by omega)] at h184
                        refine x_iload X dX9_joins_187 rfl ?_
                        refine x_ifeq (tgt := 224) X dX9_joins_189 (by decide) (fun h189 => ?_) (fun h189 => ?_)
                        · skip
                          have his9 : nI 0 = xB (qSame σ a b (k + 1)) := (xB_f (fun z => (xB_0.mp (his ▸ h189)) (fun v hv => z v (by omega)))).symm
                          refine x_iconst (v := nI 0) X dX9_joins_224 (by decide) ?_
                          refine x_istore (lv' := [(7, .int (nI 0)), (8, .int (nI k)), (6, .int (nI 1)), (5, .int (nI d)), (4, .int (nI c)), (3, .int (nI b)), (2, .int (nI a)), (1, .int (nI n)), (0, .ref (G.2.1 37))]) X dX9_joins_225 (by decide) rfl ?_
                          refine x_iinc (k := 1) (v := nI (k + 1)) (lv' := [(8, .int (nI (k + 1))), (7, .int (nI 0)), (6, .int (nI 1)), (5, .int (nI d)), (4, .int (nI c)), (3, .int (nI b)), (2, .int (nI a)), (1, .int (nI n)), (0, .ref (G.2.1 37))]) X dX9_joins_227 rfl (xn_inc _) (by decide) rfl ?_
                          refine x_goto (tgt := 178) X dX9_joins_230 (by decide) ?_
                          refine x_pick [0, 1, 2, 3, 4, 5, 6, 7, 8] rfl ?_
                          exact ih178 _ (by omega) (k + 1) (by omega) _ his9 rfl
                        · skip
                          have hq : qSame σ a b k := Classical.not_not.mp (fun z => h189 (by rw [his, xB_f z]))
                          refine x_aload_n X dX9_joins_192 rfl ?_
                          refine gf_X9_59 (k' := 52) X dX9_joins_193 rfl rfl ?_
                          refine x_bipush (v := nI 8) X dX9_joins_196 (by decide) ?_
                          refine x_iload_n X dX9_joins_198 rfl ?_
                          refine x_imul X dX9_joins_199 ?_
                          rw [pk_mul 8 a]
                          refine x_iload X dX9_joins_200 rfl ?_
                          refine x_iadd X dX9_joins_202 ?_
                          rw [nI_add (8 * a) k]
                          refine x_laldN X dX9_joins_203 rfl (by omega) (by omega) ?_
                          refine x_aload_n X dX9_joins_204 rfl ?_
                          refine gf_X9_59 (k' := 52) X dX9_joins_205 rfl rfl ?_
                          refine x_bipush (v := nI 8) X dX9_joins_208 (by decide) ?_
                          refine x_iload_n X dX9_joins_210 rfl ?_
                          refine x_imul X dX9_joins_211 ?_
                          rw [pk_mul 8 b]
                          refine x_iload X dX9_joins_212 rfl ?_
                          refine x_iadd X dX9_joins_214 ?_
                          rw [nI_add (8 * b) k]
                          refine x_laldN X dX9_joins_215 rfl (by omega) (by omega) ?_
                          refine x_lcmp X dX9_joins_216 ?_
                          refine x_ifne (tgt := 224) X dX9_joins_217 (by decide) (fun h217 => ?_) (fun h217 => ?_)
                          · skip
                            rw [lg_cmp_eq] at h217
                            have his9 : nI 0 = xB (qSame σ a b (k + 1)) := (xB_f (fun z => h217 (z k (by omega)))).symm
                            refine x_iconst (v := nI 0) X dX9_joins_224 (by decide) ?_
                            refine x_istore (lv' := [(7, .int (nI 0)), (8, .int (nI k)), (6, .int (nI 1)), (5, .int (nI d)), (4, .int (nI c)), (3, .int (nI b)), (2, .int (nI a)), (1, .int (nI n)), (0, .ref (G.2.1 37))]) X dX9_joins_225 (by decide) rfl ?_
                            refine x_iinc (k := 1) (v := nI (k + 1)) (lv' := [(8, .int (nI (k + 1))), (7, .int (nI 0)), (6, .int (nI 1)), (5, .int (nI d)), (4, .int (nI c)), (3, .int (nI b)), (2, .int (nI a)), (1, .int (nI n)), (0, .ref (G.2.1 37))]) X dX9_joins_227 rfl (xn_inc _) (by decide) rfl ?_
                            refine x_goto (tgt := 178) X dX9_joins_230 (by decide) ?_
                            refine x_pick [0, 1, 2, 3, 4, 5, 6, 7, 8] rfl ?_
                            exact ih178 _ (by omega) (k + 1) (by omega) _ his9 rfl
                          · skip
                            rw [lg_cmp_eq] at h217
                            have his9 : nI 1 = xB (qSame σ a b (k + 1)) := (xB_t (lt_s hq h217)).symm
                            refine x_iconst (v := nI 1) X dX9_joins_220 (by decide) ?_
                            refine x_goto (tgt := 225) X dX9_joins_221 (by decide) ?_
                            refine x_istore (lv' := [(7, .int (nI 1)), (8, .int (nI k)), (6, .int (nI 1)), (5, .int (nI d)), (4, .int (nI c)), (3, .int (nI b)), (2, .int (nI a)), (1, .int (nI n)), (0, .ref (G.2.1 37))]) X dX9_joins_225 (by decide) rfl ?_
                            refine x_iinc (k := 1) (v := nI (k + 1)) (lv' := [(8, .int (nI (k + 1))), (7, .int (nI 1)), (6, .int (nI 1)), (5, .int (nI d)), (4, .int (nI c)), (3, .int (nI b)), (2, .int (nI a)), (1, .int (nI n)), (0, .ref (G.2.1 37))]) X dX9_joins_227 rfl (xn_inc _) (by decide) rfl ?_
                            refine x_goto (tgt := 178) X dX9_joins_230 (by decide) ?_
                            refine x_pick [0, 1, 2, 3, 4, 5, 6, 7, 8] rfl ?_
                            exact ih178 _ (by omega) (k + 1) (by omega) _ his9 rfl
                  refine x_pick [0, 1, 2, 3, 4, 5, 6, 8, 7] rfl ?_
                  exact lp178 _ 0 (by omega) _ (xB_t (fun v hv => by omega)).symm rfl
                · skip
                  exact absurd hj.2.2.2 h166

set_option maxHeartbeats 4000000 in
set_option maxRecDepth 100000 in
theorem c_X9_joinsA {l : Launch} {G : xG} {σ : xS} {n f a b c d V : Nat} {rf : Nat → Nat} (hn : n < 200) (hf : xgI σ 37 25 = nI f) (hf2 : f + 5 ≤ 1500) (ha : xgI σ 50 (f + 1) = nI a) (ha2 : a < n) (hb : xgI σ 50 (f + 2) = nI b) (hb2 : b < n) (hc : xgI σ 50 (f + 3) = nI c) (hc2 : c < n) (hd : xgI σ 50 (f + 4) = nI d) (hd2 : d < n) (hrf : ∀ r, r < n → xgI σ 51 r = nI (rf r) ∧ rf r + 3 < 1500) (hV : xgI σ 37 3 = nI V) (hV8 : V ≤ 8) (hj : qJc σ rf c d) (hs : qSame σ a b V) (hr : xgL σ 53 b ≤ xgL σ 53 a) : xFi l G yX9_joins cX9_joins 10 (Option.some Jvm.ClassFile.FieldType.int) 1 24 [.ref (G.2.1 37), .int (nI n)] σ (0) (qJf σ n a b c d a V) := by
  refine xM.of (by decide) (Nat.le_of_ble_eq_true rfl) (fun pp ee ss mm aa bel met kk X => ?_)
  have X : xC pp ss mm met kk cX9_joins 10 RX9 (Option.some Jvm.ClassFile.FieldType.int) G := X
  show xW pp l ee { frames := 1, cells := 0, slots := 0, locals := 24 } ss mm aa bel met kk 10 G 0 0 (xQ bel G (fun rv_ tv_ => rv_ = some (.int (0)) ∧ tv_ = (qJf σ n a b c d a V)) aa ss) 0 [(0, .ref (G.2.1 37)), (1, .int (nI n))] [] σ
  refine x_aload_n X dX9_joins_0 rfl ?_
  refine x_iconst (v := nI 1) X dX9_joins_1 (by decide) ?_
  refine cv_X9_187 X (c_X9_of (k := 1) hf (by omega)) dX9_joins_2 rfl ⟨by decide, by decide, by decide, by decide⟩ rfl rfl (Nat.le_of_ble_eq_true rfl) (xk_i ?_)
  rw [ha]
  refine x_istore_n (lv' := [(2, .int (nI a)), (0, .ref (G.2.1 37)), (1, .int (nI n))]) X dX9_joins_5 rfl (by decide) rfl ?_
  refine x_aload_n X dX9_joins_6 rfl ?_
  refine x_iconst (v := nI 2) X dX9_joins_7 (by decide) ?_
  refine cv_X9_187 X (c_X9_of (k := 2) hf (by omega)) dX9_joins_8 rfl ⟨by decide, by decide, by decide, by decide⟩ rfl rfl (Nat.le_of_ble_eq_true rfl) (xk_i ?_)
  rw [hb]
  refine x_istore_n (lv' := [(3, .int (nI b)), (2, .int (nI a)), (0, .ref (G.2.1 37)), (1, .int (nI n))]) X dX9_joins_11 rfl (by decide) rfl ?_
  refine x_aload_n X dX9_joins_12 rfl ?_
  refine x_iconst (v := nI 3) X dX9_joins_13 (by decide) ?_
  refine cv_X9_187 X (c_X9_of (k := 3) hf (by omega)) dX9_joins_14 rfl ⟨by decide, by decide, by decide, by decide⟩ rfl rfl (Nat.le_of_ble_eq_true rfl) (xk_i ?_)
  rw [hc]
  refine x_istore (lv' := [(4, .int (nI c)), (3, .int (nI b)), (2, .int (nI a)), (0, .ref (G.2.1 37)), (1, .int (nI n))]) X dX9_joins_17 (by decide) rfl ?_
  refine x_aload_n X dX9_joins_19 rfl ?_
  refine x_iconst (v := nI 4) X dX9_joins_20 (by decide) ?_
  refine cv_X9_187 X (c_X9_of (k := 4) hf (by omega)) dX9_joins_21 rfl ⟨by decide, by decide, by decide, by decide⟩ rfl rfl (Nat.le_of_ble_eq_true rfl) (xk_i ?_)
  rw [hd]
  refine x_istore (lv' := [(5, .int (nI d)), (4, .int (nI c)), (3, .int (nI b)), (2, .int (nI a)), (0, .ref (G.2.1 37)), (1, .int (nI n))]) X dX9_joins_24 (by decide) rfl ?_
  refine x_aload_n X dX9_joins_26 rfl ?_
  refine x_iload X dX9_joins_27 rfl ?_
  have hrc := hrf c hc2
  have hrd := hrf d hd2
  refine cv_X9_233 X (c_X9_kind (by omega) hrc.1 (by omega)) dX9_joins_29 rfl ⟨by decide, by decide, by decide, by decide⟩ rfl rfl (Nat.le_of_ble_eq_true rfl) (xk_i ?_)
  refine x_bipush (v := nI 6) X dX9_joins_32 (by decide) ?_
  refine x_icmpne (tgt := 52) X dX9_joins_34 (by decide) (fun h34 => ?_) (fun h34 => ?_)
  · skip
    exact absurd hj.1.1 h34
  · skip
    refine x_aload_n X dX9_joins_37 rfl ?_
    refine x_iload X dX9_joins_38 rfl ?_
    refine cv_X9_233 X (c_X9_kind (by omega) hrd.1 (by omega)) dX9_joins_40 rfl ⟨by decide, by decide, by decide, by decide⟩ rfl rfl (Nat.le_of_ble_eq_true rfl) (xk_i ?_)
    refine x_bipush (v := nI 6) X dX9_joins_43 (by decide) ?_
    refine x_icmpne (tgt := 52) X dX9_joins_45 (by decide) (fun h45 => ?_) (fun h45 => ?_)
    · skip
      exact absurd hj.1.2 h45
    · skip
      refine x_iconst (v := nI 1) X dX9_joins_48 (by decide) ?_
      refine x_goto (tgt := 53) X dX9_joins_49 (by decide) ?_
      refine x_istore (lv' := [(6, .int (nI 1)), (5, .int (nI d)), (4, .int (nI c)), (3, .int (nI b)), (2, .int (nI a)), (0, .ref (G.2.1 37)), (1, .int (nI n))]) X dX9_joins_53 (by decide) rfl ?_
      refine x_iload X dX9_joins_55 rfl ?_
      refine x_ifeq (tgt := 126) X dX9_joins_57 (by decide) (fun h57 => ?_) (fun h57 => ?_)
      · skip
        exact absurd h57 (by decide)
      · skip
        rw [xb_eq (x := nI 1) (y := 0) (a := 1) (b := 0) rfl rfl (by omega) (by omega)] at h57
        refine x_aload_n X dX9_joins_60 rfl ?_
        refine gf_X9_46 (k' := 50) X dX9_joins_61 rfl rfl ?_
        refine x_aload_n X dX9_joins_64 rfl ?_
        refine gf_X9_56 (k' := 51) X dX9_joins_65 rfl rfl ?_
        refine x_iload X dX9_joins_68 rfl ?_
        refine x_ialdN X dX9_joins_70 rfl (by omega) (by omega) ?_
        rw [(hrf c (by omega)).1]
        refine x_iconst (v := nI 1) X dX9_joins_71 (by decide) ?_
        refine x_iadd X dX9_joins_72 ?_
        rw [nI_add (rf c) 1]
        refine x_ialdN X dX9_joins_73 rfl (by omega) (by omega) ?_
        refine x_aload_n X dX9_joins_74 rfl ?_
        refine gf_X9_46 (k' := 50) X dX9_joins_75 rfl rfl ?_
        refine x_aload_n X dX9_joins_78 rfl ?_
        refine gf_X9_56 (k' := 51) X dX9_joins_79 rfl rfl ?_
        refine x_iload X dX9_joins_82 rfl ?_
        refine x_ialdN X dX9_joins_84 rfl (by omega) (by omega) ?_
        rw [(hrf d (by omega)).1]
        refine x_iconst (v := nI 1) X dX9_joins_85 (by decide) ?_
        refine x_iadd X dX9_joins_86 ?_
        rw [nI_add (rf d) 1]
        refine x_ialdN X dX9_joins_87 rfl (by omega) (by omega) ?_
        refine x_icmpne (tgt := 126) X dX9_joins_88 (by decide) (fun h88 => ?_) (fun h88 => ?_)
        · skip
          exact absurd hj.2.1.1 h88
        · skip
          refine x_aload_n X dX9_joins_91 rfl ?_
          refine gf_X9_46 (k' := 50) X dX9_joins_92 rfl rfl ?_
          refine x_aload_n X dX9_joins_95 rfl ?_
          refine gf_X9_56 (k' := 51) X dX9_joins_96 rfl rfl ?_
          refine x_iload X dX9_joins_99 rfl ?_
          refine x_ialdN X dX9_joins_101 rfl (by omega) (by omega) ?_
          rw [(hrf c (by omega)).1]
          refine x_iconst (v := nI 2) X dX9_joins_102 (by decide) ?_
          refine x_iadd X dX9_joins_103 ?_
          rw [nI_add (rf c) 2]
          refine x_ialdN X dX9_joins_104 rfl (by omega) (by omega) ?_
          refine x_aload_n X dX9_joins_105 rfl ?_
          refine gf_X9_46 (k' := 50) X dX9_joins_106 rfl rfl ?_
          refine x_aload_n X dX9_joins_109 rfl ?_
          refine gf_X9_56 (k' := 51) X dX9_joins_110 rfl rfl ?_
          refine x_iload X dX9_joins_113 rfl ?_
          refine x_ialdN X dX9_joins_115 rfl (by omega) (by omega) ?_
          rw [(hrf d (by omega)).1]
          refine x_iconst (v := nI 2) X dX9_joins_116 (by decide) ?_
          refine x_iadd X dX9_joins_117 ?_
          rw [nI_add (rf d) 2]
          refine x_ialdN X dX9_joins_118 rfl (by omega) (by omega) ?_
          refine x_icmpne (tgt := 126) X dX9_joins_119 (by decide) (fun h119 => ?_) (fun h119 => ?_)
          · skip
            exact absurd hj.2.1.2 h119
          · skip
            refine x_iconst (v := nI 1) X dX9_joins_122 (by decide) ?_
            refine x_goto (tgt := 127) X dX9_joins_123 (by decide) ?_
            refine x_istore (lv' := [(6, .int (nI 1)), (5, .int (nI d)), (4, .int (nI c)), (3, .int (nI b)), (2, .int (nI a)), (0, .ref (G.2.1 37)), (1, .int (nI n))]) X dX9_joins_127 (by decide) rfl ?_
            refine x_iload X dX9_joins_129 rfl ?_
            refine x_ifeq (tgt := 169) X dX9_joins_131 (by decide) (fun h131 => ?_) (fun h131 => ?_)
            · skip
              exact absurd h131 (by decide)
            · skip
              rw [xb_eq (x := nI 1) (y := 0) (a := 1) (b := 0) rfl rfl (by omega) (by omega)] at h131
              refine x_aload_n X dX9_joins_134 rfl ?_
              refine gf_X9_46 (k' := 50) X dX9_joins_135 rfl rfl ?_
              refine x_aload_n X dX9_joins_138 rfl ?_
              refine gf_X9_56 (k' := 51) X dX9_joins_139 rfl rfl ?_
              refine x_iload X dX9_joins_142 rfl ?_
              refine x_ialdN X dX9_joins_144 rfl (by omega) (by omega) ?_
              rw [(hrf c (by omega)).1]
              refine x_iconst (v := nI 3) X dX9_joins_145 (by decide) ?_
              refine x_iadd X dX9_joins_146 ?_
              rw [nI_add (rf c) 3]
              refine x_ialdN X dX9_joins_147 rfl (by omega) (by omega) ?_
              refine x_ifne (tgt := 169) X dX9_joins_148 (by decide) (fun h148 => ?_) (fun h148 => ?_)
              · skip
                exact absurd hj.2.2.1 h148
              · skip
                refine x_aload_n X dX9_joins_151 rfl ?_
                refine gf_X9_46 (k' := 50) X dX9_joins_152 rfl rfl ?_
                refine x_aload_n X dX9_joins_155 rfl ?_
                refine gf_X9_56 (k' := 51) X dX9_joins_156 rfl rfl ?_
                refine x_iload X dX9_joins_159 rfl ?_
                refine x_ialdN X dX9_joins_161 rfl (by omega) (by omega) ?_
                rw [(hrf d (by omega)).1]
                refine x_iconst (v := nI 3) X dX9_joins_162 (by decide) ?_
                refine x_iadd X dX9_joins_163 ?_
                rw [nI_add (rf d) 3]
                refine x_ialdN X dX9_joins_164 rfl (by omega) (by omega) ?_
                refine x_iconst (v := nI 1) X dX9_joins_165 (by decide) ?_
                refine x_icmpeq (tgt := 172) X dX9_joins_166 (by decide) (fun h166 => ?_) (fun h166 => ?_)
                · skip
                  refine x_iconst (v := nI 1) X dX9_joins_172 (by decide) ?_
                  refine x_istore (lv' := [(7, .int (nI 1)), (6, .int (nI 1)), (5, .int (nI d)), (4, .int (nI c)), (3, .int (nI b)), (2, .int (nI a)), (0, .ref (G.2.1 37)), (1, .int (nI n))]) X dX9_joins_173 (by decide) rfl ?_
                  refine x_iconst (v := nI 0) X dX9_joins_175 (by decide) ?_
                  refine x_istore (lv' := [(8, .int (nI 0)), (7, .int (nI 1)), (6, .int (nI 1)), (5, .int (nI d)), (4, .int (nI c)), (3, .int (nI b)), (2, .int (nI a)), (0, .ref (G.2.1 37)), (1, .int (nI n))]) X dX9_joins_176 (by decide) rfl ?_
                  have lp178 : ∀ (NN178 : Nat) (k : Nat) (hk : k ≤ V) (is0 : Int32) (his : is0 = xB (qSame σ a b k)), V - k = NN178 → xW pp l ee { frames := 1, cells := 0, slots := 0, locals := 24 } ss mm aa bel met kk 10 G 0 0 (xQ bel G (fun rv_ tv_ => rv_ = some (.int (0)) ∧ tv_ = (qJf σ n a b c d a V)) aa ss) 178 [(8, .int (nI k)), (7, .int is0), (6, .int (nI 1)), (5, .int (nI d)), (4, .int (nI c)), (3, .int (nI b)), (2, .int (nI a)), (1, .int (nI n)), (0, .ref (G.2.1 37))] [] (σ) := by
                    intro NN178
                    induction NN178 using Nat.strongRecOn with
                    | ind NN178 ih178 =>
                      intro k hk is0 his hNN178
                      refine x_iload X dX9_joins_178 rfl ?_
                      refine x_aload_n X dX9_joins_180 rfl ?_
                      refine gf_X9_112 X dX9_joins_181 rfl ?_
                      rw [hV]
                      refine x_icmpge (tgt := 233) X dX9_joins_184 (by decide) (fun h184 => ?_) (fun h184 => ?_)
                      · skip
                        rw [xb_ge (x := nI k) (y := nI V) (a := k) (b := V) rfl rfl (by omega) (by omega)] at h184
                        rw [show k = V from by omega] at his
                        refine x_iload X dX9_joins_233 rfl ?_
                        refine x_ifne (tgt := 257) X dX9_joins_235 (by decide) (fun h235 => ?_) (fun h235 => ?_)
                        · skip
                          refine x_iload X dX9_joins_257 rfl ?_
                          refine x_ifeq (tgt := 286) X dX9_joins_259 (by decide) (fun h259 => ?_) (fun h259 => ?_)
                          · skip
                            rw [his, xB_t hs] at h259; exact absurd h259 (by decide)
                          · skip
                            refine x_aload_n X dX9_joins_262 rfl ?_
                            refine gf_X9_63 (k' := 53) X dX9_joins_263 rfl rfl ?_
                            refine x_iload_n X dX9_joins_266 rfl ?_
                            refine x_laldN X dX9_joins_267 rfl (by omega) (by omega) ?_
                            refine x_aload_n X dX9_joins_268 rfl ?_
                            refine gf_X9_63 (k' := 53) X dX9_joins_269 rfl rfl ?_
                            refine x_iload_n X dX9_joins_272 rfl ?_
                            refine x_laldN X dX9_joins_273 rfl (by omega) (by omega) ?_
                            refine x_lcmp X dX9_joins_274 ?_
                            refine x_iflt (tgt := 282) X dX9_joins_275 (by decide) (fun h275 => ?_) (fun h275 => ?_)
                            · skip
                              rw [lg_cmp_lt] at h275
                              exact absurd h275 (xi64_nlt.mpr hr)
                            · skip
                              rw [lg_cmp_lt] at h275
                              refine x_iload_n X dX9_joins_278 rfl ?_
                              refine x_goto (tgt := 299) X dX9_joins_279 (by decide) ?_
                              refine x_istore (lv' := [(8, .int (nI a)), (7, .int is0), (6, .int (nI 1)), (5, .int (nI d)), (4, .int (nI c)), (3, .int (nI b)), (2, .int (nI a)), (1, .int (nI n)), (0, .ref (G.2.1 37))]) X dX9_joins_299 (by decide) rfl ?_
                              refine x_iconst (v := nI 0) X dX9_joins_301 (by decide) ?_
                              refine x_istore (lv' := [(9, .int (nI 0)), (8, .int (nI a)), (7, .int is0), (6, .int (nI 1)), (5, .int (nI d)), (4, .int (nI c)), (3, .int (nI b)), (2, .int (nI a)), (1, .int (nI n)), (0, .ref (G.2.1 37))]) X dX9_joins_302 (by decide) rfl ?_
                              have lp304 : ∀ (NN304 : Nat) (k2 : Nat) (hk2 : k2 ≤ V), V - k2 = NN304 → xW pp l ee { frames := 1, cells := 0, slots := 0, locals := 24 } ss mm aa bel met kk 10 G 0 0 (xQ bel G (fun rv_ tv_ => rv_ = some (.int (0)) ∧ tv_ = (qJf σ n a b c d a V)) aa ss) 304 [(9, .int (nI k2)), (8, .int (nI a)), (5, .int (nI d)), (4, .int (nI c)), (3, .int (nI b)), (2, .int (nI a)), (1, .int (nI n)), (0, .ref (G.2.1 37))] [] (qCp σ n a k2) := by
                                intro NN304
                                induction NN304 using Nat.strongRecOn with
                                | ind NN304 ih304 =>
                                  intro k2 hk2 hNN304
                                  refine x_iload X dX9_joins_304 rfl ?_
                                  refine x_aload_n X dX9_joins_306 rfl ?_
                                  refine gf_X9_112 X dX9_joins_307 rfl ?_
                                  rw [(qCp_off k2 (by omega)).1 37 3 (by omega) (by omega), hV]
                                  refine x_icmpge (tgt := 339) X dX9_joins_310 (by decide) (fun h310 => ?_) (fun h310 => ?_)
                                  · skip
                                    rw [xb_ge (x := nI k2) (y := nI V) (a := k2) (b := V) rfl rfl (by omega) (by omega)] at h310
                                    obtain rfl : k2 = V := by omega
                                    refine x_aload_n X dX9_joins_339 rfl ?_
                                    refine gf_X9_63 (k' := 53) X dX9_joins_340 rfl rfl ?_
                                    refine x_iload_n X dX9_joins_343 rfl ?_
                                    refine x_aload_n X dX9_joins_344 rfl ?_
                                    refine gf_X9_63 (k' := 53) X dX9_joins_345 rfl rfl ?_
                                    refine x_iload X dX9_joins_348 rfl ?_
                                    refine x_laldN X dX9_joins_350 rfl (by omega) (by omega) ?_
                                    refine x_lastN X dX9_joins_351 rfl (by omega) (by omega) ?_
                                    refine x_aload_n X dX9_joins_352 rfl ?_
                                    refine x_iload_n X dX9_joins_353 rfl ?_
                                    refine x_iload_n X dX9_joins_354 rfl ?_
                                    refine x_iload X dX9_joins_355 rfl ?_
                                    refine cv_X9_209 X (c_X9_assumes hn (by omega)) dX9_joins_357 rfl ⟨by decide, by decide, by decide, by decide⟩ rfl rfl (Nat.le_of_ble_eq_true rfl) (xk_v ?_)
                                    refine x_aload_n X dX9_joins_360 rfl ?_
                                    refine x_iload_n X dX9_joins_361 rfl ?_
                                    refine x_iload_n X dX9_joins_362 rfl ?_
                                    refine x_iload X dX9_joins_363 rfl ?_
                                    refine cv_X9_209 X (c_X9_assumes hn (by omega)) dX9_joins_365 rfl ⟨by decide, by decide, by decide, by decide⟩ rfl rfl (Nat.le_of_ble_eq_true rfl) (xk_v ?_)
                                    refine x_iconst (v := nI 0) X dX9_joins_368 (by decide) ?_
                                    exact x_iret X dX9_joins_369 (xp_i (by first | rfl | simp [*]) (by first | rfl | simp [*]))
                                  · skip
                                    rw [xb_ge (x := nI k2) (y := nI V) (a := k2) (b := V) rfl rfl (by omega) (by omega)] at h310
                                    refine x_aload_n X dX9_joins_313 rfl ?_
                                    refine x_iload_n X dX9_joins_314 rfl ?_
                                    refine x_iload X dX9_joins_315 rfl ?_
                                    refine x_aload_n X dX9_joins_317 rfl ?_
                                    refine gf_X9_59 (k' := 52) X dX9_joins_318 rfl rfl ?_
                                    refine x_bipush (v := nI 8) X dX9_joins_321 (by decide) ?_
                                    refine x_iload X dX9_joins_323 rfl ?_
                                    refine x_imul X dX9_joins_325 ?_
                                    rw [pk_mul 8 a]
                                    refine x_iload X dX9_joins_326 rfl ?_
                                    refine x_iadd X dX9_joins_328 ?_
                                    rw [nI_add (8 * a) k2]
                                    refine x_laldN X dX9_joins_329 rfl (by omega) (by omega) ?_
                                    rw [(qCp_off k2 (by omega)).2.2.2.2.1 _ (by omega)]
                                    refine cv_X9_200 X (c_X9_says hn (by omega)) dX9_joins_330 rfl ⟨by decide, by decide, by decide, by decide⟩ rfl rfl (Nat.le_of_ble_eq_true rfl) (xk_v ?_)
                                    refine x_iinc (k := 0) (v := nI (k2 + 1)) (lv' := [(9, .int (nI (k2 + 1))), (8, .int (nI a)), (5, .int (nI d)), (4, .int (nI c)), (3, .int (nI b)), (2, .int (nI a)), (1, .int (nI n)), (0, .ref (G.2.1 37))]) X dX9_joins_333 rfl (xn_inc _) (by decide) rfl ?_
                                    refine x_goto (tgt := 304) X dX9_joins_336 (by decide) ?_
                                    refine x_pick [0, 1, 2, 3, 4, 5, 6, 7] rfl ?_
                                    exact ih304 _ (by omega) (k2 + 1) (by omega) rfl
                              refine x_pick [0, 1, 4, 5, 6, 7, 8, 9] rfl ?_
                              exact lp304 _ 0 (by omega) rfl
                        · skip
                          rw [his, xB_t hs] at h235; exact absurd h235 (by decide)
                      · skip
                        rw [xb_ge (x := nI k) (y := nI V) (a := k) (b := V) rfl rfl (by omega) (by omega)] at h184
                        refine x_iload X dX9_joins_187 rfl ?_
                        refine x_ifeq (tgt := 224) X dX9_joins_189 (by decide) (fun h189 => ?_) (fun h189 => ?_)
                        · skip
                          have his9 : nI 0 = xB (qSame σ a b (k + 1)) := (xB_f (fun z => (xB_0.mp (his ▸ h189)) (fun v hv => z v (by omega)))).symm
                          refine x_iconst (v := nI 0) X dX9_joins_224 (by decide) ?_
                          refine x_istore (lv' := [(7, .int (nI 0)), (8, .int (nI k)), (6, .int (nI 1)), (5, .int (nI d)), (4, .int (nI c)), (3, .int (nI b)), (2, .int (nI a)), (1, .int (nI n)), (0, .ref (G.2.1 37))]) X dX9_joins_225 (by decide) rfl ?_
                          refine x_iinc (k := 1) (v := nI (k + 1)) (lv' := [(8, .int (nI (k + 1))), (7, .int (nI 0)), (6, .int (nI 1)), (5, .int (nI d)), (4, .int (nI c)), (3, .int (nI b)), (2, .int (nI a)), (1, .int (nI n)), (0, .ref (G.2.1 37))]) X dX9_joins_227 rfl (xn_inc _) (by decide) rfl ?_
                          refine x_goto (tgt := 178) X dX9_joins_230 (by decide) ?_
                          refine x_pick [0, 1, 2, 3, 4, 5, 6, 7, 8] rfl ?_
                          exact ih178 _ (by omega) (k + 1) (by omega) _ his9 rfl
                        · skip
                          have hq : qSame σ a b k := Classical.not_not.mp (fun z => h189 (by rw [his, xB_f z]))
                          refine x_aload_n X dX9_joins_192 rfl ?_
                          refine gf_X9_59 (k' := 52) X dX9_joins_193 rfl rfl ?_
                          refine x_bipush (v := nI 8) X dX9_joins_196 (by decide) ?_
                          refine x_iload_n X dX9_joins_198 rfl ?_
                          refine x_imul X dX9_joins_199 ?_
                          rw [pk_mul 8 a]
                          refine x_iload X dX9_joins_200 rfl ?_
                          refine x_iadd X dX9_joins_202 ?_
                          rw [nI_add (8 * a) k]
                          refine x_laldN X dX9_joins_203 rfl (by omega) (by omega) ?_
                          refine x_aload_n X dX9_joins_204 rfl ?_
                          refine gf_X9_59 (k' := 52) X dX9_joins_205 rfl rfl ?_
                          refine x_bipush (v := nI 8) X dX9_joins_208 (by decide) ?_
                          refine x_iload_n X dX9_joins_210 rfl ?_
                          refine x_imul X dX9_joins_211 ?_
                          rw [pk_mul 8 b]
                          refine x_iload X dX9_joins_212 rfl ?_
                          refine x_iadd X dX9_joins_214 ?_
                          rw [nI_add (8 * b) k]
                          refine x_laldN X dX9_joins_215 rfl (by omega) (by omega) ?_
                          refine x_lcmp X dX9_joins_216 ?_
                          refine x_ifne (tgt := 224) X dX9_joins_217 (by decide) (fun h217 => ?_) (fun h217 => ?_)
                          · skip
                            rw [lg_cmp_eq] at h217
                            have his9 : nI 0 = xB (qSame σ a b (k + 1)) := (xB_f (fun z => h217 (z k (by omega)))).symm
                            refine x_iconst (v := nI 0) X dX9_joins_224 (by decide) ?_
                            refine x_istore (lv' := [(7, .int (nI 0)), (8, .int (nI k)), (6, .int (nI 1)), (5, .int (nI d)), (4, .int (nI c)), (3, .int (nI b)), (2, .int (nI a)), (1, .int (nI n)), (0, .ref (G.2.1 37))]) X dX9_joins_225 (by decide) rfl ?_
                            refine x_iinc (k := 1) (v := nI (k + 1)) (lv' := [(8, .int (nI (k + 1))), (7, .int (nI 0)), (6, .int (nI 1)), (5, .int (nI d)), (4, .int (nI c)), (3, .int (nI b)), (2, .int (nI a)), (1, .int (nI n)), (0, .ref (G.2.1 37))]) X dX9_joins_227 rfl (xn_inc _) (by decide) rfl ?_
                            refine x_goto (tgt := 178) X dX9_joins_230 (by decide) ?_
                            refine x_pick [0, 1, 2, 3, 4, 5, 6, 7, 8] rfl ?_
                            exact ih178 _ (by omega) (k + 1) (by omega) _ his9 rfl
                          · skip
                            rw [lg_cmp_eq] at h217
                            have his9 : nI 1 = xB (qSame σ a b (k + 1)) := (xB_t (lt_s hq h217)).symm
                            refine x_iconst (v := nI 1) X dX9_joins_220 (by decide) ?_
                            refine x_goto (tgt := 225) X dX9_joins_221 (by decide) ?_
                            refine x_istore (lv' := [(7, .int (nI 1)), (8, .int (nI k)), (6, .int (nI 1)), (5, .int (nI d)), (4, .int (nI c)), (3, .int (nI b)), (2, .int (nI a)), (1, .int (nI n)), (0, .ref (G.2.1 37))]) X dX9_joins_225 (by decide) rfl ?_
                            refine x_iinc (k := 1) (v := nI (k + 1)) (lv' := [(8, .int (nI (k + 1))), (7, .int (nI 1)), (6, .int (nI 1)), (5, .int (nI d)), (4, .int (nI c)), (3, .int (nI b)), (2, .int (nI a)), (1, .int (nI n)), (0, .ref (G.2.1 37))]) X dX9_joins_227 rfl (xn_inc _) (by decide) rfl ?_
                            refine x_goto (tgt := 178) X dX9_joins_230 (by decide) ?_
                            refine x_pick [0, 1, 2, 3, 4, 5, 6, 7, 8] rfl ?_
                            exact ih178 _ (by omega) (k + 1) (by omega) _ his9 rfl
                  refine x_pick [0, 1, 2, 3, 4, 5, 6, 8, 7] rfl ?_
                  exact lp178 _ 0 (by omega) _ (xB_t (fun v hv => by omega)).symm rfl
                · skip
                  exact absurd hj.2.2.2 h166

set_option maxHeartbeats 4000000 in
set_option maxRecDepth 100000 in
theorem c_X9_joinsB {l : Launch} {G : xG} {σ : xS} {n f a b c d V : Nat} {rf : Nat → Nat} (hn : n < 200) (hf : xgI σ 37 25 = nI f) (hf2 : f + 5 ≤ 1500) (ha : xgI σ 50 (f + 1) = nI a) (ha2 : a < n) (hb : xgI σ 50 (f + 2) = nI b) (hb2 : b < n) (hc : xgI σ 50 (f + 3) = nI c) (hc2 : c < n) (hd : xgI σ 50 (f + 4) = nI d) (hd2 : d < n) (hrf : ∀ r, r < n → xgI σ 51 r = nI (rf r) ∧ rf r + 3 < 1500) (hV : xgI σ 37 3 = nI V) (hV8 : V ≤ 8) (hj : qJc σ rf c d) (hs : qSame σ a b V) (hr : ¬ xgL σ 53 b ≤ xgL σ 53 a) : xFi l G yX9_joins cX9_joins 10 (Option.some Jvm.ClassFile.FieldType.int) 1 24 [.ref (G.2.1 37), .int (nI n)] σ (0) (qJf σ n a b c d b V) := by
  refine xM.of (by decide) (Nat.le_of_ble_eq_true rfl) (fun pp ee ss mm aa bel met kk X => ?_)
  have X : xC pp ss mm met kk cX9_joins 10 RX9 (Option.some Jvm.ClassFile.FieldType.int) G := X
  show xW pp l ee { frames := 1, cells := 0, slots := 0, locals := 24 } ss mm aa bel met kk 10 G 0 0 (xQ bel G (fun rv_ tv_ => rv_ = some (.int (0)) ∧ tv_ = (qJf σ n a b c d b V)) aa ss) 0 [(0, .ref (G.2.1 37)), (1, .int (nI n))] [] σ
  refine x_aload_n X dX9_joins_0 rfl ?_
  refine x_iconst (v := nI 1) X dX9_joins_1 (by decide) ?_
  refine cv_X9_187 X (c_X9_of (k := 1) hf (by omega)) dX9_joins_2 rfl ⟨by decide, by decide, by decide, by decide⟩ rfl rfl (Nat.le_of_ble_eq_true rfl) (xk_i ?_)
  rw [ha]
  refine x_istore_n (lv' := [(2, .int (nI a)), (0, .ref (G.2.1 37)), (1, .int (nI n))]) X dX9_joins_5 rfl (by decide) rfl ?_
  refine x_aload_n X dX9_joins_6 rfl ?_
  refine x_iconst (v := nI 2) X dX9_joins_7 (by decide) ?_
  refine cv_X9_187 X (c_X9_of (k := 2) hf (by omega)) dX9_joins_8 rfl ⟨by decide, by decide, by decide, by decide⟩ rfl rfl (Nat.le_of_ble_eq_true rfl) (xk_i ?_)
  rw [hb]
  refine x_istore_n (lv' := [(3, .int (nI b)), (2, .int (nI a)), (0, .ref (G.2.1 37)), (1, .int (nI n))]) X dX9_joins_11 rfl (by decide) rfl ?_
  refine x_aload_n X dX9_joins_12 rfl ?_
  refine x_iconst (v := nI 3) X dX9_joins_13 (by decide) ?_
  refine cv_X9_187 X (c_X9_of (k := 3) hf (by omega)) dX9_joins_14 rfl ⟨by decide, by decide, by decide, by decide⟩ rfl rfl (Nat.le_of_ble_eq_true rfl) (xk_i ?_)
  rw [hc]
  refine x_istore (lv' := [(4, .int (nI c)), (3, .int (nI b)), (2, .int (nI a)), (0, .ref (G.2.1 37)), (1, .int (nI n))]) X dX9_joins_17 (by decide) rfl ?_
  refine x_aload_n X dX9_joins_19 rfl ?_
  refine x_iconst (v := nI 4) X dX9_joins_20 (by decide) ?_
  refine cv_X9_187 X (c_X9_of (k := 4) hf (by omega)) dX9_joins_21 rfl ⟨by decide, by decide, by decide, by decide⟩ rfl rfl (Nat.le_of_ble_eq_true rfl) (xk_i ?_)
  rw [hd]
  refine x_istore (lv' := [(5, .int (nI d)), (4, .int (nI c)), (3, .int (nI b)), (2, .int (nI a)), (0, .ref (G.2.1 37)), (1, .int (nI n))]) X dX9_joins_24 (by decide) rfl ?_
  refine x_aload_n X dX9_joins_26 rfl ?_
  refine x_iload X dX9_joins_27 rfl ?_
  have hrc := hrf c hc2
  have hrd := hrf d hd2
  refine cv_X9_233 X (c_X9_kind (by omega) hrc.1 (by omega)) dX9_joins_29 rfl ⟨by decide, by decide, by decide, by decide⟩ rfl rfl (Nat.le_of_ble_eq_true rfl) (xk_i ?_)
  refine x_bipush (v := nI 6) X dX9_joins_32 (by decide) ?_
  refine x_icmpne (tgt := 52) X dX9_joins_34 (by decide) (fun h34 => ?_) (fun h34 => ?_)
  · skip
    exact absurd hj.1.1 h34
  · skip
    refine x_aload_n X dX9_joins_37 rfl ?_
    refine x_iload X dX9_joins_38 rfl ?_
    refine cv_X9_233 X (c_X9_kind (by omega) hrd.1 (by omega)) dX9_joins_40 rfl ⟨by decide, by decide, by decide, by decide⟩ rfl rfl (Nat.le_of_ble_eq_true rfl) (xk_i ?_)
    refine x_bipush (v := nI 6) X dX9_joins_43 (by decide) ?_
    refine x_icmpne (tgt := 52) X dX9_joins_45 (by decide) (fun h45 => ?_) (fun h45 => ?_)
    · skip
      exact absurd hj.1.2 h45
    · skip
      refine x_iconst (v := nI 1) X dX9_joins_48 (by decide) ?_
      refine x_goto (tgt := 53) X dX9_joins_49 (by decide) ?_
      refine x_istore (lv' := [(6, .int (nI 1)), (5, .int (nI d)), (4, .int (nI c)), (3, .int (nI b)), (2, .int (nI a)), (0, .ref (G.2.1 37)), (1, .int (nI n))]) X dX9_joins_53 (by decide) rfl ?_
      refine x_iload X dX9_joins_55 rfl ?_
      refine x_ifeq (tgt := 126) X dX9_joins_57 (by decide) (fun h57 => ?_) (fun h57 => ?_)
      · skip
        exact absurd h57 (by decide)
      · skip
        rw [xb_eq (x := nI 1) (y := 0) (a := 1) (b := 0) rfl rfl (by omega) (by omega)] at h57
        refine x_aload_n X dX9_joins_60 rfl ?_
        refine gf_X9_46 (k' := 50) X dX9_joins_61 rfl rfl ?_
        refine x_aload_n X dX9_joins_64 rfl ?_
        refine gf_X9_56 (k' := 51) X dX9_joins_65 rfl rfl ?_
        refine x_iload X dX9_joins_68 rfl ?_
        refine x_ialdN X dX9_joins_70 rfl (by omega) (by omega) ?_
        rw [(hrf c (by omega)).1]
        refine x_iconst (v := nI 1) X dX9_joins_71 (by decide) ?_
        refine x_iadd X dX9_joins_72 ?_
        rw [nI_add (rf c) 1]
        refine x_ialdN X dX9_joins_73 rfl (by omega) (by omega) ?_
        refine x_aload_n X dX9_joins_74 rfl ?_
        refine gf_X9_46 (k' := 50) X dX9_joins_75 rfl rfl ?_
        refine x_aload_n X dX9_joins_78 rfl ?_
        refine gf_X9_56 (k' := 51) X dX9_joins_79 rfl rfl ?_
        refine x_iload X dX9_joins_82 rfl ?_
        refine x_ialdN X dX9_joins_84 rfl (by omega) (by omega) ?_
        rw [(hrf d (by omega)).1]
        refine x_iconst (v := nI 1) X dX9_joins_85 (by decide) ?_
        refine x_iadd X dX9_joins_86 ?_
        rw [nI_add (rf d) 1]
        refine x_ialdN X dX9_joins_87 rfl (by omega) (by omega) ?_
        refine x_icmpne (tgt := 126) X dX9_joins_88 (by decide) (fun h88 => ?_) (fun h88 => ?_)
        · skip
          exact absurd hj.2.1.1 h88
        · skip
          refine x_aload_n X dX9_joins_91 rfl ?_
          refine gf_X9_46 (k' := 50) X dX9_joins_92 rfl rfl ?_
          refine x_aload_n X dX9_joins_95 rfl ?_
          refine gf_X9_56 (k' := 51) X dX9_joins_96 rfl rfl ?_
          refine x_iload X dX9_joins_99 rfl ?_
          refine x_ialdN X dX9_joins_101 rfl (by omega) (by omega) ?_
          rw [(hrf c (by omega)).1]
          refine x_iconst (v := nI 2) X dX9_joins_102 (by decide) ?_
          refine x_iadd X dX9_joins_103 ?_
          rw [nI_add (rf c) 2]
          refine x_ialdN X dX9_joins_104 rfl (by omega) (by omega) ?_
          refine x_aload_n X dX9_joins_105 rfl ?_
          refine gf_X9_46 (k' := 50) X dX9_joins_106 rfl rfl ?_
          refine x_aload_n X dX9_joins_109 rfl ?_
          refine gf_X9_56 (k' := 51) X dX9_joins_110 rfl rfl ?_
          refine x_iload X dX9_joins_113 rfl ?_
          refine x_ialdN X dX9_joins_115 rfl (by omega) (by omega) ?_
          rw [(hrf d (by omega)).1]
          refine x_iconst (v := nI 2) X dX9_joins_116 (by decide) ?_
          refine x_iadd X dX9_joins_117 ?_
          rw [nI_add (rf d) 2]
          refine x_ialdN X dX9_joins_118 rfl (by omega) (by omega) ?_
          refine x_icmpne (tgt := 126) X dX9_joins_119 (by decide) (fun h119 => ?_) (fun h119 => ?_)
          · skip
            exact absurd hj.2.1.2 h119
          · skip
            refine x_iconst (v := nI 1) X dX9_joins_122 (by decide) ?_
            refine x_goto (tgt := 127) X dX9_joins_123 (by decide) ?_
            refine x_istore (lv' := [(6, .int (nI 1)), (5, .int (nI d)), (4, .int (nI c)), (3, .int (nI b)), (2, .int (nI a)), (0, .ref (G.2.1 37)), (1, .int (nI n))]) X dX9_joins_127 (by decide) rfl ?_
            refine x_iload X dX9_joins_129 rfl ?_
            refine x_ifeq (tgt := 169) X dX9_joins_131 (by decide) (fun h131 => ?_) (fun h131 => ?_)
            · skip
              exact absurd h131 (by decide)
            · skip
              rw [xb_eq (x := nI 1) (y := 0) (a := 1) (b := 0) rfl rfl (by omega) (by omega)] at h131
              refine x_aload_n X dX9_joins_134 rfl ?_
              refine gf_X9_46 (k' := 50) X dX9_joins_135 rfl rfl ?_
              refine x_aload_n X dX9_joins_138 rfl ?_
              refine gf_X9_56 (k' := 51) X dX9_joins_139 rfl rfl ?_
              refine x_iload X dX9_joins_142 rfl ?_
              refine x_ialdN X dX9_joins_144 rfl (by omega) (by omega) ?_
              rw [(hrf c (by omega)).1]
              refine x_iconst (v := nI 3) X dX9_joins_145 (by decide) ?_
              refine x_iadd X dX9_joins_146 ?_
              rw [nI_add (rf c) 3]
              refine x_ialdN X dX9_joins_147 rfl (by omega) (by omega) ?_
              refine x_ifne (tgt := 169) X dX9_joins_148 (by decide) (fun h148 => ?_) (fun h148 => ?_)
              · skip
                exact absurd hj.2.2.1 h148
              · skip
                refine x_aload_n X dX9_joins_151 rfl ?_
                refine gf_X9_46 (k' := 50) X dX9_joins_152 rfl rfl ?_
                refine x_aload_n X dX9_joins_155 rfl ?_
                refine gf_X9_56 (k' := 51) X dX9_joins_156 rfl rfl ?_
                refine x_iload X dX9_joins_159 rfl ?_
                refine x_ialdN X dX9_joins_161 rfl (by omega) (by omega) ?_
                rw [(hrf d (by omega)).1]
                refine x_iconst (v := nI 3) X dX9_joins_162 (by decide) ?_
                refine x_iadd X dX9_joins_163 ?_
                rw [nI_add (rf d) 3]
                refine x_ialdN X dX9_joins_164 rfl (by omega) (by omega) ?_
                refine x_iconst (v := nI 1) X dX9_joins_165 (by decide) ?_
                refine x_icmpeq (tgt := 172) X dX9_joins_166 (by decide) (fun h166 => ?_) (fun h166 => ?_)
                · skip
                  refine x_iconst (v := nI 1) X dX9_joins_172 (by decide) ?_
                  refine x_istore (lv' := [(7, .int (nI 1)), (6, .int (nI 1)), (5, .int (nI d)), (4, .int (nI c)), (3, .int (nI b)), (2, .int (nI a)), (0, .ref (G.2.1 37)), (1, .int (nI n))]) X dX9_joins_173 (by decide) rfl ?_
                  refine x_iconst (v := nI 0) X dX9_joins_175 (by decide) ?_
                  refine x_istore (lv' := [(8, .int (nI 0)), (7, .int (nI 1)), (6, .int (nI 1)), (5, .int (nI d)), (4, .int (nI c)), (3, .int (nI b)), (2, .int (nI a)), (0, .ref (G.2.1 37)), (1, .int (nI n))]) X dX9_joins_176 (by decide) rfl ?_
                  have lp178 : ∀ (NN178 : Nat) (k : Nat) (hk : k ≤ V) (is0 : Int32) (his : is0 = xB (qSame σ a b k)), V - k = NN178 → xW pp l ee { frames := 1, cells := 0, slots := 0, locals := 24 } ss mm aa bel met kk 10 G 0 0 (xQ bel G (fun rv_ tv_ => rv_ = some (.int (0)) ∧ tv_ = (qJf σ n a b c d b V)) aa ss) 178 [(8, .int (nI k)), (7, .int is0), (6, .int (nI 1)), (5, .int (nI d)), (4, .int (nI c)), (3, .int (nI b)), (2, .int (nI a)), (1, .int (nI n)), (0, .ref (G.2.1 37))] [] (σ) := by
                    intro NN178
                    induction NN178 using Nat.strongRecOn with
                    | ind NN178 ih178 =>
                      intro k hk is0 his hNN178
                      refine x_iload X dX9_joins_178 rfl ?_
                      refine x_aload_n X dX9_joins_180 rfl ?_
                      refine gf_X9_112 X dX9_joins_181 rfl ?_
                      rw [hV]
                      refine x_icmpge (tgt := 233) X dX9_joins_184 (by decide) (fun h184 => ?_) (fun h184 => ?_)
                      · skip
                        rw [xb_ge (x := nI k) (y := nI V) (a := k) (b := V) rfl rfl (by omega) (by omega)] at h184
                        rw [show k = V from by omega] at his
                        refine x_iload X dX9_joins_233 rfl ?_
                        refine x_ifne (tgt := 257) X dX9_joins_235 (by decide) (fun h235 => ?_) (fun h235 => ?_)
                        · skip
                          refine x_iload X dX9_joins_257 rfl ?_
                          refine x_ifeq (tgt := 286) X dX9_joins_259 (by decide) (fun h259 => ?_) (fun h259 => ?_)
                          · skip
                            rw [his, xB_t hs] at h259; exact absurd h259 (by decide)
                          · skip
                            refine x_aload_n X dX9_joins_262 rfl ?_
                            refine gf_X9_63 (k' := 53) X dX9_joins_263 rfl rfl ?_
                            refine x_iload_n X dX9_joins_266 rfl ?_
                            refine x_laldN X dX9_joins_267 rfl (by omega) (by omega) ?_
                            refine x_aload_n X dX9_joins_268 rfl ?_
                            refine gf_X9_63 (k' := 53) X dX9_joins_269 rfl rfl ?_
                            refine x_iload_n X dX9_joins_272 rfl ?_
                            refine x_laldN X dX9_joins_273 rfl (by omega) (by omega) ?_
                            refine x_lcmp X dX9_joins_274 ?_
                            refine x_iflt (tgt := 282) X dX9_joins_275 (by decide) (fun h275 => ?_) (fun h275 => ?_)
                            · skip
                              rw [lg_cmp_lt] at h275
                              refine x_iload_n X dX9_joins_282 rfl ?_
                              refine x_goto (tgt := 299) X dX9_joins_283 (by decide) ?_
                              refine x_istore (lv' := [(8, .int (nI b)), (7, .int is0), (6, .int (nI 1)), (5, .int (nI d)), (4, .int (nI c)), (3, .int (nI b)), (2, .int (nI a)), (1, .int (nI n)), (0, .ref (G.2.1 37))]) X dX9_joins_299 (by decide) rfl ?_
                              refine x_iconst (v := nI 0) X dX9_joins_301 (by decide) ?_
                              refine x_istore (lv' := [(9, .int (nI 0)), (8, .int (nI b)), (7, .int is0), (6, .int (nI 1)), (5, .int (nI d)), (4, .int (nI c)), (3, .int (nI b)), (2, .int (nI a)), (1, .int (nI n)), (0, .ref (G.2.1 37))]) X dX9_joins_302 (by decide) rfl ?_
                              have lp304 : ∀ (NN304 : Nat) (k2 : Nat) (hk2 : k2 ≤ V), V - k2 = NN304 → xW pp l ee { frames := 1, cells := 0, slots := 0, locals := 24 } ss mm aa bel met kk 10 G 0 0 (xQ bel G (fun rv_ tv_ => rv_ = some (.int (0)) ∧ tv_ = (qJf σ n a b c d b V)) aa ss) 304 [(9, .int (nI k2)), (8, .int (nI b)), (5, .int (nI d)), (4, .int (nI c)), (3, .int (nI b)), (2, .int (nI a)), (1, .int (nI n)), (0, .ref (G.2.1 37))] [] (qCp σ n b k2) := by
                                intro NN304
                                induction NN304 using Nat.strongRecOn with
                                | ind NN304 ih304 =>
                                  intro k2 hk2 hNN304
                                  refine x_iload X dX9_joins_304 rfl ?_
                                  refine x_aload_n X dX9_joins_306 rfl ?_
                                  refine gf_X9_112 X dX9_joins_307 rfl ?_
                                  rw [(qCp_off k2 (by omega)).1 37 3 (by omega) (by omega), hV]
                                  refine x_icmpge (tgt := 339) X dX9_joins_310 (by decide) (fun h310 => ?_) (fun h310 => ?_)
                                  · skip
                                    rw [xb_ge (x := nI k2) (y := nI V) (a := k2) (b := V) rfl rfl (by omega) (by omega)] at h310
                                    obtain rfl : k2 = V := by omega
                                    refine x_aload_n X dX9_joins_339 rfl ?_
                                    refine gf_X9_63 (k' := 53) X dX9_joins_340 rfl rfl ?_
                                    refine x_iload_n X dX9_joins_343 rfl ?_
                                    refine x_aload_n X dX9_joins_344 rfl ?_
                                    refine gf_X9_63 (k' := 53) X dX9_joins_345 rfl rfl ?_
                                    refine x_iload X dX9_joins_348 rfl ?_
                                    refine x_laldN X dX9_joins_350 rfl (by omega) (by omega) ?_
                                    refine x_lastN X dX9_joins_351 rfl (by omega) (by omega) ?_
                                    refine x_aload_n X dX9_joins_352 rfl ?_
                                    refine x_iload_n X dX9_joins_353 rfl ?_
                                    refine x_iload_n X dX9_joins_354 rfl ?_
                                    refine x_iload X dX9_joins_355 rfl ?_
                                    refine cv_X9_209 X (c_X9_assumes hn (by omega)) dX9_joins_357 rfl ⟨by decide, by decide, by decide, by decide⟩ rfl rfl (Nat.le_of_ble_eq_true rfl) (xk_v ?_)
                                    refine x_aload_n X dX9_joins_360 rfl ?_
                                    refine x_iload_n X dX9_joins_361 rfl ?_
                                    refine x_iload_n X dX9_joins_362 rfl ?_
                                    refine x_iload X dX9_joins_363 rfl ?_
                                    refine cv_X9_209 X (c_X9_assumes hn (by omega)) dX9_joins_365 rfl ⟨by decide, by decide, by decide, by decide⟩ rfl rfl (Nat.le_of_ble_eq_true rfl) (xk_v ?_)
                                    refine x_iconst (v := nI 0) X dX9_joins_368 (by decide) ?_
                                    exact x_iret X dX9_joins_369 (xp_i (by first | rfl | simp [*]) (by first | rfl | simp [*]))
                                  · skip
                                    rw [xb_ge (x := nI k2) (y := nI V) (a := k2) (b := V) rfl rfl (by omega) (by omega)] at h310
                                    refine x_aload_n X dX9_joins_313 rfl ?_
                                    refine x_iload_n X dX9_joins_314 rfl ?_
                                    refine x_iload X dX9_joins_315 rfl ?_
                                    refine x_aload_n X dX9_joins_317 rfl ?_
                                    refine gf_X9_59 (k' := 52) X dX9_joins_318 rfl rfl ?_
                                    refine x_bipush (v := nI 8) X dX9_joins_321 (by decide) ?_
                                    refine x_iload X dX9_joins_323 rfl ?_
                                    refine x_imul X dX9_joins_325 ?_
                                    rw [pk_mul 8 b]
                                    refine x_iload X dX9_joins_326 rfl ?_
                                    refine x_iadd X dX9_joins_328 ?_
                                    rw [nI_add (8 * b) k2]
                                    refine x_laldN X dX9_joins_329 rfl (by omega) (by omega) ?_
                                    rw [(qCp_off k2 (by omega)).2.2.2.2.1 _ (by omega)]
                                    refine cv_X9_200 X (c_X9_says hn (by omega)) dX9_joins_330 rfl ⟨by decide, by decide, by decide, by decide⟩ rfl rfl (Nat.le_of_ble_eq_true rfl) (xk_v ?_)
                                    refine x_iinc (k := 0) (v := nI (k2 + 1)) (lv' := [(9, .int (nI (k2 + 1))), (8, .int (nI b)), (5, .int (nI d)), (4, .int (nI c)), (3, .int (nI b)), (2, .int (nI a)), (1, .int (nI n)), (0, .ref (G.2.1 37))]) X dX9_joins_333 rfl (xn_inc _) (by decide) rfl ?_
                                    refine x_goto (tgt := 304) X dX9_joins_336 (by decide) ?_
                                    refine x_pick [0, 1, 2, 3, 4, 5, 6, 7] rfl ?_
                                    exact ih304 _ (by omega) (k2 + 1) (by omega) rfl
                              refine x_pick [0, 1, 4, 5, 6, 7, 8, 9] rfl ?_
                              exact lp304 _ 0 (by omega) rfl
                            · skip
                              rw [lg_cmp_lt] at h275
                              exact absurd (xi64_nlt.mp h275) hr
                        · skip
                          rw [his, xB_t hs] at h235; exact absurd h235 (by decide)
                      · skip
                        rw [xb_ge (x := nI k) (y := nI V) (a := k) (b := V) rfl rfl (by omega) (by omega)] at h184
                        refine x_iload X dX9_joins_187 rfl ?_
                        refine x_ifeq (tgt := 224) X dX9_joins_189 (by decide) (fun h189 => ?_) (fun h189 => ?_)
                        · skip
                          have his9 : nI 0 = xB (qSame σ a b (k + 1)) := (xB_f (fun z => (xB_0.mp (his ▸ h189)) (fun v hv => z v (by omega)))).symm
                          refine x_iconst (v := nI 0) X dX9_joins_224 (by decide) ?_
                          refine x_istore (lv' := [(7, .int (nI 0)), (8, .int (nI k)), (6, .int (nI 1)), (5, .int (nI d)), (4, .int (nI c)), (3, .int (nI b)), (2, .int (nI a)), (1, .int (nI n)), (0, .ref (G.2.1 37))]) X dX9_joins_225 (by decide) rfl ?_
                          refine x_iinc (k := 1) (v := nI (k + 1)) (lv' := [(8, .int (nI (k + 1))), (7, .int (nI 0)), (6, .int (nI 1)), (5, .int (nI d)), (4, .int (nI c)), (3, .int (nI b)), (2, .int (nI a)), (1, .int (nI n)), (0, .ref (G.2.1 37))]) X dX9_joins_227 rfl (xn_inc _) (by decide) rfl ?_
                          refine x_goto (tgt := 178) X dX9_joins_230 (by decide) ?_
                          refine x_pick [0, 1, 2, 3, 4, 5, 6, 7, 8] rfl ?_
                          exact ih178 _ (by omega) (k + 1) (by omega) _ his9 rfl
                        · skip
                          have hq : qSame σ a b k := Classical.not_not.mp (fun z => h189 (by rw [his, xB_f z]))
                          refine x_aload_n X dX9_joins_192 rfl ?_
                          refine gf_X9_59 (k' := 52) X dX9_joins_193 rfl rfl ?_
                          refine x_bipush (v := nI 8) X dX9_joins_196 (by decide) ?_
                          refine x_iload_n X dX9_joins_198 rfl ?_
                          refine x_imul X dX9_joins_199 ?_
                          rw [pk_mul 8 a]
                          refine x_iload X dX9_joins_200 rfl ?_
                          refine x_iadd X dX9_joins_202 ?_
                          rw [nI_add (8 * a) k]
                          refine x_laldN X dX9_joins_203 rfl (by omega) (by omega) ?_
                          refine x_aload_n X dX9_joins_204 rfl ?_
                          refine gf_X9_59 (k' := 52) X dX9_joins_205 rfl rfl ?_
                          refine x_bipush (v := nI 8) X dX9_joins_208 (by decide) ?_
                          refine x_iload_n X dX9_joins_210 rfl ?_
                          refine x_imul X dX9_joins_211 ?_
                          rw [pk_mul 8 b]
                          refine x_iload X dX9_joins_212 rfl ?_
                          refine x_iadd X dX9_joins_214 ?_
                          rw [nI_add (8 * b) k]
                          refine x_laldN X dX9_joins_215 rfl (by omega) (by omega) ?_
                          refine x_lcmp X dX9_joins_216 ?_
                          refine x_ifne (tgt := 224) X dX9_joins_217 (by decide) (fun h217 => ?_) (fun h217 => ?_)
                          · skip
                            rw [lg_cmp_eq] at h217
                            have his9 : nI 0 = xB (qSame σ a b (k + 1)) := (xB_f (fun z => h217 (z k (by omega)))).symm
                            refine x_iconst (v := nI 0) X dX9_joins_224 (by decide) ?_
                            refine x_istore (lv' := [(7, .int (nI 0)), (8, .int (nI k)), (6, .int (nI 1)), (5, .int (nI d)), (4, .int (nI c)), (3, .int (nI b)), (2, .int (nI a)), (1, .int (nI n)), (0, .ref (G.2.1 37))]) X dX9_joins_225 (by decide) rfl ?_
                            refine x_iinc (k := 1) (v := nI (k + 1)) (lv' := [(8, .int (nI (k + 1))), (7, .int (nI 0)), (6, .int (nI 1)), (5, .int (nI d)), (4, .int (nI c)), (3, .int (nI b)), (2, .int (nI a)), (1, .int (nI n)), (0, .ref (G.2.1 37))]) X dX9_joins_227 rfl (xn_inc _) (by decide) rfl ?_
                            refine x_goto (tgt := 178) X dX9_joins_230 (by decide) ?_
                            refine x_pick [0, 1, 2, 3, 4, 5, 6, 7, 8] rfl ?_
                            exact ih178 _ (by omega) (k + 1) (by omega) _ his9 rfl
                          · skip
                            rw [lg_cmp_eq] at h217
                            have his9 : nI 1 = xB (qSame σ a b (k + 1)) := (xB_t (lt_s hq h217)).symm
                            refine x_iconst (v := nI 1) X dX9_joins_220 (by decide) ?_
                            refine x_goto (tgt := 225) X dX9_joins_221 (by decide) ?_
                            refine x_istore (lv' := [(7, .int (nI 1)), (8, .int (nI k)), (6, .int (nI 1)), (5, .int (nI d)), (4, .int (nI c)), (3, .int (nI b)), (2, .int (nI a)), (1, .int (nI n)), (0, .ref (G.2.1 37))]) X dX9_joins_225 (by decide) rfl ?_
                            refine x_iinc (k := 1) (v := nI (k + 1)) (lv' := [(8, .int (nI (k + 1))), (7, .int (nI 1)), (6, .int (nI 1)), (5, .int (nI d)), (4, .int (nI c)), (3, .int (nI b)), (2, .int (nI a)), (1, .int (nI n)), (0, .ref (G.2.1 37))]) X dX9_joins_227 rfl (xn_inc _) (by decide) rfl ?_
                            refine x_goto (tgt := 178) X dX9_joins_230 (by decide) ?_
                            refine x_pick [0, 1, 2, 3, 4, 5, 6, 7, 8] rfl ?_
                            exact ih178 _ (by omega) (k + 1) (by omega) _ his9 rfl
                  refine x_pick [0, 1, 2, 3, 4, 5, 6, 8, 7] rfl ?_
                  exact lp178 _ 0 (by omega) _ (xB_t (fun v hv => by omega)).symm rfl
                · skip
                  exact absurd hj.2.2.2 h166

set_option maxHeartbeats 4000000 in
set_option maxRecDepth 100000 in
theorem c_X9_joinsC {l : Launch} {G : xG} {σ : xS} {n f a b c d V : Nat} {rf : Nat → Nat} (hn : n < 200) (hf : xgI σ 37 25 = nI f) (hf2 : f + 5 ≤ 1500) (ha : xgI σ 50 (f + 1) = nI a) (ha2 : a < n) (hb : xgI σ 50 (f + 2) = nI b) (hb2 : b < n) (hc : xgI σ 50 (f + 3) = nI c) (hc2 : c < n) (hd : xgI σ 50 (f + 4) = nI d) (hd2 : d < n) (hrf : ∀ r, r < n → xgI σ 51 r = nI (rf r) ∧ rf r + 3 < 1500) (hV : xgI σ 37 3 = nI V) (hV8 : V ≤ 8) (hj : qJc σ rf c d) (hs : ¬ qSame σ a b V) (hia : qImp σ a V) : xFi l G yX9_joins cX9_joins 10 (Option.some Jvm.ClassFile.FieldType.int) 1 24 [.ref (G.2.1 37), .int (nI n)] σ (0) (qJf σ n a b c d b V) := by
  refine xM.of (by decide) (Nat.le_of_ble_eq_true rfl) (fun pp ee ss mm aa bel met kk X => ?_)
  have X : xC pp ss mm met kk cX9_joins 10 RX9 (Option.some Jvm.ClassFile.FieldType.int) G := X
  show xW pp l ee { frames := 1, cells := 0, slots := 0, locals := 24 } ss mm aa bel met kk 10 G 0 0 (xQ bel G (fun rv_ tv_ => rv_ = some (.int (0)) ∧ tv_ = (qJf σ n a b c d b V)) aa ss) 0 [(0, .ref (G.2.1 37)), (1, .int (nI n))] [] σ
  refine x_aload_n X dX9_joins_0 rfl ?_
  refine x_iconst (v := nI 1) X dX9_joins_1 (by decide) ?_
  refine cv_X9_187 X (c_X9_of (k := 1) hf (by omega)) dX9_joins_2 rfl ⟨by decide, by decide, by decide, by decide⟩ rfl rfl (Nat.le_of_ble_eq_true rfl) (xk_i ?_)
  rw [ha]
  refine x_istore_n (lv' := [(2, .int (nI a)), (0, .ref (G.2.1 37)), (1, .int (nI n))]) X dX9_joins_5 rfl (by decide) rfl ?_
  refine x_aload_n X dX9_joins_6 rfl ?_
  refine x_iconst (v := nI 2) X dX9_joins_7 (by decide) ?_
  refine cv_X9_187 X (c_X9_of (k := 2) hf (by omega)) dX9_joins_8 rfl ⟨by decide, by decide, by decide, by decide⟩ rfl rfl (Nat.le_of_ble_eq_true rfl) (xk_i ?_)
  rw [hb]
  refine x_istore_n (lv' := [(3, .int (nI b)), (2, .int (nI a)), (0, .ref (G.2.1 37)), (1, .int (nI n))]) X dX9_joins_11 rfl (by decide) rfl ?_
  refine x_aload_n X dX9_joins_12 rfl ?_
  refine x_iconst (v := nI 3) X dX9_joins_13 (by decide) ?_
  refine cv_X9_187 X (c_X9_of (k := 3) hf (by omega)) dX9_joins_14 rfl ⟨by decide, by decide, by decide, by decide⟩ rfl rfl (Nat.le_of_ble_eq_true rfl) (xk_i ?_)
  rw [hc]
  refine x_istore (lv' := [(4, .int (nI c)), (3, .int (nI b)), (2, .int (nI a)), (0, .ref (G.2.1 37)), (1, .int (nI n))]) X dX9_joins_17 (by decide) rfl ?_
  refine x_aload_n X dX9_joins_19 rfl ?_
  refine x_iconst (v := nI 4) X dX9_joins_20 (by decide) ?_
  refine cv_X9_187 X (c_X9_of (k := 4) hf (by omega)) dX9_joins_21 rfl ⟨by decide, by decide, by decide, by decide⟩ rfl rfl (Nat.le_of_ble_eq_true rfl) (xk_i ?_)
  rw [hd]
  refine x_istore (lv' := [(5, .int (nI d)), (4, .int (nI c)), (3, .int (nI b)), (2, .int (nI a)), (0, .ref (G.2.1 37)), (1, .int (nI n))]) X dX9_joins_24 (by decide) rfl ?_
  refine x_aload_n X dX9_joins_26 rfl ?_
  refine x_iload X dX9_joins_27 rfl ?_
  have hrc := hrf c hc2
  have hrd := hrf d hd2
  refine cv_X9_233 X (c_X9_kind (by omega) hrc.1 (by omega)) dX9_joins_29 rfl ⟨by decide, by decide, by decide, by decide⟩ rfl rfl (Nat.le_of_ble_eq_true rfl) (xk_i ?_)
  refine x_bipush (v := nI 6) X dX9_joins_32 (by decide) ?_
  refine x_icmpne (tgt := 52) X dX9_joins_34 (by decide) (fun h34 => ?_) (fun h34 => ?_)
  · skip
    exact absurd hj.1.1 h34
  · skip
    refine x_aload_n X dX9_joins_37 rfl ?_
    refine x_iload X dX9_joins_38 rfl ?_
    refine cv_X9_233 X (c_X9_kind (by omega) hrd.1 (by omega)) dX9_joins_40 rfl ⟨by decide, by decide, by decide, by decide⟩ rfl rfl (Nat.le_of_ble_eq_true rfl) (xk_i ?_)
    refine x_bipush (v := nI 6) X dX9_joins_43 (by decide) ?_
    refine x_icmpne (tgt := 52) X dX9_joins_45 (by decide) (fun h45 => ?_) (fun h45 => ?_)
    · skip
      exact absurd hj.1.2 h45
    · skip
      refine x_iconst (v := nI 1) X dX9_joins_48 (by decide) ?_
      refine x_goto (tgt := 53) X dX9_joins_49 (by decide) ?_
      refine x_istore (lv' := [(6, .int (nI 1)), (5, .int (nI d)), (4, .int (nI c)), (3, .int (nI b)), (2, .int (nI a)), (0, .ref (G.2.1 37)), (1, .int (nI n))]) X dX9_joins_53 (by decide) rfl ?_
      refine x_iload X dX9_joins_55 rfl ?_
      refine x_ifeq (tgt := 126) X dX9_joins_57 (by decide) (fun h57 => ?_) (fun h57 => ?_)
      · skip
        exact absurd h57 (by decide)
      · skip
        rw [xb_eq (x := nI 1) (y := 0) (a := 1) (b := 0) rfl rfl (by omega) (by omega)] at h57
        refine x_aload_n X dX9_joins_60 rfl ?_
        refine gf_X9_46 (k' := 50) X dX9_joins_61 rfl rfl ?_
        refine x_aload_n X dX9_joins_64 rfl ?_
        refine gf_X9_56 (k' := 51) X dX9_joins_65 rfl rfl ?_
        refine x_iload X dX9_joins_68 rfl ?_
        refine x_ialdN X dX9_joins_70 rfl (by omega) (by omega) ?_
        rw [(hrf c (by omega)).1]
        refine x_iconst (v := nI 1) X dX9_joins_71 (by decide) ?_
        refine x_iadd X dX9_joins_72 ?_
        rw [nI_add (rf c) 1]
        refine x_ialdN X dX9_joins_73 rfl (by omega) (by omega) ?_
        refine x_aload_n X dX9_joins_74 rfl ?_
        refine gf_X9_46 (k' := 50) X dX9_joins_75 rfl rfl ?_
        refine x_aload_n X dX9_joins_78 rfl ?_
        refine gf_X9_56 (k' := 51) X dX9_joins_79 rfl rfl ?_
        refine x_iload X dX9_joins_82 rfl ?_
        refine x_ialdN X dX9_joins_84 rfl (by omega) (by omega) ?_
        rw [(hrf d (by omega)).1]
        refine x_iconst (v := nI 1) X dX9_joins_85 (by decide) ?_
        refine x_iadd X dX9_joins_86 ?_
        rw [nI_add (rf d) 1]
        refine x_ialdN X dX9_joins_87 rfl (by omega) (by omega) ?_
        refine x_icmpne (tgt := 126) X dX9_joins_88 (by decide) (fun h88 => ?_) (fun h88 => ?_)
        · skip
          exact absurd hj.2.1.1 h88
        · skip
          refine x_aload_n X dX9_joins_91 rfl ?_
          refine gf_X9_46 (k' := 50) X dX9_joins_92 rfl rfl ?_
          refine x_aload_n X dX9_joins_95 rfl ?_
          refine gf_X9_56 (k' := 51) X dX9_joins_96 rfl rfl ?_
          refine x_iload X dX9_joins_99 rfl ?_
          refine x_ialdN X dX9_joins_101 rfl (by omega) (by omega) ?_
          rw [(hrf c (by omega)).1]
          refine x_iconst (v := nI 2) X dX9_joins_102 (by decide) ?_
          refine x_iadd X dX9_joins_103 ?_
          rw [nI_add (rf c) 2]
          refine x_ialdN X dX9_joins_104 rfl (by omega) (by omega) ?_
          refine x_aload_n X dX9_joins_105 rfl ?_
          refine gf_X9_46 (k' := 50) X dX9_joins_106 rfl rfl ?_
          refine x_aload_n X dX9_joins_109 rfl ?_
          refine gf_X9_56 (k' := 51) X dX9_joins_110 rfl rfl ?_
          refine x_iload X dX9_joins_113 rfl ?_
          refine x_ialdN X dX9_joins_115 rfl (by omega) (by omega) ?_
          rw [(hrf d (by omega)).1]
          refine x_iconst (v := nI 2) X dX9_joins_116 (by decide) ?_
          refine x_iadd X dX9_joins_117 ?_
          rw [nI_add (rf d) 2]
          refine x_ialdN X dX9_joins_118 rfl (by omega) (by omega) ?_
          refine x_icmpne (tgt := 126) X dX9_joins_119 (by decide) (fun h119 => ?_) (fun h119 => ?_)
          · skip
            exact absurd hj.2.1.2 h119
          · skip
            refine x_iconst (v := nI 1) X dX9_joins_122 (by decide) ?_
            refine x_goto (tgt := 127) X dX9_joins_123 (by decide) ?_
            refine x_istore (lv' := [(6, .int (nI 1)), (5, .int (nI d)), (4, .int (nI c)), (3, .int (nI b)), (2, .int (nI a)), (0, .ref (G.2.1 37)), (1, .int (nI n))]) X dX9_joins_127 (by decide) rfl ?_
            refine x_iload X dX9_joins_129 rfl ?_
            refine x_ifeq (tgt := 169) X dX9_joins_131 (by decide) (fun h131 => ?_) (fun h131 => ?_)
            · skip
              exact absurd h131 (by decide)
            · skip
              rw [xb_eq (x := nI 1) (y := 0) (a := 1) (b := 0) rfl rfl (by omega) (by omega)] at h131
              refine x_aload_n X dX9_joins_134 rfl ?_
              refine gf_X9_46 (k' := 50) X dX9_joins_135 rfl rfl ?_
              refine x_aload_n X dX9_joins_138 rfl ?_
              refine gf_X9_56 (k' := 51) X dX9_joins_139 rfl rfl ?_
              refine x_iload X dX9_joins_142 rfl ?_
              refine x_ialdN X dX9_joins_144 rfl (by omega) (by omega) ?_
              rw [(hrf c (by omega)).1]
              refine x_iconst (v := nI 3) X dX9_joins_145 (by decide) ?_
              refine x_iadd X dX9_joins_146 ?_
              rw [nI_add (rf c) 3]
              refine x_ialdN X dX9_joins_147 rfl (by omega) (by omega) ?_
              refine x_ifne (tgt := 169) X dX9_joins_148 (by decide) (fun h148 => ?_) (fun h148 => ?_)
              · skip
                exact absurd hj.2.2.1 h148
              · skip
                refine x_aload_n X dX9_joins_151 rfl ?_
                refine gf_X9_46 (k' := 50) X dX9_joins_152 rfl rfl ?_
                refine x_aload_n X dX9_joins_155 rfl ?_
                refine gf_X9_56 (k' := 51) X dX9_joins_156 rfl rfl ?_
                refine x_iload X dX9_joins_159 rfl ?_
                refine x_ialdN X dX9_joins_161 rfl (by omega) (by omega) ?_
                rw [(hrf d (by omega)).1]
                refine x_iconst (v := nI 3) X dX9_joins_162 (by decide) ?_
                refine x_iadd X dX9_joins_163 ?_
                rw [nI_add (rf d) 3]
                refine x_ialdN X dX9_joins_164 rfl (by omega) (by omega) ?_
                refine x_iconst (v := nI 1) X dX9_joins_165 (by decide) ?_
                refine x_icmpeq (tgt := 172) X dX9_joins_166 (by decide) (fun h166 => ?_) (fun h166 => ?_)
                · skip
                  refine x_iconst (v := nI 1) X dX9_joins_172 (by decide) ?_
                  refine x_istore (lv' := [(7, .int (nI 1)), (6, .int (nI 1)), (5, .int (nI d)), (4, .int (nI c)), (3, .int (nI b)), (2, .int (nI a)), (0, .ref (G.2.1 37)), (1, .int (nI n))]) X dX9_joins_173 (by decide) rfl ?_
                  refine x_iconst (v := nI 0) X dX9_joins_175 (by decide) ?_
                  refine x_istore (lv' := [(8, .int (nI 0)), (7, .int (nI 1)), (6, .int (nI 1)), (5, .int (nI d)), (4, .int (nI c)), (3, .int (nI b)), (2, .int (nI a)), (0, .ref (G.2.1 37)), (1, .int (nI n))]) X dX9_joins_176 (by decide) rfl ?_
                  have lp178 : ∀ (NN178 : Nat) (k : Nat) (hk : k ≤ V) (is0 : Int32) (his : is0 = xB (qSame σ a b k)), V - k = NN178 → xW pp l ee { frames := 1, cells := 0, slots := 0, locals := 24 } ss mm aa bel met kk 10 G 0 0 (xQ bel G (fun rv_ tv_ => rv_ = some (.int (0)) ∧ tv_ = (qJf σ n a b c d b V)) aa ss) 178 [(8, .int (nI k)), (7, .int is0), (6, .int (nI 1)), (5, .int (nI d)), (4, .int (nI c)), (3, .int (nI b)), (2, .int (nI a)), (1, .int (nI n)), (0, .ref (G.2.1 37))] [] (σ) := by
                    intro NN178
                    induction NN178 using Nat.strongRecOn with
                    | ind NN178 ih178 =>
                      intro k hk is0 his hNN178
                      refine x_iload X dX9_joins_178 rfl ?_
                      refine x_aload_n X dX9_joins_180 rfl ?_
                      refine gf_X9_112 X dX9_joins_181 rfl ?_
                      rw [hV]
                      refine x_icmpge (tgt := 233) X dX9_joins_184 (by decide) (fun h184 => ?_) (fun h184 => ?_)
                      · skip
                        rw [xb_ge (x := nI k) (y := nI V) (a := k) (b := V) rfl rfl (by omega) (by omega)] at h184
                        rw [show k = V from by omega] at his
                        refine x_iload X dX9_joins_233 rfl ?_
                        refine x_ifne (tgt := 257) X dX9_joins_235 (by decide) (fun h235 => ?_) (fun h235 => ?_)
                        · skip
                          exact absurd (by rw [his, xB_f hs]) h235
                        · skip
                          refine x_aload_n X dX9_joins_238 rfl ?_
                          refine x_iload_n X dX9_joins_239 rfl ?_
                          refine cv_X9_236 X (c_X9_isImpossible (by omega) hV hV8) dX9_joins_240 rfl ⟨by decide, by decide, by decide, by decide⟩ rfl rfl (Nat.le_of_ble_eq_true rfl) (xk_i ?_)
                          refine x_ifne (tgt := 257) X dX9_joins_243 (by decide) (fun h243 => ?_) (fun h243 => ?_)
                          · skip
                            refine x_iload X dX9_joins_257 rfl ?_
                            refine x_ifeq (tgt := 286) X dX9_joins_259 (by decide) (fun h259 => ?_) (fun h259 => ?_)
                            · skip
                              refine x_aload_n X dX9_joins_286 rfl ?_
                              refine x_iload_n X dX9_joins_287 rfl ?_
                              refine cv_X9_236 X (c_X9_isImpossible (by omega) hV hV8) dX9_joins_288 rfl ⟨by decide, by decide, by decide, by decide⟩ rfl rfl (Nat.le_of_ble_eq_true rfl) (xk_i ?_)
                              refine x_ifeq (tgt := 298) X dX9_joins_291 (by decide) (fun h291 => ?_) (fun h291 => ?_)
                              · skip
                                rw [xB_t hia] at h291; exact absurd h291 (by decide)
                              · skip
                                refine x_iload_n X dX9_joins_294 rfl ?_
                                refine x_goto (tgt := 299) X dX9_joins_295 (by decide) ?_
                                refine x_istore (lv' := [(8, .int (nI b)), (7, .int is0), (6, .int (nI 1)), (5, .int (nI d)), (4, .int (nI c)), (3, .int (nI b)), (2, .int (nI a)), (1, .int (nI n)), (0, .ref (G.2.1 37))]) X dX9_joins_299 (by decide) rfl ?_
                                refine x_iconst (v := nI 0) X dX9_joins_301 (by decide) ?_
                                refine x_istore (lv' := [(9, .int (nI 0)), (8, .int (nI b)), (7, .int is0), (6, .int (nI 1)), (5, .int (nI d)), (4, .int (nI c)), (3, .int (nI b)), (2, .int (nI a)), (1, .int (nI n)), (0, .ref (G.2.1 37))]) X dX9_joins_302 (by decide) rfl ?_
                                have lp304 : ∀ (NN304 : Nat) (k2 : Nat) (hk2 : k2 ≤ V), V - k2 = NN304 → xW pp l ee { frames := 1, cells := 0, slots := 0, locals := 24 } ss mm aa bel met kk 10 G 0 0 (xQ bel G (fun rv_ tv_ => rv_ = some (.int (0)) ∧ tv_ = (qJf σ n a b c d b V)) aa ss) 304 [(9, .int (nI k2)), (8, .int (nI b)), (5, .int (nI d)), (4, .int (nI c)), (3, .int (nI b)), (2, .int (nI a)), (1, .int (nI n)), (0, .ref (G.2.1 37))] [] (qCp σ n b k2) := by
                                  intro NN304
                                  induction NN304 using Nat.strongRecOn with
                                  | ind NN304 ih304 =>
                                    intro k2 hk2 hNN304
                                    refine x_iload X dX9_joins_304 rfl ?_
                                    refine x_aload_n X dX9_joins_306 rfl ?_
                                    refine gf_X9_112 X dX9_joins_307 rfl ?_
                                    rw [(qCp_off k2 (by omega)).1 37 3 (by omega) (by omega), hV]
                                    refine x_icmpge (tgt := 339) X dX9_joins_310 (by decide) (fun h310 => ?_) (fun h310 => ?_)
                                    · skip
                                      rw [xb_ge (x := nI k2) (y := nI V) (a := k2) (b := V) rfl rfl (by omega) (by omega)] at h310
                                      obtain rfl : k2 = V := by omega
                                      refine x_aload_n X dX9_joins_339 rfl ?_
                                      refine gf_X9_63 (k' := 53) X dX9_joins_340 rfl rfl ?_
                                      refine x_iload_n X dX9_joins_343 rfl ?_
                                      refine x_aload_n X dX9_joins_344 rfl ?_
                                      refine gf_X9_63 (k' := 53) X dX9_joins_345 rfl rfl ?_
                                      refine x_iload X dX9_joins_348 rfl ?_
                                      refine x_laldN X dX9_joins_350 rfl (by omega) (by omega) ?_
                                      refine x_lastN X dX9_joins_351 rfl (by omega) (by omega) ?_
                                      refine x_aload_n X dX9_joins_352 rfl ?_
                                      refine x_iload_n X dX9_joins_353 rfl ?_
                                      refine x_iload_n X dX9_joins_354 rfl ?_
                                      refine x_iload X dX9_joins_355 rfl ?_
                                      refine cv_X9_209 X (c_X9_assumes hn (by omega)) dX9_joins_357 rfl ⟨by decide, by decide, by decide, by decide⟩ rfl rfl (Nat.le_of_ble_eq_true rfl) (xk_v ?_)
                                      refine x_aload_n X dX9_joins_360 rfl ?_
                                      refine x_iload_n X dX9_joins_361 rfl ?_
                                      refine x_iload_n X dX9_joins_362 rfl ?_
                                      refine x_iload X dX9_joins_363 rfl ?_
                                      refine cv_X9_209 X (c_X9_assumes hn (by omega)) dX9_joins_365 rfl ⟨by decide, by decide, by decide, by decide⟩ rfl rfl (Nat.le_of_ble_eq_true rfl) (xk_v ?_)
                                      refine x_iconst (v := nI 0) X dX9_joins_368 (by decide) ?_
                                      exact x_iret X dX9_joins_369 (xp_i (by first | rfl | simp [*]) (by first | rfl | simp [*]))
                                    · skip
                                      rw [xb_ge (x := nI k2) (y := nI V) (a := k2) (b := V) rfl rfl (by omega) (by omega)] at h310
                                      refine x_aload_n X dX9_joins_313 rfl ?_
                                      refine x_iload_n X dX9_joins_314 rfl ?_
                                      refine x_iload X dX9_joins_315 rfl ?_
                                      refine x_aload_n X dX9_joins_317 rfl ?_
                                      refine gf_X9_59 (k' := 52) X dX9_joins_318 rfl rfl ?_
                                      refine x_bipush (v := nI 8) X dX9_joins_321 (by decide) ?_
                                      refine x_iload X dX9_joins_323 rfl ?_
                                      refine x_imul X dX9_joins_325 ?_
                                      rw [pk_mul 8 b]
                                      refine x_iload X dX9_joins_326 rfl ?_
                                      refine x_iadd X dX9_joins_328 ?_
                                      rw [nI_add (8 * b) k2]
                                      refine x_laldN X dX9_joins_329 rfl (by omega) (by omega) ?_
                                      rw [(qCp_off k2 (by omega)).2.2.2.2.1 _ (by omega)]
                                      refine cv_X9_200 X (c_X9_says hn (by omega)) dX9_joins_330 rfl ⟨by decide, by decide, by decide, by decide⟩ rfl rfl (Nat.le_of_ble_eq_true rfl) (xk_v ?_)
                                      refine x_iinc (k := 0) (v := nI (k2 + 1)) (lv' := [(9, .int (nI (k2 + 1))), (8, .int (nI b)), (5, .int (nI d)), (4, .int (nI c)), (3, .int (nI b)), (2, .int (nI a)), (1, .int (nI n)), (0, .ref (G.2.1 37))]) X dX9_joins_333 rfl (xn_inc _) (by decide) rfl ?_
                                      refine x_goto (tgt := 304) X dX9_joins_336 (by decide) ?_
                                      refine x_pick [0, 1, 2, 3, 4, 5, 6, 7] rfl ?_
                                      exact ih304 _ (by omega) (k2 + 1) (by omega) rfl
                                refine x_pick [0, 1, 4, 5, 6, 7, 8, 9] rfl ?_
                                exact lp304 _ 0 (by omega) rfl
                            · skip
                              exact absurd (by rw [his, xB_f hs]) h259
                          · skip
                            rw [xB_t hia] at h243; exact absurd h243 (by decide)
                      · skip
                        rw [xb_ge (x := nI k) (y := nI V) (a := k) (b := V) rfl rfl (by omega) (by omega)] at h184
                        refine x_iload X dX9_joins_187 rfl ?_
                        refine x_ifeq (tgt := 224) X dX9_joins_189 (by decide) (fun h189 => ?_) (fun h189 => ?_)
                        · skip
                          have his9 : nI 0 = xB (qSame σ a b (k + 1)) := (xB_f (fun z => (xB_0.mp (his ▸ h189)) (fun v hv => z v (by omega)))).symm
                          refine x_iconst (v := nI 0) X dX9_joins_224 (by decide) ?_
                          refine x_istore (lv' := [(7, .int (nI 0)), (8, .int (nI k)), (6, .int (nI 1)), (5, .int (nI d)), (4, .int (nI c)), (3, .int (nI b)), (2, .int (nI a)), (1, .int (nI n)), (0, .ref (G.2.1 37))]) X dX9_joins_225 (by decide) rfl ?_
                          refine x_iinc (k := 1) (v := nI (k + 1)) (lv' := [(8, .int (nI (k + 1))), (7, .int (nI 0)), (6, .int (nI 1)), (5, .int (nI d)), (4, .int (nI c)), (3, .int (nI b)), (2, .int (nI a)), (1, .int (nI n)), (0, .ref (G.2.1 37))]) X dX9_joins_227 rfl (xn_inc _) (by decide) rfl ?_
                          refine x_goto (tgt := 178) X dX9_joins_230 (by decide) ?_
                          refine x_pick [0, 1, 2, 3, 4, 5, 6, 7, 8] rfl ?_
                          exact ih178 _ (by omega) (k + 1) (by omega) _ his9 rfl
                        · skip
                          have hq : qSame σ a b k := Classical.not_not.mp (fun z => h189 (by rw [his, xB_f z]))
                          refine x_aload_n X dX9_joins_192 rfl ?_
                          refine gf_X9_59 (k' := 52) X dX9_joins_193 rfl rfl ?_
                          refine x_bipush (v := nI 8) X dX9_joins_196 (by decide) ?_
                          refine x_iload_n X dX9_joins_198 rfl ?_
                          refine x_imul X dX9_joins_199 ?_
                          rw [pk_mul 8 a]
                          refine x_iload X dX9_joins_200 rfl ?_
                          refine x_iadd X dX9_joins_202 ?_
                          rw [nI_add (8 * a) k]
                          refine x_laldN X dX9_joins_203 rfl (by omega) (by omega) ?_
                          refine x_aload_n X dX9_joins_204 rfl ?_
                          refine gf_X9_59 (k' := 52) X dX9_joins_205 rfl rfl ?_
                          refine x_bipush (v := nI 8) X dX9_joins_208 (by decide) ?_
                          refine x_iload_n X dX9_joins_210 rfl ?_
                          refine x_imul X dX9_joins_211 ?_
                          rw [pk_mul 8 b]
                          refine x_iload X dX9_joins_212 rfl ?_
                          refine x_iadd X dX9_joins_214 ?_
                          rw [nI_add (8 * b) k]
                          refine x_laldN X dX9_joins_215 rfl (by omega) (by omega) ?_
                          refine x_lcmp X dX9_joins_216 ?_
                          refine x_ifne (tgt := 224) X dX9_joins_217 (by decide) (fun h217 => ?_) (fun h217 => ?_)
                          · skip
                            rw [lg_cmp_eq] at h217
                            have his9 : nI 0 = xB (qSame σ a b (k + 1)) := (xB_f (fun z => h217 (z k (by omega)))).symm
                            refine x_iconst (v := nI 0) X dX9_joins_224 (by decide) ?_
                            refine x_istore (lv' := [(7, .int (nI 0)), (8, .int (nI k)), (6, .int (nI 1)), (5, .int (nI d)), (4, .int (nI c)), (3, .int (nI b)), (2, .int (nI a)), (1, .int (nI n)), (0, .ref (G.2.1 37))]) X dX9_joins_225 (by decide) rfl ?_
                            refine x_iinc (k := 1) (v := nI (k + 1)) (lv' := [(8, .int (nI (k + 1))), (7, .int (nI 0)), (6, .int (nI 1)), (5, .int (nI d)), (4, .int (nI c)), (3, .int (nI b)), (2, .int (nI a)), (1, .int (nI n)), (0, .ref (G.2.1 37))]) X dX9_joins_227 rfl (xn_inc _) (by decide) rfl ?_
                            refine x_goto (tgt := 178) X dX9_joins_230 (by decide) ?_
                            refine x_pick [0, 1, 2, 3, 4, 5, 6, 7, 8] rfl ?_
                            exact ih178 _ (by omega) (k + 1) (by omega) _ his9 rfl
                          · skip
                            rw [lg_cmp_eq] at h217
                            have his9 : nI 1 = xB (qSame σ a b (k + 1)) := (xB_t (lt_s hq h217)).symm
                            refine x_iconst (v := nI 1) X dX9_joins_220 (by decide) ?_
                            refine x_goto (tgt := 225) X dX9_joins_221 (by decide) ?_
                            refine x_istore (lv' := [(7, .int (nI 1)), (8, .int (nI k)), (6, .int (nI 1)), (5, .int (nI d)), (4, .int (nI c)), (3, .int (nI b)), (2, .int (nI a)), (1, .int (nI n)), (0, .ref (G.2.1 37))]) X dX9_joins_225 (by decide) rfl ?_
                            refine x_iinc (k := 1) (v := nI (k + 1)) (lv' := [(8, .int (nI (k + 1))), (7, .int (nI 1)), (6, .int (nI 1)), (5, .int (nI d)), (4, .int (nI c)), (3, .int (nI b)), (2, .int (nI a)), (1, .int (nI n)), (0, .ref (G.2.1 37))]) X dX9_joins_227 rfl (xn_inc _) (by decide) rfl ?_
                            refine x_goto (tgt := 178) X dX9_joins_230 (by decide) ?_
                            refine x_pick [0, 1, 2, 3, 4, 5, 6, 7, 8] rfl ?_
                            exact ih178 _ (by omega) (k + 1) (by omega) _ his9 rfl
                  refine x_pick [0, 1, 2, 3, 4, 5, 6, 8, 7] rfl ?_
                  exact lp178 _ 0 (by omega) _ (xB_t (fun v hv => by omega)).symm rfl
                · skip
                  exact absurd hj.2.2.2 h166

set_option maxHeartbeats 4000000 in
set_option maxRecDepth 100000 in
theorem c_X9_joinsD {l : Launch} {G : xG} {σ : xS} {n f a b c d V : Nat} {rf : Nat → Nat} (hn : n < 200) (hf : xgI σ 37 25 = nI f) (hf2 : f + 5 ≤ 1500) (ha : xgI σ 50 (f + 1) = nI a) (ha2 : a < n) (hb : xgI σ 50 (f + 2) = nI b) (hb2 : b < n) (hc : xgI σ 50 (f + 3) = nI c) (hc2 : c < n) (hd : xgI σ 50 (f + 4) = nI d) (hd2 : d < n) (hrf : ∀ r, r < n → xgI σ 51 r = nI (rf r) ∧ rf r + 3 < 1500) (hV : xgI σ 37 3 = nI V) (hV8 : V ≤ 8) (hj : qJc σ rf c d) (hs : ¬ qSame σ a b V) (hia : ¬ qImp σ a V) (hib : qImp σ b V) : xFi l G yX9_joins cX9_joins 10 (Option.some Jvm.ClassFile.FieldType.int) 1 24 [.ref (G.2.1 37), .int (nI n)] σ (0) (qJf σ n a b c d a V) := by
  refine xM.of (by decide) (Nat.le_of_ble_eq_true rfl) (fun pp ee ss mm aa bel met kk X => ?_)
  have X : xC pp ss mm met kk cX9_joins 10 RX9 (Option.some Jvm.ClassFile.FieldType.int) G := X
  show xW pp l ee { frames := 1, cells := 0, slots := 0, locals := 24 } ss mm aa bel met kk 10 G 0 0 (xQ bel G (fun rv_ tv_ => rv_ = some (.int (0)) ∧ tv_ = (qJf σ n a b c d a V)) aa ss) 0 [(0, .ref (G.2.1 37)), (1, .int (nI n))] [] σ
  refine x_aload_n X dX9_joins_0 rfl ?_
  refine x_iconst (v := nI 1) X dX9_joins_1 (by decide) ?_
  refine cv_X9_187 X (c_X9_of (k := 1) hf (by omega)) dX9_joins_2 rfl ⟨by decide, by decide, by decide, by decide⟩ rfl rfl (Nat.le_of_ble_eq_true rfl) (xk_i ?_)
  rw [ha]
  refine x_istore_n (lv' := [(2, .int (nI a)), (0, .ref (G.2.1 37)), (1, .int (nI n))]) X dX9_joins_5 rfl (by decide) rfl ?_
  refine x_aload_n X dX9_joins_6 rfl ?_
  refine x_iconst (v := nI 2) X dX9_joins_7 (by decide) ?_
  refine cv_X9_187 X (c_X9_of (k := 2) hf (by omega)) dX9_joins_8 rfl ⟨by decide, by decide, by decide, by decide⟩ rfl rfl (Nat.le_of_ble_eq_true rfl) (xk_i ?_)
  rw [hb]
  refine x_istore_n (lv' := [(3, .int (nI b)), (2, .int (nI a)), (0, .ref (G.2.1 37)), (1, .int (nI n))]) X dX9_joins_11 rfl (by decide) rfl ?_
  refine x_aload_n X dX9_joins_12 rfl ?_
  refine x_iconst (v := nI 3) X dX9_joins_13 (by decide) ?_
  refine cv_X9_187 X (c_X9_of (k := 3) hf (by omega)) dX9_joins_14 rfl ⟨by decide, by decide, by decide, by decide⟩ rfl rfl (Nat.le_of_ble_eq_true rfl) (xk_i ?_)
  rw [hc]
  refine x_istore (lv' := [(4, .int (nI c)), (3, .int (nI b)), (2, .int (nI a)), (0, .ref (G.2.1 37)), (1, .int (nI n))]) X dX9_joins_17 (by decide) rfl ?_
  refine x_aload_n X dX9_joins_19 rfl ?_
  refine x_iconst (v := nI 4) X dX9_joins_20 (by decide) ?_
  refine cv_X9_187 X (c_X9_of (k := 4) hf (by omega)) dX9_joins_21 rfl ⟨by decide, by decide, by decide, by decide⟩ rfl rfl (Nat.le_of_ble_eq_true rfl) (xk_i ?_)
  rw [hd]
  refine x_istore (lv' := [(5, .int (nI d)), (4, .int (nI c)), (3, .int (nI b)), (2, .int (nI a)), (0, .ref (G.2.1 37)), (1, .int (nI n))]) X dX9_joins_24 (by decide) rfl ?_
  refine x_aload_n X dX9_joins_26 rfl ?_
  refine x_iload X dX9_joins_27 rfl ?_
  have hrc := hrf c hc2
  have hrd := hrf d hd2
  refine cv_X9_233 X (c_X9_kind (by omega) hrc.1 (by omega)) dX9_joins_29 rfl ⟨by decide, by decide, by decide, by decide⟩ rfl rfl (Nat.le_of_ble_eq_true rfl) (xk_i ?_)
  refine x_bipush (v := nI 6) X dX9_joins_32 (by decide) ?_
  refine x_icmpne (tgt := 52) X dX9_joins_34 (by decide) (fun h34 => ?_) (fun h34 => ?_)
  · skip
    exact absurd hj.1.1 h34
  · skip
    refine x_aload_n X dX9_joins_37 rfl ?_
    refine x_iload X dX9_joins_38 rfl ?_
    refine cv_X9_233 X (c_X9_kind (by omega) hrd.1 (by omega)) dX9_joins_40 rfl ⟨by decide, by decide, by decide, by decide⟩ rfl rfl (Nat.le_of_ble_eq_true rfl) (xk_i ?_)
    refine x_bipush (v := nI 6) X dX9_joins_43 (by decide) ?_
    refine x_icmpne (tgt := 52) X dX9_joins_45 (by decide) (fun h45 => ?_) (fun h45 => ?_)
    · skip
      exact absurd hj.1.2 h45
    · skip
      refine x_iconst (v := nI 1) X dX9_joins_48 (by decide) ?_
      refine x_goto (tgt := 53) X dX9_joins_49 (by decide) ?_
      refine x_istore (lv' := [(6, .int (nI 1)), (5, .int (nI d)), (4, .int (nI c)), (3, .int (nI b)), (2, .int (nI a)), (0, .ref (G.2.1 37)), (1, .int (nI n))]) X dX9_joins_53 (by decide) rfl ?_
      refine x_iload X dX9_joins_55 rfl ?_
      refine x_ifeq (tgt := 126) X dX9_joins_57 (by decide) (fun h57 => ?_) (fun h57 => ?_)
      · skip
        exact absurd h57 (by decide)
      · skip
        rw [xb_eq (x := nI 1) (y := 0) (a := 1) (b := 0) rfl rfl (by omega) (by omega)] at h57
        refine x_aload_n X dX9_joins_60 rfl ?_
        refine gf_X9_46 (k' := 50) X dX9_joins_61 rfl rfl ?_
        refine x_aload_n X dX9_joins_64 rfl ?_
        refine gf_X9_56 (k' := 51) X dX9_joins_65 rfl rfl ?_
        refine x_iload X dX9_joins_68 rfl ?_
        refine x_ialdN X dX9_joins_70 rfl (by omega) (by omega) ?_
        rw [(hrf c (by omega)).1]
        refine x_iconst (v := nI 1) X dX9_joins_71 (by decide) ?_
        refine x_iadd X dX9_joins_72 ?_
        rw [nI_add (rf c) 1]
        refine x_ialdN X dX9_joins_73 rfl (by omega) (by omega) ?_
        refine x_aload_n X dX9_joins_74 rfl ?_
        refine gf_X9_46 (k' := 50) X dX9_joins_75 rfl rfl ?_
        refine x_aload_n X dX9_joins_78 rfl ?_
        refine gf_X9_56 (k' := 51) X dX9_joins_79 rfl rfl ?_
        refine x_iload X dX9_joins_82 rfl ?_
        refine x_ialdN X dX9_joins_84 rfl (by omega) (by omega) ?_
        rw [(hrf d (by omega)).1]
        refine x_iconst (v := nI 1) X dX9_joins_85 (by decide) ?_
        refine x_iadd X dX9_joins_86 ?_
        rw [nI_add (rf d) 1]
        refine x_ialdN X dX9_joins_87 rfl (by omega) (by omega) ?_
        refine x_icmpne (tgt := 126) X dX9_joins_88 (by decide) (fun h88 => ?_) (fun h88 => ?_)
        · skip
          exact absurd hj.2.1.1 h88
        · skip
          refine x_aload_n X dX9_joins_91 rfl ?_
          refine gf_X9_46 (k' := 50) X dX9_joins_92 rfl rfl ?_
          refine x_aload_n X dX9_joins_95 rfl ?_
          refine gf_X9_56 (k' := 51) X dX9_joins_96 rfl rfl ?_
          refine x_iload X dX9_joins_99 rfl ?_
          refine x_ialdN X dX9_joins_101 rfl (by omega) (by omega) ?_
          rw [(hrf c (by omega)).1]
          refine x_iconst (v := nI 2) X dX9_joins_102 (by decide) ?_
          refine x_iadd X dX9_joins_103 ?_
          rw [nI_add (rf c) 2]
          refine x_ialdN X dX9_joins_104 rfl (by omega) (by omega) ?_
          refine x_aload_n X dX9_joins_105 rfl ?_
          refine gf_X9_46 (k' := 50) X dX9_joins_106 rfl rfl ?_
          refine x_aload_n X dX9_joins_109 rfl ?_
          refine gf_X9_56 (k' := 51) X dX9_joins_110 rfl rfl ?_
          refine x_iload X dX9_joins_113 rfl ?_
          refine x_ialdN X dX9_joins_115 rfl (by omega) (by omega) ?_
          rw [(hrf d (by omega)).1]
          refine x_iconst (v := nI 2) X dX9_joins_116 (by decide) ?_
          refine x_iadd X dX9_joins_117 ?_
          rw [nI_add (rf d) 2]
          refine x_ialdN X dX9_joins_118 rfl (by omega) (by omega) ?_
          refine x_icmpne (tgt := 126) X dX9_joins_119 (by decide) (fun h119 => ?_) (fun h119 => ?_)
          · skip
            exact absurd hj.2.1.2 h119
          · skip
            refine x_iconst (v := nI 1) X dX9_joins_122 (by decide) ?_
            refine x_goto (tgt := 127) X dX9_joins_123 (by decide) ?_
            refine x_istore (lv' := [(6, .int (nI 1)), (5, .int (nI d)), (4, .int (nI c)), (3, .int (nI b)), (2, .int (nI a)), (0, .ref (G.2.1 37)), (1, .int (nI n))]) X dX9_joins_127 (by decide) rfl ?_
            refine x_iload X dX9_joins_129 rfl ?_
            refine x_ifeq (tgt := 169) X dX9_joins_131 (by decide) (fun h131 => ?_) (fun h131 => ?_)
            · skip
              exact absurd h131 (by decide)
            · skip
              rw [xb_eq (x := nI 1) (y := 0) (a := 1) (b := 0) rfl rfl (by omega) (by omega)] at h131
              refine x_aload_n X dX9_joins_134 rfl ?_
              refine gf_X9_46 (k' := 50) X dX9_joins_135 rfl rfl ?_
              refine x_aload_n X dX9_joins_138 rfl ?_
              refine gf_X9_56 (k' := 51) X dX9_joins_139 rfl rfl ?_
              refine x_iload X dX9_joins_142 rfl ?_
              refine x_ialdN X dX9_joins_144 rfl (by omega) (by omega) ?_
              rw [(hrf c (by omega)).1]
              refine x_iconst (v := nI 3) X dX9_joins_145 (by decide) ?_
              refine x_iadd X dX9_joins_146 ?_
              rw [nI_add (rf c) 3]
              refine x_ialdN X dX9_joins_147 rfl (by omega) (by omega) ?_
              refine x_ifne (tgt := 169) X dX9_joins_148 (by decide) (fun h148 => ?_) (fun h148 => ?_)
              · skip
                exact absurd hj.2.2.1 h148
              · skip
                refine x_aload_n X dX9_joins_151 rfl ?_
                refine gf_X9_46 (k' := 50) X dX9_joins_152 rfl rfl ?_
                refine x_aload_n X dX9_joins_155 rfl ?_
                refine gf_X9_56 (k' := 51) X dX9_joins_156 rfl rfl ?_
                refine x_iload X dX9_joins_159 rfl ?_
                refine x_ialdN X dX9_joins_161 rfl (by omega) (by omega) ?_
                rw [(hrf d (by omega)).1]
                refine x_iconst (v := nI 3) X dX9_joins_162 (by decide) ?_
                refine x_iadd X dX9_joins_163 ?_
                rw [nI_add (rf d) 3]
                refine x_ialdN X dX9_joins_164 rfl (by omega) (by omega) ?_
                refine x_iconst (v := nI 1) X dX9_joins_165 (by decide) ?_
                refine x_icmpeq (tgt := 172) X dX9_joins_166 (by decide) (fun h166 => ?_) (fun h166 => ?_)
                · skip
                  refine x_iconst (v := nI 1) X dX9_joins_172 (by decide) ?_
                  refine x_istore (lv' := [(7, .int (nI 1)), (6, .int (nI 1)), (5, .int (nI d)), (4, .int (nI c)), (3, .int (nI b)), (2, .int (nI a)), (0, .ref (G.2.1 37)), (1, .int (nI n))]) X dX9_joins_173 (by decide) rfl ?_
                  refine x_iconst (v := nI 0) X dX9_joins_175 (by decide) ?_
                  refine x_istore (lv' := [(8, .int (nI 0)), (7, .int (nI 1)), (6, .int (nI 1)), (5, .int (nI d)), (4, .int (nI c)), (3, .int (nI b)), (2, .int (nI a)), (0, .ref (G.2.1 37)), (1, .int (nI n))]) X dX9_joins_176 (by decide) rfl ?_
                  have lp178 : ∀ (NN178 : Nat) (k : Nat) (hk : k ≤ V) (is0 : Int32) (his : is0 = xB (qSame σ a b k)), V - k = NN178 → xW pp l ee { frames := 1, cells := 0, slots := 0, locals := 24 } ss mm aa bel met kk 10 G 0 0 (xQ bel G (fun rv_ tv_ => rv_ = some (.int (0)) ∧ tv_ = (qJf σ n a b c d a V)) aa ss) 178 [(8, .int (nI k)), (7, .int is0), (6, .int (nI 1)), (5, .int (nI d)), (4, .int (nI c)), (3, .int (nI b)), (2, .int (nI a)), (1, .int (nI n)), (0, .ref (G.2.1 37))] [] (σ) := by
                    intro NN178
                    induction NN178 using Nat.strongRecOn with
                    | ind NN178 ih178 =>
                      intro k hk is0 his hNN178
                      refine x_iload X dX9_joins_178 rfl ?_
                      refine x_aload_n X dX9_joins_180 rfl ?_
                      refine gf_X9_112 X dX9_joins_181 rfl ?_
                      rw [hV]
                      refine x_icmpge (tgt := 233) X dX9_joins_184 (by decide) (fun h184 => ?_) (fun h184 => ?_)
                      · skip
                        rw [xb_ge (x := nI k) (y := nI V) (a := k) (b := V) rfl rfl (by omega) (by omega)] at h184
                        rw [show k = V from by omega] at his
                        refine x_iload X dX9_joins_233 rfl ?_
                        refine x_ifne (tgt := 257) X dX9_joins_235 (by decide) (fun h235 => ?_) (fun h235 => ?_)
                        · skip
                          exact absurd (by rw [his, xB_f hs]) h235
                        · skip
                          refine x_aload_n X dX9_joins_238 rfl ?_
                          refine x_iload_n X dX9_joins_239 rfl ?_
                          refine cv_X9_236 X (c_X9_isImpossible (by omega) hV hV8) dX9_joins_240 rfl ⟨by decide, by decide, by decide, by decide⟩ rfl rfl (Nat.le_of_ble_eq_true rfl) (xk_i ?_)
                          refine x_ifne (tgt := 257) X dX9_joins_243 (by decide) (fun h243 => ?_) (fun h243 => ?_)
                          · skip
                            exact absurd (xB_f hia) h243
                          · skip
                            refine x_aload_n X dX9_joins_246 rfl ?_
                            refine x_iload_n X dX9_joins_247 rfl ?_
                            refine cv_X9_236 X (c_X9_isImpossible (by omega) hV hV8) dX9_joins_248 rfl ⟨by decide, by decide, by decide, by decide⟩ rfl rfl (Nat.le_of_ble_eq_true rfl) (xk_i ?_)
                            refine x_ifne (tgt := 257) X dX9_joins_251 (by decide) (fun h251 => ?_) (fun h251 => ?_)
                            · skip
                              refine x_iload X dX9_joins_257 rfl ?_
                              refine x_ifeq (tgt := 286) X dX9_joins_259 (by decide) (fun h259 => ?_) (fun h259 => ?_)
                              · skip
                                refine x_aload_n X dX9_joins_286 rfl ?_
                                refine x_iload_n X dX9_joins_287 rfl ?_
                                refine cv_X9_236 X (c_X9_isImpossible (by omega) hV hV8) dX9_joins_288 rfl ⟨by decide, by decide, by decide, by decide⟩ rfl rfl (Nat.le_of_ble_eq_true rfl) (xk_i ?_)
                                refine x_ifeq (tgt := 298) X dX9_joins_291 (by decide) (fun h291 => ?_) (fun h291 => ?_)
                                · skip
                                  refine x_iload_n X dX9_joins_298 rfl ?_
                                  refine x_istore (lv' := [(8, .int (nI a)), (7, .int is0), (6, .int (nI 1)), (5, .int (nI d)), (4, .int (nI c)), (3, .int (nI b)), (2, .int (nI a)), (1, .int (nI n)), (0, .ref (G.2.1 37))]) X dX9_joins_299 (by decide) rfl ?_
                                  refine x_iconst (v := nI 0) X dX9_joins_301 (by decide) ?_
                                  refine x_istore (lv' := [(9, .int (nI 0)), (8, .int (nI a)), (7, .int is0), (6, .int (nI 1)), (5, .int (nI d)), (4, .int (nI c)), (3, .int (nI b)), (2, .int (nI a)), (1, .int (nI n)), (0, .ref (G.2.1 37))]) X dX9_joins_302 (by decide) rfl ?_
                                  have lp304 : ∀ (NN304 : Nat) (k2 : Nat) (hk2 : k2 ≤ V), V - k2 = NN304 → xW pp l ee { frames := 1, cells := 0, slots := 0, locals := 24 } ss mm aa bel met kk 10 G 0 0 (xQ bel G (fun rv_ tv_ => rv_ = some (.int (0)) ∧ tv_ = (qJf σ n a b c d a V)) aa ss) 304 [(9, .int (nI k2)), (8, .int (nI a)), (5, .int (nI d)), (4, .int (nI c)), (3, .int (nI b)), (2, .int (nI a)), (1, .int (nI n)), (0, .ref (G.2.1 37))] [] (qCp σ n a k2) := by
                                    intro NN304
                                    induction NN304 using Nat.strongRecOn with
                                    | ind NN304 ih304 =>
                                      intro k2 hk2 hNN304
                                      refine x_iload X dX9_joins_304 rfl ?_
                                      refine x_aload_n X dX9_joins_306 rfl ?_
                                      refine gf_X9_112 X dX9_joins_307 rfl ?_
                                      rw [(qCp_off k2 (by omega)).1 37 3 (by omega) (by omega), hV]
                                      refine x_icmpge (tgt := 339) X dX9_joins_310 (by decide) (fun h310 => ?_) (fun h310 => ?_)
                                      · skip
                                        rw [xb_ge (x := nI k2) (y := nI V) (a := k2) (b := V) rfl rfl (by omega) (by omega)] at h310
                                        obtain rfl : k2 = V := by omega
                                        refine x_aload_n X dX9_joins_339 rfl ?_
                                        refine gf_X9_63 (k' := 53) X dX9_joins_340 rfl rfl ?_
                                        refine x_iload_n X dX9_joins_343 rfl ?_
                                        refine x_aload_n X dX9_joins_344 rfl ?_
                                        refine gf_X9_63 (k' := 53) X dX9_joins_345 rfl rfl ?_
                                        refine x_iload X dX9_joins_348 rfl ?_
                                        refine x_laldN X dX9_joins_350 rfl (by omega) (by omega) ?_
                                        refine x_lastN X dX9_joins_351 rfl (by omega) (by omega) ?_
                                        refine x_aload_n X dX9_joins_352 rfl ?_
                                        refine x_iload_n X dX9_joins_353 rfl ?_
                                        refine x_iload_n X dX9_joins_354 rfl ?_
                                        refine x_iload X dX9_joins_355 rfl ?_
                                        refine cv_X9_209 X (c_X9_assumes hn (by omega)) dX9_joins_357 rfl ⟨by decide, by decide, by decide, by decide⟩ rfl rfl (Nat.le_of_ble_eq_true rfl) (xk_v ?_)
                                        refine x_aload_n X dX9_joins_360 rfl ?_
                                        refine x_iload_n X dX9_joins_361 rfl ?_
                                        refine x_iload_n X dX9_joins_362 rfl ?_
                                        refine x_iload X dX9_joins_363 rfl ?_
                                        refine cv_X9_209 X (c_X9_assumes hn (by omega)) dX9_joins_365 rfl ⟨by decide, by decide, by decide, by decide⟩ rfl rfl (Nat.le_of_ble_eq_true rfl) (xk_v ?_)
                                        refine x_iconst (v := nI 0) X dX9_joins_368 (by decide) ?_
                                        exact x_iret X dX9_joins_369 (xp_i (by first | rfl | simp [*]) (by first | rfl | simp [*]))
                                      · skip
                                        rw [xb_ge (x := nI k2) (y := nI V) (a := k2) (b := V) rfl rfl (by omega) (by omega)] at h310
                                        refine x_aload_n X dX9_joins_313 rfl ?_
                                        refine x_iload_n X dX9_joins_314 rfl ?_
                                        refine x_iload X dX9_joins_315 rfl ?_
                                        refine x_aload_n X dX9_joins_317 rfl ?_
                                        refine gf_X9_59 (k' := 52) X dX9_joins_318 rfl rfl ?_
                                        refine x_bipush (v := nI 8) X dX9_joins_321 (by decide) ?_
                                        refine x_iload X dX9_joins_323 rfl ?_
                                        refine x_imul X dX9_joins_325 ?_
                                        rw [pk_mul 8 a]
                                        refine x_iload X dX9_joins_326 rfl ?_
                                        refine x_iadd X dX9_joins_328 ?_
                                        rw [nI_add (8 * a) k2]
                                        refine x_laldN X dX9_joins_329 rfl (by omega) (by omega) ?_
                                        rw [(qCp_off k2 (by omega)).2.2.2.2.1 _ (by omega)]
                                        refine cv_X9_200 X (c_X9_says hn (by omega)) dX9_joins_330 rfl ⟨by decide, by decide, by decide, by decide⟩ rfl rfl (Nat.le_of_ble_eq_true rfl) (xk_v ?_)
                                        refine x_iinc (k := 0) (v := nI (k2 + 1)) (lv' := [(9, .int (nI (k2 + 1))), (8, .int (nI a)), (5, .int (nI d)), (4, .int (nI c)), (3, .int (nI b)), (2, .int (nI a)), (1, .int (nI n)), (0, .ref (G.2.1 37))]) X dX9_joins_333 rfl (xn_inc _) (by decide) rfl ?_
                                        refine x_goto (tgt := 304) X dX9_joins_336 (by decide) ?_
                                        refine x_pick [0, 1, 2, 3, 4, 5, 6, 7] rfl ?_
                                        exact ih304 _ (by omega) (k2 + 1) (by omega) rfl
                                  refine x_pick [0, 1, 4, 5, 6, 7, 8, 9] rfl ?_
                                  exact lp304 _ 0 (by omega) rfl
                                · skip
                                  exact absurd (xB_f hia) h291
                              · skip
                                exact absurd (by rw [his, xB_f hs]) h259
                            · skip
                              rw [xB_t hib] at h251; exact absurd h251 (by decide)
                      · skip
                        rw [xb_ge (x := nI k) (y := nI V) (a := k) (b := V) rfl rfl (by omega) (by omega)] at h184
                        refine x_iload X dX9_joins_187 rfl ?_
                        refine x_ifeq (tgt := 224) X dX9_joins_189 (by decide) (fun h189 => ?_) (fun h189 => ?_)
                        · skip
                          have his9 : nI 0 = xB (qSame σ a b (k + 1)) := (xB_f (fun z => (xB_0.mp (his ▸ h189)) (fun v hv => z v (by omega)))).symm
                          refine x_iconst (v := nI 0) X dX9_joins_224 (by decide) ?_
                          refine x_istore (lv' := [(7, .int (nI 0)), (8, .int (nI k)), (6, .int (nI 1)), (5, .int (nI d)), (4, .int (nI c)), (3, .int (nI b)), (2, .int (nI a)), (1, .int (nI n)), (0, .ref (G.2.1 37))]) X dX9_joins_225 (by decide) rfl ?_
                          refine x_iinc (k := 1) (v := nI (k + 1)) (lv' := [(8, .int (nI (k + 1))), (7, .int (nI 0)), (6, .int (nI 1)), (5, .int (nI d)), (4, .int (nI c)), (3, .int (nI b)), (2, .int (nI a)), (1, .int (nI n)), (0, .ref (G.2.1 37))]) X dX9_joins_227 rfl (xn_inc _) (by decide) rfl ?_
                          refine x_goto (tgt := 178) X dX9_joins_230 (by decide) ?_
                          refine x_pick [0, 1, 2, 3, 4, 5, 6, 7, 8] rfl ?_
                          exact ih178 _ (by omega) (k + 1) (by omega) _ his9 rfl
                        · skip
                          have hq : qSame σ a b k := Classical.not_not.mp (fun z => h189 (by rw [his, xB_f z]))
                          refine x_aload_n X dX9_joins_192 rfl ?_
                          refine gf_X9_59 (k' := 52) X dX9_joins_193 rfl rfl ?_
                          refine x_bipush (v := nI 8) X dX9_joins_196 (by decide) ?_
                          refine x_iload_n X dX9_joins_198 rfl ?_
                          refine x_imul X dX9_joins_199 ?_
                          rw [pk_mul 8 a]
                          refine x_iload X dX9_joins_200 rfl ?_
                          refine x_iadd X dX9_joins_202 ?_
                          rw [nI_add (8 * a) k]
                          refine x_laldN X dX9_joins_203 rfl (by omega) (by omega) ?_
                          refine x_aload_n X dX9_joins_204 rfl ?_
                          refine gf_X9_59 (k' := 52) X dX9_joins_205 rfl rfl ?_
                          refine x_bipush (v := nI 8) X dX9_joins_208 (by decide) ?_
                          refine x_iload_n X dX9_joins_210 rfl ?_
                          refine x_imul X dX9_joins_211 ?_
                          rw [pk_mul 8 b]
                          refine x_iload X dX9_joins_212 rfl ?_
                          refine x_iadd X dX9_joins_214 ?_
                          rw [nI_add (8 * b) k]
                          refine x_laldN X dX9_joins_215 rfl (by omega) (by omega) ?_
                          refine x_lcmp X dX9_joins_216 ?_
                          refine x_ifne (tgt := 224) X dX9_joins_217 (by decide) (fun h217 => ?_) (fun h217 => ?_)
                          · skip
                            rw [lg_cmp_eq] at h217
                            have his9 : nI 0 = xB (qSame σ a b (k + 1)) := (xB_f (fun z => h217 (z k (by omega)))).symm
                            refine x_iconst (v := nI 0) X dX9_joins_224 (by decide) ?_
                            refine x_istore (lv' := [(7, .int (nI 0)), (8, .int (nI k)), (6, .int (nI 1)), (5, .int (nI d)), (4, .int (nI c)), (3, .int (nI b)), (2, .int (nI a)), (1, .int (nI n)), (0, .ref (G.2.1 37))]) X dX9_joins_225 (by decide) rfl ?_
                            refine x_iinc (k := 1) (v := nI (k + 1)) (lv' := [(8, .int (nI (k + 1))), (7, .int (nI 0)), (6, .int (nI 1)), (5, .int (nI d)), (4, .int (nI c)), (3, .int (nI b)), (2, .int (nI a)), (1, .int (nI n)), (0, .ref (G.2.1 37))]) X dX9_joins_227 rfl (xn_inc _) (by decide) rfl ?_
                            refine x_goto (tgt := 178) X dX9_joins_230 (by decide) ?_
                            refine x_pick [0, 1, 2, 3, 4, 5, 6, 7, 8] rfl ?_
                            exact ih178 _ (by omega) (k + 1) (by omega) _ his9 rfl
                          · skip
                            rw [lg_cmp_eq] at h217
                            have his9 : nI 1 = xB (qSame σ a b (k + 1)) := (xB_t (lt_s hq h217)).symm
                            refine x_iconst (v := nI 1) X dX9_joins_220 (by decide) ?_
                            refine x_goto (tgt := 225) X dX9_joins_221 (by decide) ?_
                            refine x_istore (lv' := [(7, .int (nI 1)), (8, .int (nI k)), (6, .int (nI 1)), (5, .int (nI d)), (4, .int (nI c)), (3, .int (nI b)), (2, .int (nI a)), (1, .int (nI n)), (0, .ref (G.2.1 37))]) X dX9_joins_225 (by decide) rfl ?_
                            refine x_iinc (k := 1) (v := nI (k + 1)) (lv' := [(8, .int (nI (k + 1))), (7, .int (nI 1)), (6, .int (nI 1)), (5, .int (nI d)), (4, .int (nI c)), (3, .int (nI b)), (2, .int (nI a)), (1, .int (nI n)), (0, .ref (G.2.1 37))]) X dX9_joins_227 rfl (xn_inc _) (by decide) rfl ?_
                            refine x_goto (tgt := 178) X dX9_joins_230 (by decide) ?_
                            refine x_pick [0, 1, 2, 3, 4, 5, 6, 7, 8] rfl ?_
                            exact ih178 _ (by omega) (k + 1) (by omega) _ his9 rfl
                  refine x_pick [0, 1, 2, 3, 4, 5, 6, 8, 7] rfl ?_
                  exact lp178 _ 0 (by omega) _ (xB_t (fun v hv => by omega)).symm rfl
                · skip
                  exact absurd hj.2.2.2 h166
