theorem wx_95 : Cond.classLink RX8 95 xIO ∈ lw_tbl := tb3 (List.mem_of_getElem? (i := 179) rfl)

theorem wx_196 : Cond.classLink RX8 196 xIS ∈ lw_tbl := tb4 (List.mem_of_getElem? (i := 81) rfl)

theorem wx_io : Cond.initialized xIO ∈ lw_tbl := tb1 (List.mem_of_getElem? (i := 14) rfl)

theorem wx_is : Cond.initialized xIS ∈ lw_tbl := tb1 (List.mem_of_getElem? (i := 17) rfl)

set_option maxHeartbeats 4000000 in
set_option maxRecDepth 100000 in
theorem t_X8_demandRow {l : Launch} {G : xG} (hl : l.stackTraces = false) {σ : xS} {q : Int32} {nr : Nat} (hr : nr ≤ 200) (hrc : xgI σ 8 3 = nI nr) (hq : ¬ xLt q nr) : xT l G yX8_demandRow cX8_demandRow 2 (Option.none : Option Jvm.ClassFile.FieldType) 6 82 [.ref (G.2.1 0), .int q] σ xIO := by
  refine xT.of (by decide) (Nat.le_of_ble_eq_true rfl) (fun pp ee ss mm aa bel met kk X hKt ht => ?_)
  have X : xC pp ss mm met kk cX8_demandRow 2 RX8 (Option.none : Option Jvm.ClassFile.FieldType) G := X
  show xW pp l ee { frames := 6, cells := 1, slots := 6, locals := 82 } ss mm aa bel met kk 2 G 0 0 (xQt bel G σ xIO aa ss) 0 [(0, .ref (G.2.1 0)), (1, .int q)] [] σ
  refine x_aload_n X dX8_demandRow_0 rfl ?_
  refine gf_X8_26 (k' := 6) X dX8_demandRow_1 rfl rfl ?_
  refine gf_X8_126 (k' := 8) X dX8_demandRow_4 rfl rfl ?_
  refine x_iload_n X dX8_demandRow_7 rfl ?_
  refine cv_X8_232 X (c_X6_has hr hrc) dX8_demandRow_8 rfl ⟨by decide, by decide, by decide, by decide⟩ rfl rfl (Nat.le_of_ble_eq_true rfl) (xk_i ?_)
  refine x_ifne (tgt := 24) X dX8_demandRow_11 (by decide) (fun h11 => ?_) (fun h11 => ?_)
  · skip
    exact absurd (xB_f hq) h11
  · skip
    exact x_throwS (text := "no such row") X hl hKt ht (by decide +kernel) wx_95 wx_io (by decide) xat_O dX8_demandRow_14 dX8_demandRow_17 dX8_demandRow_18 dX8_demandRow_20 dX8_demandRow_23 ⟨by decide, by decide, by decide, by decide⟩

set_option maxHeartbeats 4000000 in
set_option maxRecDepth 100000 in
theorem t_X8_cost {l : Launch} {G : xG} (hl : l.stackTraces = false) {σ : xS} {q : Int32} {np : Nat} (hp : np ≤ 8) (hc : xgI σ 3 2 = nI np) (hq : ¬ xLt q np) : xT l G yX8_cost cX8_cost 2 (Option.some Jvm.ClassFile.FieldType.long) 6 82 [.ref (G.2.1 0), .int q] σ xIO := by
  refine xT.of (by decide) (Nat.le_of_ble_eq_true rfl) (fun pp ee ss mm aa bel met kk X hKt ht => ?_)
  have X : xC pp ss mm met kk cX8_cost 2 RX8 (Option.some Jvm.ClassFile.FieldType.long) G := X
  show xW pp l ee { frames := 6, cells := 1, slots := 6, locals := 82 } ss mm aa bel met kk 2 G 0 0 (xQt bel G σ xIO aa ss) 0 [(0, .ref (G.2.1 0)), (1, .int q)] [] σ
  refine x_aload_n X dX8_cost_0 rfl ?_
  refine gf_X8_19 (k' := 3) X dX8_cost_1 rfl rfl ?_
  refine x_iload_n X dX8_cost_4 rfl ?_
  refine cv_X8_84 X (c_X4_has hp hc) dX8_cost_5 rfl ⟨by decide, by decide, by decide, by decide⟩ rfl rfl (Nat.le_of_ble_eq_true rfl) (xk_i ?_)
  refine x_ifne (tgt := 21) X dX8_cost_8 (by decide) (fun h8 => ?_) (fun h8 => ?_)
  · skip
    exact absurd (xB_f hq) h8
  · skip
    exact x_throwS (text := "no such plan") X hl hKt ht (by decide +kernel) wx_95 wx_io (by decide) xat_O dX8_cost_11 dX8_cost_14 dX8_cost_15 dX8_cost_17 dX8_cost_20 ⟨by decide, by decide, by decide, by decide⟩

set_option maxHeartbeats 4000000 in
set_option maxRecDepth 100000 in
theorem t_X8_number {l : Launch} {G : xG} (hl : l.stackTraces = false) {σ : xS} {q : Int32} {z : Nat} (hq : ¬ xLt q z) (hz : xgI σ 6 1 = nI z) (hz2 : z ≤ 1500) : xT l G yX8_number cX8_number 2 (Option.some Jvm.ClassFile.FieldType.int) 6 82 [.ref (G.2.1 0), .int q] σ xIO := by
  refine xT.of (by decide) (Nat.le_of_ble_eq_true rfl) (fun pp ee ss mm aa bel met kk X hKt ht => ?_)
  have X : xC pp ss mm met kk cX8_number 2 RX8 (Option.some Jvm.ClassFile.FieldType.int) G := X
  show xW pp l ee { frames := 6, cells := 1, slots := 6, locals := 82 } ss mm aa bel met kk 2 G 0 0 (xQt bel G σ xIO aa ss) 0 [(0, .ref (G.2.1 0)), (1, .int q)] [] σ
  refine x_iload_n X dX8_number_0 rfl ?_
  refine x_iflt (tgt := 15) X dX8_number_1 (by decide) (fun h1 => ?_) (fun h1 => ?_)
  · skip
    exact x_throwS (text := "no such number") X hl hKt ht (by decide +kernel) wx_95 wx_io (by decide) xat_O dX8_number_15 dX8_number_18 dX8_number_19 dX8_number_21 dX8_number_24 ⟨by decide, by decide, by decide, by decide⟩
  · skip
    refine x_iload_n X dX8_number_4 rfl ?_
    refine x_aload_n X dX8_number_5 rfl ?_
    refine gf_X8_26 (k' := 6) X dX8_number_6 rfl rfl ?_
    refine gf_X8_109 X dX8_number_9 rfl ?_
    rw [hz]
    refine x_icmplt (tgt := 25) X dX8_number_12 (by decide) (fun h12 => ?_) (fun h12 => ?_)
    · skip
      exact absurd (xLt_t h1 (Int32.not_le.mpr h12) (by omega)) hq
    · skip
      exact x_throwS (text := "no such number") X hl hKt ht (by decide +kernel) wx_95 wx_io (by decide) xat_O dX8_number_15 dX8_number_18 dX8_number_19 dX8_number_21 dX8_number_24 ⟨by decide, by decide, by decide, by decide⟩

set_option maxHeartbeats 4000000 in
set_option maxRecDepth 100000 in
theorem t_X8_best0 {l : Launch} {G : xG} (hl : l.stackTraces = false) {σ : xS} {nr : Nat} (hr : nr ≤ 200) (hrc : xgI σ 8 3 = nI nr) (h1 : ¬ kPrf σ 0 nr 0 = -1) : xT l G yX8_best cX8_best 2 (Option.some Jvm.ClassFile.FieldType.long) 6 82 [.ref (G.2.1 0)] σ xIS := by
  refine xT.of (by decide) (Nat.le_of_ble_eq_true rfl) (fun pp ee ss mm aa bel met kk X hKt ht => ?_)
  have X : xC pp ss mm met kk cX8_best 2 RX8 (Option.some Jvm.ClassFile.FieldType.long) G := X
  show xW pp l ee { frames := 6, cells := 1, slots := 6, locals := 82 } ss mm aa bel met kk 2 G 0 0 (xQt bel G σ xIS aa ss) 0 [(0, .ref (G.2.1 0))] [] σ
  refine x_aload_n X dX8_best_0 rfl ?_
  refine gf_X8_26 (k' := 6) X dX8_best_1 rfl rfl ?_
  refine gf_X8_126 (k' := 8) X dX8_best_4 rfl rfl ?_
  refine x_iconst (v := 0) X dX8_best_7 (by decide) ?_
  refine cv_X8_192 X (c_X6_firstProof hr hrc) dX8_best_8 rfl ⟨by decide, by decide, by decide, by decide⟩ rfl rfl (Nat.le_of_ble_eq_true rfl) (xk_i ?_)
  refine x_iconst (v := (-1)) X dX8_best_11 (by decide) ?_
  refine x_icmpeq (tgt := 25) X dX8_best_12 (by decide) (fun h12 => ?_) (fun h12 => ?_)
  · skip
    exact absurd h12 h1
  · skip
    exact x_throwS (text := "there is no plan at all") X hl hKt ht (by decide +kernel) wx_196 wx_is (by decide) xat_S dX8_best_15 dX8_best_18 dX8_best_19 dX8_best_21 dX8_best_24 ⟨by decide, by decide, by decide, by decide⟩

set_option maxHeartbeats 4000000 in
set_option maxRecDepth 100000 in
theorem t_X8_best1 {l : Launch} {G : xG} (hl : l.stackTraces = false) {σ : xS} {nr : Nat} (hr : nr ≤ 200) (hrc : xgI σ 8 3 = nI nr) (h1 : kPrf σ 0 nr 0 = -1) (h2 : kPrf σ 1 nr 0 = -1) : xT l G yX8_best cX8_best 2 (Option.some Jvm.ClassFile.FieldType.long) 6 82 [.ref (G.2.1 0)] σ xIS := by
  refine xT.of (by decide) (Nat.le_of_ble_eq_true rfl) (fun pp ee ss mm aa bel met kk X hKt ht => ?_)
  have X : xC pp ss mm met kk cX8_best 2 RX8 (Option.some Jvm.ClassFile.FieldType.long) G := X
  show xW pp l ee { frames := 6, cells := 1, slots := 6, locals := 82 } ss mm aa bel met kk 2 G 0 0 (xQt bel G σ xIS aa ss) 0 [(0, .ref (G.2.1 0))] [] σ
  refine x_aload_n X dX8_best_0 rfl ?_
  refine gf_X8_26 (k' := 6) X dX8_best_1 rfl rfl ?_
  refine gf_X8_126 (k' := 8) X dX8_best_4 rfl rfl ?_
  refine x_iconst (v := 0) X dX8_best_7 (by decide) ?_
  refine cv_X8_192 X (c_X6_firstProof hr hrc) dX8_best_8 rfl ⟨by decide, by decide, by decide, by decide⟩ rfl rfl (Nat.le_of_ble_eq_true rfl) (xk_i ?_)
  refine x_iconst (v := (-1)) X dX8_best_11 (by decide) ?_
  refine x_icmpeq (tgt := 25) X dX8_best_12 (by decide) (fun h12 => ?_) (fun h12 => ?_)
  · skip
    refine x_aload_n X dX8_best_25 rfl ?_
    refine gf_X8_26 (k' := 6) X dX8_best_26 rfl rfl ?_
    refine gf_X8_126 (k' := 8) X dX8_best_29 rfl rfl ?_
    refine x_iconst (v := 1) X dX8_best_32 (by decide) ?_
    refine cv_X8_192 X (c_X6_firstProof hr hrc) dX8_best_33 rfl ⟨by decide, by decide, by decide, by decide⟩ rfl rfl (Nat.le_of_ble_eq_true rfl) (xk_i ?_)
    rw [h2]
    refine x_istore_n (lv' := [(1, .int (-1)), (0, .ref (G.2.1 0))]) X dX8_best_36 rfl (by decide) rfl ?_
    refine x_iload_n X dX8_best_37 rfl ?_
    refine x_iconst (v := (-1)) X dX8_best_38 (by decide) ?_
    refine x_icmpne (tgt := 52) X dX8_best_39 (by decide) (fun h39 => ?_) (fun h39 => ?_)
    · skip
      exact absurd h39 (by decide)
    · skip
      exact x_throwS (text := "no plan is proved to be the best") X hl hKt ht (by decide +kernel) wx_196 wx_is (by decide) xat_S dX8_best_42 dX8_best_45 dX8_best_46 dX8_best_48 dX8_best_51 ⟨by decide, by decide, by decide, by decide⟩
  · skip
    exact absurd h1 h12

set_option maxHeartbeats 4000000 in
set_option maxRecDepth 100000 in
theorem t_X8_least {l : Launch} {G : xG} (hl : l.stackTraces = false) {σ : xS} {c : Nat} (hm : xMod c) (hC : xgC σ = c) {nr : Nat} (hr : nr ≤ 200) (hrc : xgI σ 8 3 = nI nr) (hg : kGb σ (c + 3) nr = -1000000000001) : xT l G yX8_least cX8_least 3 (Option.some Jvm.ClassFile.FieldType.long) 6 93 [.ref (G.2.1 0)] σ xIS := by
  refine xT.of (by decide) (Nat.le_of_ble_eq_true rfl) (fun pp ee ss mm aa bel met kk X hKt ht => ?_)
  have X : xC pp ss mm met kk cX8_least 3 RX8 (Option.some Jvm.ClassFile.FieldType.long) G := X
  show xW pp l ee { frames := 6, cells := 1, slots := 6, locals := 93 } ss mm aa bel met kk 3 G 0 0 (xQt bel G σ xIS aa ss) 0 [(0, .ref (G.2.1 0))] [] σ
  refine x_aload_n X dX8_least_0 rfl ?_
  refine gf_X8_26 (k' := 6) X dX8_least_1 rfl rfl ?_
  refine gf_X8_126 (k' := 8) X dX8_least_4 rfl rfl ?_
  refine x_aload_n X dX8_least_7 rfl ?_
  refine gf_X8_33 (k' := c) X dX8_least_8 rfl hC ?_
  refine gf_X8_203 (k' := c + 3) X dX8_least_11 (xk0 hm) (xm6 hm) ?_
  refine cv_X8_207 X (c_X6_greatestBound hr hrc (xk3 hm)) dX8_least_14 rfl ⟨by decide, by decide, by decide, by decide⟩ rfl rfl (Nat.le_of_ble_eq_true rfl) (xk_l ?_)
  refine x_topl (fun bo hbo => ?_)
  refine x_lstore_n (lv' := [(1, .long bo), (0, .ref (G.2.1 0))]) X dX8_least_17 rfl (by decide) rfl ?_
  refine x_lload_n X dX8_least_18 rfl ?_
  refine x_ldc2 X dX8_least_19 wk_X8_210 ?_
  refine x_lcmp X dX8_least_22 ?_
  refine x_ifne (tgt := 36) X dX8_least_23 (by decide) (fun h23 => ?_) (fun h23 => ?_)
  · skip
    rw [lg_cmp_eq] at h23
    exact absurd (hbo.trans hg) h23
  · skip
    rw [lg_cmp_eq] at h23
    exact x_throwS (text := "no row bounds the cost") X hl hKt ht (by decide +kernel) wx_196 wx_is (by decide) xat_S dX8_least_26 dX8_least_29 dX8_least_30 dX8_least_32 dX8_least_35 ⟨by decide, by decide, by decide, by decide⟩

set_option maxHeartbeats 4000000 in
set_option maxRecDepth 100000 in
theorem t_X8_rowR {l : Launch} {G : xG} (hl : l.stackTraces = false) {σ : xS} {q i : Int32} {nr : Nat} (hr : nr ≤ 200) (hrc : xgI σ 8 3 = nI nr) (hq : ¬ xLt q nr) : xT l G yX8_row cX8_row 4 (Option.some Jvm.ClassFile.FieldType.long) 7 103 [.ref (G.2.1 0), .int q, .int i] σ xIO := by
  refine xT.of (by decide) (Nat.le_of_ble_eq_true rfl) (fun pp ee ss mm aa bel met kk X hKt ht => ?_)
  have X : xC pp ss mm met kk cX8_row 4 RX8 (Option.some Jvm.ClassFile.FieldType.long) G := X
  show xW pp l ee { frames := 7, cells := 1, slots := 6, locals := 103 } ss mm aa bel met kk 4 G 0 0 (xQt bel G σ xIO aa ss) 0 [(0, .ref (G.2.1 0)), (1, .int q), (2, .int i)] [] σ
  refine x_aload_n X dX8_row_0 rfl ?_
  refine x_iload_n X dX8_row_1 rfl ?_
  exact x_thrV X hKt ht (t_X8_demandRow hl hr hrc hq) xnm_X8_demandRow wl_X8_141 wn_X8_demandRow we_X8_demandRow wi_X8 wc_X8_demandRow rfl (by decide) dX8_row_2 rfl ⟨by decide, by decide, by decide, by decide⟩ rfl rfl (Nat.le_of_ble_eq_true rfl)

set_option maxHeartbeats 4000000 in
set_option maxRecDepth 100000 in
theorem t_X8_assumesR {l : Launch} {G : xG} (hl : l.stackTraces = false) {σ : xS} {q i : Int32} {nr : Nat} (hr : nr ≤ 200) (hrc : xgI σ 8 3 = nI nr) (hq : ¬ xLt q nr) : xT l G yX8_assumes cX8_assumes 3 (Option.some Jvm.ClassFile.FieldType.int) 7 103 [.ref (G.2.1 0), .int q, .int i] σ xIO := by
  refine xT.of (by decide) (Nat.le_of_ble_eq_true rfl) (fun pp ee ss mm aa bel met kk X hKt ht => ?_)
  have X : xC pp ss mm met kk cX8_assumes 3 RX8 (Option.some Jvm.ClassFile.FieldType.int) G := X
  show xW pp l ee { frames := 7, cells := 1, slots := 6, locals := 103 } ss mm aa bel met kk 3 G 0 0 (xQt bel G σ xIO aa ss) 0 [(0, .ref (G.2.1 0)), (1, .int q), (2, .int i)] [] σ
  refine x_aload_n X dX8_assumes_0 rfl ?_
  refine x_iload_n X dX8_assumes_1 rfl ?_
  exact x_thrV X hKt ht (t_X8_demandRow hl hr hrc hq) xnm_X8_demandRow wl_X8_141 wn_X8_demandRow we_X8_demandRow wi_X8 wc_X8_demandRow rfl (by decide) dX8_assumes_2 rfl ⟨by decide, by decide, by decide, by decide⟩ rfl rfl (Nat.le_of_ble_eq_true rfl)

set_option maxHeartbeats 4000000 in
set_option maxRecDepth 100000 in
theorem t_X8_holdsR {l : Launch} {G : xG} (hl : l.stackTraces = false) {σ : xS} {q i : Int32} {nr : Nat} (hr : nr ≤ 200) (hrc : xgI σ 8 3 = nI nr) (hq : ¬ xLt q nr) : xT l G yX8_holds cX8_holds 5 (Option.some Jvm.ClassFile.FieldType.int) 7 103 [.ref (G.2.1 0), .int q, .int i] σ xIO := by
  refine xT.of (by decide) (Nat.le_of_ble_eq_true rfl) (fun pp ee ss mm aa bel met kk X hKt ht => ?_)
  have X : xC pp ss mm met kk cX8_holds 5 RX8 (Option.some Jvm.ClassFile.FieldType.int) G := X
  show xW pp l ee { frames := 7, cells := 1, slots := 6, locals := 103 } ss mm aa bel met kk 5 G 0 0 (xQt bel G σ xIO aa ss) 0 [(0, .ref (G.2.1 0)), (1, .int q), (2, .int i)] [] σ
  refine x_aload_n X dX8_holds_0 rfl ?_
  refine x_iload_n X dX8_holds_1 rfl ?_
  exact x_thrV X hKt ht (t_X8_demandRow hl hr hrc hq) xnm_X8_demandRow wl_X8_141 wn_X8_demandRow we_X8_demandRow wi_X8 wc_X8_demandRow rfl (by decide) dX8_holds_2 rfl ⟨by decide, by decide, by decide, by decide⟩ rfl rfl (Nat.le_of_ble_eq_true rfl)

set_option maxHeartbeats 4000000 in
set_option maxRecDepth 100000 in
theorem t_X8_trimR {l : Launch} {G : xG} (hl : l.stackTraces = false) {σ : xS} {q : Int32} {nr : Nat} (hr : nr ≤ 200) (hrc : xgI σ 8 3 = nI nr) (hq : ¬ xLt q nr) : xT l G yX8_trim cX8_trim 4 (Option.some Jvm.ClassFile.FieldType.int) 7 103 [.ref (G.2.1 0), .int q] σ xIO := by
  refine xT.of (by decide) (Nat.le_of_ble_eq_true rfl) (fun pp ee ss mm aa bel met kk X hKt ht => ?_)
  have X : xC pp ss mm met kk cX8_trim 4 RX8 (Option.some Jvm.ClassFile.FieldType.int) G := X
  show xW pp l ee { frames := 7, cells := 1, slots := 6, locals := 103 } ss mm aa bel met kk 4 G 0 0 (xQt bel G σ xIO aa ss) 0 [(0, .ref (G.2.1 0)), (1, .int q)] [] σ
  refine x_aload_n X dX8_trim_0 rfl ?_
  refine x_iload_n X dX8_trim_1 rfl ?_
  exact x_thrV X hKt ht (t_X8_demandRow hl hr hrc hq) xnm_X8_demandRow wl_X8_141 wn_X8_demandRow we_X8_demandRow wi_X8 wc_X8_demandRow rfl (by decide) dX8_trim_2 rfl ⟨by decide, by decide, by decide, by decide⟩ rfl rfl (Nat.le_of_ble_eq_true rfl)

set_option maxHeartbeats 4000000 in
set_option maxRecDepth 100000 in
theorem t_X8_holdsP {l : Launch} {G : xG} (hl : l.stackTraces = false) {σ : xS} {w : Nat} {i : Int32} {nr : Nat} (hr : nr ≤ 200) (hrc : xgI σ 8 3 = nI nr) (hw : w < nr) {np : Nat} (hp : np ≤ 8) (hc : xgI σ 3 2 = nI np) (hq : ¬ xLt i np) : xT l G yX8_holds cX8_holds 5 (Option.some Jvm.ClassFile.FieldType.int) 7 103 [.ref (G.2.1 0), .int (nI w), .int i] σ xIO := by
  refine xT.of (by decide) (Nat.le_of_ble_eq_true rfl) (fun pp ee ss mm aa bel met kk X hKt ht => ?_)
  have X : xC pp ss mm met kk cX8_holds 5 RX8 (Option.some Jvm.ClassFile.FieldType.int) G := X
  show xW pp l ee { frames := 7, cells := 1, slots := 6, locals := 103 } ss mm aa bel met kk 5 G 0 0 (xQt bel G σ xIO aa ss) 0 [(0, .ref (G.2.1 0)), (1, .int (nI w)), (2, .int i)] [] σ
  refine x_aload_n X dX8_holds_0 rfl ?_
  refine x_iload_n X dX8_holds_1 rfl ?_
  refine cv_X8_141 X (c_X8_demandRow hr hrc hw) dX8_holds_2 rfl ⟨by decide, by decide, by decide, by decide⟩ rfl rfl (Nat.le_of_ble_eq_true rfl) (xk_v ?_)
  refine x_aload_n X dX8_holds_5 rfl ?_
  refine gf_X8_19 (k' := 3) X dX8_holds_6 rfl rfl ?_
  refine x_iload_n X dX8_holds_9 rfl ?_
  refine cv_X8_84 X (c_X4_has hp hc) dX8_holds_10 rfl ⟨by decide, by decide, by decide, by decide⟩ rfl rfl (Nat.le_of_ble_eq_true rfl) (xk_i ?_)
  refine x_ifne (tgt := 26) X dX8_holds_13 (by decide) (fun h13 => ?_) (fun h13 => ?_)
  · skip
    exact absurd (xB_f hq) h13
  · skip
    exact x_throwS (text := "no such plan") X hl hKt ht (by decide +kernel) wx_95 wx_io (by decide) xat_O dX8_holds_16 dX8_holds_19 dX8_holds_20 dX8_holds_22 dX8_holds_25 ⟨by decide, by decide, by decide, by decide⟩

set_option maxHeartbeats 4000000 in
set_option maxRecDepth 100000 in
theorem t_X8_rowW {l : Launch} {G : xG} (hl : l.stackTraces = false) {σ : xS} {w : Nat} {i : Int32} {V : Nat} {c : Nat} (hm : xMod c) (hC : xgC σ = c) {nr : Nat} (hr : nr ≤ 200) (hrc : xgI σ 8 3 = nI nr) (hw : w < nr) (hV : xgI σ c 0 = nI V) (hV8 : V ≤ 8) (hq : ¬ xLt i V) (h13 : i.toInt < 8 ∨ 13 < i.toInt) : xT l G yX8_row cX8_row 4 (Option.some Jvm.ClassFile.FieldType.long) 7 103 [.ref (G.2.1 0), .int (nI w), .int i] σ xIO := by
  refine xT.of (by decide) (Nat.le_of_ble_eq_true rfl) (fun pp ee ss mm aa bel met kk X hKt ht => ?_)
  have X : xC pp ss mm met kk cX8_row 4 RX8 (Option.some Jvm.ClassFile.FieldType.long) G := X
  show xW pp l ee { frames := 7, cells := 1, slots := 6, locals := 103 } ss mm aa bel met kk 4 G 0 0 (xQt bel G σ xIO aa ss) 0 [(0, .ref (G.2.1 0)), (1, .int (nI w)), (2, .int i)] [] σ
  refine x_aload_n X dX8_row_0 rfl ?_
  refine x_iload_n X dX8_row_1 rfl ?_
  refine cv_X8_141 X (c_X8_demandRow hr hrc hw) dX8_row_2 rfl ⟨by decide, by decide, by decide, by decide⟩ rfl rfl (Nat.le_of_ble_eq_true rfl) (xk_v ?_)
  refine x_aload_n X dX8_row_5 rfl ?_
  refine gf_X8_26 (k' := 6) X dX8_row_6 rfl rfl ?_
  refine gf_X8_126 (k' := 8) X dX8_row_9 rfl rfl ?_
  refine x_iload_n X dX8_row_12 rfl ?_
  refine cv_X8_144 X (c_X6_at hr hrc hw) dX8_row_13 rfl ⟨by decide, by decide, by decide, by decide⟩ rfl rfl (Nat.le_of_ble_eq_true rfl) (xk_r ?_)
  refine x_astore_n (lv' := [(3, .ref (G.2.1 (61 + w))), (0, .ref (G.2.1 0)), (1, .int (nI w)), (2, .int i)]) X dX8_row_16 rfl (by decide) rfl ?_
  refine x_iload_n X dX8_row_17 rfl ?_
  refine x_iflt (tgt := 38) X dX8_row_18 (by decide) (fun h18 => ?_) (fun h18 => ?_)
  · skip
    refine x_iload_n X dX8_row_38 rfl ?_
    by_cases h39 : i.toInt < 8 ∨ 13 < i.toInt
    · skip
      refine x_tableOut (tgt := 135) X dX8_row_39 h39 (by decide) ?_
      exact x_throwS (text := "no such what") X hl hKt ht (by decide +kernel) wx_95 wx_io (by decide) xat_O dX8_row_135 dX8_row_138 dX8_row_139 dX8_row_141 dX8_row_144 ⟨by decide, by decide, by decide, by decide⟩
    rcases (show i.toInt = 8 ∨ i.toInt = 9 ∨ i.toInt = 10 ∨ i.toInt = 11 ∨ i.toInt = 12 ∨ i.toInt = 13 by omega) with g39 | g39 | g39 | g39 | g39 | g39
    · skip
      omega
    · skip
      omega
    · skip
      omega
    · skip
      omega
    · skip
      omega
    · skip
      omega
  · skip
    refine x_iload_n X dX8_row_21 rfl ?_
    refine x_aload_n X dX8_row_22 rfl ?_
    refine gf_X8_33 (k' := c) X dX8_row_23 rfl hC ?_
    refine gf_X8_74 X dX8_row_26 (xk0 hm) ?_
    rw [hV]
    refine x_icmpge (tgt := 38) X dX8_row_29 (by decide) (fun h29 => ?_) (fun h29 => ?_)
    · skip
      refine x_iload_n X dX8_row_38 rfl ?_
      by_cases h39 : i.toInt < 8 ∨ 13 < i.toInt
      · skip
        refine x_tableOut (tgt := 135) X dX8_row_39 h39 (by decide) ?_
        exact x_throwS (text := "no such what") X hl hKt ht (by decide +kernel) wx_95 wx_io (by decide) xat_O dX8_row_135 dX8_row_138 dX8_row_139 dX8_row_141 dX8_row_144 ⟨by decide, by decide, by decide, by decide⟩
      rcases (show i.toInt = 8 ∨ i.toInt = 9 ∨ i.toInt = 10 ∨ i.toInt = 11 ∨ i.toInt = 12 ∨ i.toInt = 13 by omega) with g39 | g39 | g39 | g39 | g39 | g39
      · skip
        omega
      · skip
        omega
      · skip
        omega
      · skip
        omega
      · skip
        omega
      · skip
        omega
    · skip
      exact absurd (xLt_t h18 h29 (by omega)) hq
