set_option maxHeartbeats 4000000 in
set_option maxRecDepth 100000 in
theorem c_X4_no (l : Launch) (G : GP) (q : Nat → Nat) (m_refused : Nat → Int32) (m_known : Nat → Int32) (m_setting : Nat → Int32) (m_kind : Nat → Int32) (m_figure : Nat → Int32) (m_tone : Nat → Int32) (m_word : Nat → Int32) (m_hours : Nat → Int32) (m_callers : Int32) (m_day : Int32) (m_tape : Nat → Int32) (m_letter : Nat → Int32) (m_letterAt : Nat → Int32) (m_told : Nat → Int32) (m_taped : Int32) (m_at : Int32) (m_statements : Int32) (m_kept : Nat → Int32) (m_hasImage : Int32) (m_isKeeping : Int32) (m_cursor : Int32) (m_answeredMany : Nat → Int32) (m_lastWord : Nat → Int32) (m_away : Int32) (m_answered : Int32) (m_unanswered : Int32) (m_saidWords : Int32) (m_isCalledAtSeven : Int32) (m_isAnsweredAtSeven : Int32) (m_seen : Nat → Int32) (m_weekAnswers : Int32) (m_weekHurt : Int32) (m_week : Nat → Int32) (m_row : Nat → Int32) (m_rowMany : Int32) (m_oneHas : Nat → Int32) (m_otherHas : Nat → Int32) (v1 : Int32) {o : Int32 × (Nat → Int32)} (h : f_X4_no m_refused v1 = some o) : CtI l yX4_no cX4_no 2 (some .int) ({ frames := 0, cells := 0, slots := 0, locals := 0 } : Room) G (mC G q m_refused m_known m_setting m_kind m_figure m_tone m_word m_hours m_callers m_day m_tape m_letter m_letterAt m_told m_taped m_at m_statements m_kept m_hasImage m_isKeeping m_cursor m_answeredMany m_lastWord m_away m_answered m_unanswered m_saidWords m_isCalledAtSeven m_isAnsweredAtSeven m_seen m_weekAnswers m_weekHurt m_week m_row m_rowMany m_oneHas m_otherHas) [.ref (q 0), .int v1] o.1 (mC G q o.2 m_known m_setting m_kind m_figure m_tone m_word m_hours m_callers m_day m_tape m_letter m_letterAt m_told m_taped m_at m_statements m_kept m_hasImage m_isKeeping m_cursor m_answeredMany m_lastWord m_away m_answered m_unanswered m_saidWords m_isCalledAtSeven m_isAnsweredAtSeven m_seen m_weekAnswers m_weekHurt m_week m_row m_rowMany m_oneHas m_otherHas) := by
  refine CtI.of (by decide) (Nat.le_of_ble_eq_true rfl) ?_
  intro p e s m below meth c A ls K hl hw
  have hl : lv_has ls 2 [(0, .ref (q 0)), (1, .int v1)] := hl
  generalize ([.ref (q 0), .int v1] : List Value).toArray = args at K ⊢
  have hx := K.1.1
  have hb := K.1.2.1
  unfold f_X4_no at h
  refine lv_aload_n hx hb dX4_no_0 rfl (lv_at hl 0 rfl) ?_
  refine getX K hw inTX4 0 0 fl_X4_7 dX4_no_1 rfl rfl (by decide) rfl rfl ?_
  refine lv_iload_n hx hb dX4_no_4 rfl (lv_at hl 1 rfl) ?_
  refine lv_ineg hx hb dX4_no_5 ?_
  refine lv_dup2_11 hx hb dX4_no_6 rfl rfl ?_
  obtain ⟨hg3, h⟩ := gd h
  refine ialX K hw 1 (inB_in hg3) dX4_no_7 rfl ?_
  refine lv_iconst (v := (1 : Int32)) hx hb dX4_no_8 (by decide) ?_
  refine lv_iadd hx hb dX4_no_9 ?_
  obtain ⟨hg4, h⟩ := gd h
  refine iasX K hw 1 (inB_in hg4) dX4_no_10 rfl (fun H locs hw => ?_)
  have hw : Wx G A (mC G q (upd m_refused (-v1).toNatClampNeg ((m_refused (-v1).toNatClampNeg) + (1 : Int32))) m_known m_setting m_kind m_figure m_tone m_word m_hours m_callers m_day m_tape m_letter m_letterAt m_told m_taped m_at m_statements m_kept m_hasImage m_isKeeping m_cursor m_answeredMany m_lastWord m_away m_answered m_unanswered m_saidWords m_isCalledAtSeven m_isAnsweredAtSeven m_seen m_weekAnswers m_weekHurt m_week m_row m_rowMany m_oneHas m_otherHas) s H locs := hw
  refine lv_iload_n hx hb dX4_no_11 rfl (lv_at hl 1 rfl) ?_
  have h := Option.some.inj h
  subst h
  exact retI K hw rfl dX4_no_12
set_option maxHeartbeats 4000000 in
set_option maxRecDepth 100000 in
theorem c_X4_isIn (l : Launch) (G : GP) (v0 : Int32) (v1 : Int32) (v2 : Int32) {o : Int32} (h : f_X4_isIn v0 v1 v2 = o) : CtI l yX4_isIn cX4_isIn 3 (some .boolean) ({ frames := 0, cells := 0, slots := 0, locals := 0 } : Room) G ([] : va_W) [.int v0, .int v1, .int v2] o ([] : va_W) := by
  refine CtI.of (by decide) (Nat.le_of_ble_eq_true rfl) ?_
  intro p e s m below meth c A ls K hl hw
  have hl : lv_has ls 3 [(0, .int v0), (1, .int v1), (2, .int v2)] := hl
  generalize ([.int v0, .int v1, .int v2] : List Value).toArray = args at K ⊢
  have hx := K.1.1
  have hb := K.1.2.1
  unfold f_X4_isIn at h
  refine lv_iload_n hx hb dX4_isIn_0 rfl (lv_at hl 0 rfl) ?_
  refine lv_iload_n hx hb dX4_isIn_1 rfl (lv_at hl 1 rfl) ?_
  refine lv_icmp_lt (tgt := 14) hx hb dX4_isIn_2 (by decide) (fun hc1 => ?_) (fun hc1 => ?_)
  · have h := ifp hc1 h
    refine lv_iconst (v := (0 : Int32)) hx hb dX4_isIn_14 (by decide) ?_
    subst h
    exact retZ K hw rfl rfl dX4_isIn_15
  · have h := ifn hc1 h
    refine lv_iload_n hx hb dX4_isIn_5 rfl (lv_at hl 0 rfl) ?_
    refine lv_iload_n hx hb dX4_isIn_6 rfl (lv_at hl 2 rfl) ?_
    refine lv_icmp_gt (tgt := 14) hx hb dX4_isIn_7 (by decide) (fun hc2 => ?_) (fun hc2 => ?_)
    · have h := ifp hc2 h
      refine lv_iconst (v := (0 : Int32)) hx hb dX4_isIn_14 (by decide) ?_
      subst h
      exact retZ K hw rfl rfl dX4_isIn_15
    · have h := ifn hc2 h
      refine lv_iconst (v := (1 : Int32)) hx hb dX4_isIn_10 (by decide) ?_
      refine lv_goto (tgt := 15) hx hb dX4_isIn_11 (by decide) ?_
      subst h
      exact retZ K hw rfl rfl dX4_isIn_15
set_option maxHeartbeats 4000000 in
set_option maxRecDepth 100000 in
theorem c_X4_bound (l : Launch) (G : GP) (v0 : Int32) (v1 : Int32) (v2 : Int32) {o : Int32} (h : f_X4_bound v0 v1 v2 = o) : CtI l yX4_bound cX4_bound 3 (some .int) ({ frames := 0, cells := 0, slots := 0, locals := 0 } : Room) G ([] : va_W) [.int v0, .int v1, .int v2] o ([] : va_W) := by
  refine CtI.of (by decide) (Nat.le_of_ble_eq_true rfl) ?_
  intro p e s m below meth c A ls K hl hw
  have hl : lv_has ls 3 [(0, .int v0), (1, .int v1), (2, .int v2)] := hl
  generalize ([.int v0, .int v1, .int v2] : List Value).toArray = args at K ⊢
  have hx := K.1.1
  have hb := K.1.2.1
  unfold f_X4_bound at h
  refine lv_iload_n hx hb dX4_bound_0 rfl (lv_at hl 0 rfl) ?_
  refine lv_iload_n hx hb dX4_bound_1 rfl (lv_at hl 1 rfl) ?_
  refine lv_icmp_ge (tgt := 10) hx hb dX4_bound_2 (by decide) (fun hc1 => ?_) (fun hc1 => ?_)
  · have h := ifp hc1 h
    refine lv_iload_n hx hb dX4_bound_10 rfl (lv_at hl 0 rfl) ?_
    refine lv_iload_n hx hb dX4_bound_11 rfl (lv_at hl 2 rfl) ?_
    refine lv_icmp_le (tgt := 20) hx hb dX4_bound_12 (by decide) (fun hc2 => ?_) (fun hc2 => ?_)
    · have h := ifp hc2 h
      refine lv_iconst (v := (0 : Int32)) hx hb dX4_bound_20 (by decide) ?_
      subst h
      exact retI K hw rfl dX4_bound_21
    · have h := ifn hc2 h
      refine lv_bipush (v := (-6 : Int32)) hx hb dX4_bound_15 (by decide) ?_
      refine lv_goto (tgt := 21) hx hb dX4_bound_17 (by decide) ?_
      subst h
      exact retI K hw rfl dX4_bound_21
  · have h := ifn hc1 h
    refine lv_bipush (v := (-4 : Int32)) hx hb dX4_bound_5 (by decide) ?_
    refine lv_goto (tgt := 21) hx hb dX4_bound_7 (by decide) ?_
    subst h
    exact retI K hw rfl dX4_bound_21
set_option maxHeartbeats 4000000 in
set_option maxRecDepth 100000 in
theorem c_X4_has (l : Launch) (G : GP) (v0 : Int32) (v1 : Int32) {o : Int32} (h : f_X4_has v0 v1 = o) : CtI l yX4_has cX4_has 2 (some .boolean) ({ frames := 0, cells := 0, slots := 0, locals := 0 } : Room) G ([] : va_W) [.int v0, .int v1] o ([] : va_W) := by
  refine CtI.of (by decide) (Nat.le_of_ble_eq_true rfl) ?_
  intro p e s m below meth c A ls K hl hw
  have hl : lv_has ls 2 [(0, .int v0), (1, .int v1)] := hl
  generalize ([.int v0, .int v1] : List Value).toArray = args at K ⊢
  have hx := K.1.1
  have hb := K.1.2.1
  unfold f_X4_has at h
  refine lv_iload_n hx hb dX4_has_0 rfl (lv_at hl 0 rfl) ?_
  refine lv_iload_n hx hb dX4_has_1 rfl (lv_at hl 1 rfl) ?_
  refine lv_ishr hx hb dX4_has_2 ?_
  refine lv_iconst (v := (1 : Int32)) hx hb dX4_has_3 (by decide) ?_
  refine lv_iand hx hb dX4_has_4 ?_
  refine lv_iconst (v := (1 : Int32)) hx hb dX4_has_5 (by decide) ?_
  refine lv_icmp_ne (tgt := 13) hx hb dX4_has_6 (by decide) (fun hc1 => ?_) (fun hc1 => ?_)
  · have h := ifn hc1 h
    refine lv_iconst (v := (0 : Int32)) hx hb dX4_has_13 (by decide) ?_
    subst h
    exact retZ K hw rfl rfl dX4_has_14
  · have h := ifp hc1 h
    refine lv_iconst (v := (1 : Int32)) hx hb dX4_has_9 (by decide) ?_
    refine lv_goto (tgt := 14) hx hb dX4_has_10 (by decide) ?_
    subst h
    exact retZ K hw rfl rfl dX4_has_14
set_option maxHeartbeats 4000000 in
set_option maxRecDepth 100000 in
theorem b_X4_bits_L4 {l : Launch} {G : GP}  {p : Program} {e : Env} {s : State} {m : MethodId} {args : Array Value} {below : List Frame} {meth : Method} {c : Code} {A : Nat → Prop}  {v0 : Int32} {v1 : Int32} {v2 : Int32} {o : Int32} (K : Cx p s m args meth c A G cX4_bits 3 RX4 (some .int)) {H : Heap} {locs : List Loc} {ls : Array Slot} (hl : lv_has ls 3 [(0, .int v0), (1, .int v1), (2, .int v2)]) (hw : Wx G A ([] : va_W) s H locs) {y : (Int32 × Int32) ⊕ (Int32)} (h : f_X4_bits_L4 v0 v1 v2 = some y) (hk4 : ∀ (b : Int32 × Int32) (H : Heap) (locs : List Loc) (ls : Array Slot), y = .inl b → lv_has ls 3 [(0, .int v0), (1, .int b.1), (2, .int b.2)] → Wx G A ([] : va_W) s H locs → W p l e ({ frames := 0, cells := 0, slots := 0, locals := 0 } : Room) s m args below meth c H locs 0 0 (MQ below (QI G A ([] : va_W) o) args s 0 0 A) (F0 m 4 ls [])) (hx4 : ∀ (b : Int32) (H : Heap) (locs : List Loc) (ls : Array Slot), y = .inr b → lv_has ls 3 [(1, .int b)] → Wx G A ([] : va_W) s H locs → W p l e ({ frames := 0, cells := 0, slots := 0, locals := 0 } : Room) s m args below meth c H locs 0 0 (MQ below (QI G A ([] : va_W) o) args s 0 0 A) (F0 m 24 ls [])) : W p l e ({ frames := 0, cells := 0, slots := 0, locals := 0 } : Room) s m args below meth c H locs 0 0 (MQ below (QI G A ([] : va_W) o) args s 0 0 A) (F0 m 4 ls []) := by
  have hx := K.1.1
  have hb := K.1.2.1
  unfold f_X4_bits_L4 at h
  refine lv_iload_n hx hb dX4_bits_4 rfl (lv_at hl 2 rfl) ?_
  refine lv_bipush (v := (31 : Int32)) hx hb dX4_bits_5 (by decide) ?_
  refine lv_icmp_ge (tgt := 24) hx hb dX4_bits_7 (by decide) (fun hc3 => ?_) (fun hc3 => ?_)
  · have h := ifp hc3 h
    exact hx4 v1 _ _ _ (Option.some.inj h).symm (lv_sub hl [1] rfl) hw
  · have h := ifn hc3 h
    refine lv_iload_n hx hb dX4_bits_10 rfl (lv_at hl 1 rfl) ?_
    refine lv_iload_n hx hb dX4_bits_11 rfl (lv_at hl 0 rfl) ?_
    refine lv_iload_n hx hb dX4_bits_12 rfl (lv_at hl 2 rfl) ?_
    refine lv_ishr hx hb dX4_bits_13 ?_
    refine lv_iconst (v := (1 : Int32)) hx hb dX4_bits_14 (by decide) ?_
    refine lv_iand hx hb dX4_bits_15 ?_
    refine lv_iadd hx hb dX4_bits_16 ?_
    refine lv_istore_n (lv' := [(1, .int (v1 + ((v0 >>> (v2 &&& 31)) &&& (1 : Int32)))), (0, .int v0), (2, .int v2)]) hx hb dX4_bits_17 rfl hl (by decide) rfl (fun ls hl => ?_)
    refine lv_iinc (v := (v2 + (1 : Int32))) (lv' := [(2, .int (v2 + (1 : Int32))), (1, .int (v1 + ((v0 >>> (v2 &&& 31)) &&& (1 : Int32)))), (0, .int v0)]) hx hb dX4_bits_18 hl (k := 2) rfl rfl (by decide) rfl (fun ls hl => ?_)
    refine lv_goto (tgt := 4) hx hb dX4_bits_21 (by decide) ?_
    exact hk4 ((v1 + ((v0 >>> (v2 &&& 31)) &&& (1 : Int32))), (v2 + (1 : Int32))) _ _ _ (Option.some.inj h).symm (lv_sub hl [2, 1, 0] rfl) hw
set_option maxHeartbeats 4000000 in
set_option maxRecDepth 100000 in
theorem w_X4_bits_L4 {l : Launch} {G : GP}  {p : Program} {e : Env} {s : State} {m : MethodId} {args : Array Value} {below : List Frame} {meth : Method} {c : Code} {A : Nat → Prop} {v0 : Int32} {o : Int32} (K : Cx p s m args meth c A G cX4_bits 3 RX4 (some .int)) : ∀ (fu : Nat) (v1 : Int32) (v2 : Int32) (H : Heap) (locs : List Loc) (ls : Array Slot), lv_has ls 3 [(0, .int v0), (1, .int v1), (2, .int v2)] → Wx G A ([] : va_W) s H locs → ∀ (x : Int32), lp (fun z : Int32 × Int32 => f_X4_bits_L4 v0 (z.1) (z.2)) fu (v1, v2) = some x → (∀ (H : Heap) (locs : List Loc) (ls : Array Slot), lv_has ls 3 [(1, .int x)] → Wx G A ([] : va_W) s H locs → W p l e ({ frames := 0, cells := 0, slots := 0, locals := 0 } : Room) s m args below meth c H locs 0 0 (MQ below (QI G A ([] : va_W) o) args s 0 0 A) (F0 m 24 ls [])) → W p l e ({ frames := 0, cells := 0, slots := 0, locals := 0 } : Room) s m args below meth c H locs 0 0 (MQ below (QI G A ([] : va_W) o) args s 0 0 A) (F0 m 4 ls []) := by
  intro fu
  induction fu with
  | zero => intro v1 v2 H locs ls hl hw x h; exact absurd (show none = some x from h) (by simp)
  | succ fu ih =>
    intro v1 v2 H locs ls hl hw x h hx4
    obtain ⟨y, hy, hc⟩ := lp_s h
    exact b_X4_bits_L4 K hl hw hy (fun b H locs ls hE hl hw => ih b.1 b.2 H locs ls hl hw _ (lp_b hc hE) hx4) (fun b H locs ls hE hl hw => by
      have e9 := lp_x hc hE
      subst e9
      exact hx4 H locs ls hl hw)
set_option maxHeartbeats 4000000 in
set_option maxRecDepth 100000 in
theorem c_X4_bits (l : Launch) (G : GP) (v0 : Int32) {o : Int32} (h : f_X4_bits v0 = some o) : CtI l yX4_bits cX4_bits 3 (some .int) ({ frames := 0, cells := 0, slots := 0, locals := 0 } : Room) G ([] : va_W) [.int v0] o ([] : va_W) := by
  refine CtI.of (by decide) (Nat.le_of_ble_eq_true rfl) ?_
  intro p e s m below meth c A ls K hl hw
  have hl : lv_has ls 3 [(0, .int v0)] := hl
  generalize ([.int v0] : List Value).toArray = args at K ⊢
  have hx := K.1.1
  have hb := K.1.2.1
  unfold f_X4_bits at h
  refine lv_iconst (v := (0 : Int32)) hx hb dX4_bits_0 (by decide) ?_
  refine lv_istore_n (lv' := [(1, .int (0 : Int32)), (0, .int v0)]) hx hb dX4_bits_1 rfl hl (by decide) rfl (fun ls hl => ?_)
  refine lv_iconst (v := (0 : Int32)) hx hb dX4_bits_2 (by decide) ?_
  refine lv_istore_n (lv' := [(2, .int (0 : Int32)), (1, .int (0 : Int32)), (0, .int v0)]) hx hb dX4_bits_3 rfl hl (by decide) rfl (fun ls hl => ?_)
  obtain ⟨z4, hz4, h⟩ := bd h
  refine w_X4_bits_L4 K 1000 (0 : Int32) (0 : Int32) _ _ _ (lv_sub hl [2, 1, 0] rfl) hw _ hz4 (fun H locs ls hl hw => ?_)
  refine lv_iload_n hx hb dX4_bits_24 rfl (lv_at hl 0 rfl) ?_
  have h := Option.some.inj h
  subst h
  exact retI K hw rfl dX4_bits_25
set_option maxHeartbeats 4000000 in
set_option maxRecDepth 100000 in
theorem c_X4_isCaller (l : Launch) (G : GP) (q : Nat → Nat) (m_refused : Nat → Int32) (m_known : Nat → Int32) (m_setting : Nat → Int32) (m_kind : Nat → Int32) (m_figure : Nat → Int32) (m_tone : Nat → Int32) (m_word : Nat → Int32) (m_hours : Nat → Int32) (m_callers : Int32) (m_day : Int32) (m_tape : Nat → Int32) (m_letter : Nat → Int32) (m_letterAt : Nat → Int32) (m_told : Nat → Int32) (m_taped : Int32) (m_at : Int32) (m_statements : Int32) (m_kept : Nat → Int32) (m_hasImage : Int32) (m_isKeeping : Int32) (m_cursor : Int32) (m_answeredMany : Nat → Int32) (m_lastWord : Nat → Int32) (m_away : Int32) (m_answered : Int32) (m_unanswered : Int32) (m_saidWords : Int32) (m_isCalledAtSeven : Int32) (m_isAnsweredAtSeven : Int32) (m_seen : Nat → Int32) (m_weekAnswers : Int32) (m_weekHurt : Int32) (m_week : Nat → Int32) (m_row : Nat → Int32) (m_rowMany : Int32) (m_oneHas : Nat → Int32) (m_otherHas : Nat → Int32) (v1 : Int32) {o : Int32} (h : f_X4_isCaller m_callers v1 = o) : CtI l yX4_isCaller cX4_isCaller 2 (some .boolean) ({ frames := 0, cells := 0, slots := 0, locals := 0 } : Room) G (mC G q m_refused m_known m_setting m_kind m_figure m_tone m_word m_hours m_callers m_day m_tape m_letter m_letterAt m_told m_taped m_at m_statements m_kept m_hasImage m_isKeeping m_cursor m_answeredMany m_lastWord m_away m_answered m_unanswered m_saidWords m_isCalledAtSeven m_isAnsweredAtSeven m_seen m_weekAnswers m_weekHurt m_week m_row m_rowMany m_oneHas m_otherHas) [.ref (q 0), .int v1] o (mC G q m_refused m_known m_setting m_kind m_figure m_tone m_word m_hours m_callers m_day m_tape m_letter m_letterAt m_told m_taped m_at m_statements m_kept m_hasImage m_isKeeping m_cursor m_answeredMany m_lastWord m_away m_answered m_unanswered m_saidWords m_isCalledAtSeven m_isAnsweredAtSeven m_seen m_weekAnswers m_weekHurt m_week m_row m_rowMany m_oneHas m_otherHas) := by
  refine CtI.of (by decide) (Nat.le_of_ble_eq_true rfl) ?_
  intro p e s m below meth c A ls K hl hw
  have hl : lv_has ls 2 [(0, .ref (q 0)), (1, .int v1)] := hl
  generalize ([.ref (q 0), .int v1] : List Value).toArray = args at K ⊢
  have hx := K.1.1
  have hb := K.1.2.1
  unfold f_X4_isCaller at h
  refine lv_iload_n hx hb dX4_isCaller_0 rfl (lv_at hl 1 rfl) ?_
  refine lv_if_lt (tgt := 16) hx hb dX4_isCaller_1 (by decide) (fun hc1 => ?_) (fun hc1 => ?_)
  · have h := ifp hc1 h
    refine lv_iconst (v := (0 : Int32)) hx hb dX4_isCaller_16 (by decide) ?_
    subst h
    exact retZ K hw rfl rfl dX4_isCaller_17
  · have h := ifn hc1 h
    refine lv_iload_n hx hb dX4_isCaller_4 rfl (lv_at hl 1 rfl) ?_
    refine lv_aload_n hx hb dX4_isCaller_5 rfl (lv_at hl 0 rfl) ?_
    refine getX K hw inTX4 0 8 fl_X4_70 dX4_isCaller_6 rfl rfl (by decide) rfl rfl ?_
    refine lv_icmp_ge (tgt := 16) hx hb dX4_isCaller_9 (by decide) (fun hc2 => ?_) (fun hc2 => ?_)
    · have h := ifp hc2 h
      refine lv_iconst (v := (0 : Int32)) hx hb dX4_isCaller_16 (by decide) ?_
      subst h
      exact retZ K hw rfl rfl dX4_isCaller_17
    · have h := ifn hc2 h
      refine lv_iconst (v := (1 : Int32)) hx hb dX4_isCaller_12 (by decide) ?_
      refine lv_goto (tgt := 17) hx hb dX4_isCaller_13 (by decide) ?_
      subst h
      exact retZ K hw rfl rfl dX4_isCaller_17
set_option maxHeartbeats 4000000 in
set_option maxRecDepth 100000 in
theorem c_X4_isWord (l : Launch) (G : GP) (v0 : Int32) {o : Int32} (h : f_X4_isWord v0 = o) : CtI l yX4_isWord cX4_isWord 1 (some .boolean) ({ frames := 0, cells := 0, slots := 0, locals := 0 } : Room) G ([] : va_W) [.int v0] o ([] : va_W) := by
  refine CtI.of (by decide) (Nat.le_of_ble_eq_true rfl) ?_
  intro p e s m below meth c A ls K hl hw
  have hl : lv_has ls 1 [(0, .int v0)] := hl
  generalize ([.int v0] : List Value).toArray = args at K ⊢
  have hx := K.1.1
  have hb := K.1.2.1
  unfold f_X4_isWord at h
  refine lv_iload_n hx hb dX4_isWord_0 rfl (lv_at hl 0 rfl) ?_
  refine lv_if_lt (tgt := 14) hx hb dX4_isWord_1 (by decide) (fun hc1 => ?_) (fun hc1 => ?_)
  · have h := ifp hc1 h
    refine lv_iconst (v := (0 : Int32)) hx hb dX4_isWord_14 (by decide) ?_
    subst h
    exact retZ K hw rfl rfl dX4_isWord_15
  · have h := ifn hc1 h
    refine lv_iload_n hx hb dX4_isWord_4 rfl (lv_at hl 0 rfl) ?_
    refine lv_bipush (v := (8 : Int32)) hx hb dX4_isWord_5 (by decide) ?_
    refine lv_icmp_ge (tgt := 14) hx hb dX4_isWord_7 (by decide) (fun hc2 => ?_) (fun hc2 => ?_)
    · have h := ifp hc2 h
      refine lv_iconst (v := (0 : Int32)) hx hb dX4_isWord_14 (by decide) ?_
      subst h
      exact retZ K hw rfl rfl dX4_isWord_15
    · have h := ifn hc2 h
      refine lv_iconst (v := (1 : Int32)) hx hb dX4_isWord_10 (by decide) ?_
      refine lv_goto (tgt := 15) hx hb dX4_isWord_11 (by decide) ?_
      subst h
      exact retZ K hw rfl rfl dX4_isWord_15
set_option maxHeartbeats 4000000 in
set_option maxRecDepth 100000 in
theorem c_X4_isSetting (l : Launch) (G : GP) (v0 : Int32) (v1 : Int32) {o : Int32} (h : f_X4_isSetting v0 v1 = some o) : CtI l yX4_isSetting cX4_isSetting 2 (some .boolean) ({ frames := 1, cells := 0, slots := 0, locals := 22 } : Room) G ([] : va_W) [.int v0, .int v1] o ([] : va_W) := by
  refine CtI.of (by decide) (Nat.le_of_ble_eq_true rfl) ?_
  intro p e s m below meth c A ls K hl hw
  have hl : lv_has ls 2 [(0, .int v0), (1, .int v1)] := hl
  generalize ([.int v0, .int v1] : List Value).toArray = args at K ⊢
  have hx := K.1.1
  have hb := K.1.2.1
  unfold f_X4_isSetting at h
  refine lv_iload_n hx hb dX4_isSetting_0 rfl (lv_at hl 0 rfl) ?_
  refine lv_if_ne (tgt := 14) hx hb dX4_isSetting_1 (by decide) (fun hc1 => ?_) (fun hc1 => ?_)
  · have h := ifn hc1 h
    refine lv_iload_n hx hb dX4_isSetting_14 rfl (lv_at hl 0 rfl) ?_
    refine lv_iconst (v := (1 : Int32)) hx hb dX4_isSetting_15 (by decide) ?_
    refine lv_icmp_ne (tgt := 29) hx hb dX4_isSetting_16 (by decide) (fun hc2 => ?_) (fun hc2 => ?_)
    · have h := ifn hc2 h
      refine lv_iload_n hx hb dX4_isSetting_29 rfl (lv_at hl 1 rfl) ?_
      refine lv_iconst (v := (1 : Int32)) hx hb dX4_isSetting_30 (by decide) ?_
      refine lv_bipush (v := (20 : Int32)) hx hb dX4_isSetting_31 (by decide) ?_
      refine callSI K (c_X4_isIn l G v1 (1 : Int32) (20 : Int32) rfl) mt_yX4_isIn lk_X4_74 ⟨rfl, rfl, Nat.le_of_ble_eq_true rfl, Nat.le_of_ble_eq_true rfl⟩ hw dX4_isSetting_33 hl.1 ⟨Nat.zero_le _, Nat.zero_le _⟩ (wa := (([] : va_W).take 0)) (wb := (([] : va_W).drop 0)) rfl (rest := []) rfl rfl (Nat.le_of_ble_eq_true rfl) (fun H locs hw => ?_)
      have hw : Wx G A ([] : va_W) s H locs := hw
      obtain ⟨hg3, h⟩ := gd h
      have h := Option.some.inj h
      subst h
      exact retZ K hw (isB_n hg3) rfl dX4_isSetting_36
    · have h := ifp hc2 h
      refine lv_iload_n hx hb dX4_isSetting_19 rfl (lv_at hl 1 rfl) ?_
      refine lv_iconst (v := (0 : Int32)) hx hb dX4_isSetting_20 (by decide) ?_
      refine lv_bipush (v := (99 : Int32)) hx hb dX4_isSetting_21 (by decide) ?_
      refine callSI K (c_X4_isIn l G v1 (0 : Int32) (99 : Int32) rfl) mt_yX4_isIn lk_X4_74 ⟨rfl, rfl, Nat.le_of_ble_eq_true rfl, Nat.le_of_ble_eq_true rfl⟩ hw dX4_isSetting_23 hl.1 ⟨Nat.zero_le _, Nat.zero_le _⟩ (wa := (([] : va_W).take 0)) (wb := (([] : va_W).drop 0)) rfl (rest := []) rfl rfl (Nat.le_of_ble_eq_true rfl) (fun H locs hw => ?_)
      have hw : Wx G A ([] : va_W) s H locs := hw
      refine lv_goto (tgt := 36) hx hb dX4_isSetting_26 (by decide) ?_
      obtain ⟨hg4, h⟩ := gd h
      have h := Option.some.inj h
      subst h
      exact retZ K hw (isB_n hg4) rfl dX4_isSetting_36
  · have h := ifp hc1 h
    refine lv_iload_n hx hb dX4_isSetting_4 rfl (lv_at hl 1 rfl) ?_
    refine lv_iconst (v := (0 : Int32)) hx hb dX4_isSetting_5 (by decide) ?_
    refine lv_bipush (v := (9 : Int32)) hx hb dX4_isSetting_6 (by decide) ?_
    refine callSI K (c_X4_isIn l G v1 (0 : Int32) (9 : Int32) rfl) mt_yX4_isIn lk_X4_74 ⟨rfl, rfl, Nat.le_of_ble_eq_true rfl, Nat.le_of_ble_eq_true rfl⟩ hw dX4_isSetting_8 hl.1 ⟨Nat.zero_le _, Nat.zero_le _⟩ (wa := (([] : va_W).take 0)) (wb := (([] : va_W).drop 0)) rfl (rest := []) rfl rfl (Nat.le_of_ble_eq_true rfl) (fun H locs hw => ?_)
    have hw : Wx G A ([] : va_W) s H locs := hw
    refine lv_goto (tgt := 36) hx hb dX4_isSetting_11 (by decide) ?_
    obtain ⟨hg5, h⟩ := gd h
    have h := Option.some.inj h
    subst h
    exact retZ K hw (isB_n hg5) rfl dX4_isSetting_36
set_option maxHeartbeats 4000000 in
set_option maxRecDepth 100000 in
theorem w_X4_letter_J25 {l : Launch} {G : GP} {q : Nat → Nat} {p : Program} {e : Env} {s : State} {m : MethodId} {args : Array Value} {below : List Frame} {meth : Method} {c : Code} {A : Nat → Prop} {m_refused : Nat → Int32} {m_known : Nat → Int32} {m_setting : Nat → Int32} {m_kind : Nat → Int32} {m_figure : Nat → Int32} {m_tone : Nat → Int32} {m_word : Nat → Int32} {m_hours : Nat → Int32} {m_callers : Int32} {m_day : Int32} {m_tape : Nat → Int32} {m_letter : Nat → Int32} {m_letterAt : Nat → Int32} {m_told : Nat → Int32} {m_taped : Int32} {m_at : Int32} {m_statements : Int32} {m_kept : Nat → Int32} {m_hasImage : Int32} {m_isKeeping : Int32} {m_cursor : Int32} {m_answeredMany : Nat → Int32} {m_lastWord : Nat → Int32} {m_away : Int32} {m_answered : Int32} {m_unanswered : Int32} {m_saidWords : Int32} {m_isCalledAtSeven : Int32} {m_isAnsweredAtSeven : Int32} {m_seen : Nat → Int32} {m_weekAnswers : Int32} {m_weekHurt : Int32} {m_week : Nat → Int32} {m_row : Nat → Int32} {m_rowMany : Int32} {m_oneHas : Nat → Int32} {m_otherHas : Nat → Int32} {v1 : Int32} {v2 : Int32} {o : Int32 × (Nat → Int32) × (Nat → Int32) × Int32} (K : Cx p s m args meth c A G cX4_letter 3 RX4 (some .int)) {H : Heap} {locs : List Loc} {ls : Array Slot} (hl : lv_has ls 3 [(0, .ref (q 0)), (1, .int v1), (2, .int v2)]) (hw : Wx G A (mC G q m_refused m_known m_setting m_kind m_figure m_tone m_word m_hours m_callers m_day m_tape m_letter m_letterAt m_told m_taped m_at m_statements m_kept m_hasImage m_isKeeping m_cursor m_answeredMany m_lastWord m_away m_answered m_unanswered m_saidWords m_isCalledAtSeven m_isAnsweredAtSeven m_seen m_weekAnswers m_weekHurt m_week m_row m_rowMany m_oneHas m_otherHas) s H locs) (h : f_X4_letter_J25 v1 v2 m_refused m_tape m_taped = some o)  : W p l e ({ frames := 1, cells := 0, slots := 0, locals := 22 } : Room) s m args below meth c H locs 0 0 (MQ below (QI G A (mC G q o.2.1 m_known m_setting m_kind m_figure m_tone m_word m_hours m_callers m_day o.2.2.1 m_letter m_letterAt m_told o.2.2.2 m_at m_statements m_kept m_hasImage m_isKeeping m_cursor m_answeredMany m_lastWord m_away m_answered m_unanswered m_saidWords m_isCalledAtSeven m_isAnsweredAtSeven m_seen m_weekAnswers m_weekHurt m_week m_row m_rowMany m_oneHas m_otherHas) o.1) args s 0 0 A) (F0 m 25 ls []) := by
  have hx := K.1.1
  have hb := K.1.2.1
  unfold f_X4_letter_J25 at h
  refine lv_iload_n hx hb dX4_letter_25 rfl (lv_at hl 2 rfl) ?_
  refine lv_if_eq (tgt := 35) hx hb dX4_letter_26 (by decide) (fun hc8 => ?_) (fun hc8 => ?_)
  · have h := ifp hc8 h
    refine lv_aload_n hx hb dX4_letter_35 rfl (lv_at hl 0 rfl) ?_
    refine getX K hw inTX4 0 10 fl_X4_34 dX4_letter_36 rfl rfl (by decide) rfl rfl ?_
    refine lv_aload_n hx hb dX4_letter_39 rfl (lv_at hl 0 rfl) ?_
    refine getX K hw inTX4 0 14 fl_X4_82 dX4_letter_40 rfl rfl (by decide) rfl rfl ?_
    refine lv_iload_n hx hb dX4_letter_43 rfl (lv_at hl 1 rfl) ?_
    obtain ⟨hg9, h⟩ := gd h
    refine iasX K hw 9 (inB_in hg9) dX4_letter_44 rfl (fun H locs hw => ?_)
    have hw : Wx G A (mC G q m_refused m_known m_setting m_kind m_figure m_tone m_word m_hours m_callers m_day (upd m_tape m_taped.toNatClampNeg v1) m_letter m_letterAt m_told m_taped m_at m_statements m_kept m_hasImage m_isKeeping m_cursor m_answeredMany m_lastWord m_away m_answered m_unanswered m_saidWords m_isCalledAtSeven m_isAnsweredAtSeven m_seen m_weekAnswers m_weekHurt m_week m_row m_rowMany m_oneHas m_otherHas) s H locs := hw
    refine lv_aload_n hx hb dX4_letter_45 rfl (lv_at hl 0 rfl) ?_
    refine lv_dup hx hb dX4_letter_46 rfl ?_
    refine getX K hw inTX4 0 14 fl_X4_82 dX4_letter_47 rfl rfl (by decide) rfl rfl ?_
    refine lv_iconst (v := (1 : Int32)) hx hb dX4_letter_50 (by decide) ?_
    refine lv_iadd hx hb dX4_letter_51 ?_
    refine putX K hw inTX4 tyX4_ok nmX4 0 14 fl_X4_82 dX4_letter_52 rfl rfl (by decide) rfl rfl rfl rfl (Nat.le_of_ble_eq_true rfl) (fun H locs hw => ?_)
    have hw : Wx G A (mC G q m_refused m_known m_setting m_kind m_figure m_tone m_word m_hours m_callers m_day (upd m_tape m_taped.toNatClampNeg v1) m_letter m_letterAt m_told (m_taped + (1 : Int32)) m_at m_statements m_kept m_hasImage m_isKeeping m_cursor m_answeredMany m_lastWord m_away m_answered m_unanswered m_saidWords m_isCalledAtSeven m_isAnsweredAtSeven m_seen m_weekAnswers m_weekHurt m_week m_row m_rowMany m_oneHas m_otherHas) s H locs := hw
    refine lv_aload_n hx hb dX4_letter_55 rfl (lv_at hl 0 rfl) ?_
    refine getX K hw inTX4 0 14 fl_X4_82 dX4_letter_56 rfl rfl (by decide) rfl rfl ?_
    have h := Option.some.inj h
    subst h
    exact retI K hw rfl dX4_letter_59
  · have h := ifn hc8 h
    refine lv_aload_n hx hb dX4_letter_29 rfl (lv_at hl 0 rfl) ?_
    refine lv_iload_n hx hb dX4_letter_30 rfl (lv_at hl 2 rfl) ?_
    obtain ⟨z10, hz10, h⟩ := bd h
    refine callVI K (c_X4_no l G q m_refused m_known m_setting m_kind m_figure m_tone m_word m_hours m_callers m_day m_tape m_letter m_letterAt m_told m_taped m_at m_statements m_kept m_hasImage m_isKeeping m_cursor m_answeredMany m_lastWord m_away m_answered m_unanswered m_saidWords m_isCalledAtSeven m_isAnsweredAtSeven m_seen m_weekAnswers m_weekHurt m_week m_row m_rowMany m_oneHas m_otherHas v2 hz10) mt_yX4_no lk_X4_85 ⟨rfl, rfl, Nat.le_of_ble_eq_true rfl, Nat.le_of_ble_eq_true rfl⟩ hw dX4_letter_31 hl.1 ⟨Nat.zero_le _, Nat.zero_le _⟩ (wa := ((mC G q m_refused m_known m_setting m_kind m_figure m_tone m_word m_hours m_callers m_day m_tape m_letter m_letterAt m_told m_taped m_at m_statements m_kept m_hasImage m_isKeeping m_cursor m_answeredMany m_lastWord m_away m_answered m_unanswered m_saidWords m_isCalledAtSeven m_isAnsweredAtSeven m_seen m_weekAnswers m_weekHurt m_week m_row m_rowMany m_oneHas m_otherHas).take 0)) (wb := ((mC G q m_refused m_known m_setting m_kind m_figure m_tone m_word m_hours m_callers m_day m_tape m_letter m_letterAt m_told m_taped m_at m_statements m_kept m_hasImage m_isKeeping m_cursor m_answeredMany m_lastWord m_away m_answered m_unanswered m_saidWords m_isCalledAtSeven m_isAnsweredAtSeven m_seen m_weekAnswers m_weekHurt m_week m_row m_rowMany m_oneHas m_otherHas).drop 21)) rfl rfl rfl (rest := []) rfl rfl (Nat.le_of_ble_eq_true rfl) (fun H locs hw => ?_)
    have hw : Wx G A (mC G q z10.2 m_known m_setting m_kind m_figure m_tone m_word m_hours m_callers m_day m_tape m_letter m_letterAt m_told m_taped m_at m_statements m_kept m_hasImage m_isKeeping m_cursor m_answeredMany m_lastWord m_away m_answered m_unanswered m_saidWords m_isCalledAtSeven m_isAnsweredAtSeven m_seen m_weekAnswers m_weekHurt m_week m_row m_rowMany m_oneHas m_otherHas) s H locs := hw
    have h := Option.some.inj h
    subst h
    exact retI K hw rfl dX4_letter_34
set_option maxHeartbeats 4000000 in
set_option maxRecDepth 100000 in
theorem c_X4_letter (l : Launch) (G : GP) (q : Nat → Nat) (m_refused : Nat → Int32) (m_known : Nat → Int32) (m_setting : Nat → Int32) (m_kind : Nat → Int32) (m_figure : Nat → Int32) (m_tone : Nat → Int32) (m_word : Nat → Int32) (m_hours : Nat → Int32) (m_callers : Int32) (m_day : Int32) (m_tape : Nat → Int32) (m_letter : Nat → Int32) (m_letterAt : Nat → Int32) (m_told : Nat → Int32) (m_taped : Int32) (m_at : Int32) (m_statements : Int32) (m_kept : Nat → Int32) (m_hasImage : Int32) (m_isKeeping : Int32) (m_cursor : Int32) (m_answeredMany : Nat → Int32) (m_lastWord : Nat → Int32) (m_away : Int32) (m_answered : Int32) (m_unanswered : Int32) (m_saidWords : Int32) (m_isCalledAtSeven : Int32) (m_isAnsweredAtSeven : Int32) (m_seen : Nat → Int32) (m_weekAnswers : Int32) (m_weekHurt : Int32) (m_week : Nat → Int32) (m_row : Nat → Int32) (m_rowMany : Int32) (m_oneHas : Nat → Int32) (m_otherHas : Nat → Int32) (v1 : Int32) {o : Int32 × (Nat → Int32) × (Nat → Int32) × Int32} (h : f_X4_letter m_refused m_tape m_taped v1 = some o) : CtI l yX4_letter cX4_letter 3 (some .int) ({ frames := 1, cells := 0, slots := 0, locals := 22 } : Room) G (mC G q m_refused m_known m_setting m_kind m_figure m_tone m_word m_hours m_callers m_day m_tape m_letter m_letterAt m_told m_taped m_at m_statements m_kept m_hasImage m_isKeeping m_cursor m_answeredMany m_lastWord m_away m_answered m_unanswered m_saidWords m_isCalledAtSeven m_isAnsweredAtSeven m_seen m_weekAnswers m_weekHurt m_week m_row m_rowMany m_oneHas m_otherHas) [.ref (q 0), .int v1] o.1 (mC G q o.2.1 m_known m_setting m_kind m_figure m_tone m_word m_hours m_callers m_day o.2.2.1 m_letter m_letterAt m_told o.2.2.2 m_at m_statements m_kept m_hasImage m_isKeeping m_cursor m_answeredMany m_lastWord m_away m_answered m_unanswered m_saidWords m_isCalledAtSeven m_isAnsweredAtSeven m_seen m_weekAnswers m_weekHurt m_week m_row m_rowMany m_oneHas m_otherHas) := by
  refine CtI.of (by decide) (Nat.le_of_ble_eq_true rfl) ?_
  intro p e s m below meth c A ls K hl hw
  have hl : lv_has ls 3 [(0, .ref (q 0)), (1, .int v1)] := hl
  generalize ([.ref (q 0), .int v1] : List Value).toArray = args at K ⊢
  have hx := K.1.1
  have hb := K.1.2.1
  unfold f_X4_letter at h
  refine lv_iload_n hx hb dX4_letter_0 rfl (lv_at hl 1 rfl) ?_
  refine lv_iconst (v := (0 : Int32)) hx hb dX4_letter_1 (by decide) ?_
  refine lv_sipush (v := (255 : Int32)) hx hb dX4_letter_2 (by decide) ?_
  refine callSI K (c_X4_bound l G v1 (0 : Int32) (255 : Int32) rfl) mt_yX4_bound lk_X4_78 ⟨rfl, rfl, Nat.le_of_ble_eq_true rfl, Nat.le_of_ble_eq_true rfl⟩ hw dX4_letter_5 hl.1 ⟨Nat.zero_le _, Nat.zero_le _⟩ (wa := ((mC G q m_refused m_known m_setting m_kind m_figure m_tone m_word m_hours m_callers m_day m_tape m_letter m_letterAt m_told m_taped m_at m_statements m_kept m_hasImage m_isKeeping m_cursor m_answeredMany m_lastWord m_away m_answered m_unanswered m_saidWords m_isCalledAtSeven m_isAnsweredAtSeven m_seen m_weekAnswers m_weekHurt m_week m_row m_rowMany m_oneHas m_otherHas).take 0)) (wb := ((mC G q m_refused m_known m_setting m_kind m_figure m_tone m_word m_hours m_callers m_day m_tape m_letter m_letterAt m_told m_taped m_at m_statements m_kept m_hasImage m_isKeeping m_cursor m_answeredMany m_lastWord m_away m_answered m_unanswered m_saidWords m_isCalledAtSeven m_isAnsweredAtSeven m_seen m_weekAnswers m_weekHurt m_week m_row m_rowMany m_oneHas m_otherHas).drop 0)) rfl (rest := []) rfl rfl (Nat.le_of_ble_eq_true rfl) (fun H locs hw => ?_)
  have hw : Wx G A (mC G q m_refused m_known m_setting m_kind m_figure m_tone m_word m_hours m_callers m_day m_tape m_letter m_letterAt m_told m_taped m_at m_statements m_kept m_hasImage m_isKeeping m_cursor m_answeredMany m_lastWord m_away m_answered m_unanswered m_saidWords m_isCalledAtSeven m_isAnsweredAtSeven m_seen m_weekAnswers m_weekHurt m_week m_row m_rowMany m_oneHas m_otherHas) s H locs := hw
  refine lv_istore_n (lv' := [(2, .int (f_X4_bound v1 (0 : Int32) (255 : Int32))), (0, .ref (q 0)), (1, .int v1)]) hx hb dX4_letter_8 rfl hl (by decide) rfl (fun ls hl => ?_)
  refine lv_iload_n hx hb dX4_letter_9 rfl (lv_at hl 0 rfl) ?_
  refine lv_if_ne (tgt := 25) hx hb dX4_letter_10 (by decide) (fun hc7 => ?_) (fun hc7 => ?_)
  · have h := ifn hc7 h
    exact w_X4_letter_J25 K (lv_sub hl [1, 2, 0] rfl) hw h
  · have h := ifp hc7 h
    refine lv_aload_n hx hb dX4_letter_13 rfl (lv_at hl 1 rfl) ?_
    refine getX K hw inTX4 0 14 fl_X4_82 dX4_letter_14 rfl rfl (by decide) rfl rfl ?_
    refine lv_bipush (v := (96 : Int32)) hx hb dX4_letter_17 (by decide) ?_
    refine lv_icmp_ne (tgt := 25) hx hb dX4_letter_19 (by decide) (fun hc11 => ?_) (fun hc11 => ?_)
    · have h := ifn hc11 h
      exact w_X4_letter_J25 K (lv_sub hl [1, 2, 0] rfl) hw h
    · have h := ifp hc11 h
      refine lv_bipush (v := (-6 : Int32)) hx hb dX4_letter_22 (by decide) ?_
      refine lv_istore_n (lv' := [(2, .int (-6 : Int32)), (0, .ref (q 0)), (1, .int v1)]) hx hb dX4_letter_24 rfl hl (by decide) rfl (fun ls hl => ?_)
      exact w_X4_letter_J25 K (lv_sub hl [1, 2, 0] rfl) hw h
set_option maxHeartbeats 4000000 in
set_option maxRecDepth 100000 in
theorem c_X4_next (l : Launch) (G : GP) (q : Nat → Nat) (m_refused : Nat → Int32) (m_known : Nat → Int32) (m_setting : Nat → Int32) (m_kind : Nat → Int32) (m_figure : Nat → Int32) (m_tone : Nat → Int32) (m_word : Nat → Int32) (m_hours : Nat → Int32) (m_callers : Int32) (m_day : Int32) (m_tape : Nat → Int32) (m_letter : Nat → Int32) (m_letterAt : Nat → Int32) (m_told : Nat → Int32) (m_taped : Int32) (m_at : Int32) (m_statements : Int32) (m_kept : Nat → Int32) (m_hasImage : Int32) (m_isKeeping : Int32) (m_cursor : Int32) (m_answeredMany : Nat → Int32) (m_lastWord : Nat → Int32) (m_away : Int32) (m_answered : Int32) (m_unanswered : Int32) (m_saidWords : Int32) (m_isCalledAtSeven : Int32) (m_isAnsweredAtSeven : Int32) (m_seen : Nat → Int32) (m_weekAnswers : Int32) (m_weekHurt : Int32) (m_week : Nat → Int32) (m_row : Nat → Int32) (m_rowMany : Int32) (m_oneHas : Nat → Int32) (m_otherHas : Nat → Int32) {o : Int32} (h : f_X4_next m_tape m_taped m_at = some o) : CtI l yX4_next cX4_next 1 (some .int) ({ frames := 0, cells := 0, slots := 0, locals := 0 } : Room) G (mC G q m_refused m_known m_setting m_kind m_figure m_tone m_word m_hours m_callers m_day m_tape m_letter m_letterAt m_told m_taped m_at m_statements m_kept m_hasImage m_isKeeping m_cursor m_answeredMany m_lastWord m_away m_answered m_unanswered m_saidWords m_isCalledAtSeven m_isAnsweredAtSeven m_seen m_weekAnswers m_weekHurt m_week m_row m_rowMany m_oneHas m_otherHas) [.ref (q 0)] o (mC G q m_refused m_known m_setting m_kind m_figure m_tone m_word m_hours m_callers m_day m_tape m_letter m_letterAt m_told m_taped m_at m_statements m_kept m_hasImage m_isKeeping m_cursor m_answeredMany m_lastWord m_away m_answered m_unanswered m_saidWords m_isCalledAtSeven m_isAnsweredAtSeven m_seen m_weekAnswers m_weekHurt m_week m_row m_rowMany m_oneHas m_otherHas) := by
  refine CtI.of (by decide) (Nat.le_of_ble_eq_true rfl) ?_
  intro p e s m below meth c A ls K hl hw
  have hl : lv_has ls 1 [(0, .ref (q 0))] := hl
  generalize ([.ref (q 0)] : List Value).toArray = args at K ⊢
  have hx := K.1.1
  have hb := K.1.2.1
  unfold f_X4_next at h
  refine lv_aload_n hx hb dX4_next_0 rfl (lv_at hl 0 rfl) ?_
  refine getX K hw inTX4 0 15 fl_X4_89 dX4_next_1 rfl rfl (by decide) rfl rfl ?_
  refine lv_aload_n hx hb dX4_next_4 rfl (lv_at hl 0 rfl) ?_
  refine getX K hw inTX4 0 14 fl_X4_82 dX4_next_5 rfl rfl (by decide) rfl rfl ?_
  refine lv_icmp_ge (tgt := 23) hx hb dX4_next_8 (by decide) (fun hc2 => ?_) (fun hc2 => ?_)
  · have h := ifp hc2 h
    refine lv_iconst (v := (-1 : Int32)) hx hb dX4_next_23 (by decide) ?_
    have h := Option.some.inj h
    subst h
    exact retI K hw rfl dX4_next_24
  · have h := ifn hc2 h
    refine lv_aload_n hx hb dX4_next_11 rfl (lv_at hl 0 rfl) ?_
    refine getX K hw inTX4 0 10 fl_X4_34 dX4_next_12 rfl rfl (by decide) rfl rfl ?_
    refine lv_aload_n hx hb dX4_next_15 rfl (lv_at hl 0 rfl) ?_
    refine getX K hw inTX4 0 15 fl_X4_89 dX4_next_16 rfl rfl (by decide) rfl rfl ?_
    obtain ⟨hg3, h⟩ := gd h
    refine ialX K hw 9 (inB_in hg3) dX4_next_19 rfl ?_
    refine lv_goto (tgt := 24) hx hb dX4_next_20 (by decide) ?_
    have h := Option.some.inj h
    subst h
    exact retI K hw rfl dX4_next_24
set_option maxHeartbeats 4000000 in
set_option maxRecDepth 100000 in
theorem b_X4_readsDigits_L5 {l : Launch} {G : GP} {q : Nat → Nat} {p : Program} {e : Env} {s : State} {m : MethodId} {args : Array Value} {below : List Frame} {meth : Method} {c : Code} {A : Nat → Prop} {m_refused : Nat → Int32} {m_known : Nat → Int32} {m_setting : Nat → Int32} {m_kind : Nat → Int32} {m_figure : Nat → Int32} {m_tone : Nat → Int32} {m_word : Nat → Int32} {m_hours : Nat → Int32} {m_callers : Int32} {m_day : Int32} {m_tape : Nat → Int32} {m_letter : Nat → Int32} {m_letterAt : Nat → Int32} {m_told : Nat → Int32} {m_taped : Int32} {m_at : Int32} {m_statements : Int32} {m_kept : Nat → Int32} {m_hasImage : Int32} {m_isKeeping : Int32} {m_cursor : Int32} {m_answeredMany : Nat → Int32} {m_lastWord : Nat → Int32} {m_away : Int32} {m_answered : Int32} {m_unanswered : Int32} {m_saidWords : Int32} {m_isCalledAtSeven : Int32} {m_isAnsweredAtSeven : Int32} {m_seen : Nat → Int32} {m_weekAnswers : Int32} {m_weekHurt : Int32} {m_week : Nat → Int32} {m_row : Nat → Int32} {m_rowMany : Int32} {m_oneHas : Nat → Int32} {m_otherHas : Nat → Int32} {v1 : Int32} {v2 : Int32} {v3 : Int32} {v4 : Int32} {o : Int32 × (Nat → Int32) × Int32} (K : Cx p s m args meth c A G cX4_readsDigits 5 RX4 (some .boolean)) {H : Heap} {locs : List Loc} {ls : Array Slot} (hl : lv_has ls 5 [(0, .ref (q 0)), (1, .int v1), (2, .int v2), (3, .int v3), (4, .int v4)]) (hw : Wx G A (mC G q m_refused m_known m_setting m_kind m_figure m_tone m_word m_hours m_callers m_day m_tape m_letter m_letterAt m_told m_taped m_at m_statements m_kept m_hasImage m_isKeeping m_cursor m_answeredMany m_lastWord m_away m_answered m_unanswered m_saidWords m_isCalledAtSeven m_isAnsweredAtSeven m_seen m_weekAnswers m_weekHurt m_week m_row m_rowMany m_oneHas m_otherHas) s H locs) {y : (Int32 × Int32 × Int32) ⊕ (Int32 × (Nat → Int32) × Int32)} (h : f_X4_readsDigits_L5 v1 v2 m_tape m_told m_taped v3 v4 m_at = some y) (hk5 : ∀ (b : Int32 × Int32 × Int32) (H : Heap) (locs : List Loc) (ls : Array Slot), y = .inl b → lv_has ls 5 [(0, .ref (q 0)), (1, .int v1), (2, .int v2), (3, .int b.1), (4, .int b.2.1)] → Wx G A (mC G q m_refused m_known m_setting m_kind m_figure m_tone m_word m_hours m_callers m_day m_tape m_letter m_letterAt m_told m_taped b.2.2 m_statements m_kept m_hasImage m_isKeeping m_cursor m_answeredMany m_lastWord m_away m_answered m_unanswered m_saidWords m_isCalledAtSeven m_isAnsweredAtSeven m_seen m_weekAnswers m_weekHurt m_week m_row m_rowMany m_oneHas m_otherHas) s H locs → W p l e ({ frames := 1, cells := 0, slots := 0, locals := 22 } : Room) s m args below meth c H locs 0 0 (MQ below (QI G A (mC G q m_refused m_known m_setting m_kind m_figure m_tone m_word m_hours m_callers m_day m_tape m_letter m_letterAt o.2.1 m_taped o.2.2 m_statements m_kept m_hasImage m_isKeeping m_cursor m_answeredMany m_lastWord m_away m_answered m_unanswered m_saidWords m_isCalledAtSeven m_isAnsweredAtSeven m_seen m_weekAnswers m_weekHurt m_week m_row m_rowMany m_oneHas m_otherHas) o.1) args s 0 0 A) (F0 m 5 ls [])) (hr : ∀ r : Int32 × (Nat → Int32) × Int32, y = .inr r → r = o) : W p l e ({ frames := 1, cells := 0, slots := 0, locals := 22 } : Room) s m args below meth c H locs 0 0 (MQ below (QI G A (mC G q m_refused m_known m_setting m_kind m_figure m_tone m_word m_hours m_callers m_day m_tape m_letter m_letterAt o.2.1 m_taped o.2.2 m_statements m_kept m_hasImage m_isKeeping m_cursor m_answeredMany m_lastWord m_away m_answered m_unanswered m_saidWords m_isCalledAtSeven m_isAnsweredAtSeven m_seen m_weekAnswers m_weekHurt m_week m_row m_rowMany m_oneHas m_otherHas) o.1) args s 0 0 A) (F0 m 5 ls []) := by
  have hx := K.1.1
  have hb := K.1.2.1
  unfold f_X4_readsDigits_L5 at h
  refine lv_iload hx hb dX4_readsDigits_5 (lv_at hl 4 rfl) ?_
  refine lv_iload_n hx hb dX4_readsDigits_7 rfl (lv_at hl 2 rfl) ?_
  refine lv_icmp_ge (tgt := 56) hx hb dX4_readsDigits_8 (by decide) (fun hc9 => ?_) (fun hc9 => ?_)
  · have h := ifp hc9 h
    refine lv_aload_n hx hb dX4_readsDigits_56 rfl (lv_at hl 0 rfl) ?_
    refine getX K hw inTX4 0 13 fl_X4_43 dX4_readsDigits_57 rfl rfl (by decide) rfl rfl ?_
    refine lv_iload_n hx hb dX4_readsDigits_60 rfl (lv_at hl 1 rfl) ?_
    refine lv_iload_n hx hb dX4_readsDigits_61 rfl (lv_at hl 3 rfl) ?_
    obtain ⟨hg10, h⟩ := gd h
    refine iasX K hw 12 (inB_in hg10) dX4_readsDigits_62 rfl (fun H locs hw => ?_)
    have hw : Wx G A (mC G q m_refused m_known m_setting m_kind m_figure m_tone m_word m_hours m_callers m_day m_tape m_letter m_letterAt (upd m_told v1.toNatClampNeg v3) m_taped m_at m_statements m_kept m_hasImage m_isKeeping m_cursor m_answeredMany m_lastWord m_away m_answered m_unanswered m_saidWords m_isCalledAtSeven m_isAnsweredAtSeven m_seen m_weekAnswers m_weekHurt m_week m_row m_rowMany m_oneHas m_otherHas) s H locs := hw
    refine lv_iconst (v := (1 : Int32)) hx hb dX4_readsDigits_63 (by decide) ?_
    have ho := hr _ (Option.some.inj h).symm
    subst ho
    exact retZ K hw rfl rfl dX4_readsDigits_64
  · have h := ifn hc9 h
    refine lv_aload_n hx hb dX4_readsDigits_11 rfl (lv_at hl 0 rfl) ?_
    obtain ⟨z11, hz11, h⟩ := bd h
    refine callVI K (c_X4_next l G q m_refused m_known m_setting m_kind m_figure m_tone m_word m_hours m_callers m_day m_tape m_letter m_letterAt m_told m_taped m_at m_statements m_kept m_hasImage m_isKeeping m_cursor m_answeredMany m_lastWord m_away m_answered m_unanswered m_saidWords m_isCalledAtSeven m_isAnsweredAtSeven m_seen m_weekAnswers m_weekHurt m_week m_row m_rowMany m_oneHas m_otherHas hz11) mt_yX4_next lk_X4_92 ⟨rfl, rfl, Nat.le_of_ble_eq_true rfl, Nat.le_of_ble_eq_true rfl⟩ hw dX4_readsDigits_12 hl.1 ⟨Nat.zero_le _, Nat.zero_le _⟩ (wa := ((mC G q m_refused m_known m_setting m_kind m_figure m_tone m_word m_hours m_callers m_day m_tape m_letter m_letterAt m_told m_taped m_at m_statements m_kept m_hasImage m_isKeeping m_cursor m_answeredMany m_lastWord m_away m_answered m_unanswered m_saidWords m_isCalledAtSeven m_isAnsweredAtSeven m_seen m_weekAnswers m_weekHurt m_week m_row m_rowMany m_oneHas m_otherHas).take 0)) (wb := ((mC G q m_refused m_known m_setting m_kind m_figure m_tone m_word m_hours m_callers m_day m_tape m_letter m_letterAt m_told m_taped m_at m_statements m_kept m_hasImage m_isKeeping m_cursor m_answeredMany m_lastWord m_away m_answered m_unanswered m_saidWords m_isCalledAtSeven m_isAnsweredAtSeven m_seen m_weekAnswers m_weekHurt m_week m_row m_rowMany m_oneHas m_otherHas).drop 21)) rfl rfl rfl (rest := []) rfl rfl (Nat.le_of_ble_eq_true rfl) (fun H locs hw => ?_)
    have hw : Wx G A (mC G q m_refused m_known m_setting m_kind m_figure m_tone m_word m_hours m_callers m_day m_tape m_letter m_letterAt m_told m_taped m_at m_statements m_kept m_hasImage m_isKeeping m_cursor m_answeredMany m_lastWord m_away m_answered m_unanswered m_saidWords m_isCalledAtSeven m_isAnsweredAtSeven m_seen m_weekAnswers m_weekHurt m_week m_row m_rowMany m_oneHas m_otherHas) s H locs := hw
    refine lv_bipush (v := (48 : Int32)) hx hb dX4_readsDigits_15 (by decide) ?_
    refine lv_bipush (v := (57 : Int32)) hx hb dX4_readsDigits_17 (by decide) ?_
    refine callSI K (c_X4_isIn l G z11 (48 : Int32) (57 : Int32) rfl) mt_yX4_isIn lk_X4_74 ⟨rfl, rfl, Nat.le_of_ble_eq_true rfl, Nat.le_of_ble_eq_true rfl⟩ hw dX4_readsDigits_19 hl.1 ⟨Nat.zero_le _, Nat.zero_le _⟩ (wa := ((mC G q m_refused m_known m_setting m_kind m_figure m_tone m_word m_hours m_callers m_day m_tape m_letter m_letterAt m_told m_taped m_at m_statements m_kept m_hasImage m_isKeeping m_cursor m_answeredMany m_lastWord m_away m_answered m_unanswered m_saidWords m_isCalledAtSeven m_isAnsweredAtSeven m_seen m_weekAnswers m_weekHurt m_week m_row m_rowMany m_oneHas m_otherHas).take 0)) (wb := ((mC G q m_refused m_known m_setting m_kind m_figure m_tone m_word m_hours m_callers m_day m_tape m_letter m_letterAt m_told m_taped m_at m_statements m_kept m_hasImage m_isKeeping m_cursor m_answeredMany m_lastWord m_away m_answered m_unanswered m_saidWords m_isCalledAtSeven m_isAnsweredAtSeven m_seen m_weekAnswers m_weekHurt m_week m_row m_rowMany m_oneHas m_otherHas).drop 0)) rfl (rest := []) rfl rfl (Nat.le_of_ble_eq_true rfl) (fun H locs hw => ?_)
    have hw : Wx G A (mC G q m_refused m_known m_setting m_kind m_figure m_tone m_word m_hours m_callers m_day m_tape m_letter m_letterAt m_told m_taped m_at m_statements m_kept m_hasImage m_isKeeping m_cursor m_answeredMany m_lastWord m_away m_answered m_unanswered m_saidWords m_isCalledAtSeven m_isAnsweredAtSeven m_seen m_weekAnswers m_weekHurt m_week m_row m_rowMany m_oneHas m_otherHas) s H locs := hw
    refine lv_if_ne (tgt := 27) hx hb dX4_readsDigits_22 (by decide) (fun hc12 => ?_) (fun hc12 => ?_)
    · have h := ifn hc12 h
      refine lv_bipush (v := (10 : Int32)) hx hb dX4_readsDigits_27 (by decide) ?_
      refine lv_iload_n hx hb dX4_readsDigits_29 rfl (lv_at hl 3 rfl) ?_
      refine lv_imul hx hb dX4_readsDigits_30 ?_
      refine lv_aload_n hx hb dX4_readsDigits_31 rfl (lv_at hl 0 rfl) ?_
      obtain ⟨z13, hz13, h⟩ := bd h
      refine callVI K (c_X4_next l G q m_refused m_known m_setting m_kind m_figure m_tone m_word m_hours m_callers m_day m_tape m_letter m_letterAt m_told m_taped m_at m_statements m_kept m_hasImage m_isKeeping m_cursor m_answeredMany m_lastWord m_away m_answered m_unanswered m_saidWords m_isCalledAtSeven m_isAnsweredAtSeven m_seen m_weekAnswers m_weekHurt m_week m_row m_rowMany m_oneHas m_otherHas hz13) mt_yX4_next lk_X4_92 ⟨rfl, rfl, Nat.le_of_ble_eq_true rfl, Nat.le_of_ble_eq_true rfl⟩ hw dX4_readsDigits_32 hl.1 ⟨Nat.zero_le _, Nat.zero_le _⟩ (wa := ((mC G q m_refused m_known m_setting m_kind m_figure m_tone m_word m_hours m_callers m_day m_tape m_letter m_letterAt m_told m_taped m_at m_statements m_kept m_hasImage m_isKeeping m_cursor m_answeredMany m_lastWord m_away m_answered m_unanswered m_saidWords m_isCalledAtSeven m_isAnsweredAtSeven m_seen m_weekAnswers m_weekHurt m_week m_row m_rowMany m_oneHas m_otherHas).take 0)) (wb := ((mC G q m_refused m_known m_setting m_kind m_figure m_tone m_word m_hours m_callers m_day m_tape m_letter m_letterAt m_told m_taped m_at m_statements m_kept m_hasImage m_isKeeping m_cursor m_answeredMany m_lastWord m_away m_answered m_unanswered m_saidWords m_isCalledAtSeven m_isAnsweredAtSeven m_seen m_weekAnswers m_weekHurt m_week m_row m_rowMany m_oneHas m_otherHas).drop 21)) rfl rfl rfl (rest := [.int ((10 : Int32) * v3)]) rfl rfl (Nat.le_of_ble_eq_true rfl) (fun H locs hw => ?_)
      have hw : Wx G A (mC G q m_refused m_known m_setting m_kind m_figure m_tone m_word m_hours m_callers m_day m_tape m_letter m_letterAt m_told m_taped m_at m_statements m_kept m_hasImage m_isKeeping m_cursor m_answeredMany m_lastWord m_away m_answered m_unanswered m_saidWords m_isCalledAtSeven m_isAnsweredAtSeven m_seen m_weekAnswers m_weekHurt m_week m_row m_rowMany m_oneHas m_otherHas) s H locs := hw
      refine lv_iadd hx hb dX4_readsDigits_35 ?_
      refine lv_bipush (v := (48 : Int32)) hx hb dX4_readsDigits_36 (by decide) ?_
      refine lv_isub hx hb dX4_readsDigits_38 ?_
      refine lv_istore_n (lv' := [(3, .int ((((10 : Int32) * v3) + z13) - (48 : Int32))), (0, .ref (q 0)), (1, .int v1), (2, .int v2), (4, .int v4)]) hx hb dX4_readsDigits_39 rfl hl (by decide) rfl (fun ls hl => ?_)
      refine lv_aload_n hx hb dX4_readsDigits_40 rfl (lv_at hl 1 rfl) ?_
      refine lv_dup hx hb dX4_readsDigits_41 rfl ?_
      refine getX K hw inTX4 0 15 fl_X4_89 dX4_readsDigits_42 rfl rfl (by decide) rfl rfl ?_
      refine lv_iconst (v := (1 : Int32)) hx hb dX4_readsDigits_45 (by decide) ?_
      refine lv_iadd hx hb dX4_readsDigits_46 ?_
      refine putX K hw inTX4 tyX4_ok nmX4 0 15 fl_X4_89 dX4_readsDigits_47 rfl rfl (by decide) rfl rfl rfl rfl (Nat.le_of_ble_eq_true rfl) (fun H locs hw => ?_)
      have hw : Wx G A (mC G q m_refused m_known m_setting m_kind m_figure m_tone m_word m_hours m_callers m_day m_tape m_letter m_letterAt m_told m_taped (m_at + (1 : Int32)) m_statements m_kept m_hasImage m_isKeeping m_cursor m_answeredMany m_lastWord m_away m_answered m_unanswered m_saidWords m_isCalledAtSeven m_isAnsweredAtSeven m_seen m_weekAnswers m_weekHurt m_week m_row m_rowMany m_oneHas m_otherHas) s H locs := hw
      refine lv_iinc (v := (v4 + (1 : Int32))) (lv' := [(4, .int (v4 + (1 : Int32))), (3, .int ((((10 : Int32) * v3) + z13) - (48 : Int32))), (0, .ref (q 0)), (1, .int v1), (2, .int v2)]) hx hb dX4_readsDigits_50 hl (k := 4) rfl rfl (by decide) rfl (fun ls hl => ?_)
      refine lv_goto (tgt := 5) hx hb dX4_readsDigits_53 (by decide) ?_
      exact hk5 (((((10 : Int32) * v3) + z13) - (48 : Int32)), (v4 + (1 : Int32)), (m_at + (1 : Int32))) _ _ _ (Option.some.inj h).symm (lv_sub hl [2, 3, 4, 1, 0] rfl) hw
    · have h := ifp hc12 h
      refine lv_iconst (v := (0 : Int32)) hx hb dX4_readsDigits_25 (by decide) ?_
      have ho := hr _ (Option.some.inj h).symm
      subst ho
      exact retZ K hw rfl rfl dX4_readsDigits_26
set_option maxHeartbeats 4000000 in
set_option maxRecDepth 100000 in
theorem w_X4_readsDigits_L5 {l : Launch} {G : GP} {q : Nat → Nat} {p : Program} {e : Env} {s : State} {m : MethodId} {args : Array Value} {below : List Frame} {meth : Method} {c : Code} {A : Nat → Prop} {m_refused : Nat → Int32} {m_known : Nat → Int32} {m_setting : Nat → Int32} {m_kind : Nat → Int32} {m_figure : Nat → Int32} {m_tone : Nat → Int32} {m_word : Nat → Int32} {m_hours : Nat → Int32} {m_callers : Int32} {m_day : Int32} {m_tape : Nat → Int32} {m_letter : Nat → Int32} {m_letterAt : Nat → Int32} {m_told : Nat → Int32} {m_taped : Int32} {m_statements : Int32} {m_kept : Nat → Int32} {m_hasImage : Int32} {m_isKeeping : Int32} {m_cursor : Int32} {m_answeredMany : Nat → Int32} {m_lastWord : Nat → Int32} {m_away : Int32} {m_answered : Int32} {m_unanswered : Int32} {m_saidWords : Int32} {m_isCalledAtSeven : Int32} {m_isAnsweredAtSeven : Int32} {m_seen : Nat → Int32} {m_weekAnswers : Int32} {m_weekHurt : Int32} {m_week : Nat → Int32} {m_row : Nat → Int32} {m_rowMany : Int32} {m_oneHas : Nat → Int32} {m_otherHas : Nat → Int32} {v1 : Int32} {v2 : Int32} {o : Int32 × (Nat → Int32) × Int32} (K : Cx p s m args meth c A G cX4_readsDigits 5 RX4 (some .boolean)) : ∀ (fu : Nat) (v3 : Int32) (v4 : Int32) (m_at : Int32) (H : Heap) (locs : List Loc) (ls : Array Slot), lv_has ls 5 [(0, .ref (q 0)), (1, .int v1), (2, .int v2), (3, .int v3), (4, .int v4)] → Wx G A (mC G q m_refused m_known m_setting m_kind m_figure m_tone m_word m_hours m_callers m_day m_tape m_letter m_letterAt m_told m_taped m_at m_statements m_kept m_hasImage m_isKeeping m_cursor m_answeredMany m_lastWord m_away m_answered m_unanswered m_saidWords m_isCalledAtSeven m_isAnsweredAtSeven m_seen m_weekAnswers m_weekHurt m_week m_row m_rowMany m_oneHas m_otherHas) s H locs → ∀ (x : Int32 × (Nat → Int32) × Int32), lp (fun z : Int32 × Int32 × Int32 => f_X4_readsDigits_L5 v1 v2 m_tape m_told m_taped (z.1) (z.2.1) (z.2.2)) fu (v3, v4, m_at) = some x → (x = o) → W p l e ({ frames := 1, cells := 0, slots := 0, locals := 22 } : Room) s m args below meth c H locs 0 0 (MQ below (QI G A (mC G q m_refused m_known m_setting m_kind m_figure m_tone m_word m_hours m_callers m_day m_tape m_letter m_letterAt o.2.1 m_taped o.2.2 m_statements m_kept m_hasImage m_isKeeping m_cursor m_answeredMany m_lastWord m_away m_answered m_unanswered m_saidWords m_isCalledAtSeven m_isAnsweredAtSeven m_seen m_weekAnswers m_weekHurt m_week m_row m_rowMany m_oneHas m_otherHas) o.1) args s 0 0 A) (F0 m 5 ls []) := by
  intro fu
  induction fu with
  | zero => intro v3 v4 m_at H locs ls hl hw x h; exact absurd (show none = some x from h) (by simp)
  | succ fu ih =>
    intro v3 v4 m_at H locs ls hl hw x h hr
    obtain ⟨y, hy, hc⟩ := lp_s h
    exact b_X4_readsDigits_L5 K hl hw hy (fun b H locs ls hE hl hw => ih b.1 b.2.1 b.2.2 H locs ls hl hw _ (lp_b hc hE) hr) (fun r hE => (lp_x hc hE).symm.trans hr)
set_option maxHeartbeats 4000000 in
set_option maxRecDepth 100000 in
theorem c_X4_readsDigits (l : Launch) (G : GP) (q : Nat → Nat) (m_refused : Nat → Int32) (m_known : Nat → Int32) (m_setting : Nat → Int32) (m_kind : Nat → Int32) (m_figure : Nat → Int32) (m_tone : Nat → Int32) (m_word : Nat → Int32) (m_hours : Nat → Int32) (m_callers : Int32) (m_day : Int32) (m_tape : Nat → Int32) (m_letter : Nat → Int32) (m_letterAt : Nat → Int32) (m_told : Nat → Int32) (m_taped : Int32) (m_at : Int32) (m_statements : Int32) (m_kept : Nat → Int32) (m_hasImage : Int32) (m_isKeeping : Int32) (m_cursor : Int32) (m_answeredMany : Nat → Int32) (m_lastWord : Nat → Int32) (m_away : Int32) (m_answered : Int32) (m_unanswered : Int32) (m_saidWords : Int32) (m_isCalledAtSeven : Int32) (m_isAnsweredAtSeven : Int32) (m_seen : Nat → Int32) (m_weekAnswers : Int32) (m_weekHurt : Int32) (m_week : Nat → Int32) (m_row : Nat → Int32) (m_rowMany : Int32) (m_oneHas : Nat → Int32) (m_otherHas : Nat → Int32) (v1 : Int32) (v2 : Int32) {o : Int32 × (Nat → Int32) × Int32} (h : f_X4_readsDigits m_tape m_told m_taped m_at v1 v2 = some o) : CtI l yX4_readsDigits cX4_readsDigits 5 (some .boolean) ({ frames := 1, cells := 0, slots := 0, locals := 22 } : Room) G (mC G q m_refused m_known m_setting m_kind m_figure m_tone m_word m_hours m_callers m_day m_tape m_letter m_letterAt m_told m_taped m_at m_statements m_kept m_hasImage m_isKeeping m_cursor m_answeredMany m_lastWord m_away m_answered m_unanswered m_saidWords m_isCalledAtSeven m_isAnsweredAtSeven m_seen m_weekAnswers m_weekHurt m_week m_row m_rowMany m_oneHas m_otherHas) [.ref (q 0), .int v1, .int v2] o.1 (mC G q m_refused m_known m_setting m_kind m_figure m_tone m_word m_hours m_callers m_day m_tape m_letter m_letterAt o.2.1 m_taped o.2.2 m_statements m_kept m_hasImage m_isKeeping m_cursor m_answeredMany m_lastWord m_away m_answered m_unanswered m_saidWords m_isCalledAtSeven m_isAnsweredAtSeven m_seen m_weekAnswers m_weekHurt m_week m_row m_rowMany m_oneHas m_otherHas) := by
  refine CtI.of (by decide) (Nat.le_of_ble_eq_true rfl) ?_
  intro p e s m below meth c A ls K hl hw
  have hl : lv_has ls 5 [(0, .ref (q 0)), (1, .int v1), (2, .int v2)] := hl
  generalize ([.ref (q 0), .int v1, .int v2] : List Value).toArray = args at K ⊢
  have hx := K.1.1
  have hb := K.1.2.1
  unfold f_X4_readsDigits at h
  refine lv_iconst (v := (0 : Int32)) hx hb dX4_readsDigits_0 (by decide) ?_
  refine lv_istore_n (lv' := [(3, .int (0 : Int32)), (0, .ref (q 0)), (1, .int v1), (2, .int v2)]) hx hb dX4_readsDigits_1 rfl hl (by decide) rfl (fun ls hl => ?_)
  refine lv_iconst (v := (0 : Int32)) hx hb dX4_readsDigits_2 (by decide) ?_
  refine lv_istore (lv' := [(4, .int (0 : Int32)), (3, .int (0 : Int32)), (0, .ref (q 0)), (1, .int v1), (2, .int v2)]) hx hb dX4_readsDigits_3 hl (by decide) rfl (fun ls hl => ?_)
  exact w_X4_readsDigits_L5 K 1000 (0 : Int32) (0 : Int32) m_at _ _ _ (lv_sub hl [2, 3, 4, 1, 0] rfl) hw _ h rfl
set_option maxHeartbeats 4000000 in
set_option maxRecDepth 100000 in
theorem c_X4_kindOf (l : Launch) (G : GP) (v0 : Int32) {o : Int32} (h : f_X4_kindOf v0 = o) : CtI l yX4_kindOf cX4_kindOf 1 (some .int) ({ frames := 0, cells := 0, slots := 0, locals := 0 } : Room) G ([] : va_W) [.int v0] o ([] : va_W) := by
  refine CtI.of (by decide) (Nat.le_of_ble_eq_true rfl) ?_
  intro p e s m below meth c A ls K hl hw
  have hl : lv_has ls 1 [(0, .int v0)] := hl
  generalize ([.int v0] : List Value).toArray = args at K ⊢
  have hx := K.1.1
  have hb := K.1.2.1
  unfold f_X4_kindOf at h
  refine lv_iload_n hx hb dX4_kindOf_0 rfl (lv_at hl 0 rfl) ?_
  by_cases hs1 : v0 = (99 : Int32)
  · have h := ifp hs1 h
    refine lv_lookup (off := 59) (tgt := 60) hx hb dX4_kindOf_1 (by decide) (by rw [hs1]; rfl) (by decide) ?_
    refine lv_iconst (v := (0 : Int32)) hx hb dX4_kindOf_60 (by decide) ?_
    subst h
    exact retI K hw rfl dX4_kindOf_61
  have h := ifn hs1 h
  by_cases hs2 : v0 = (103 : Int32)
  · have h := ifp hs2 h
    refine lv_lookup (off := 69) (tgt := 70) hx hb dX4_kindOf_1 (by decide) (by rw [hs2]; rfl) (by decide) ?_
    refine lv_iconst (v := (5 : Int32)) hx hb dX4_kindOf_70 (by decide) ?_
    subst h
    exact retI K hw rfl dX4_kindOf_71
  have h := ifn hs2 h
  by_cases hs3 : v0 = (104 : Int32)
  · have h := ifp hs3 h
    refine lv_lookup (off := 61) (tgt := 62) hx hb dX4_kindOf_1 (by decide) (by rw [hs3]; rfl) (by decide) ?_
    refine lv_iconst (v := (1 : Int32)) hx hb dX4_kindOf_62 (by decide) ?_
    subst h
    exact retI K hw rfl dX4_kindOf_63
  have h := ifn hs3 h
  by_cases hs4 : v0 = (115 : Int32)
  · have h := ifp hs4 h
    refine lv_lookup (off := 67) (tgt := 68) hx hb dX4_kindOf_1 (by decide) (by rw [hs4]; rfl) (by decide) ?_
    refine lv_iconst (v := (4 : Int32)) hx hb dX4_kindOf_68 (by decide) ?_
    subst h
    exact retI K hw rfl dX4_kindOf_69
  have h := ifn hs4 h
  by_cases hs5 : v0 = (116 : Int32)
  · have h := ifp hs5 h
    refine lv_lookup (off := 63) (tgt := 64) hx hb dX4_kindOf_1 (by decide) (by rw [hs5]; rfl) (by decide) ?_
    refine lv_iconst (v := (2 : Int32)) hx hb dX4_kindOf_64 (by decide) ?_
    subst h
    exact retI K hw rfl dX4_kindOf_65
  have h := ifn hs5 h
  by_cases hs6 : v0 = (119 : Int32)
  · have h := ifp hs6 h
    refine lv_lookup (off := 65) (tgt := 66) hx hb dX4_kindOf_1 (by decide) (by rw [hs6]; rfl) (by decide) ?_
    refine lv_iconst (v := (3 : Int32)) hx hb dX4_kindOf_66 (by decide) ?_
    subst h
    exact retI K hw rfl dX4_kindOf_67
  have h := ifn hs6 h
  refine lv_lookup (off := 71) (tgt := 72) hx hb dX4_kindOf_1 (by decide) ((lv_osw hs1 (by decide)).trans ((lv_osw hs2 (by decide)).trans ((lv_osw hs3 (by decide)).trans ((lv_osw hs4 (by decide)).trans ((lv_osw hs5 (by decide)).trans ((lv_osw hs6 (by decide)).trans (rfl))))))) (by decide) ?_
  refine lv_iconst (v := (-1 : Int32)) hx hb dX4_kindOf_72 (by decide) ?_
  subst h
  exact retI K hw rfl dX4_kindOf_73
set_option maxHeartbeats 4000000 in
set_option maxRecDepth 100000 in
theorem c_X4_readsCaller (l : Launch) (G : GP) (q : Nat → Nat) (m_refused : Nat → Int32) (m_known : Nat → Int32) (m_setting : Nat → Int32) (m_kind : Nat → Int32) (m_figure : Nat → Int32) (m_tone : Nat → Int32) (m_word : Nat → Int32) (m_hours : Nat → Int32) (m_callers : Int32) (m_day : Int32) (m_tape : Nat → Int32) (m_letter : Nat → Int32) (m_letterAt : Nat → Int32) (m_told : Nat → Int32) (m_taped : Int32) (m_at : Int32) (m_statements : Int32) (m_kept : Nat → Int32) (m_hasImage : Int32) (m_isKeeping : Int32) (m_cursor : Int32) (m_answeredMany : Nat → Int32) (m_lastWord : Nat → Int32) (m_away : Int32) (m_answered : Int32) (m_unanswered : Int32) (m_saidWords : Int32) (m_isCalledAtSeven : Int32) (m_isAnsweredAtSeven : Int32) (m_seen : Nat → Int32) (m_weekAnswers : Int32) (m_weekHurt : Int32) (m_week : Nat → Int32) (m_row : Nat → Int32) (m_rowMany : Int32) (m_oneHas : Nat → Int32) (m_otherHas : Nat → Int32) (v1 : Int32) {o : Int32 × (Nat → Int32) × Int32} (h : f_X4_readsCaller m_tape m_told m_taped m_at v1 = some o) : CtI l yX4_readsCaller cX4_readsCaller 2 (some .boolean) ({ frames := 2, cells := 0, slots := 0, locals := 46 } : Room) G (mC G q m_refused m_known m_setting m_kind m_figure m_tone m_word m_hours m_callers m_day m_tape m_letter m_letterAt m_told m_taped m_at m_statements m_kept m_hasImage m_isKeeping m_cursor m_answeredMany m_lastWord m_away m_answered m_unanswered m_saidWords m_isCalledAtSeven m_isAnsweredAtSeven m_seen m_weekAnswers m_weekHurt m_week m_row m_rowMany m_oneHas m_otherHas) [.ref (q 0), .int v1] o.1 (mC G q m_refused m_known m_setting m_kind m_figure m_tone m_word m_hours m_callers m_day m_tape m_letter m_letterAt o.2.1 m_taped o.2.2 m_statements m_kept m_hasImage m_isKeeping m_cursor m_answeredMany m_lastWord m_away m_answered m_unanswered m_saidWords m_isCalledAtSeven m_isAnsweredAtSeven m_seen m_weekAnswers m_weekHurt m_week m_row m_rowMany m_oneHas m_otherHas) := by
  refine CtI.of (by decide) (Nat.le_of_ble_eq_true rfl) ?_
  intro p e s m below meth c A ls K hl hw
  have hl : lv_has ls 2 [(0, .ref (q 0)), (1, .int v1)] := hl
  generalize ([.ref (q 0), .int v1] : List Value).toArray = args at K ⊢
  have hx := K.1.1
  have hb := K.1.2.1
  unfold f_X4_readsCaller at h
  refine lv_aload_n hx hb dX4_readsCaller_0 rfl (lv_at hl 0 rfl) ?_
  refine getX K hw inTX4 0 13 fl_X4_43 dX4_readsCaller_1 rfl rfl (by decide) rfl rfl ?_
  refine lv_iload_n hx hb dX4_readsCaller_4 rfl (lv_at hl 1 rfl) ?_
  refine lv_aload_n hx hb dX4_readsCaller_5 rfl (lv_at hl 0 rfl) ?_
  obtain ⟨z8, hz8, h⟩ := bd h
  refine callVI K (c_X4_next l G q m_refused m_known m_setting m_kind m_figure m_tone m_word m_hours m_callers m_day m_tape m_letter m_letterAt m_told m_taped m_at m_statements m_kept m_hasImage m_isKeeping m_cursor m_answeredMany m_lastWord m_away m_answered m_unanswered m_saidWords m_isCalledAtSeven m_isAnsweredAtSeven m_seen m_weekAnswers m_weekHurt m_week m_row m_rowMany m_oneHas m_otherHas hz8) mt_yX4_next lk_X4_92 ⟨rfl, rfl, Nat.le_of_ble_eq_true rfl, Nat.le_of_ble_eq_true rfl⟩ hw dX4_readsCaller_6 hl.1 ⟨Nat.zero_le _, Nat.zero_le _⟩ (wa := ((mC G q m_refused m_known m_setting m_kind m_figure m_tone m_word m_hours m_callers m_day m_tape m_letter m_letterAt m_told m_taped m_at m_statements m_kept m_hasImage m_isKeeping m_cursor m_answeredMany m_lastWord m_away m_answered m_unanswered m_saidWords m_isCalledAtSeven m_isAnsweredAtSeven m_seen m_weekAnswers m_weekHurt m_week m_row m_rowMany m_oneHas m_otherHas).take 0)) (wb := ((mC G q m_refused m_known m_setting m_kind m_figure m_tone m_word m_hours m_callers m_day m_tape m_letter m_letterAt m_told m_taped m_at m_statements m_kept m_hasImage m_isKeeping m_cursor m_answeredMany m_lastWord m_away m_answered m_unanswered m_saidWords m_isCalledAtSeven m_isAnsweredAtSeven m_seen m_weekAnswers m_weekHurt m_week m_row m_rowMany m_oneHas m_otherHas).drop 21)) rfl rfl rfl (rest := [.int v1, .ref (q 12)]) rfl rfl (Nat.le_of_ble_eq_true rfl) (fun H locs hw => ?_)
  have hw : Wx G A (mC G q m_refused m_known m_setting m_kind m_figure m_tone m_word m_hours m_callers m_day m_tape m_letter m_letterAt m_told m_taped m_at m_statements m_kept m_hasImage m_isKeeping m_cursor m_answeredMany m_lastWord m_away m_answered m_unanswered m_saidWords m_isCalledAtSeven m_isAnsweredAtSeven m_seen m_weekAnswers m_weekHurt m_week m_row m_rowMany m_oneHas m_otherHas) s H locs := hw
  refine callSI K (c_X4_kindOf l G z8 rfl) mt_yX4_kindOf lk_X4_96 ⟨rfl, rfl, Nat.le_of_ble_eq_true rfl, Nat.le_of_ble_eq_true rfl⟩ hw dX4_readsCaller_9 hl.1 ⟨Nat.zero_le _, Nat.zero_le _⟩ (wa := ((mC G q m_refused m_known m_setting m_kind m_figure m_tone m_word m_hours m_callers m_day m_tape m_letter m_letterAt m_told m_taped m_at m_statements m_kept m_hasImage m_isKeeping m_cursor m_answeredMany m_lastWord m_away m_answered m_unanswered m_saidWords m_isCalledAtSeven m_isAnsweredAtSeven m_seen m_weekAnswers m_weekHurt m_week m_row m_rowMany m_oneHas m_otherHas).take 0)) (wb := ((mC G q m_refused m_known m_setting m_kind m_figure m_tone m_word m_hours m_callers m_day m_tape m_letter m_letterAt m_told m_taped m_at m_statements m_kept m_hasImage m_isKeeping m_cursor m_answeredMany m_lastWord m_away m_answered m_unanswered m_saidWords m_isCalledAtSeven m_isAnsweredAtSeven m_seen m_weekAnswers m_weekHurt m_week m_row m_rowMany m_oneHas m_otherHas).drop 0)) rfl (rest := [.int v1, .ref (q 12)]) rfl rfl (Nat.le_of_ble_eq_true rfl) (fun H locs hw => ?_)
  have hw : Wx G A (mC G q m_refused m_known m_setting m_kind m_figure m_tone m_word m_hours m_callers m_day m_tape m_letter m_letterAt m_told m_taped m_at m_statements m_kept m_hasImage m_isKeeping m_cursor m_answeredMany m_lastWord m_away m_answered m_unanswered m_saidWords m_isCalledAtSeven m_isAnsweredAtSeven m_seen m_weekAnswers m_weekHurt m_week m_row m_rowMany m_oneHas m_otherHas) s H locs := hw
  obtain ⟨hg9, h⟩ := gd h
  refine iasX K hw 12 (inB_in hg9) dX4_readsCaller_12 rfl (fun H locs hw => ?_)
  have hw : Wx G A (mC G q m_refused m_known m_setting m_kind m_figure m_tone m_word m_hours m_callers m_day m_tape m_letter m_letterAt (upd m_told v1.toNatClampNeg (f_X4_kindOf z8)) m_taped m_at m_statements m_kept m_hasImage m_isKeeping m_cursor m_answeredMany m_lastWord m_away m_answered m_unanswered m_saidWords m_isCalledAtSeven m_isAnsweredAtSeven m_seen m_weekAnswers m_weekHurt m_week m_row m_rowMany m_oneHas m_otherHas) s H locs := hw
  refine lv_aload_n hx hb dX4_readsCaller_13 rfl (lv_at hl 0 rfl) ?_
  refine getX K hw inTX4 0 13 fl_X4_43 dX4_readsCaller_14 rfl rfl (by decide) rfl rfl ?_
  refine lv_iload_n hx hb dX4_readsCaller_17 rfl (lv_at hl 1 rfl) ?_
  obtain ⟨hg10, h⟩ := gd h
  refine ialX K hw 12 (inB_in hg10) dX4_readsCaller_18 rfl ?_
  refine lv_if_ge (tgt := 24) hx hb dX4_readsCaller_19 (by decide) (fun hc11 => ?_) (fun hc11 => ?_)
  · have h := ifp hc11 h
    refine lv_aload_n hx hb dX4_readsCaller_24 rfl (lv_at hl 0 rfl) ?_
    refine lv_dup hx hb dX4_readsCaller_25 rfl ?_
    refine getX K hw inTX4 0 15 fl_X4_89 dX4_readsCaller_26 rfl rfl (by decide) rfl rfl ?_
    refine lv_iconst (v := (1 : Int32)) hx hb dX4_readsCaller_29 (by decide) ?_
    refine lv_iadd hx hb dX4_readsCaller_30 ?_
    refine putX K hw inTX4 tyX4_ok nmX4 0 15 fl_X4_89 dX4_readsCaller_31 rfl rfl (by decide) rfl rfl rfl rfl (Nat.le_of_ble_eq_true rfl) (fun H locs hw => ?_)
    have hw : Wx G A (mC G q m_refused m_known m_setting m_kind m_figure m_tone m_word m_hours m_callers m_day m_tape m_letter m_letterAt (upd m_told v1.toNatClampNeg (f_X4_kindOf z8)) m_taped (m_at + (1 : Int32)) m_statements m_kept m_hasImage m_isKeeping m_cursor m_answeredMany m_lastWord m_away m_answered m_unanswered m_saidWords m_isCalledAtSeven m_isAnsweredAtSeven m_seen m_weekAnswers m_weekHurt m_week m_row m_rowMany m_oneHas m_otherHas) s H locs := hw
    refine lv_aload_n hx hb dX4_readsCaller_34 rfl (lv_at hl 0 rfl) ?_
    refine lv_iload_n hx hb dX4_readsCaller_35 rfl (lv_at hl 1 rfl) ?_
    refine lv_iconst (v := (1 : Int32)) hx hb dX4_readsCaller_36 (by decide) ?_
    refine lv_iadd hx hb dX4_readsCaller_37 ?_
    refine lv_iconst (v := (1 : Int32)) hx hb dX4_readsCaller_38 (by decide) ?_
    obtain ⟨z12, hz12, h⟩ := bd h
    refine callVI K (c_X4_readsDigits l G q m_refused m_known m_setting m_kind m_figure m_tone m_word m_hours m_callers m_day m_tape m_letter m_letterAt (upd m_told v1.toNatClampNeg (f_X4_kindOf z8)) m_taped (m_at + (1 : Int32)) m_statements m_kept m_hasImage m_isKeeping m_cursor m_answeredMany m_lastWord m_away m_answered m_unanswered m_saidWords m_isCalledAtSeven m_isAnsweredAtSeven m_seen m_weekAnswers m_weekHurt m_week m_row m_rowMany m_oneHas m_otherHas (v1 + (1 : Int32)) (1 : Int32) hz12) mt_yX4_readsDigits lk_X4_99 ⟨rfl, rfl, Nat.le_of_ble_eq_true rfl, Nat.le_of_ble_eq_true rfl⟩ hw dX4_readsCaller_39 hl.1 ⟨Nat.zero_le _, Nat.zero_le _⟩ (wa := ((mC G q m_refused m_known m_setting m_kind m_figure m_tone m_word m_hours m_callers m_day m_tape m_letter m_letterAt (upd m_told v1.toNatClampNeg (f_X4_kindOf z8)) m_taped (m_at + (1 : Int32)) m_statements m_kept m_hasImage m_isKeeping m_cursor m_answeredMany m_lastWord m_away m_answered m_unanswered m_saidWords m_isCalledAtSeven m_isAnsweredAtSeven m_seen m_weekAnswers m_weekHurt m_week m_row m_rowMany m_oneHas m_otherHas).take 0)) (wb := ((mC G q m_refused m_known m_setting m_kind m_figure m_tone m_word m_hours m_callers m_day m_tape m_letter m_letterAt (upd m_told v1.toNatClampNeg (f_X4_kindOf z8)) m_taped (m_at + (1 : Int32)) m_statements m_kept m_hasImage m_isKeeping m_cursor m_answeredMany m_lastWord m_away m_answered m_unanswered m_saidWords m_isCalledAtSeven m_isAnsweredAtSeven m_seen m_weekAnswers m_weekHurt m_week m_row m_rowMany m_oneHas m_otherHas).drop 21)) rfl rfl rfl (rest := []) rfl rfl (Nat.le_of_ble_eq_true rfl) (fun H locs hw => ?_)
    have hw : Wx G A (mC G q m_refused m_known m_setting m_kind m_figure m_tone m_word m_hours m_callers m_day m_tape m_letter m_letterAt z12.2.1 m_taped z12.2.2 m_statements m_kept m_hasImage m_isKeeping m_cursor m_answeredMany m_lastWord m_away m_answered m_unanswered m_saidWords m_isCalledAtSeven m_isAnsweredAtSeven m_seen m_weekAnswers m_weekHurt m_week m_row m_rowMany m_oneHas m_otherHas) s H locs := hw
    refine lv_if_eq (tgt := 82) hx hb dX4_readsCaller_42 (by decide) (fun hc13 => ?_) (fun hc13 => ?_)
    · have h := ifp hc13 h
      refine lv_iconst (v := (0 : Int32)) hx hb dX4_readsCaller_82 (by decide) ?_
      have h := Option.some.inj h
      subst h
      exact retZ K hw rfl rfl dX4_readsCaller_83
    · have h := ifn hc13 h
      refine lv_aload_n hx hb dX4_readsCaller_45 rfl (lv_at hl 0 rfl) ?_
      refine lv_iload_n hx hb dX4_readsCaller_46 rfl (lv_at hl 1 rfl) ?_
      refine lv_iconst (v := (2 : Int32)) hx hb dX4_readsCaller_47 (by decide) ?_
      refine lv_iadd hx hb dX4_readsCaller_48 ?_
      refine lv_iconst (v := (1 : Int32)) hx hb dX4_readsCaller_49 (by decide) ?_
      obtain ⟨z14, hz14, h⟩ := bd h
      refine callVI K (c_X4_readsDigits l G q m_refused m_known m_setting m_kind m_figure m_tone m_word m_hours m_callers m_day m_tape m_letter m_letterAt z12.2.1 m_taped z12.2.2 m_statements m_kept m_hasImage m_isKeeping m_cursor m_answeredMany m_lastWord m_away m_answered m_unanswered m_saidWords m_isCalledAtSeven m_isAnsweredAtSeven m_seen m_weekAnswers m_weekHurt m_week m_row m_rowMany m_oneHas m_otherHas (v1 + (2 : Int32)) (1 : Int32) hz14) mt_yX4_readsDigits lk_X4_99 ⟨rfl, rfl, Nat.le_of_ble_eq_true rfl, Nat.le_of_ble_eq_true rfl⟩ hw dX4_readsCaller_50 hl.1 ⟨Nat.zero_le _, Nat.zero_le _⟩ (wa := ((mC G q m_refused m_known m_setting m_kind m_figure m_tone m_word m_hours m_callers m_day m_tape m_letter m_letterAt z12.2.1 m_taped z12.2.2 m_statements m_kept m_hasImage m_isKeeping m_cursor m_answeredMany m_lastWord m_away m_answered m_unanswered m_saidWords m_isCalledAtSeven m_isAnsweredAtSeven m_seen m_weekAnswers m_weekHurt m_week m_row m_rowMany m_oneHas m_otherHas).take 0)) (wb := ((mC G q m_refused m_known m_setting m_kind m_figure m_tone m_word m_hours m_callers m_day m_tape m_letter m_letterAt z12.2.1 m_taped z12.2.2 m_statements m_kept m_hasImage m_isKeeping m_cursor m_answeredMany m_lastWord m_away m_answered m_unanswered m_saidWords m_isCalledAtSeven m_isAnsweredAtSeven m_seen m_weekAnswers m_weekHurt m_week m_row m_rowMany m_oneHas m_otherHas).drop 21)) rfl rfl rfl (rest := []) rfl rfl (Nat.le_of_ble_eq_true rfl) (fun H locs hw => ?_)
      have hw : Wx G A (mC G q m_refused m_known m_setting m_kind m_figure m_tone m_word m_hours m_callers m_day m_tape m_letter m_letterAt z14.2.1 m_taped z14.2.2 m_statements m_kept m_hasImage m_isKeeping m_cursor m_answeredMany m_lastWord m_away m_answered m_unanswered m_saidWords m_isCalledAtSeven m_isAnsweredAtSeven m_seen m_weekAnswers m_weekHurt m_week m_row m_rowMany m_oneHas m_otherHas) s H locs := hw
      refine lv_if_eq (tgt := 82) hx hb dX4_readsCaller_53 (by decide) (fun hc15 => ?_) (fun hc15 => ?_)
      · have h := ifp hc15 h
        refine lv_iconst (v := (0 : Int32)) hx hb dX4_readsCaller_82 (by decide) ?_
        have h := Option.some.inj h
        subst h
        exact retZ K hw rfl rfl dX4_readsCaller_83
      · have h := ifn hc15 h
        refine lv_aload_n hx hb dX4_readsCaller_56 rfl (lv_at hl 0 rfl) ?_
        refine lv_iload_n hx hb dX4_readsCaller_57 rfl (lv_at hl 1 rfl) ?_
        refine lv_iconst (v := (3 : Int32)) hx hb dX4_readsCaller_58 (by decide) ?_
        refine lv_iadd hx hb dX4_readsCaller_59 ?_
        refine lv_iconst (v := (1 : Int32)) hx hb dX4_readsCaller_60 (by decide) ?_
        obtain ⟨z16, hz16, h⟩ := bd h
        refine callVI K (c_X4_readsDigits l G q m_refused m_known m_setting m_kind m_figure m_tone m_word m_hours m_callers m_day m_tape m_letter m_letterAt z14.2.1 m_taped z14.2.2 m_statements m_kept m_hasImage m_isKeeping m_cursor m_answeredMany m_lastWord m_away m_answered m_unanswered m_saidWords m_isCalledAtSeven m_isAnsweredAtSeven m_seen m_weekAnswers m_weekHurt m_week m_row m_rowMany m_oneHas m_otherHas (v1 + (3 : Int32)) (1 : Int32) hz16) mt_yX4_readsDigits lk_X4_99 ⟨rfl, rfl, Nat.le_of_ble_eq_true rfl, Nat.le_of_ble_eq_true rfl⟩ hw dX4_readsCaller_61 hl.1 ⟨Nat.zero_le _, Nat.zero_le _⟩ (wa := ((mC G q m_refused m_known m_setting m_kind m_figure m_tone m_word m_hours m_callers m_day m_tape m_letter m_letterAt z14.2.1 m_taped z14.2.2 m_statements m_kept m_hasImage m_isKeeping m_cursor m_answeredMany m_lastWord m_away m_answered m_unanswered m_saidWords m_isCalledAtSeven m_isAnsweredAtSeven m_seen m_weekAnswers m_weekHurt m_week m_row m_rowMany m_oneHas m_otherHas).take 0)) (wb := ((mC G q m_refused m_known m_setting m_kind m_figure m_tone m_word m_hours m_callers m_day m_tape m_letter m_letterAt z14.2.1 m_taped z14.2.2 m_statements m_kept m_hasImage m_isKeeping m_cursor m_answeredMany m_lastWord m_away m_answered m_unanswered m_saidWords m_isCalledAtSeven m_isAnsweredAtSeven m_seen m_weekAnswers m_weekHurt m_week m_row m_rowMany m_oneHas m_otherHas).drop 21)) rfl rfl rfl (rest := []) rfl rfl (Nat.le_of_ble_eq_true rfl) (fun H locs hw => ?_)
        have hw : Wx G A (mC G q m_refused m_known m_setting m_kind m_figure m_tone m_word m_hours m_callers m_day m_tape m_letter m_letterAt z16.2.1 m_taped z16.2.2 m_statements m_kept m_hasImage m_isKeeping m_cursor m_answeredMany m_lastWord m_away m_answered m_unanswered m_saidWords m_isCalledAtSeven m_isAnsweredAtSeven m_seen m_weekAnswers m_weekHurt m_week m_row m_rowMany m_oneHas m_otherHas) s H locs := hw
        refine lv_if_eq (tgt := 82) hx hb dX4_readsCaller_64 (by decide) (fun hc17 => ?_) (fun hc17 => ?_)
        · have h := ifp hc17 h
          refine lv_iconst (v := (0 : Int32)) hx hb dX4_readsCaller_82 (by decide) ?_
          have h := Option.some.inj h
          subst h
          exact retZ K hw rfl rfl dX4_readsCaller_83
        · have h := ifn hc17 h
          refine lv_aload_n hx hb dX4_readsCaller_67 rfl (lv_at hl 0 rfl) ?_
          refine lv_iload_n hx hb dX4_readsCaller_68 rfl (lv_at hl 1 rfl) ?_
          refine lv_iconst (v := (4 : Int32)) hx hb dX4_readsCaller_69 (by decide) ?_
          refine lv_iadd hx hb dX4_readsCaller_70 ?_
          refine lv_iconst (v := (2 : Int32)) hx hb dX4_readsCaller_71 (by decide) ?_
          obtain ⟨z18, hz18, h⟩ := bd h
          refine callVI K (c_X4_readsDigits l G q m_refused m_known m_setting m_kind m_figure m_tone m_word m_hours m_callers m_day m_tape m_letter m_letterAt z16.2.1 m_taped z16.2.2 m_statements m_kept m_hasImage m_isKeeping m_cursor m_answeredMany m_lastWord m_away m_answered m_unanswered m_saidWords m_isCalledAtSeven m_isAnsweredAtSeven m_seen m_weekAnswers m_weekHurt m_week m_row m_rowMany m_oneHas m_otherHas (v1 + (4 : Int32)) (2 : Int32) hz18) mt_yX4_readsDigits lk_X4_99 ⟨rfl, rfl, Nat.le_of_ble_eq_true rfl, Nat.le_of_ble_eq_true rfl⟩ hw dX4_readsCaller_72 hl.1 ⟨Nat.zero_le _, Nat.zero_le _⟩ (wa := ((mC G q m_refused m_known m_setting m_kind m_figure m_tone m_word m_hours m_callers m_day m_tape m_letter m_letterAt z16.2.1 m_taped z16.2.2 m_statements m_kept m_hasImage m_isKeeping m_cursor m_answeredMany m_lastWord m_away m_answered m_unanswered m_saidWords m_isCalledAtSeven m_isAnsweredAtSeven m_seen m_weekAnswers m_weekHurt m_week m_row m_rowMany m_oneHas m_otherHas).take 0)) (wb := ((mC G q m_refused m_known m_setting m_kind m_figure m_tone m_word m_hours m_callers m_day m_tape m_letter m_letterAt z16.2.1 m_taped z16.2.2 m_statements m_kept m_hasImage m_isKeeping m_cursor m_answeredMany m_lastWord m_away m_answered m_unanswered m_saidWords m_isCalledAtSeven m_isAnsweredAtSeven m_seen m_weekAnswers m_weekHurt m_week m_row m_rowMany m_oneHas m_otherHas).drop 21)) rfl rfl rfl (rest := []) rfl rfl (Nat.le_of_ble_eq_true rfl) (fun H locs hw => ?_)
          have hw : Wx G A (mC G q m_refused m_known m_setting m_kind m_figure m_tone m_word m_hours m_callers m_day m_tape m_letter m_letterAt z18.2.1 m_taped z18.2.2 m_statements m_kept m_hasImage m_isKeeping m_cursor m_answeredMany m_lastWord m_away m_answered m_unanswered m_saidWords m_isCalledAtSeven m_isAnsweredAtSeven m_seen m_weekAnswers m_weekHurt m_week m_row m_rowMany m_oneHas m_otherHas) s H locs := hw
          refine lv_if_eq (tgt := 82) hx hb dX4_readsCaller_75 (by decide) (fun hc19 => ?_) (fun hc19 => ?_)
          · have h := ifp hc19 h
            refine lv_iconst (v := (0 : Int32)) hx hb dX4_readsCaller_82 (by decide) ?_
            have h := Option.some.inj h
            subst h
            exact retZ K hw rfl rfl dX4_readsCaller_83
          · have h := ifn hc19 h
            refine lv_iconst (v := (1 : Int32)) hx hb dX4_readsCaller_78 (by decide) ?_
            refine lv_goto (tgt := 83) hx hb dX4_readsCaller_79 (by decide) ?_
            have h := Option.some.inj h
            subst h
            exact retZ K hw rfl rfl dX4_readsCaller_83
  · have h := ifn hc11 h
    refine lv_iconst (v := (0 : Int32)) hx hb dX4_readsCaller_22 (by decide) ?_
    have h := Option.some.inj h
    subst h
    exact retZ K hw rfl rfl dX4_readsCaller_23
set_option maxHeartbeats 4000000 in
set_option maxRecDepth 100000 in
theorem c_X4_readsAll (l : Launch) (G : GP) (q : Nat → Nat) (m_refused : Nat → Int32) (m_known : Nat → Int32) (m_setting : Nat → Int32) (m_kind : Nat → Int32) (m_figure : Nat → Int32) (m_tone : Nat → Int32) (m_word : Nat → Int32) (m_hours : Nat → Int32) (m_callers : Int32) (m_day : Int32) (m_tape : Nat → Int32) (m_letter : Nat → Int32) (m_letterAt : Nat → Int32) (m_told : Nat → Int32) (m_taped : Int32) (m_at : Int32) (m_statements : Int32) (m_kept : Nat → Int32) (m_hasImage : Int32) (m_isKeeping : Int32) (m_cursor : Int32) (m_answeredMany : Nat → Int32) (m_lastWord : Nat → Int32) (m_away : Int32) (m_answered : Int32) (m_unanswered : Int32) (m_saidWords : Int32) (m_isCalledAtSeven : Int32) (m_isAnsweredAtSeven : Int32) (m_seen : Nat → Int32) (m_weekAnswers : Int32) (m_weekHurt : Int32) (m_week : Nat → Int32) (m_row : Nat → Int32) (m_rowMany : Int32) (m_oneHas : Nat → Int32) (m_otherHas : Nat → Int32) (v1 : Int32) (v2 : Int32) {o : Int32 × (Nat → Int32) × Int32} (h : f_X4_readsAll m_tape m_told m_taped m_at v1 v2 = some o) : CtI l yX4_readsAll cX4_readsAll 3 (some .boolean) ({ frames := 3, cells := 0, slots := 0, locals := 67 } : Room) G (mC G q m_refused m_known m_setting m_kind m_figure m_tone m_word m_hours m_callers m_day m_tape m_letter m_letterAt m_told m_taped m_at m_statements m_kept m_hasImage m_isKeeping m_cursor m_answeredMany m_lastWord m_away m_answered m_unanswered m_saidWords m_isCalledAtSeven m_isAnsweredAtSeven m_seen m_weekAnswers m_weekHurt m_week m_row m_rowMany m_oneHas m_otherHas) [.ref (q 0), .int v1, .int v2] o.1 (mC G q m_refused m_known m_setting m_kind m_figure m_tone m_word m_hours m_callers m_day m_tape m_letter m_letterAt o.2.1 m_taped o.2.2 m_statements m_kept m_hasImage m_isKeeping m_cursor m_answeredMany m_lastWord m_away m_answered m_unanswered m_saidWords m_isCalledAtSeven m_isAnsweredAtSeven m_seen m_weekAnswers m_weekHurt m_week m_row m_rowMany m_oneHas m_otherHas) := by
  refine CtI.of (by decide) (Nat.le_of_ble_eq_true rfl) ?_
  intro p e s m below meth c A ls K hl hw
  have hl : lv_has ls 3 [(0, .ref (q 0)), (1, .int v1), (2, .int v2)] := hl
  generalize ([.ref (q 0), .int v1, .int v2] : List Value).toArray = args at K ⊢
  have hx := K.1.1
  have hb := K.1.2.1
  unfold f_X4_readsAll at h
  refine lv_iload_n hx hb dX4_readsAll_0 rfl (lv_at hl 1 rfl) ?_
  by_cases hs6 : v1 = (99 : Int32)
  · have h := ifp hs6 h
    refine lv_lookup (off := 43) (tgt := 44) hx hb dX4_readsAll_1 (by decide) (by rw [hs6]; rfl) (by decide) ?_
    refine lv_aload_n hx hb dX4_readsAll_44 rfl (lv_at hl 0 rfl) ?_
    refine lv_iload_n hx hb dX4_readsAll_45 rfl (lv_at hl 2 rfl) ?_
    obtain ⟨z7, hz7, h⟩ := bd h
    refine callVI K (c_X4_readsCaller l G q m_refused m_known m_setting m_kind m_figure m_tone m_word m_hours m_callers m_day m_tape m_letter m_letterAt m_told m_taped m_at m_statements m_kept m_hasImage m_isKeeping m_cursor m_answeredMany m_lastWord m_away m_answered m_unanswered m_saidWords m_isCalledAtSeven m_isAnsweredAtSeven m_seen m_weekAnswers m_weekHurt m_week m_row m_rowMany m_oneHas m_otherHas v2 hz7) mt_yX4_readsCaller lk_X4_103 ⟨rfl, rfl, Nat.le_of_ble_eq_true rfl, Nat.le_of_ble_eq_true rfl⟩ hw dX4_readsAll_46 hl.1 ⟨Nat.zero_le _, Nat.zero_le _⟩ (wa := ((mC G q m_refused m_known m_setting m_kind m_figure m_tone m_word m_hours m_callers m_day m_tape m_letter m_letterAt m_told m_taped m_at m_statements m_kept m_hasImage m_isKeeping m_cursor m_answeredMany m_lastWord m_away m_answered m_unanswered m_saidWords m_isCalledAtSeven m_isAnsweredAtSeven m_seen m_weekAnswers m_weekHurt m_week m_row m_rowMany m_oneHas m_otherHas).take 0)) (wb := ((mC G q m_refused m_known m_setting m_kind m_figure m_tone m_word m_hours m_callers m_day m_tape m_letter m_letterAt m_told m_taped m_at m_statements m_kept m_hasImage m_isKeeping m_cursor m_answeredMany m_lastWord m_away m_answered m_unanswered m_saidWords m_isCalledAtSeven m_isAnsweredAtSeven m_seen m_weekAnswers m_weekHurt m_week m_row m_rowMany m_oneHas m_otherHas).drop 21)) rfl rfl rfl (rest := []) rfl rfl (Nat.le_of_ble_eq_true rfl) (fun H locs hw => ?_)
    have hw : Wx G A (mC G q m_refused m_known m_setting m_kind m_figure m_tone m_word m_hours m_callers m_day m_tape m_letter m_letterAt z7.2.1 m_taped z7.2.2 m_statements m_kept m_hasImage m_isKeeping m_cursor m_answeredMany m_lastWord m_away m_answered m_unanswered m_saidWords m_isCalledAtSeven m_isAnsweredAtSeven m_seen m_weekAnswers m_weekHurt m_week m_row m_rowMany m_oneHas m_otherHas) s H locs := hw
    obtain ⟨hg8, h⟩ := gd h
    have h := Option.some.inj h
    subst h
    exact retZ K hw (isB_n hg8) rfl dX4_readsAll_49
  have h := ifn hs6 h
  by_cases hs9 : v1 = (104 : Int32)
  · have h := ifp hs9 h
    refine lv_lookup (off := 49) (tgt := 50) hx hb dX4_readsAll_1 (by decide) (by rw [hs9]; rfl) (by decide) ?_
    refine lv_aload_n hx hb dX4_readsAll_50 rfl (lv_at hl 0 rfl) ?_
    refine lv_iload_n hx hb dX4_readsAll_51 rfl (lv_at hl 2 rfl) ?_
    refine lv_iconst (v := (1 : Int32)) hx hb dX4_readsAll_52 (by decide) ?_
    obtain ⟨z10, hz10, h⟩ := bd h
    refine callVI K (c_X4_readsDigits l G q m_refused m_known m_setting m_kind m_figure m_tone m_word m_hours m_callers m_day m_tape m_letter m_letterAt m_told m_taped m_at m_statements m_kept m_hasImage m_isKeeping m_cursor m_answeredMany m_lastWord m_away m_answered m_unanswered m_saidWords m_isCalledAtSeven m_isAnsweredAtSeven m_seen m_weekAnswers m_weekHurt m_week m_row m_rowMany m_oneHas m_otherHas v2 (1 : Int32) hz10) mt_yX4_readsDigits lk_X4_99 ⟨rfl, rfl, Nat.le_of_ble_eq_true rfl, Nat.le_of_ble_eq_true rfl⟩ hw dX4_readsAll_53 hl.1 ⟨Nat.zero_le _, Nat.zero_le _⟩ (wa := ((mC G q m_refused m_known m_setting m_kind m_figure m_tone m_word m_hours m_callers m_day m_tape m_letter m_letterAt m_told m_taped m_at m_statements m_kept m_hasImage m_isKeeping m_cursor m_answeredMany m_lastWord m_away m_answered m_unanswered m_saidWords m_isCalledAtSeven m_isAnsweredAtSeven m_seen m_weekAnswers m_weekHurt m_week m_row m_rowMany m_oneHas m_otherHas).take 0)) (wb := ((mC G q m_refused m_known m_setting m_kind m_figure m_tone m_word m_hours m_callers m_day m_tape m_letter m_letterAt m_told m_taped m_at m_statements m_kept m_hasImage m_isKeeping m_cursor m_answeredMany m_lastWord m_away m_answered m_unanswered m_saidWords m_isCalledAtSeven m_isAnsweredAtSeven m_seen m_weekAnswers m_weekHurt m_week m_row m_rowMany m_oneHas m_otherHas).drop 21)) rfl rfl rfl (rest := []) rfl rfl (Nat.le_of_ble_eq_true rfl) (fun H locs hw => ?_)
    have hw : Wx G A (mC G q m_refused m_known m_setting m_kind m_figure m_tone m_word m_hours m_callers m_day m_tape m_letter m_letterAt z10.2.1 m_taped z10.2.2 m_statements m_kept m_hasImage m_isKeeping m_cursor m_answeredMany m_lastWord m_away m_answered m_unanswered m_saidWords m_isCalledAtSeven m_isAnsweredAtSeven m_seen m_weekAnswers m_weekHurt m_week m_row m_rowMany m_oneHas m_otherHas) s H locs := hw
    refine lv_if_eq (tgt := 74) hx hb dX4_readsAll_56 (by decide) (fun hc11 => ?_) (fun hc11 => ?_)
    · have h := ifp hc11 h
      refine lv_iconst (v := (0 : Int32)) hx hb dX4_readsAll_74 (by decide) ?_
      have h := Option.some.inj h
      subst h
      exact retZ K hw rfl rfl dX4_readsAll_75
    · have h := ifn hc11 h
      refine lv_aload_n hx hb dX4_readsAll_59 rfl (lv_at hl 0 rfl) ?_
      refine lv_iload_n hx hb dX4_readsAll_60 rfl (lv_at hl 2 rfl) ?_
      refine lv_iconst (v := (1 : Int32)) hx hb dX4_readsAll_61 (by decide) ?_
      refine lv_iadd hx hb dX4_readsAll_62 ?_
      refine lv_iconst (v := (2 : Int32)) hx hb dX4_readsAll_63 (by decide) ?_
      obtain ⟨z12, hz12, h⟩ := bd h
      refine callVI K (c_X4_readsDigits l G q m_refused m_known m_setting m_kind m_figure m_tone m_word m_hours m_callers m_day m_tape m_letter m_letterAt z10.2.1 m_taped z10.2.2 m_statements m_kept m_hasImage m_isKeeping m_cursor m_answeredMany m_lastWord m_away m_answered m_unanswered m_saidWords m_isCalledAtSeven m_isAnsweredAtSeven m_seen m_weekAnswers m_weekHurt m_week m_row m_rowMany m_oneHas m_otherHas (v2 + (1 : Int32)) (2 : Int32) hz12) mt_yX4_readsDigits lk_X4_99 ⟨rfl, rfl, Nat.le_of_ble_eq_true rfl, Nat.le_of_ble_eq_true rfl⟩ hw dX4_readsAll_64 hl.1 ⟨Nat.zero_le _, Nat.zero_le _⟩ (wa := ((mC G q m_refused m_known m_setting m_kind m_figure m_tone m_word m_hours m_callers m_day m_tape m_letter m_letterAt z10.2.1 m_taped z10.2.2 m_statements m_kept m_hasImage m_isKeeping m_cursor m_answeredMany m_lastWord m_away m_answered m_unanswered m_saidWords m_isCalledAtSeven m_isAnsweredAtSeven m_seen m_weekAnswers m_weekHurt m_week m_row m_rowMany m_oneHas m_otherHas).take 0)) (wb := ((mC G q m_refused m_known m_setting m_kind m_figure m_tone m_word m_hours m_callers m_day m_tape m_letter m_letterAt z10.2.1 m_taped z10.2.2 m_statements m_kept m_hasImage m_isKeeping m_cursor m_answeredMany m_lastWord m_away m_answered m_unanswered m_saidWords m_isCalledAtSeven m_isAnsweredAtSeven m_seen m_weekAnswers m_weekHurt m_week m_row m_rowMany m_oneHas m_otherHas).drop 21)) rfl rfl rfl (rest := []) rfl rfl (Nat.le_of_ble_eq_true rfl) (fun H locs hw => ?_)
      have hw : Wx G A (mC G q m_refused m_known m_setting m_kind m_figure m_tone m_word m_hours m_callers m_day m_tape m_letter m_letterAt z12.2.1 m_taped z12.2.2 m_statements m_kept m_hasImage m_isKeeping m_cursor m_answeredMany m_lastWord m_away m_answered m_unanswered m_saidWords m_isCalledAtSeven m_isAnsweredAtSeven m_seen m_weekAnswers m_weekHurt m_week m_row m_rowMany m_oneHas m_otherHas) s H locs := hw
      refine lv_if_eq (tgt := 74) hx hb dX4_readsAll_67 (by decide) (fun hc13 => ?_) (fun hc13 => ?_)
      · have h := ifp hc13 h
        refine lv_iconst (v := (0 : Int32)) hx hb dX4_readsAll_74 (by decide) ?_
        have h := Option.some.inj h
        subst h
        exact retZ K hw rfl rfl dX4_readsAll_75
      · have h := ifn hc13 h
        refine lv_iconst (v := (1 : Int32)) hx hb dX4_readsAll_70 (by decide) ?_
        refine lv_goto (tgt := 75) hx hb dX4_readsAll_71 (by decide) ?_
        have h := Option.some.inj h
        subst h
        exact retZ K hw rfl rfl dX4_readsAll_75
  have h := ifn hs9 h
  by_cases hs14 : v1 = (107 : Int32)
  · have h := ifp hs14 h
    refine lv_lookup (off := 49) (tgt := 50) hx hb dX4_readsAll_1 (by decide) (by rw [hs14]; rfl) (by decide) ?_
    refine lv_aload_n hx hb dX4_readsAll_50 rfl (lv_at hl 0 rfl) ?_
    refine lv_iload_n hx hb dX4_readsAll_51 rfl (lv_at hl 2 rfl) ?_
    refine lv_iconst (v := (1 : Int32)) hx hb dX4_readsAll_52 (by decide) ?_
    obtain ⟨z15, hz15, h⟩ := bd h
    refine callVI K (c_X4_readsDigits l G q m_refused m_known m_setting m_kind m_figure m_tone m_word m_hours m_callers m_day m_tape m_letter m_letterAt m_told m_taped m_at m_statements m_kept m_hasImage m_isKeeping m_cursor m_answeredMany m_lastWord m_away m_answered m_unanswered m_saidWords m_isCalledAtSeven m_isAnsweredAtSeven m_seen m_weekAnswers m_weekHurt m_week m_row m_rowMany m_oneHas m_otherHas v2 (1 : Int32) hz15) mt_yX4_readsDigits lk_X4_99 ⟨rfl, rfl, Nat.le_of_ble_eq_true rfl, Nat.le_of_ble_eq_true rfl⟩ hw dX4_readsAll_53 hl.1 ⟨Nat.zero_le _, Nat.zero_le _⟩ (wa := ((mC G q m_refused m_known m_setting m_kind m_figure m_tone m_word m_hours m_callers m_day m_tape m_letter m_letterAt m_told m_taped m_at m_statements m_kept m_hasImage m_isKeeping m_cursor m_answeredMany m_lastWord m_away m_answered m_unanswered m_saidWords m_isCalledAtSeven m_isAnsweredAtSeven m_seen m_weekAnswers m_weekHurt m_week m_row m_rowMany m_oneHas m_otherHas).take 0)) (wb := ((mC G q m_refused m_known m_setting m_kind m_figure m_tone m_word m_hours m_callers m_day m_tape m_letter m_letterAt m_told m_taped m_at m_statements m_kept m_hasImage m_isKeeping m_cursor m_answeredMany m_lastWord m_away m_answered m_unanswered m_saidWords m_isCalledAtSeven m_isAnsweredAtSeven m_seen m_weekAnswers m_weekHurt m_week m_row m_rowMany m_oneHas m_otherHas).drop 21)) rfl rfl rfl (rest := []) rfl rfl (Nat.le_of_ble_eq_true rfl) (fun H locs hw => ?_)
    have hw : Wx G A (mC G q m_refused m_known m_setting m_kind m_figure m_tone m_word m_hours m_callers m_day m_tape m_letter m_letterAt z15.2.1 m_taped z15.2.2 m_statements m_kept m_hasImage m_isKeeping m_cursor m_answeredMany m_lastWord m_away m_answered m_unanswered m_saidWords m_isCalledAtSeven m_isAnsweredAtSeven m_seen m_weekAnswers m_weekHurt m_week m_row m_rowMany m_oneHas m_otherHas) s H locs := hw
    refine lv_if_eq (tgt := 74) hx hb dX4_readsAll_56 (by decide) (fun hc16 => ?_) (fun hc16 => ?_)
    · have h := ifp hc16 h
      refine lv_iconst (v := (0 : Int32)) hx hb dX4_readsAll_74 (by decide) ?_
      have h := Option.some.inj h
      subst h
      exact retZ K hw rfl rfl dX4_readsAll_75
    · have h := ifn hc16 h
      refine lv_aload_n hx hb dX4_readsAll_59 rfl (lv_at hl 0 rfl) ?_
      refine lv_iload_n hx hb dX4_readsAll_60 rfl (lv_at hl 2 rfl) ?_
      refine lv_iconst (v := (1 : Int32)) hx hb dX4_readsAll_61 (by decide) ?_
      refine lv_iadd hx hb dX4_readsAll_62 ?_
      refine lv_iconst (v := (2 : Int32)) hx hb dX4_readsAll_63 (by decide) ?_
      obtain ⟨z17, hz17, h⟩ := bd h
      refine callVI K (c_X4_readsDigits l G q m_refused m_known m_setting m_kind m_figure m_tone m_word m_hours m_callers m_day m_tape m_letter m_letterAt z15.2.1 m_taped z15.2.2 m_statements m_kept m_hasImage m_isKeeping m_cursor m_answeredMany m_lastWord m_away m_answered m_unanswered m_saidWords m_isCalledAtSeven m_isAnsweredAtSeven m_seen m_weekAnswers m_weekHurt m_week m_row m_rowMany m_oneHas m_otherHas (v2 + (1 : Int32)) (2 : Int32) hz17) mt_yX4_readsDigits lk_X4_99 ⟨rfl, rfl, Nat.le_of_ble_eq_true rfl, Nat.le_of_ble_eq_true rfl⟩ hw dX4_readsAll_64 hl.1 ⟨Nat.zero_le _, Nat.zero_le _⟩ (wa := ((mC G q m_refused m_known m_setting m_kind m_figure m_tone m_word m_hours m_callers m_day m_tape m_letter m_letterAt z15.2.1 m_taped z15.2.2 m_statements m_kept m_hasImage m_isKeeping m_cursor m_answeredMany m_lastWord m_away m_answered m_unanswered m_saidWords m_isCalledAtSeven m_isAnsweredAtSeven m_seen m_weekAnswers m_weekHurt m_week m_row m_rowMany m_oneHas m_otherHas).take 0)) (wb := ((mC G q m_refused m_known m_setting m_kind m_figure m_tone m_word m_hours m_callers m_day m_tape m_letter m_letterAt z15.2.1 m_taped z15.2.2 m_statements m_kept m_hasImage m_isKeeping m_cursor m_answeredMany m_lastWord m_away m_answered m_unanswered m_saidWords m_isCalledAtSeven m_isAnsweredAtSeven m_seen m_weekAnswers m_weekHurt m_week m_row m_rowMany m_oneHas m_otherHas).drop 21)) rfl rfl rfl (rest := []) rfl rfl (Nat.le_of_ble_eq_true rfl) (fun H locs hw => ?_)
      have hw : Wx G A (mC G q m_refused m_known m_setting m_kind m_figure m_tone m_word m_hours m_callers m_day m_tape m_letter m_letterAt z17.2.1 m_taped z17.2.2 m_statements m_kept m_hasImage m_isKeeping m_cursor m_answeredMany m_lastWord m_away m_answered m_unanswered m_saidWords m_isCalledAtSeven m_isAnsweredAtSeven m_seen m_weekAnswers m_weekHurt m_week m_row m_rowMany m_oneHas m_otherHas) s H locs := hw
      refine lv_if_eq (tgt := 74) hx hb dX4_readsAll_67 (by decide) (fun hc18 => ?_) (fun hc18 => ?_)
      · have h := ifp hc18 h
        refine lv_iconst (v := (0 : Int32)) hx hb dX4_readsAll_74 (by decide) ?_
        have h := Option.some.inj h
        subst h
        exact retZ K hw rfl rfl dX4_readsAll_75
      · have h := ifn hc18 h
        refine lv_iconst (v := (1 : Int32)) hx hb dX4_readsAll_70 (by decide) ?_
        refine lv_goto (tgt := 75) hx hb dX4_readsAll_71 (by decide) ?_
        have h := Option.some.inj h
        subst h
        exact retZ K hw rfl rfl dX4_readsAll_75
  have h := ifn hs14 h
  by_cases hs19 : v1 = (116 : Int32)
  · have h := ifp hs19 h
    refine lv_lookup (off := 75) (tgt := 76) hx hb dX4_readsAll_1 (by decide) (by rw [hs19]; rfl) (by decide) ?_
    refine lv_aload_n hx hb dX4_readsAll_76 rfl (lv_at hl 0 rfl) ?_
    refine lv_iload_n hx hb dX4_readsAll_77 rfl (lv_at hl 2 rfl) ?_
    refine lv_iconst (v := (1 : Int32)) hx hb dX4_readsAll_78 (by decide) ?_
    obtain ⟨z20, hz20, h⟩ := bd h
    refine callVI K (c_X4_readsDigits l G q m_refused m_known m_setting m_kind m_figure m_tone m_word m_hours m_callers m_day m_tape m_letter m_letterAt m_told m_taped m_at m_statements m_kept m_hasImage m_isKeeping m_cursor m_answeredMany m_lastWord m_away m_answered m_unanswered m_saidWords m_isCalledAtSeven m_isAnsweredAtSeven m_seen m_weekAnswers m_weekHurt m_week m_row m_rowMany m_oneHas m_otherHas v2 (1 : Int32) hz20) mt_yX4_readsDigits lk_X4_99 ⟨rfl, rfl, Nat.le_of_ble_eq_true rfl, Nat.le_of_ble_eq_true rfl⟩ hw dX4_readsAll_79 hl.1 ⟨Nat.zero_le _, Nat.zero_le _⟩ (wa := ((mC G q m_refused m_known m_setting m_kind m_figure m_tone m_word m_hours m_callers m_day m_tape m_letter m_letterAt m_told m_taped m_at m_statements m_kept m_hasImage m_isKeeping m_cursor m_answeredMany m_lastWord m_away m_answered m_unanswered m_saidWords m_isCalledAtSeven m_isAnsweredAtSeven m_seen m_weekAnswers m_weekHurt m_week m_row m_rowMany m_oneHas m_otherHas).take 0)) (wb := ((mC G q m_refused m_known m_setting m_kind m_figure m_tone m_word m_hours m_callers m_day m_tape m_letter m_letterAt m_told m_taped m_at m_statements m_kept m_hasImage m_isKeeping m_cursor m_answeredMany m_lastWord m_away m_answered m_unanswered m_saidWords m_isCalledAtSeven m_isAnsweredAtSeven m_seen m_weekAnswers m_weekHurt m_week m_row m_rowMany m_oneHas m_otherHas).drop 21)) rfl rfl rfl (rest := []) rfl rfl (Nat.le_of_ble_eq_true rfl) (fun H locs hw => ?_)
    have hw : Wx G A (mC G q m_refused m_known m_setting m_kind m_figure m_tone m_word m_hours m_callers m_day m_tape m_letter m_letterAt z20.2.1 m_taped z20.2.2 m_statements m_kept m_hasImage m_isKeeping m_cursor m_answeredMany m_lastWord m_away m_answered m_unanswered m_saidWords m_isCalledAtSeven m_isAnsweredAtSeven m_seen m_weekAnswers m_weekHurt m_week m_row m_rowMany m_oneHas m_otherHas) s H locs := hw
    obtain ⟨hg21, h⟩ := gd h
    have h := Option.some.inj h
    subst h
    exact retZ K hw (isB_n hg21) rfl dX4_readsAll_82
  have h := ifn hs19 h
  refine lv_lookup (off := 82) (tgt := 83) hx hb dX4_readsAll_1 (by decide) ((lv_osw hs6 (by decide)).trans ((lv_osw hs9 (by decide)).trans ((lv_osw hs14 (by decide)).trans ((lv_osw hs19 (by decide)).trans (rfl))))) (by decide) ?_
  refine lv_aload_n hx hb dX4_readsAll_83 rfl (lv_at hl 0 rfl) ?_
  refine lv_iload_n hx hb dX4_readsAll_84 rfl (lv_at hl 2 rfl) ?_
  refine lv_iconst (v := (2 : Int32)) hx hb dX4_readsAll_85 (by decide) ?_
  obtain ⟨z22, hz22, h⟩ := bd h
  refine callVI K (c_X4_readsDigits l G q m_refused m_known m_setting m_kind m_figure m_tone m_word m_hours m_callers m_day m_tape m_letter m_letterAt m_told m_taped m_at m_statements m_kept m_hasImage m_isKeeping m_cursor m_answeredMany m_lastWord m_away m_answered m_unanswered m_saidWords m_isCalledAtSeven m_isAnsweredAtSeven m_seen m_weekAnswers m_weekHurt m_week m_row m_rowMany m_oneHas m_otherHas v2 (2 : Int32) hz22) mt_yX4_readsDigits lk_X4_99 ⟨rfl, rfl, Nat.le_of_ble_eq_true rfl, Nat.le_of_ble_eq_true rfl⟩ hw dX4_readsAll_86 hl.1 ⟨Nat.zero_le _, Nat.zero_le _⟩ (wa := ((mC G q m_refused m_known m_setting m_kind m_figure m_tone m_word m_hours m_callers m_day m_tape m_letter m_letterAt m_told m_taped m_at m_statements m_kept m_hasImage m_isKeeping m_cursor m_answeredMany m_lastWord m_away m_answered m_unanswered m_saidWords m_isCalledAtSeven m_isAnsweredAtSeven m_seen m_weekAnswers m_weekHurt m_week m_row m_rowMany m_oneHas m_otherHas).take 0)) (wb := ((mC G q m_refused m_known m_setting m_kind m_figure m_tone m_word m_hours m_callers m_day m_tape m_letter m_letterAt m_told m_taped m_at m_statements m_kept m_hasImage m_isKeeping m_cursor m_answeredMany m_lastWord m_away m_answered m_unanswered m_saidWords m_isCalledAtSeven m_isAnsweredAtSeven m_seen m_weekAnswers m_weekHurt m_week m_row m_rowMany m_oneHas m_otherHas).drop 21)) rfl rfl rfl (rest := []) rfl rfl (Nat.le_of_ble_eq_true rfl) (fun H locs hw => ?_)
  have hw : Wx G A (mC G q m_refused m_known m_setting m_kind m_figure m_tone m_word m_hours m_callers m_day m_tape m_letter m_letterAt z22.2.1 m_taped z22.2.2 m_statements m_kept m_hasImage m_isKeeping m_cursor m_answeredMany m_lastWord m_away m_answered m_unanswered m_saidWords m_isCalledAtSeven m_isAnsweredAtSeven m_seen m_weekAnswers m_weekHurt m_week m_row m_rowMany m_oneHas m_otherHas) s H locs := hw
  obtain ⟨hg23, h⟩ := gd h
  have h := Option.some.inj h
  subst h
  exact retZ K hw (isB_n hg23) rfl dX4_readsAll_89
set_option maxHeartbeats 4000000 in
set_option maxRecDepth 100000 in
theorem c_X4_isLetter (l : Launch) (G : GP) (v0 : Int32) {o : Int32} (h : f_X4_isLetter v0 = o) : CtI l yX4_isLetter cX4_isLetter 1 (some .boolean) ({ frames := 0, cells := 0, slots := 0, locals := 0 } : Room) G ([] : va_W) [.int v0] o ([] : va_W) := by
  refine CtI.of (by decide) (Nat.le_of_ble_eq_true rfl) ?_
  intro p e s m below meth c A ls K hl hw
  have hl : lv_has ls 1 [(0, .int v0)] := hl
  generalize ([.int v0] : List Value).toArray = args at K ⊢
  have hx := K.1.1
  have hb := K.1.2.1
  unfold f_X4_isLetter at h
  refine lv_iload_n hx hb dX4_isLetter_0 rfl (lv_at hl 0 rfl) ?_
  refine lv_bipush (v := (99 : Int32)) hx hb dX4_isLetter_1 (by decide) ?_
  refine lv_icmp_eq (tgt := 42) hx hb dX4_isLetter_3 (by decide) (fun hc1 => ?_) (fun hc1 => ?_)
  · have h := ifp hc1 h
    refine lv_iconst (v := (1 : Int32)) hx hb dX4_isLetter_42 (by decide) ?_
    refine lv_goto (tgt := 47) hx hb dX4_isLetter_43 (by decide) ?_
    subst h
    exact retZ K hw rfl rfl dX4_isLetter_47
  · have h := ifn hc1 h
    refine lv_iload_n hx hb dX4_isLetter_6 rfl (lv_at hl 0 rfl) ?_
    refine lv_bipush (v := (107 : Int32)) hx hb dX4_isLetter_7 (by decide) ?_
    refine lv_icmp_eq (tgt := 42) hx hb dX4_isLetter_9 (by decide) (fun hc2 => ?_) (fun hc2 => ?_)
    · have h := ifp hc2 h
      refine lv_iconst (v := (1 : Int32)) hx hb dX4_isLetter_42 (by decide) ?_
      refine lv_goto (tgt := 47) hx hb dX4_isLetter_43 (by decide) ?_
      subst h
      exact retZ K hw rfl rfl dX4_isLetter_47
    · have h := ifn hc2 h
      refine lv_iload_n hx hb dX4_isLetter_12 rfl (lv_at hl 0 rfl) ?_
      refine lv_bipush (v := (116 : Int32)) hx hb dX4_isLetter_13 (by decide) ?_
      refine lv_icmp_eq (tgt := 42) hx hb dX4_isLetter_15 (by decide) (fun hc3 => ?_) (fun hc3 => ?_)
      · have h := ifp hc3 h
        refine lv_iconst (v := (1 : Int32)) hx hb dX4_isLetter_42 (by decide) ?_
        refine lv_goto (tgt := 47) hx hb dX4_isLetter_43 (by decide) ?_
        subst h
        exact retZ K hw rfl rfl dX4_isLetter_47
      · have h := ifn hc3 h
        refine lv_iload_n hx hb dX4_isLetter_18 rfl (lv_at hl 0 rfl) ?_
        refine lv_bipush (v := (117 : Int32)) hx hb dX4_isLetter_19 (by decide) ?_
        refine lv_icmp_eq (tgt := 42) hx hb dX4_isLetter_21 (by decide) (fun hc4 => ?_) (fun hc4 => ?_)
        · have h := ifp hc4 h
          refine lv_iconst (v := (1 : Int32)) hx hb dX4_isLetter_42 (by decide) ?_
          refine lv_goto (tgt := 47) hx hb dX4_isLetter_43 (by decide) ?_
          subst h
          exact retZ K hw rfl rfl dX4_isLetter_47
        · have h := ifn hc4 h
          refine lv_iload_n hx hb dX4_isLetter_24 rfl (lv_at hl 0 rfl) ?_
          refine lv_bipush (v := (112 : Int32)) hx hb dX4_isLetter_25 (by decide) ?_
          refine lv_icmp_eq (tgt := 42) hx hb dX4_isLetter_27 (by decide) (fun hc5 => ?_) (fun hc5 => ?_)
          · have h := ifp hc5 h
            refine lv_iconst (v := (1 : Int32)) hx hb dX4_isLetter_42 (by decide) ?_
            refine lv_goto (tgt := 47) hx hb dX4_isLetter_43 (by decide) ?_
            subst h
            exact retZ K hw rfl rfl dX4_isLetter_47
          · have h := ifn hc5 h
            refine lv_iload_n hx hb dX4_isLetter_30 rfl (lv_at hl 0 rfl) ?_
            refine lv_bipush (v := (104 : Int32)) hx hb dX4_isLetter_31 (by decide) ?_
            refine lv_icmp_eq (tgt := 42) hx hb dX4_isLetter_33 (by decide) (fun hc6 => ?_) (fun hc6 => ?_)
            · have h := ifp hc6 h
              refine lv_iconst (v := (1 : Int32)) hx hb dX4_isLetter_42 (by decide) ?_
              refine lv_goto (tgt := 47) hx hb dX4_isLetter_43 (by decide) ?_
              subst h
              exact retZ K hw rfl rfl dX4_isLetter_47
            · have h := ifn hc6 h
              refine lv_iload_n hx hb dX4_isLetter_36 rfl (lv_at hl 0 rfl) ?_
              refine lv_bipush (v := (100 : Int32)) hx hb dX4_isLetter_37 (by decide) ?_
              refine lv_icmp_ne (tgt := 46) hx hb dX4_isLetter_39 (by decide) (fun hc7 => ?_) (fun hc7 => ?_)
              · have h := ifn hc7 h
                refine lv_iconst (v := (0 : Int32)) hx hb dX4_isLetter_46 (by decide) ?_
                subst h
                exact retZ K hw rfl rfl dX4_isLetter_47
              · have h := ifp hc7 h
                refine lv_iconst (v := (1 : Int32)) hx hb dX4_isLetter_42 (by decide) ?_
                refine lv_goto (tgt := 47) hx hb dX4_isLetter_43 (by decide) ?_
                subst h
                exact retZ K hw rfl rfl dX4_isLetter_47
set_option maxHeartbeats 4000000 in
set_option maxRecDepth 100000 in
theorem c_X4_statement (l : Launch) (G : GP) (q : Nat → Nat) (m_refused : Nat → Int32) (m_known : Nat → Int32) (m_setting : Nat → Int32) (m_kind : Nat → Int32) (m_figure : Nat → Int32) (m_tone : Nat → Int32) (m_word : Nat → Int32) (m_hours : Nat → Int32) (m_callers : Int32) (m_day : Int32) (m_tape : Nat → Int32) (m_letter : Nat → Int32) (m_letterAt : Nat → Int32) (m_told : Nat → Int32) (m_taped : Int32) (m_at : Int32) (m_statements : Int32) (m_kept : Nat → Int32) (m_hasImage : Int32) (m_isKeeping : Int32) (m_cursor : Int32) (m_answeredMany : Nat → Int32) (m_lastWord : Nat → Int32) (m_away : Int32) (m_answered : Int32) (m_unanswered : Int32) (m_saidWords : Int32) (m_isCalledAtSeven : Int32) (m_isAnsweredAtSeven : Int32) (m_seen : Nat → Int32) (m_weekAnswers : Int32) (m_weekHurt : Int32) (m_week : Nat → Int32) (m_row : Nat → Int32) (m_rowMany : Int32) (m_oneHas : Nat → Int32) (m_otherHas : Nat → Int32) {o : Int32 × (Nat → Int32) × (Nat → Int32) × (Nat → Int32) × Int32} (h : f_X4_statement m_tape m_letter m_letterAt m_told m_taped m_at m_statements = some o) : CtI l yX4_statement cX4_statement 2 (some .boolean) ({ frames := 4, cells := 0, slots := 0, locals := 89 } : Room) G (mC G q m_refused m_known m_setting m_kind m_figure m_tone m_word m_hours m_callers m_day m_tape m_letter m_letterAt m_told m_taped m_at m_statements m_kept m_hasImage m_isKeeping m_cursor m_answeredMany m_lastWord m_away m_answered m_unanswered m_saidWords m_isCalledAtSeven m_isAnsweredAtSeven m_seen m_weekAnswers m_weekHurt m_week m_row m_rowMany m_oneHas m_otherHas) [.ref (q 0)] o.1 (mC G q m_refused m_known m_setting m_kind m_figure m_tone m_word m_hours m_callers m_day m_tape o.2.1 o.2.2.1 o.2.2.2.1 m_taped o.2.2.2.2 m_statements m_kept m_hasImage m_isKeeping m_cursor m_answeredMany m_lastWord m_away m_answered m_unanswered m_saidWords m_isCalledAtSeven m_isAnsweredAtSeven m_seen m_weekAnswers m_weekHurt m_week m_row m_rowMany m_oneHas m_otherHas) := by
  refine CtI.of (by decide) (Nat.le_of_ble_eq_true rfl) ?_
  intro p e s m below meth c A ls K hl hw
  have hl : lv_has ls 2 [(0, .ref (q 0))] := hl
  generalize ([.ref (q 0)] : List Value).toArray = args at K ⊢
  have hx := K.1.1
  have hb := K.1.2.1
  unfold f_X4_statement at h
  refine lv_aload_n hx hb dX4_statement_0 rfl (lv_at hl 0 rfl) ?_
  obtain ⟨z6, hz6, h⟩ := bd h
  refine callVI K (c_X4_next l G q m_refused m_known m_setting m_kind m_figure m_tone m_word m_hours m_callers m_day m_tape m_letter m_letterAt m_told m_taped m_at m_statements m_kept m_hasImage m_isKeeping m_cursor m_answeredMany m_lastWord m_away m_answered m_unanswered m_saidWords m_isCalledAtSeven m_isAnsweredAtSeven m_seen m_weekAnswers m_weekHurt m_week m_row m_rowMany m_oneHas m_otherHas hz6) mt_yX4_next lk_X4_92 ⟨rfl, rfl, Nat.le_of_ble_eq_true rfl, Nat.le_of_ble_eq_true rfl⟩ hw dX4_statement_1 hl.1 ⟨Nat.zero_le _, Nat.zero_le _⟩ (wa := ((mC G q m_refused m_known m_setting m_kind m_figure m_tone m_word m_hours m_callers m_day m_tape m_letter m_letterAt m_told m_taped m_at m_statements m_kept m_hasImage m_isKeeping m_cursor m_answeredMany m_lastWord m_away m_answered m_unanswered m_saidWords m_isCalledAtSeven m_isAnsweredAtSeven m_seen m_weekAnswers m_weekHurt m_week m_row m_rowMany m_oneHas m_otherHas).take 0)) (wb := ((mC G q m_refused m_known m_setting m_kind m_figure m_tone m_word m_hours m_callers m_day m_tape m_letter m_letterAt m_told m_taped m_at m_statements m_kept m_hasImage m_isKeeping m_cursor m_answeredMany m_lastWord m_away m_answered m_unanswered m_saidWords m_isCalledAtSeven m_isAnsweredAtSeven m_seen m_weekAnswers m_weekHurt m_week m_row m_rowMany m_oneHas m_otherHas).drop 21)) rfl rfl rfl (rest := []) rfl rfl (Nat.le_of_ble_eq_true rfl) (fun H locs hw => ?_)
  have hw : Wx G A (mC G q m_refused m_known m_setting m_kind m_figure m_tone m_word m_hours m_callers m_day m_tape m_letter m_letterAt m_told m_taped m_at m_statements m_kept m_hasImage m_isKeeping m_cursor m_answeredMany m_lastWord m_away m_answered m_unanswered m_saidWords m_isCalledAtSeven m_isAnsweredAtSeven m_seen m_weekAnswers m_weekHurt m_week m_row m_rowMany m_oneHas m_otherHas) s H locs := hw
  refine lv_istore_n (lv' := [(1, .int z6), (0, .ref (q 0))]) hx hb dX4_statement_4 rfl hl (by decide) rfl (fun ls hl => ?_)
  refine lv_iload_n hx hb dX4_statement_5 rfl (lv_at hl 0 rfl) ?_
  refine callSI K (c_X4_isLetter l G z6 rfl) mt_yX4_isLetter lk_X4_107 ⟨rfl, rfl, Nat.le_of_ble_eq_true rfl, Nat.le_of_ble_eq_true rfl⟩ hw dX4_statement_6 hl.1 ⟨Nat.zero_le _, Nat.zero_le _⟩ (wa := ((mC G q m_refused m_known m_setting m_kind m_figure m_tone m_word m_hours m_callers m_day m_tape m_letter m_letterAt m_told m_taped m_at m_statements m_kept m_hasImage m_isKeeping m_cursor m_answeredMany m_lastWord m_away m_answered m_unanswered m_saidWords m_isCalledAtSeven m_isAnsweredAtSeven m_seen m_weekAnswers m_weekHurt m_week m_row m_rowMany m_oneHas m_otherHas).take 0)) (wb := ((mC G q m_refused m_known m_setting m_kind m_figure m_tone m_word m_hours m_callers m_day m_tape m_letter m_letterAt m_told m_taped m_at m_statements m_kept m_hasImage m_isKeeping m_cursor m_answeredMany m_lastWord m_away m_answered m_unanswered m_saidWords m_isCalledAtSeven m_isAnsweredAtSeven m_seen m_weekAnswers m_weekHurt m_week m_row m_rowMany m_oneHas m_otherHas).drop 0)) rfl (rest := []) rfl rfl (Nat.le_of_ble_eq_true rfl) (fun H locs hw => ?_)
  have hw : Wx G A (mC G q m_refused m_known m_setting m_kind m_figure m_tone m_word m_hours m_callers m_day m_tape m_letter m_letterAt m_told m_taped m_at m_statements m_kept m_hasImage m_isKeeping m_cursor m_answeredMany m_lastWord m_away m_answered m_unanswered m_saidWords m_isCalledAtSeven m_isAnsweredAtSeven m_seen m_weekAnswers m_weekHurt m_week m_row m_rowMany m_oneHas m_otherHas) s H locs := hw
  refine lv_if_ne (tgt := 14) hx hb dX4_statement_9 (by decide) (fun hc7 => ?_) (fun hc7 => ?_)
  · have h := ifn hc7 h
    refine lv_aload_n hx hb dX4_statement_14 rfl (lv_at hl 1 rfl) ?_
    refine getX K hw inTX4 0 11 fl_X4_37 dX4_statement_15 rfl rfl (by decide) rfl rfl ?_
    refine lv_aload_n hx hb dX4_statement_18 rfl (lv_at hl 1 rfl) ?_
    refine getX K hw inTX4 0 16 fl_X4_110 dX4_statement_19 rfl rfl (by decide) rfl rfl ?_
    refine lv_iload_n hx hb dX4_statement_22 rfl (lv_at hl 0 rfl) ?_
    obtain ⟨hg8, h⟩ := gd h
    refine iasX K hw 10 (inB_in hg8) dX4_statement_23 rfl (fun H locs hw => ?_)
    have hw : Wx G A (mC G q m_refused m_known m_setting m_kind m_figure m_tone m_word m_hours m_callers m_day m_tape (upd m_letter m_statements.toNatClampNeg z6) m_letterAt m_told m_taped m_at m_statements m_kept m_hasImage m_isKeeping m_cursor m_answeredMany m_lastWord m_away m_answered m_unanswered m_saidWords m_isCalledAtSeven m_isAnsweredAtSeven m_seen m_weekAnswers m_weekHurt m_week m_row m_rowMany m_oneHas m_otherHas) s H locs := hw
    refine lv_aload_n hx hb dX4_statement_24 rfl (lv_at hl 1 rfl) ?_
    refine getX K hw inTX4 0 12 fl_X4_40 dX4_statement_25 rfl rfl (by decide) rfl rfl ?_
    refine lv_aload_n hx hb dX4_statement_28 rfl (lv_at hl 1 rfl) ?_
    refine getX K hw inTX4 0 16 fl_X4_110 dX4_statement_29 rfl rfl (by decide) rfl rfl ?_
    refine lv_aload_n hx hb dX4_statement_32 rfl (lv_at hl 1 rfl) ?_
    refine getX K hw inTX4 0 15 fl_X4_89 dX4_statement_33 rfl rfl (by decide) rfl rfl ?_
    obtain ⟨hg9, h⟩ := gd h
    refine iasX K hw 11 (inB_in hg9) dX4_statement_36 rfl (fun H locs hw => ?_)
    have hw : Wx G A (mC G q m_refused m_known m_setting m_kind m_figure m_tone m_word m_hours m_callers m_day m_tape (upd m_letter m_statements.toNatClampNeg z6) (upd m_letterAt m_statements.toNatClampNeg m_at) m_told m_taped m_at m_statements m_kept m_hasImage m_isKeeping m_cursor m_answeredMany m_lastWord m_away m_answered m_unanswered m_saidWords m_isCalledAtSeven m_isAnsweredAtSeven m_seen m_weekAnswers m_weekHurt m_week m_row m_rowMany m_oneHas m_otherHas) s H locs := hw
    refine lv_aload_n hx hb dX4_statement_37 rfl (lv_at hl 1 rfl) ?_
    refine lv_dup hx hb dX4_statement_38 rfl ?_
    refine getX K hw inTX4 0 15 fl_X4_89 dX4_statement_39 rfl rfl (by decide) rfl rfl ?_
    refine lv_iconst (v := (1 : Int32)) hx hb dX4_statement_42 (by decide) ?_
    refine lv_iadd hx hb dX4_statement_43 ?_
    refine putX K hw inTX4 tyX4_ok nmX4 0 15 fl_X4_89 dX4_statement_44 rfl rfl (by decide) rfl rfl rfl rfl (Nat.le_of_ble_eq_true rfl) (fun H locs hw => ?_)
    have hw : Wx G A (mC G q m_refused m_known m_setting m_kind m_figure m_tone m_word m_hours m_callers m_day m_tape (upd m_letter m_statements.toNatClampNeg z6) (upd m_letterAt m_statements.toNatClampNeg m_at) m_told m_taped (m_at + (1 : Int32)) m_statements m_kept m_hasImage m_isKeeping m_cursor m_answeredMany m_lastWord m_away m_answered m_unanswered m_saidWords m_isCalledAtSeven m_isAnsweredAtSeven m_seen m_weekAnswers m_weekHurt m_week m_row m_rowMany m_oneHas m_otherHas) s H locs := hw
    refine lv_aload_n hx hb dX4_statement_47 rfl (lv_at hl 1 rfl) ?_
    refine lv_iload_n hx hb dX4_statement_48 rfl (lv_at hl 0 rfl) ?_
    refine lv_iconst (v := (5 : Int32)) hx hb dX4_statement_49 (by decide) ?_
    refine lv_aload_n hx hb dX4_statement_50 rfl (lv_at hl 1 rfl) ?_
    refine getX K hw inTX4 0 16 fl_X4_110 dX4_statement_51 rfl rfl (by decide) rfl rfl ?_
    refine lv_imul hx hb dX4_statement_54 ?_
    obtain ⟨z10, hz10, h⟩ := bd h
    refine callVI K (c_X4_readsAll l G q m_refused m_known m_setting m_kind m_figure m_tone m_word m_hours m_callers m_day m_tape (upd m_letter m_statements.toNatClampNeg z6) (upd m_letterAt m_statements.toNatClampNeg m_at) m_told m_taped (m_at + (1 : Int32)) m_statements m_kept m_hasImage m_isKeeping m_cursor m_answeredMany m_lastWord m_away m_answered m_unanswered m_saidWords m_isCalledAtSeven m_isAnsweredAtSeven m_seen m_weekAnswers m_weekHurt m_week m_row m_rowMany m_oneHas m_otherHas z6 ((5 : Int32) * m_statements) hz10) mt_yX4_readsAll lk_X4_113 ⟨rfl, rfl, Nat.le_of_ble_eq_true rfl, Nat.le_of_ble_eq_true rfl⟩ hw dX4_statement_55 hl.1 ⟨Nat.zero_le _, Nat.zero_le _⟩ (wa := ((mC G q m_refused m_known m_setting m_kind m_figure m_tone m_word m_hours m_callers m_day m_tape (upd m_letter m_statements.toNatClampNeg z6) (upd m_letterAt m_statements.toNatClampNeg m_at) m_told m_taped (m_at + (1 : Int32)) m_statements m_kept m_hasImage m_isKeeping m_cursor m_answeredMany m_lastWord m_away m_answered m_unanswered m_saidWords m_isCalledAtSeven m_isAnsweredAtSeven m_seen m_weekAnswers m_weekHurt m_week m_row m_rowMany m_oneHas m_otherHas).take 0)) (wb := ((mC G q m_refused m_known m_setting m_kind m_figure m_tone m_word m_hours m_callers m_day m_tape (upd m_letter m_statements.toNatClampNeg z6) (upd m_letterAt m_statements.toNatClampNeg m_at) m_told m_taped (m_at + (1 : Int32)) m_statements m_kept m_hasImage m_isKeeping m_cursor m_answeredMany m_lastWord m_away m_answered m_unanswered m_saidWords m_isCalledAtSeven m_isAnsweredAtSeven m_seen m_weekAnswers m_weekHurt m_week m_row m_rowMany m_oneHas m_otherHas).drop 21)) rfl rfl rfl (rest := []) rfl rfl (Nat.le_of_ble_eq_true rfl) (fun H locs hw => ?_)
    have hw : Wx G A (mC G q m_refused m_known m_setting m_kind m_figure m_tone m_word m_hours m_callers m_day m_tape (upd m_letter m_statements.toNatClampNeg z6) (upd m_letterAt m_statements.toNatClampNeg m_at) z10.2.1 m_taped z10.2.2 m_statements m_kept m_hasImage m_isKeeping m_cursor m_answeredMany m_lastWord m_away m_answered m_unanswered m_saidWords m_isCalledAtSeven m_isAnsweredAtSeven m_seen m_weekAnswers m_weekHurt m_week m_row m_rowMany m_oneHas m_otherHas) s H locs := hw
    refine lv_if_eq (tgt := 70) hx hb dX4_statement_58 (by decide) (fun hc11 => ?_) (fun hc11 => ?_)
    · have h := ifp hc11 h
      refine lv_iconst (v := (0 : Int32)) hx hb dX4_statement_70 (by decide) ?_
      have h := Option.some.inj h
      subst h
      exact retZ K hw rfl rfl dX4_statement_71
    · have h := ifn hc11 h
      refine lv_aload_n hx hb dX4_statement_61 rfl (lv_at hl 1 rfl) ?_
      obtain ⟨z12, hz12, h⟩ := bd h
      refine callVI K (c_X4_next l G q m_refused m_known m_setting m_kind m_figure m_tone m_word m_hours m_callers m_day m_tape (upd m_letter m_statements.toNatClampNeg z6) (upd m_letterAt m_statements.toNatClampNeg m_at) z10.2.1 m_taped z10.2.2 m_statements m_kept m_hasImage m_isKeeping m_cursor m_answeredMany m_lastWord m_away m_answered m_unanswered m_saidWords m_isCalledAtSeven m_isAnsweredAtSeven m_seen m_weekAnswers m_weekHurt m_week m_row m_rowMany m_oneHas m_otherHas hz12) mt_yX4_next lk_X4_92 ⟨rfl, rfl, Nat.le_of_ble_eq_true rfl, Nat.le_of_ble_eq_true rfl⟩ hw dX4_statement_62 hl.1 ⟨Nat.zero_le _, Nat.zero_le _⟩ (wa := ((mC G q m_refused m_known m_setting m_kind m_figure m_tone m_word m_hours m_callers m_day m_tape (upd m_letter m_statements.toNatClampNeg z6) (upd m_letterAt m_statements.toNatClampNeg m_at) z10.2.1 m_taped z10.2.2 m_statements m_kept m_hasImage m_isKeeping m_cursor m_answeredMany m_lastWord m_away m_answered m_unanswered m_saidWords m_isCalledAtSeven m_isAnsweredAtSeven m_seen m_weekAnswers m_weekHurt m_week m_row m_rowMany m_oneHas m_otherHas).take 0)) (wb := ((mC G q m_refused m_known m_setting m_kind m_figure m_tone m_word m_hours m_callers m_day m_tape (upd m_letter m_statements.toNatClampNeg z6) (upd m_letterAt m_statements.toNatClampNeg m_at) z10.2.1 m_taped z10.2.2 m_statements m_kept m_hasImage m_isKeeping m_cursor m_answeredMany m_lastWord m_away m_answered m_unanswered m_saidWords m_isCalledAtSeven m_isAnsweredAtSeven m_seen m_weekAnswers m_weekHurt m_week m_row m_rowMany m_oneHas m_otherHas).drop 21)) rfl rfl rfl (rest := []) rfl rfl (Nat.le_of_ble_eq_true rfl) (fun H locs hw => ?_)
      have hw : Wx G A (mC G q m_refused m_known m_setting m_kind m_figure m_tone m_word m_hours m_callers m_day m_tape (upd m_letter m_statements.toNatClampNeg z6) (upd m_letterAt m_statements.toNatClampNeg m_at) z10.2.1 m_taped z10.2.2 m_statements m_kept m_hasImage m_isKeeping m_cursor m_answeredMany m_lastWord m_away m_answered m_unanswered m_saidWords m_isCalledAtSeven m_isAnsweredAtSeven m_seen m_weekAnswers m_weekHurt m_week m_row m_rowMany m_oneHas m_otherHas) s H locs := hw
      refine lv_bipush (v := (59 : Int32)) hx hb dX4_statement_65 (by decide) ?_
      refine lv_icmp_eq (tgt := 72) hx hb dX4_statement_67 (by decide) (fun hc13 => ?_) (fun hc13 => ?_)
      · have h := ifp hc13 h
        refine lv_aload_n hx hb dX4_statement_72 rfl (lv_at hl 1 rfl) ?_
        refine lv_dup hx hb dX4_statement_73 rfl ?_
        refine getX K hw inTX4 0 15 fl_X4_89 dX4_statement_74 rfl rfl (by decide) rfl rfl ?_
        refine lv_iconst (v := (1 : Int32)) hx hb dX4_statement_77 (by decide) ?_
        refine lv_iadd hx hb dX4_statement_78 ?_
        refine putX K hw inTX4 tyX4_ok nmX4 0 15 fl_X4_89 dX4_statement_79 rfl rfl (by decide) rfl rfl rfl rfl (Nat.le_of_ble_eq_true rfl) (fun H locs hw => ?_)
        have hw : Wx G A (mC G q m_refused m_known m_setting m_kind m_figure m_tone m_word m_hours m_callers m_day m_tape (upd m_letter m_statements.toNatClampNeg z6) (upd m_letterAt m_statements.toNatClampNeg m_at) z10.2.1 m_taped (z10.2.2 + (1 : Int32)) m_statements m_kept m_hasImage m_isKeeping m_cursor m_answeredMany m_lastWord m_away m_answered m_unanswered m_saidWords m_isCalledAtSeven m_isAnsweredAtSeven m_seen m_weekAnswers m_weekHurt m_week m_row m_rowMany m_oneHas m_otherHas) s H locs := hw
        refine lv_iconst (v := (1 : Int32)) hx hb dX4_statement_82 (by decide) ?_
        have h := Option.some.inj h
        subst h
        exact retZ K hw rfl rfl dX4_statement_83
      · have h := ifn hc13 h
        refine lv_iconst (v := (0 : Int32)) hx hb dX4_statement_70 (by decide) ?_
        have h := Option.some.inj h
        subst h
        exact retZ K hw rfl rfl dX4_statement_71
  · have h := ifp hc7 h
    refine lv_iconst (v := (0 : Int32)) hx hb dX4_statement_12 (by decide) ?_
    have h := Option.some.inj h
    subst h
    exact retZ K hw rfl rfl dX4_statement_13
set_option maxHeartbeats 4000000 in
set_option maxRecDepth 100000 in
theorem c_X4_comesCaller (l : Launch) (G : GP) (q : Nat → Nat) (m_refused : Nat → Int32) (m_known : Nat → Int32) (m_setting : Nat → Int32) (m_kind : Nat → Int32) (m_figure : Nat → Int32) (m_tone : Nat → Int32) (m_word : Nat → Int32) (m_hours : Nat → Int32) (m_callers : Int32) (m_day : Int32) (m_tape : Nat → Int32) (m_letter : Nat → Int32) (m_letterAt : Nat → Int32) (m_told : Nat → Int32) (m_taped : Int32) (m_at : Int32) (m_statements : Int32) (m_kept : Nat → Int32) (m_hasImage : Int32) (m_isKeeping : Int32) (m_cursor : Int32) (m_answeredMany : Nat → Int32) (m_lastWord : Nat → Int32) (m_away : Int32) (m_answered : Int32) (m_unanswered : Int32) (m_saidWords : Int32) (m_isCalledAtSeven : Int32) (m_isAnsweredAtSeven : Int32) (m_seen : Nat → Int32) (m_weekAnswers : Int32) (m_weekHurt : Int32) (m_week : Nat → Int32) (m_row : Nat → Int32) (m_rowMany : Int32) (m_oneHas : Nat → Int32) (m_otherHas : Nat → Int32) (v1 : Int32) {o : Int32 × (Nat → Int32) × (Nat → Int32) × (Nat → Int32) × (Nat → Int32) × (Nat → Int32) × Int32} (h : f_X4_comesCaller m_kind m_figure m_tone m_word m_hours m_callers m_told v1 = some o) : CtI l yX4_comesCaller cX4_comesCaller 2 (some .boolean) ({ frames := 1, cells := 0, slots := 0, locals := 20 } : Room) G (mC G q m_refused m_known m_setting m_kind m_figure m_tone m_word m_hours m_callers m_day m_tape m_letter m_letterAt m_told m_taped m_at m_statements m_kept m_hasImage m_isKeeping m_cursor m_answeredMany m_lastWord m_away m_answered m_unanswered m_saidWords m_isCalledAtSeven m_isAnsweredAtSeven m_seen m_weekAnswers m_weekHurt m_week m_row m_rowMany m_oneHas m_otherHas) [.ref (q 0), .int v1] o.1 (mC G q m_refused m_known m_setting o.2.1 o.2.2.1 o.2.2.2.1 o.2.2.2.2.1 o.2.2.2.2.2.1 o.2.2.2.2.2.2 m_day m_tape m_letter m_letterAt m_told m_taped m_at m_statements m_kept m_hasImage m_isKeeping m_cursor m_answeredMany m_lastWord m_away m_answered m_unanswered m_saidWords m_isCalledAtSeven m_isAnsweredAtSeven m_seen m_weekAnswers m_weekHurt m_week m_row m_rowMany m_oneHas m_otherHas) := by
  refine CtI.of (by decide) (Nat.le_of_ble_eq_true rfl) ?_
  intro p e s m below meth c A ls K hl hw
  have hl : lv_has ls 2 [(0, .ref (q 0)), (1, .int v1)] := hl
  generalize ([.ref (q 0), .int v1] : List Value).toArray = args at K ⊢
  have hx := K.1.1
  have hb := K.1.2.1
  unfold f_X4_comesCaller at h
  refine lv_aload_n hx hb dX4_comesCaller_0 rfl (lv_at hl 0 rfl) ?_
  refine getX K hw inTX4 0 13 fl_X4_43 dX4_comesCaller_1 rfl rfl (by decide) rfl rfl ?_
  refine lv_iload_n hx hb dX4_comesCaller_4 rfl (lv_at hl 1 rfl) ?_
  refine lv_iconst (v := (3 : Int32)) hx hb dX4_comesCaller_5 (by decide) ?_
  refine lv_iadd hx hb dX4_comesCaller_6 ?_
  obtain ⟨hg13, h⟩ := gd h
  refine ialX K hw 12 (inB_in hg13) dX4_comesCaller_7 rfl ?_
  refine callSI K (c_X4_isWord l G (m_told (v1 + (3 : Int32)).toNatClampNeg) rfl) mt_yX4_isWord lk_X4_116 ⟨rfl, rfl, Nat.le_of_ble_eq_true rfl, Nat.le_of_ble_eq_true rfl⟩ hw dX4_comesCaller_8 hl.1 ⟨Nat.zero_le _, Nat.zero_le _⟩ (wa := ((mC G q m_refused m_known m_setting m_kind m_figure m_tone m_word m_hours m_callers m_day m_tape m_letter m_letterAt m_told m_taped m_at m_statements m_kept m_hasImage m_isKeeping m_cursor m_answeredMany m_lastWord m_away m_answered m_unanswered m_saidWords m_isCalledAtSeven m_isAnsweredAtSeven m_seen m_weekAnswers m_weekHurt m_week m_row m_rowMany m_oneHas m_otherHas).take 0)) (wb := ((mC G q m_refused m_known m_setting m_kind m_figure m_tone m_word m_hours m_callers m_day m_tape m_letter m_letterAt m_told m_taped m_at m_statements m_kept m_hasImage m_isKeeping m_cursor m_answeredMany m_lastWord m_away m_answered m_unanswered m_saidWords m_isCalledAtSeven m_isAnsweredAtSeven m_seen m_weekAnswers m_weekHurt m_week m_row m_rowMany m_oneHas m_otherHas).drop 0)) rfl (rest := []) rfl rfl (Nat.le_of_ble_eq_true rfl) (fun H locs hw => ?_)
  have hw : Wx G A (mC G q m_refused m_known m_setting m_kind m_figure m_tone m_word m_hours m_callers m_day m_tape m_letter m_letterAt m_told m_taped m_at m_statements m_kept m_hasImage m_isKeeping m_cursor m_answeredMany m_lastWord m_away m_answered m_unanswered m_saidWords m_isCalledAtSeven m_isAnsweredAtSeven m_seen m_weekAnswers m_weekHurt m_week m_row m_rowMany m_oneHas m_otherHas) s H locs := hw
  refine lv_if_eq (tgt := 36) hx hb dX4_comesCaller_11 (by decide) (fun hc14 => ?_) (fun hc14 => ?_)
  · have h := ifp hc14 h
    refine lv_iconst (v := (0 : Int32)) hx hb dX4_comesCaller_36 (by decide) ?_
    have h := Option.some.inj h
    subst h
    exact retZ K hw rfl rfl dX4_comesCaller_37
  · have h := ifn hc14 h
    refine lv_aload_n hx hb dX4_comesCaller_14 rfl (lv_at hl 0 rfl) ?_
    refine getX K hw inTX4 0 13 fl_X4_43 dX4_comesCaller_15 rfl rfl (by decide) rfl rfl ?_
    refine lv_iload_n hx hb dX4_comesCaller_18 rfl (lv_at hl 1 rfl) ?_
    refine lv_iconst (v := (4 : Int32)) hx hb dX4_comesCaller_19 (by decide) ?_
    refine lv_iadd hx hb dX4_comesCaller_20 ?_
    obtain ⟨hg15, h⟩ := gd h
    refine ialX K hw 12 (inB_in hg15) dX4_comesCaller_21 rfl ?_
    refine lv_bipush (v := (23 : Int32)) hx hb dX4_comesCaller_22 (by decide) ?_
    refine lv_icmp_gt (tgt := 36) hx hb dX4_comesCaller_24 (by decide) (fun hc16 => ?_) (fun hc16 => ?_)
    · have h := ifp hc16 h
      refine lv_iconst (v := (0 : Int32)) hx hb dX4_comesCaller_36 (by decide) ?_
      have h := Option.some.inj h
      subst h
      exact retZ K hw rfl rfl dX4_comesCaller_37
    · have h := ifn hc16 h
      refine lv_aload_n hx hb dX4_comesCaller_27 rfl (lv_at hl 0 rfl) ?_
      refine getX K hw inTX4 0 8 fl_X4_70 dX4_comesCaller_28 rfl rfl (by decide) rfl rfl ?_
      refine lv_bipush (v := (7 : Int32)) hx hb dX4_comesCaller_31 (by decide) ?_
      refine lv_icmp_ne (tgt := 38) hx hb dX4_comesCaller_33 (by decide) (fun hc17 => ?_) (fun hc17 => ?_)
      · have h := ifn hc17 h
        refine lv_aload_n hx hb dX4_comesCaller_38 rfl (lv_at hl 0 rfl) ?_
        refine getX K hw inTX4 0 3 fl_X4_19 dX4_comesCaller_39 rfl rfl (by decide) rfl rfl ?_
        refine lv_aload_n hx hb dX4_comesCaller_42 rfl (lv_at hl 0 rfl) ?_
        refine getX K hw inTX4 0 8 fl_X4_70 dX4_comesCaller_43 rfl rfl (by decide) rfl rfl ?_
        refine lv_aload_n hx hb dX4_comesCaller_46 rfl (lv_at hl 0 rfl) ?_
        refine getX K hw inTX4 0 13 fl_X4_43 dX4_comesCaller_47 rfl rfl (by decide) rfl rfl ?_
        refine lv_iload_n hx hb dX4_comesCaller_50 rfl (lv_at hl 1 rfl) ?_
        obtain ⟨hg18, h⟩ := gd h
        refine ialX K hw 12 (inB_in hg18) dX4_comesCaller_51 rfl ?_
        obtain ⟨hg19, h⟩ := gd h
        refine iasX K hw 4 (inB_in hg19) dX4_comesCaller_52 rfl (fun H locs hw => ?_)
        have hw : Wx G A (mC G q m_refused m_known m_setting (upd m_kind m_callers.toNatClampNeg (m_told v1.toNatClampNeg)) m_figure m_tone m_word m_hours m_callers m_day m_tape m_letter m_letterAt m_told m_taped m_at m_statements m_kept m_hasImage m_isKeeping m_cursor m_answeredMany m_lastWord m_away m_answered m_unanswered m_saidWords m_isCalledAtSeven m_isAnsweredAtSeven m_seen m_weekAnswers m_weekHurt m_week m_row m_rowMany m_oneHas m_otherHas) s H locs := hw
        refine lv_aload_n hx hb dX4_comesCaller_53 rfl (lv_at hl 0 rfl) ?_
        refine getX K hw inTX4 0 4 fl_X4_22 dX4_comesCaller_54 rfl rfl (by decide) rfl rfl ?_
        refine lv_aload_n hx hb dX4_comesCaller_57 rfl (lv_at hl 0 rfl) ?_
        refine getX K hw inTX4 0 8 fl_X4_70 dX4_comesCaller_58 rfl rfl (by decide) rfl rfl ?_
        refine lv_aload_n hx hb dX4_comesCaller_61 rfl (lv_at hl 0 rfl) ?_
        refine getX K hw inTX4 0 13 fl_X4_43 dX4_comesCaller_62 rfl rfl (by decide) rfl rfl ?_
        refine lv_iload_n hx hb dX4_comesCaller_65 rfl (lv_at hl 1 rfl) ?_
        refine lv_iconst (v := (1 : Int32)) hx hb dX4_comesCaller_66 (by decide) ?_
        refine lv_iadd hx hb dX4_comesCaller_67 ?_
        obtain ⟨hg20, h⟩ := gd h
        refine ialX K hw 12 (inB_in hg20) dX4_comesCaller_68 rfl ?_
        obtain ⟨hg21, h⟩ := gd h
        refine iasX K hw 5 (inB_in hg21) dX4_comesCaller_69 rfl (fun H locs hw => ?_)
        have hw : Wx G A (mC G q m_refused m_known m_setting (upd m_kind m_callers.toNatClampNeg (m_told v1.toNatClampNeg)) (upd m_figure m_callers.toNatClampNeg (m_told (v1 + (1 : Int32)).toNatClampNeg)) m_tone m_word m_hours m_callers m_day m_tape m_letter m_letterAt m_told m_taped m_at m_statements m_kept m_hasImage m_isKeeping m_cursor m_answeredMany m_lastWord m_away m_answered m_unanswered m_saidWords m_isCalledAtSeven m_isAnsweredAtSeven m_seen m_weekAnswers m_weekHurt m_week m_row m_rowMany m_oneHas m_otherHas) s H locs := hw
        refine lv_aload_n hx hb dX4_comesCaller_70 rfl (lv_at hl 0 rfl) ?_
        refine getX K hw inTX4 0 5 fl_X4_25 dX4_comesCaller_71 rfl rfl (by decide) rfl rfl ?_
        refine lv_aload_n hx hb dX4_comesCaller_74 rfl (lv_at hl 0 rfl) ?_
        refine getX K hw inTX4 0 8 fl_X4_70 dX4_comesCaller_75 rfl rfl (by decide) rfl rfl ?_
        refine lv_aload_n hx hb dX4_comesCaller_78 rfl (lv_at hl 0 rfl) ?_
        refine getX K hw inTX4 0 13 fl_X4_43 dX4_comesCaller_79 rfl rfl (by decide) rfl rfl ?_
        refine lv_iload_n hx hb dX4_comesCaller_82 rfl (lv_at hl 1 rfl) ?_
        refine lv_iconst (v := (2 : Int32)) hx hb dX4_comesCaller_83 (by decide) ?_
        refine lv_iadd hx hb dX4_comesCaller_84 ?_
        obtain ⟨hg22, h⟩ := gd h
        refine ialX K hw 12 (inB_in hg22) dX4_comesCaller_85 rfl ?_
        obtain ⟨hg23, h⟩ := gd h
        refine iasX K hw 6 (inB_in hg23) dX4_comesCaller_86 rfl (fun H locs hw => ?_)
        have hw : Wx G A (mC G q m_refused m_known m_setting (upd m_kind m_callers.toNatClampNeg (m_told v1.toNatClampNeg)) (upd m_figure m_callers.toNatClampNeg (m_told (v1 + (1 : Int32)).toNatClampNeg)) (upd m_tone m_callers.toNatClampNeg (m_told (v1 + (2 : Int32)).toNatClampNeg)) m_word m_hours m_callers m_day m_tape m_letter m_letterAt m_told m_taped m_at m_statements m_kept m_hasImage m_isKeeping m_cursor m_answeredMany m_lastWord m_away m_answered m_unanswered m_saidWords m_isCalledAtSeven m_isAnsweredAtSeven m_seen m_weekAnswers m_weekHurt m_week m_row m_rowMany m_oneHas m_otherHas) s H locs := hw
        refine lv_aload_n hx hb dX4_comesCaller_87 rfl (lv_at hl 0 rfl) ?_
        refine getX K hw inTX4 0 6 fl_X4_28 dX4_comesCaller_88 rfl rfl (by decide) rfl rfl ?_
        refine lv_aload_n hx hb dX4_comesCaller_91 rfl (lv_at hl 0 rfl) ?_
        refine getX K hw inTX4 0 8 fl_X4_70 dX4_comesCaller_92 rfl rfl (by decide) rfl rfl ?_
        refine lv_aload_n hx hb dX4_comesCaller_95 rfl (lv_at hl 0 rfl) ?_
        refine getX K hw inTX4 0 13 fl_X4_43 dX4_comesCaller_96 rfl rfl (by decide) rfl rfl ?_
        refine lv_iload_n hx hb dX4_comesCaller_99 rfl (lv_at hl 1 rfl) ?_
        refine lv_iconst (v := (3 : Int32)) hx hb dX4_comesCaller_100 (by decide) ?_
        refine lv_iadd hx hb dX4_comesCaller_101 ?_
        obtain ⟨hg24, h⟩ := gd h
        refine ialX K hw 12 (inB_in hg24) dX4_comesCaller_102 rfl ?_
        obtain ⟨hg25, h⟩ := gd h
        refine iasX K hw 7 (inB_in hg25) dX4_comesCaller_103 rfl (fun H locs hw => ?_)
        have hw : Wx G A (mC G q m_refused m_known m_setting (upd m_kind m_callers.toNatClampNeg (m_told v1.toNatClampNeg)) (upd m_figure m_callers.toNatClampNeg (m_told (v1 + (1 : Int32)).toNatClampNeg)) (upd m_tone m_callers.toNatClampNeg (m_told (v1 + (2 : Int32)).toNatClampNeg)) (upd m_word m_callers.toNatClampNeg (m_told (v1 + (3 : Int32)).toNatClampNeg)) m_hours m_callers m_day m_tape m_letter m_letterAt m_told m_taped m_at m_statements m_kept m_hasImage m_isKeeping m_cursor m_answeredMany m_lastWord m_away m_answered m_unanswered m_saidWords m_isCalledAtSeven m_isAnsweredAtSeven m_seen m_weekAnswers m_weekHurt m_week m_row m_rowMany m_oneHas m_otherHas) s H locs := hw
        refine lv_aload_n hx hb dX4_comesCaller_104 rfl (lv_at hl 0 rfl) ?_
        refine getX K hw inTX4 0 7 fl_X4_31 dX4_comesCaller_105 rfl rfl (by decide) rfl rfl ?_
        refine lv_aload_n hx hb dX4_comesCaller_108 rfl (lv_at hl 0 rfl) ?_
        refine getX K hw inTX4 0 8 fl_X4_70 dX4_comesCaller_109 rfl rfl (by decide) rfl rfl ?_
        refine lv_aload_n hx hb dX4_comesCaller_112 rfl (lv_at hl 0 rfl) ?_
        refine getX K hw inTX4 0 13 fl_X4_43 dX4_comesCaller_113 rfl rfl (by decide) rfl rfl ?_
        refine lv_iload_n hx hb dX4_comesCaller_116 rfl (lv_at hl 1 rfl) ?_
        refine lv_iconst (v := (4 : Int32)) hx hb dX4_comesCaller_117 (by decide) ?_
        refine lv_iadd hx hb dX4_comesCaller_118 ?_
        obtain ⟨hg26, h⟩ := gd h
        refine ialX K hw 12 (inB_in hg26) dX4_comesCaller_119 rfl ?_
        obtain ⟨hg27, h⟩ := gd h
        refine iasX K hw 8 (inB_in hg27) dX4_comesCaller_120 rfl (fun H locs hw => ?_)
        have hw : Wx G A (mC G q m_refused m_known m_setting (upd m_kind m_callers.toNatClampNeg (m_told v1.toNatClampNeg)) (upd m_figure m_callers.toNatClampNeg (m_told (v1 + (1 : Int32)).toNatClampNeg)) (upd m_tone m_callers.toNatClampNeg (m_told (v1 + (2 : Int32)).toNatClampNeg)) (upd m_word m_callers.toNatClampNeg (m_told (v1 + (3 : Int32)).toNatClampNeg)) (upd m_hours m_callers.toNatClampNeg (m_told (v1 + (4 : Int32)).toNatClampNeg)) m_callers m_day m_tape m_letter m_letterAt m_told m_taped m_at m_statements m_kept m_hasImage m_isKeeping m_cursor m_answeredMany m_lastWord m_away m_answered m_unanswered m_saidWords m_isCalledAtSeven m_isAnsweredAtSeven m_seen m_weekAnswers m_weekHurt m_week m_row m_rowMany m_oneHas m_otherHas) s H locs := hw
        refine lv_aload_n hx hb dX4_comesCaller_121 rfl (lv_at hl 0 rfl) ?_
        refine lv_dup hx hb dX4_comesCaller_122 rfl ?_
        refine getX K hw inTX4 0 8 fl_X4_70 dX4_comesCaller_123 rfl rfl (by decide) rfl rfl ?_
        refine lv_iconst (v := (1 : Int32)) hx hb dX4_comesCaller_126 (by decide) ?_
        refine lv_iadd hx hb dX4_comesCaller_127 ?_
        refine putX K hw inTX4 tyX4_ok nmX4 0 8 fl_X4_70 dX4_comesCaller_128 rfl rfl (by decide) rfl rfl rfl rfl (Nat.le_of_ble_eq_true rfl) (fun H locs hw => ?_)
        have hw : Wx G A (mC G q m_refused m_known m_setting (upd m_kind m_callers.toNatClampNeg (m_told v1.toNatClampNeg)) (upd m_figure m_callers.toNatClampNeg (m_told (v1 + (1 : Int32)).toNatClampNeg)) (upd m_tone m_callers.toNatClampNeg (m_told (v1 + (2 : Int32)).toNatClampNeg)) (upd m_word m_callers.toNatClampNeg (m_told (v1 + (3 : Int32)).toNatClampNeg)) (upd m_hours m_callers.toNatClampNeg (m_told (v1 + (4 : Int32)).toNatClampNeg)) (m_callers + (1 : Int32)) m_day m_tape m_letter m_letterAt m_told m_taped m_at m_statements m_kept m_hasImage m_isKeeping m_cursor m_answeredMany m_lastWord m_away m_answered m_unanswered m_saidWords m_isCalledAtSeven m_isAnsweredAtSeven m_seen m_weekAnswers m_weekHurt m_week m_row m_rowMany m_oneHas m_otherHas) s H locs := hw
        refine lv_iconst (v := (1 : Int32)) hx hb dX4_comesCaller_131 (by decide) ?_
        have h := Option.some.inj h
        subst h
        exact retZ K hw rfl rfl dX4_comesCaller_132
      · have h := ifp hc17 h
        refine lv_iconst (v := (0 : Int32)) hx hb dX4_comesCaller_36 (by decide) ?_
        have h := Option.some.inj h
        subst h
        exact retZ K hw rfl rfl dX4_comesCaller_37
set_option maxHeartbeats 4000000 in
set_option maxRecDepth 100000 in
theorem c_X4_comesSet (l : Launch) (G : GP) (q : Nat → Nat) (m_refused : Nat → Int32) (m_known : Nat → Int32) (m_setting : Nat → Int32) (m_kind : Nat → Int32) (m_figure : Nat → Int32) (m_tone : Nat → Int32) (m_word : Nat → Int32) (m_hours : Nat → Int32) (m_callers : Int32) (m_day : Int32) (m_tape : Nat → Int32) (m_letter : Nat → Int32) (m_letterAt : Nat → Int32) (m_told : Nat → Int32) (m_taped : Int32) (m_at : Int32) (m_statements : Int32) (m_kept : Nat → Int32) (m_hasImage : Int32) (m_isKeeping : Int32) (m_cursor : Int32) (m_answeredMany : Nat → Int32) (m_lastWord : Nat → Int32) (m_away : Int32) (m_answered : Int32) (m_unanswered : Int32) (m_saidWords : Int32) (m_isCalledAtSeven : Int32) (m_isAnsweredAtSeven : Int32) (m_seen : Nat → Int32) (m_weekAnswers : Int32) (m_weekHurt : Int32) (m_week : Nat → Int32) (m_row : Nat → Int32) (m_rowMany : Int32) (m_oneHas : Nat → Int32) (m_otherHas : Nat → Int32) (v1 : Int32) (v2 : Int32) {o : Int32 × (Nat → Int32)} (h : f_X4_comesSet m_setting v1 v2 = some o) : CtI l yX4_comesSet cX4_comesSet 3 (some .boolean) ({ frames := 2, cells := 0, slots := 0, locals := 43 } : Room) G (mC G q m_refused m_known m_setting m_kind m_figure m_tone m_word m_hours m_callers m_day m_tape m_letter m_letterAt m_told m_taped m_at m_statements m_kept m_hasImage m_isKeeping m_cursor m_answeredMany m_lastWord m_away m_answered m_unanswered m_saidWords m_isCalledAtSeven m_isAnsweredAtSeven m_seen m_weekAnswers m_weekHurt m_week m_row m_rowMany m_oneHas m_otherHas) [.ref (q 0), .int v1, .int v2] o.1 (mC G q m_refused m_known o.2 m_kind m_figure m_tone m_word m_hours m_callers m_day m_tape m_letter m_letterAt m_told m_taped m_at m_statements m_kept m_hasImage m_isKeeping m_cursor m_answeredMany m_lastWord m_away m_answered m_unanswered m_saidWords m_isCalledAtSeven m_isAnsweredAtSeven m_seen m_weekAnswers m_weekHurt m_week m_row m_rowMany m_oneHas m_otherHas) := by
  refine CtI.of (by decide) (Nat.le_of_ble_eq_true rfl) ?_
  intro p e s m below meth c A ls K hl hw
  have hl : lv_has ls 3 [(0, .ref (q 0)), (1, .int v1), (2, .int v2)] := hl
  generalize ([.ref (q 0), .int v1, .int v2] : List Value).toArray = args at K ⊢
  have hx := K.1.1
  have hb := K.1.2.1
  unfold f_X4_comesSet at h
  refine lv_iload_n hx hb dX4_comesSet_0 rfl (lv_at hl 1 rfl) ?_
  refine lv_iload_n hx hb dX4_comesSet_1 rfl (lv_at hl 2 rfl) ?_
  obtain ⟨z3, hz3, h⟩ := bd h
  refine callSI K (c_X4_isSetting l G v1 v2 hz3) mt_yX4_isSetting lk_X4_119 ⟨rfl, rfl, Nat.le_of_ble_eq_true rfl, Nat.le_of_ble_eq_true rfl⟩ hw dX4_comesSet_2 hl.1 ⟨Nat.zero_le _, Nat.zero_le _⟩ (wa := ((mC G q m_refused m_known m_setting m_kind m_figure m_tone m_word m_hours m_callers m_day m_tape m_letter m_letterAt m_told m_taped m_at m_statements m_kept m_hasImage m_isKeeping m_cursor m_answeredMany m_lastWord m_away m_answered m_unanswered m_saidWords m_isCalledAtSeven m_isAnsweredAtSeven m_seen m_weekAnswers m_weekHurt m_week m_row m_rowMany m_oneHas m_otherHas).take 0)) (wb := ((mC G q m_refused m_known m_setting m_kind m_figure m_tone m_word m_hours m_callers m_day m_tape m_letter m_letterAt m_told m_taped m_at m_statements m_kept m_hasImage m_isKeeping m_cursor m_answeredMany m_lastWord m_away m_answered m_unanswered m_saidWords m_isCalledAtSeven m_isAnsweredAtSeven m_seen m_weekAnswers m_weekHurt m_week m_row m_rowMany m_oneHas m_otherHas).drop 0)) rfl (rest := []) rfl rfl (Nat.le_of_ble_eq_true rfl) (fun H locs hw => ?_)
  have hw : Wx G A (mC G q m_refused m_known m_setting m_kind m_figure m_tone m_word m_hours m_callers m_day m_tape m_letter m_letterAt m_told m_taped m_at m_statements m_kept m_hasImage m_isKeeping m_cursor m_answeredMany m_lastWord m_away m_answered m_unanswered m_saidWords m_isCalledAtSeven m_isAnsweredAtSeven m_seen m_weekAnswers m_weekHurt m_week m_row m_rowMany m_oneHas m_otherHas) s H locs := hw
  refine lv_if_ne (tgt := 10) hx hb dX4_comesSet_5 (by decide) (fun hc4 => ?_) (fun hc4 => ?_)
  · have h := ifn hc4 h
    refine lv_aload_n hx hb dX4_comesSet_10 rfl (lv_at hl 0 rfl) ?_
    refine getX K hw inTX4 0 2 fl_X4_16 dX4_comesSet_11 rfl rfl (by decide) rfl rfl ?_
    refine lv_iload_n hx hb dX4_comesSet_14 rfl (lv_at hl 1 rfl) ?_
    refine lv_iload_n hx hb dX4_comesSet_15 rfl (lv_at hl 2 rfl) ?_
    obtain ⟨hg5, h⟩ := gd h
    refine iasX K hw 3 (inB_in hg5) dX4_comesSet_16 rfl (fun H locs hw => ?_)
    have hw : Wx G A (mC G q m_refused m_known (upd m_setting v1.toNatClampNeg v2) m_kind m_figure m_tone m_word m_hours m_callers m_day m_tape m_letter m_letterAt m_told m_taped m_at m_statements m_kept m_hasImage m_isKeeping m_cursor m_answeredMany m_lastWord m_away m_answered m_unanswered m_saidWords m_isCalledAtSeven m_isAnsweredAtSeven m_seen m_weekAnswers m_weekHurt m_week m_row m_rowMany m_oneHas m_otherHas) s H locs := hw
    refine lv_iconst (v := (1 : Int32)) hx hb dX4_comesSet_17 (by decide) ?_
    have h := Option.some.inj h
    subst h
    exact retZ K hw rfl rfl dX4_comesSet_18
  · have h := ifp hc4 h
    refine lv_iconst (v := (0 : Int32)) hx hb dX4_comesSet_8 (by decide) ?_
    have h := Option.some.inj h
    subst h
    exact retZ K hw rfl rfl dX4_comesSet_9
set_option maxHeartbeats 4000000 in
set_option maxRecDepth 100000 in
theorem b_X4_begins_L17 {l : Launch} {G : GP} {q : Nat → Nat} {p : Program} {e : Env} {s : State} {m : MethodId} {args : Array Value} {below : List Frame} {meth : Method} {c : Code} {A : Nat → Prop} {m_refused : Nat → Int32} {m_known : Nat → Int32} {m_setting : Nat → Int32} {m_kind : Nat → Int32} {m_figure : Nat → Int32} {m_tone : Nat → Int32} {m_word : Nat → Int32} {m_hours : Nat → Int32} {m_callers : Int32} {m_day : Int32} {m_tape : Nat → Int32} {m_letter : Nat → Int32} {m_letterAt : Nat → Int32} {m_told : Nat → Int32} {m_taped : Int32} {m_at : Int32} {m_statements : Int32} {m_kept : Nat → Int32} {m_hasImage : Int32} {m_isKeeping : Int32} {m_cursor : Int32} {m_answeredMany : Nat → Int32} {m_lastWord : Nat → Int32} {m_away : Int32} {m_answered : Int32} {m_unanswered : Int32} {m_saidWords : Int32} {m_isCalledAtSeven : Int32} {m_isAnsweredAtSeven : Int32} {m_seen : Nat → Int32} {m_weekAnswers : Int32} {m_weekHurt : Int32} {m_week : Nat → Int32} {m_row : Nat → Int32} {m_rowMany : Int32} {m_oneHas : Nat → Int32} {m_otherHas : Nat → Int32} {v1 : Int32} {o : (Nat → Int32) × (Nat → Int32) × Int32 × Int32 × Int32} (K : Cx p s m args meth c A G cX4_begins 2 RX4 none) {H : Heap} {locs : List Loc} {ls : Array Slot} (hl : lv_has ls 2 [(0, .ref (q 0)), (1, .int v1)]) (hw : Wx G A (mC G q m_refused m_known m_setting m_kind m_figure m_tone m_word m_hours m_callers m_day m_tape m_letter m_letterAt m_told m_taped m_at m_statements m_kept m_hasImage m_isKeeping m_cursor m_answeredMany m_lastWord m_away m_answered m_unanswered m_saidWords m_isCalledAtSeven m_isAnsweredAtSeven m_seen m_weekAnswers m_weekHurt m_week m_row m_rowMany m_oneHas m_otherHas) s H locs) {y : (Int32 × (Nat → Int32) × (Nat → Int32)) ⊕ ((Nat → Int32) × (Nat → Int32))} (h : f_X4_begins_L17 v1 m_answeredMany m_lastWord = some y) (hk17 : ∀ (b : Int32 × (Nat → Int32) × (Nat → Int32)) (H : Heap) (locs : List Loc) (ls : Array Slot), y = .inl b → lv_has ls 2 [(0, .ref (q 0)), (1, .int b.1)] → Wx G A (mC G q m_refused m_known m_setting m_kind m_figure m_tone m_word m_hours m_callers m_day m_tape m_letter m_letterAt m_told m_taped m_at m_statements m_kept m_hasImage m_isKeeping m_cursor b.2.1 b.2.2 m_away m_answered m_unanswered m_saidWords m_isCalledAtSeven m_isAnsweredAtSeven m_seen m_weekAnswers m_weekHurt m_week m_row m_rowMany m_oneHas m_otherHas) s H locs → W p l e ({ frames := 0, cells := 0, slots := 0, locals := 0 } : Room) s m args below meth c H locs 0 0 (MQ below (QV G A (mC G q m_refused m_known m_setting m_kind m_figure m_tone m_word m_hours m_callers m_day m_tape m_letter m_letterAt m_told m_taped m_at m_statements m_kept m_hasImage m_isKeeping m_cursor o.1 o.2.1 m_away o.2.2.1 o.2.2.2.1 o.2.2.2.2 m_isCalledAtSeven m_isAnsweredAtSeven m_seen m_weekAnswers m_weekHurt m_week m_row m_rowMany m_oneHas m_otherHas)) args s 0 0 A) (F0 m 17 ls [])) (hx17 : ∀ (b : (Nat → Int32) × (Nat → Int32)) (H : Heap) (locs : List Loc) (ls : Array Slot), y = .inr b → lv_has ls 2 [] → Wx G A (mC G q m_refused m_known m_setting m_kind m_figure m_tone m_word m_hours m_callers m_day m_tape m_letter m_letterAt m_told m_taped m_at m_statements m_kept m_hasImage m_isKeeping m_cursor b.1 b.2 m_away m_answered m_unanswered m_saidWords m_isCalledAtSeven m_isAnsweredAtSeven m_seen m_weekAnswers m_weekHurt m_week m_row m_rowMany m_oneHas m_otherHas) s H locs → W p l e ({ frames := 0, cells := 0, slots := 0, locals := 0 } : Room) s m args below meth c H locs 0 0 (MQ below (QV G A (mC G q m_refused m_known m_setting m_kind m_figure m_tone m_word m_hours m_callers m_day m_tape m_letter m_letterAt m_told m_taped m_at m_statements m_kept m_hasImage m_isKeeping m_cursor o.1 o.2.1 m_away o.2.2.1 o.2.2.2.1 o.2.2.2.2 m_isCalledAtSeven m_isAnsweredAtSeven m_seen m_weekAnswers m_weekHurt m_week m_row m_rowMany m_oneHas m_otherHas)) args s 0 0 A) (F0 m 44 ls [])) : W p l e ({ frames := 0, cells := 0, slots := 0, locals := 0 } : Room) s m args below meth c H locs 0 0 (MQ below (QV G A (mC G q m_refused m_known m_setting m_kind m_figure m_tone m_word m_hours m_callers m_day m_tape m_letter m_letterAt m_told m_taped m_at m_statements m_kept m_hasImage m_isKeeping m_cursor o.1 o.2.1 m_away o.2.2.1 o.2.2.2.1 o.2.2.2.2 m_isCalledAtSeven m_isAnsweredAtSeven m_seen m_weekAnswers m_weekHurt m_week m_row m_rowMany m_oneHas m_otherHas)) args s 0 0 A) (F0 m 17 ls []) := by
  have hx := K.1.1
  have hb := K.1.2.1
  unfold f_X4_begins_L17 at h
  refine lv_iload_n hx hb dX4_begins_17 rfl (lv_at hl 1 rfl) ?_
  refine lv_bipush (v := (7 : Int32)) hx hb dX4_begins_18 (by decide) ?_
  refine lv_icmp_ge (tgt := 44) hx hb dX4_begins_20 (by decide) (fun hc8 => ?_) (fun hc8 => ?_)
  · have h := ifp hc8 h
    exact hx17 (m_answeredMany, m_lastWord) _ _ _ (Option.some.inj h).symm (lv_sub hl [] rfl) hw
  · have h := ifn hc8 h
    refine lv_aload_n hx hb dX4_begins_23 rfl (lv_at hl 0 rfl) ?_
    refine getX K hw inTX4 0 21 fl_X4_49 dX4_begins_24 rfl rfl (by decide) rfl rfl ?_
    refine lv_iload_n hx hb dX4_begins_27 rfl (lv_at hl 1 rfl) ?_
    refine lv_iconst (v := (0 : Int32)) hx hb dX4_begins_28 (by decide) ?_
    obtain ⟨hg9, h⟩ := gd h
    refine iasX K hw 14 (inB_in hg9) dX4_begins_29 rfl (fun H locs hw => ?_)
    have hw : Wx G A (mC G q m_refused m_known m_setting m_kind m_figure m_tone m_word m_hours m_callers m_day m_tape m_letter m_letterAt m_told m_taped m_at m_statements m_kept m_hasImage m_isKeeping m_cursor (upd m_answeredMany v1.toNatClampNeg (0 : Int32)) m_lastWord m_away m_answered m_unanswered m_saidWords m_isCalledAtSeven m_isAnsweredAtSeven m_seen m_weekAnswers m_weekHurt m_week m_row m_rowMany m_oneHas m_otherHas) s H locs := hw
    refine lv_aload_n hx hb dX4_begins_30 rfl (lv_at hl 0 rfl) ?_
    refine getX K hw inTX4 0 22 fl_X4_52 dX4_begins_31 rfl rfl (by decide) rfl rfl ?_
    refine lv_iload_n hx hb dX4_begins_34 rfl (lv_at hl 1 rfl) ?_
    refine lv_bipush (v := (-9 : Int32)) hx hb dX4_begins_35 (by decide) ?_
    obtain ⟨hg10, h⟩ := gd h
    refine iasX K hw 15 (inB_in hg10) dX4_begins_37 rfl (fun H locs hw => ?_)
    have hw : Wx G A (mC G q m_refused m_known m_setting m_kind m_figure m_tone m_word m_hours m_callers m_day m_tape m_letter m_letterAt m_told m_taped m_at m_statements m_kept m_hasImage m_isKeeping m_cursor (upd m_answeredMany v1.toNatClampNeg (0 : Int32)) (upd m_lastWord v1.toNatClampNeg (-9 : Int32)) m_away m_answered m_unanswered m_saidWords m_isCalledAtSeven m_isAnsweredAtSeven m_seen m_weekAnswers m_weekHurt m_week m_row m_rowMany m_oneHas m_otherHas) s H locs := hw
    refine lv_iinc (v := (v1 + (1 : Int32))) (lv' := [(1, .int (v1 + (1 : Int32))), (0, .ref (q 0))]) hx hb dX4_begins_38 hl (k := 1) rfl rfl (by decide) rfl (fun ls hl => ?_)
    refine lv_goto (tgt := 17) hx hb dX4_begins_41 (by decide) ?_
    exact hk17 ((v1 + (1 : Int32)), (upd m_answeredMany v1.toNatClampNeg (0 : Int32)), (upd m_lastWord v1.toNatClampNeg (-9 : Int32))) _ _ _ (Option.some.inj h).symm (lv_sub hl [1, 0] rfl) hw
set_option maxHeartbeats 4000000 in
set_option maxRecDepth 100000 in
theorem w_X4_begins_L17 {l : Launch} {G : GP} {q : Nat → Nat} {p : Program} {e : Env} {s : State} {m : MethodId} {args : Array Value} {below : List Frame} {meth : Method} {c : Code} {A : Nat → Prop} {m_refused : Nat → Int32} {m_known : Nat → Int32} {m_setting : Nat → Int32} {m_kind : Nat → Int32} {m_figure : Nat → Int32} {m_tone : Nat → Int32} {m_word : Nat → Int32} {m_hours : Nat → Int32} {m_callers : Int32} {m_day : Int32} {m_tape : Nat → Int32} {m_letter : Nat → Int32} {m_letterAt : Nat → Int32} {m_told : Nat → Int32} {m_taped : Int32} {m_at : Int32} {m_statements : Int32} {m_kept : Nat → Int32} {m_hasImage : Int32} {m_isKeeping : Int32} {m_cursor : Int32} {m_away : Int32} {m_answered : Int32} {m_unanswered : Int32} {m_saidWords : Int32} {m_isCalledAtSeven : Int32} {m_isAnsweredAtSeven : Int32} {m_seen : Nat → Int32} {m_weekAnswers : Int32} {m_weekHurt : Int32} {m_week : Nat → Int32} {m_row : Nat → Int32} {m_rowMany : Int32} {m_oneHas : Nat → Int32} {m_otherHas : Nat → Int32} {o : (Nat → Int32) × (Nat → Int32) × Int32 × Int32 × Int32} (K : Cx p s m args meth c A G cX4_begins 2 RX4 none) : ∀ (fu : Nat) (v1 : Int32) (m_answeredMany : Nat → Int32) (m_lastWord : Nat → Int32) (H : Heap) (locs : List Loc) (ls : Array Slot), lv_has ls 2 [(0, .ref (q 0)), (1, .int v1)] → Wx G A (mC G q m_refused m_known m_setting m_kind m_figure m_tone m_word m_hours m_callers m_day m_tape m_letter m_letterAt m_told m_taped m_at m_statements m_kept m_hasImage m_isKeeping m_cursor m_answeredMany m_lastWord m_away m_answered m_unanswered m_saidWords m_isCalledAtSeven m_isAnsweredAtSeven m_seen m_weekAnswers m_weekHurt m_week m_row m_rowMany m_oneHas m_otherHas) s H locs → ∀ (x : (Nat → Int32) × (Nat → Int32)), lp (fun z : Int32 × (Nat → Int32) × (Nat → Int32) => f_X4_begins_L17 (z.1) (z.2.1) (z.2.2)) fu (v1, m_answeredMany, m_lastWord) = some x → (∀ (H : Heap) (locs : List Loc) (ls : Array Slot), lv_has ls 2 [] → Wx G A (mC G q m_refused m_known m_setting m_kind m_figure m_tone m_word m_hours m_callers m_day m_tape m_letter m_letterAt m_told m_taped m_at m_statements m_kept m_hasImage m_isKeeping m_cursor x.1 x.2 m_away m_answered m_unanswered m_saidWords m_isCalledAtSeven m_isAnsweredAtSeven m_seen m_weekAnswers m_weekHurt m_week m_row m_rowMany m_oneHas m_otherHas) s H locs → W p l e ({ frames := 0, cells := 0, slots := 0, locals := 0 } : Room) s m args below meth c H locs 0 0 (MQ below (QV G A (mC G q m_refused m_known m_setting m_kind m_figure m_tone m_word m_hours m_callers m_day m_tape m_letter m_letterAt m_told m_taped m_at m_statements m_kept m_hasImage m_isKeeping m_cursor o.1 o.2.1 m_away o.2.2.1 o.2.2.2.1 o.2.2.2.2 m_isCalledAtSeven m_isAnsweredAtSeven m_seen m_weekAnswers m_weekHurt m_week m_row m_rowMany m_oneHas m_otherHas)) args s 0 0 A) (F0 m 44 ls [])) → W p l e ({ frames := 0, cells := 0, slots := 0, locals := 0 } : Room) s m args below meth c H locs 0 0 (MQ below (QV G A (mC G q m_refused m_known m_setting m_kind m_figure m_tone m_word m_hours m_callers m_day m_tape m_letter m_letterAt m_told m_taped m_at m_statements m_kept m_hasImage m_isKeeping m_cursor o.1 o.2.1 m_away o.2.2.1 o.2.2.2.1 o.2.2.2.2 m_isCalledAtSeven m_isAnsweredAtSeven m_seen m_weekAnswers m_weekHurt m_week m_row m_rowMany m_oneHas m_otherHas)) args s 0 0 A) (F0 m 17 ls []) := by
  intro fu
  induction fu with
  | zero => intro v1 m_answeredMany m_lastWord H locs ls hl hw x h; exact absurd (show none = some x from h) (by simp)
  | succ fu ih =>
    intro v1 m_answeredMany m_lastWord H locs ls hl hw x h hx17
    obtain ⟨y, hy, hc⟩ := lp_s h
    exact b_X4_begins_L17 K hl hw hy (fun b H locs ls hE hl hw => ih b.1 b.2.1 b.2.2 H locs ls hl hw _ (lp_b hc hE) hx17) (fun b H locs ls hE hl hw => by
      have e9 := lp_x hc hE
      subst e9
      exact hx17 H locs ls hl hw)
set_option maxHeartbeats 4000000 in
set_option maxRecDepth 100000 in
theorem c_X4_begins (l : Launch) (G : GP) (q : Nat → Nat) (m_refused : Nat → Int32) (m_known : Nat → Int32) (m_setting : Nat → Int32) (m_kind : Nat → Int32) (m_figure : Nat → Int32) (m_tone : Nat → Int32) (m_word : Nat → Int32) (m_hours : Nat → Int32) (m_callers : Int32) (m_day : Int32) (m_tape : Nat → Int32) (m_letter : Nat → Int32) (m_letterAt : Nat → Int32) (m_told : Nat → Int32) (m_taped : Int32) (m_at : Int32) (m_statements : Int32) (m_kept : Nat → Int32) (m_hasImage : Int32) (m_isKeeping : Int32) (m_cursor : Int32) (m_answeredMany : Nat → Int32) (m_lastWord : Nat → Int32) (m_away : Int32) (m_answered : Int32) (m_unanswered : Int32) (m_saidWords : Int32) (m_isCalledAtSeven : Int32) (m_isAnsweredAtSeven : Int32) (m_seen : Nat → Int32) (m_weekAnswers : Int32) (m_weekHurt : Int32) (m_week : Nat → Int32) (m_row : Nat → Int32) (m_rowMany : Int32) (m_oneHas : Nat → Int32) (m_otherHas : Nat → Int32) {o : (Nat → Int32) × (Nat → Int32) × Int32 × Int32 × Int32} (h : f_X4_begins m_answeredMany m_lastWord = some o) : CtV l yX4_begins cX4_begins 2 ({ frames := 0, cells := 0, slots := 0, locals := 0 } : Room) G (mC G q m_refused m_known m_setting m_kind m_figure m_tone m_word m_hours m_callers m_day m_tape m_letter m_letterAt m_told m_taped m_at m_statements m_kept m_hasImage m_isKeeping m_cursor m_answeredMany m_lastWord m_away m_answered m_unanswered m_saidWords m_isCalledAtSeven m_isAnsweredAtSeven m_seen m_weekAnswers m_weekHurt m_week m_row m_rowMany m_oneHas m_otherHas) [.ref (q 0)] (mC G q m_refused m_known m_setting m_kind m_figure m_tone m_word m_hours m_callers m_day m_tape m_letter m_letterAt m_told m_taped m_at m_statements m_kept m_hasImage m_isKeeping m_cursor o.1 o.2.1 m_away o.2.2.1 o.2.2.2.1 o.2.2.2.2 m_isCalledAtSeven m_isAnsweredAtSeven m_seen m_weekAnswers m_weekHurt m_week m_row m_rowMany m_oneHas m_otherHas) := by
  refine CtV.of (by decide) (Nat.le_of_ble_eq_true rfl) ?_
  intro p e s m below meth c A ls K hl hw
  have hl : lv_has ls 2 [(0, .ref (q 0))] := hl
  generalize ([.ref (q 0)] : List Value).toArray = args at K ⊢
  have hx := K.1.1
  have hb := K.1.2.1
  unfold f_X4_begins at h
  refine lv_aload_n hx hb dX4_begins_0 rfl (lv_at hl 0 rfl) ?_
  refine lv_iconst (v := (0 : Int32)) hx hb dX4_begins_1 (by decide) ?_
  refine putX K hw inTX4 tyX4_ok nmX4 0 24 fl_X4_174 dX4_begins_2 rfl rfl (by decide) rfl rfl rfl rfl (Nat.le_of_ble_eq_true rfl) (fun H locs hw => ?_)
  have hw : Wx G A (mC G q m_refused m_known m_setting m_kind m_figure m_tone m_word m_hours m_callers m_day m_tape m_letter m_letterAt m_told m_taped m_at m_statements m_kept m_hasImage m_isKeeping m_cursor m_answeredMany m_lastWord m_away (0 : Int32) m_unanswered m_saidWords m_isCalledAtSeven m_isAnsweredAtSeven m_seen m_weekAnswers m_weekHurt m_week m_row m_rowMany m_oneHas m_otherHas) s H locs := hw
  refine lv_aload_n hx hb dX4_begins_5 rfl (lv_at hl 0 rfl) ?_
  refine lv_iconst (v := (0 : Int32)) hx hb dX4_begins_6 (by decide) ?_
  refine putX K hw inTX4 tyX4_ok nmX4 0 25 fl_X4_177 dX4_begins_7 rfl rfl (by decide) rfl rfl rfl rfl (Nat.le_of_ble_eq_true rfl) (fun H locs hw => ?_)
  have hw : Wx G A (mC G q m_refused m_known m_setting m_kind m_figure m_tone m_word m_hours m_callers m_day m_tape m_letter m_letterAt m_told m_taped m_at m_statements m_kept m_hasImage m_isKeeping m_cursor m_answeredMany m_lastWord m_away (0 : Int32) (0 : Int32) m_saidWords m_isCalledAtSeven m_isAnsweredAtSeven m_seen m_weekAnswers m_weekHurt m_week m_row m_rowMany m_oneHas m_otherHas) s H locs := hw
  refine lv_aload_n hx hb dX4_begins_10 rfl (lv_at hl 0 rfl) ?_
  refine lv_iconst (v := (0 : Int32)) hx hb dX4_begins_11 (by decide) ?_
  refine putX K hw inTX4 tyX4_ok nmX4 0 26 fl_X4_180 dX4_begins_12 rfl rfl (by decide) rfl rfl rfl rfl (Nat.le_of_ble_eq_true rfl) (fun H locs hw => ?_)
  have hw : Wx G A (mC G q m_refused m_known m_setting m_kind m_figure m_tone m_word m_hours m_callers m_day m_tape m_letter m_letterAt m_told m_taped m_at m_statements m_kept m_hasImage m_isKeeping m_cursor m_answeredMany m_lastWord m_away (0 : Int32) (0 : Int32) (0 : Int32) m_isCalledAtSeven m_isAnsweredAtSeven m_seen m_weekAnswers m_weekHurt m_week m_row m_rowMany m_oneHas m_otherHas) s H locs := hw
  refine lv_iconst (v := (0 : Int32)) hx hb dX4_begins_15 (by decide) ?_
  refine lv_istore_n (lv' := [(1, .int (0 : Int32)), (0, .ref (q 0))]) hx hb dX4_begins_16 rfl hl (by decide) rfl (fun ls hl => ?_)
  obtain ⟨z11, hz11, h⟩ := bd h
  refine w_X4_begins_L17 K 1000 (0 : Int32) m_answeredMany m_lastWord _ _ _ (lv_sub hl [1, 0] rfl) hw _ hz11 (fun H locs ls hl hw => ?_)
  have h := Option.some.inj h
  subst h
  exact retV K hw dX4_begins_44
set_option maxHeartbeats 4000000 in
set_option maxRecDepth 100000 in
theorem w_X4_bestBut_J44 {l : Launch} {G : GP} {q : Nat → Nat} {p : Program} {e : Env} {s : State} {m : MethodId} {args : Array Value} {below : List Frame} {meth : Method} {c : Code} {A : Nat → Prop} {m_refused : Nat → Int32} {m_known : Nat → Int32} {m_setting : Nat → Int32} {m_kind : Nat → Int32} {m_figure : Nat → Int32} {m_tone : Nat → Int32} {m_word : Nat → Int32} {m_hours : Nat → Int32} {m_callers : Int32} {m_day : Int32} {m_tape : Nat → Int32} {m_letter : Nat → Int32} {m_letterAt : Nat → Int32} {m_told : Nat → Int32} {m_taped : Int32} {m_at : Int32} {m_statements : Int32} {m_kept : Nat → Int32} {m_hasImage : Int32} {m_isKeeping : Int32} {m_cursor : Int32} {m_answeredMany : Nat → Int32} {m_lastWord : Nat → Int32} {m_away : Int32} {m_answered : Int32} {m_unanswered : Int32} {m_saidWords : Int32} {m_isCalledAtSeven : Int32} {m_isAnsweredAtSeven : Int32} {m_seen : Nat → Int32} {m_weekAnswers : Int32} {m_weekHurt : Int32} {m_week : Nat → Int32} {m_row : Nat → Int32} {m_rowMany : Int32} {m_oneHas : Nat → Int32} {m_otherHas : Nat → Int32} {v1 : Int32} {v3 : Int32} {o : Int32} (K : Cx p s m args meth c A G cX4_bestBut 4 RX4 (some .int)) {H : Heap} {locs : List Loc} {ls : Array Slot} (hl : lv_has ls 4 [(0, .ref (q 0)), (1, .int v1), (3, .int v3)]) (hw : Wx G A (mC G q m_refused m_known m_setting m_kind m_figure m_tone m_word m_hours m_callers m_day m_tape m_letter m_letterAt m_told m_taped m_at m_statements m_kept m_hasImage m_isKeeping m_cursor m_answeredMany m_lastWord m_away m_answered m_unanswered m_saidWords m_isCalledAtSeven m_isAnsweredAtSeven m_seen m_weekAnswers m_weekHurt m_week m_row m_rowMany m_oneHas m_otherHas) s H locs) {y : (Int32 × Int32) ⊕ (Int32)} (h : f_X4_bestBut_J44 v3 = some y) (hk5 : ∀ (b : Int32 × Int32) (H : Heap) (locs : List Loc) (ls : Array Slot), y = .inl b → lv_has ls 4 [(0, .ref (q 0)), (1, .int v1), (2, .int b.1), (3, .int b.2)] → Wx G A (mC G q m_refused m_known m_setting m_kind m_figure m_tone m_word m_hours m_callers m_day m_tape m_letter m_letterAt m_told m_taped m_at m_statements m_kept m_hasImage m_isKeeping m_cursor m_answeredMany m_lastWord m_away m_answered m_unanswered m_saidWords m_isCalledAtSeven m_isAnsweredAtSeven m_seen m_weekAnswers m_weekHurt m_week m_row m_rowMany m_oneHas m_otherHas) s H locs → W p l e ({ frames := 0, cells := 0, slots := 0, locals := 0 } : Room) s m args below meth c H locs 0 0 (MQ below (QI G A (mC G q m_refused m_known m_setting m_kind m_figure m_tone m_word m_hours m_callers m_day m_tape m_letter m_letterAt m_told m_taped m_at m_statements m_kept m_hasImage m_isKeeping m_cursor m_answeredMany m_lastWord m_away m_answered m_unanswered m_saidWords m_isCalledAtSeven m_isAnsweredAtSeven m_seen m_weekAnswers m_weekHurt m_week m_row m_rowMany m_oneHas m_otherHas) o) args s 0 0 A) (F0 m 5 ls [])) (hx5 : ∀ (b : Int32) (H : Heap) (locs : List Loc) (ls : Array Slot), y = .inr b → lv_has ls 4 [(2, .int b)] → Wx G A (mC G q m_refused m_known m_setting m_kind m_figure m_tone m_word m_hours m_callers m_day m_tape m_letter m_letterAt m_told m_taped m_at m_statements m_kept m_hasImage m_isKeeping m_cursor m_answeredMany m_lastWord m_away m_answered m_unanswered m_saidWords m_isCalledAtSeven m_isAnsweredAtSeven m_seen m_weekAnswers m_weekHurt m_week m_row m_rowMany m_oneHas m_otherHas) s H locs → W p l e ({ frames := 0, cells := 0, slots := 0, locals := 0 } : Room) s m args below meth c H locs 0 0 (MQ below (QI G A (mC G q m_refused m_known m_setting m_kind m_figure m_tone m_word m_hours m_callers m_day m_tape m_letter m_letterAt m_told m_taped m_at m_statements m_kept m_hasImage m_isKeeping m_cursor m_answeredMany m_lastWord m_away m_answered m_unanswered m_saidWords m_isCalledAtSeven m_isAnsweredAtSeven m_seen m_weekAnswers m_weekHurt m_week m_row m_rowMany m_oneHas m_otherHas) o) args s 0 0 A) (F0 m 52 ls [])) : W p l e ({ frames := 0, cells := 0, slots := 0, locals := 0 } : Room) s m args below meth c H locs 0 0 (MQ below (QI G A (mC G q m_refused m_known m_setting m_kind m_figure m_tone m_word m_hours m_callers m_day m_tape m_letter m_letterAt m_told m_taped m_at m_statements m_kept m_hasImage m_isKeeping m_cursor m_answeredMany m_lastWord m_away m_answered m_unanswered m_saidWords m_isCalledAtSeven m_isAnsweredAtSeven m_seen m_weekAnswers m_weekHurt m_week m_row m_rowMany m_oneHas m_otherHas) o) args s 0 0 A) (F0 m 44 ls []) := by
  have hx := K.1.1
  have hb := K.1.2.1
  unfold f_X4_bestBut_J44 at h
  refine lv_iload_n hx hb dX4_bestBut_44 rfl (lv_at hl 2 rfl) ?_
  refine lv_istore_n (lv' := [(2, .int v3), (0, .ref (q 0)), (1, .int v1), (3, .int v3)]) hx hb dX4_bestBut_45 rfl hl (by decide) rfl (fun ls hl => ?_)
  refine lv_iinc (v := (v3 + (1 : Int32))) (lv' := [(3, .int (v3 + (1 : Int32))), (2, .int v3), (0, .ref (q 0)), (1, .int v1)]) hx hb dX4_bestBut_46 hl (k := 3) rfl rfl (by decide) rfl (fun ls hl => ?_)
  refine lv_goto (tgt := 5) hx hb dX4_bestBut_49 (by decide) ?_
  exact hk5 (v3, (v3 + (1 : Int32))) _ _ _ (Option.some.inj h).symm (lv_sub hl [2, 3, 1, 0] rfl) hw
set_option maxHeartbeats 4000000 in
set_option maxRecDepth 100000 in
theorem b_X4_bestBut_L5 {l : Launch} {G : GP} {q : Nat → Nat} {p : Program} {e : Env} {s : State} {m : MethodId} {args : Array Value} {below : List Frame} {meth : Method} {c : Code} {A : Nat → Prop} {m_refused : Nat → Int32} {m_known : Nat → Int32} {m_setting : Nat → Int32} {m_kind : Nat → Int32} {m_figure : Nat → Int32} {m_tone : Nat → Int32} {m_word : Nat → Int32} {m_hours : Nat → Int32} {m_callers : Int32} {m_day : Int32} {m_tape : Nat → Int32} {m_letter : Nat → Int32} {m_letterAt : Nat → Int32} {m_told : Nat → Int32} {m_taped : Int32} {m_at : Int32} {m_statements : Int32} {m_kept : Nat → Int32} {m_hasImage : Int32} {m_isKeeping : Int32} {m_cursor : Int32} {m_answeredMany : Nat → Int32} {m_lastWord : Nat → Int32} {m_away : Int32} {m_answered : Int32} {m_unanswered : Int32} {m_saidWords : Int32} {m_isCalledAtSeven : Int32} {m_isAnsweredAtSeven : Int32} {m_seen : Nat → Int32} {m_weekAnswers : Int32} {m_weekHurt : Int32} {m_week : Nat → Int32} {m_row : Nat → Int32} {m_rowMany : Int32} {m_oneHas : Nat → Int32} {m_otherHas : Nat → Int32} {v1 : Int32} {v2 : Int32} {v3 : Int32} {o : Int32} (K : Cx p s m args meth c A G cX4_bestBut 4 RX4 (some .int)) {H : Heap} {locs : List Loc} {ls : Array Slot} (hl : lv_has ls 4 [(0, .ref (q 0)), (1, .int v1), (2, .int v2), (3, .int v3)]) (hw : Wx G A (mC G q m_refused m_known m_setting m_kind m_figure m_tone m_word m_hours m_callers m_day m_tape m_letter m_letterAt m_told m_taped m_at m_statements m_kept m_hasImage m_isKeeping m_cursor m_answeredMany m_lastWord m_away m_answered m_unanswered m_saidWords m_isCalledAtSeven m_isAnsweredAtSeven m_seen m_weekAnswers m_weekHurt m_week m_row m_rowMany m_oneHas m_otherHas) s H locs) {y : (Int32 × Int32) ⊕ (Int32)} (h : f_X4_bestBut_L5 v1 m_known v2 v3 = some y) (hk5 : ∀ (b : Int32 × Int32) (H : Heap) (locs : List Loc) (ls : Array Slot), y = .inl b → lv_has ls 4 [(0, .ref (q 0)), (1, .int v1), (2, .int b.1), (3, .int b.2)] → Wx G A (mC G q m_refused m_known m_setting m_kind m_figure m_tone m_word m_hours m_callers m_day m_tape m_letter m_letterAt m_told m_taped m_at m_statements m_kept m_hasImage m_isKeeping m_cursor m_answeredMany m_lastWord m_away m_answered m_unanswered m_saidWords m_isCalledAtSeven m_isAnsweredAtSeven m_seen m_weekAnswers m_weekHurt m_week m_row m_rowMany m_oneHas m_otherHas) s H locs → W p l e ({ frames := 0, cells := 0, slots := 0, locals := 0 } : Room) s m args below meth c H locs 0 0 (MQ below (QI G A (mC G q m_refused m_known m_setting m_kind m_figure m_tone m_word m_hours m_callers m_day m_tape m_letter m_letterAt m_told m_taped m_at m_statements m_kept m_hasImage m_isKeeping m_cursor m_answeredMany m_lastWord m_away m_answered m_unanswered m_saidWords m_isCalledAtSeven m_isAnsweredAtSeven m_seen m_weekAnswers m_weekHurt m_week m_row m_rowMany m_oneHas m_otherHas) o) args s 0 0 A) (F0 m 5 ls [])) (hx5 : ∀ (b : Int32) (H : Heap) (locs : List Loc) (ls : Array Slot), y = .inr b → lv_has ls 4 [(2, .int b)] → Wx G A (mC G q m_refused m_known m_setting m_kind m_figure m_tone m_word m_hours m_callers m_day m_tape m_letter m_letterAt m_told m_taped m_at m_statements m_kept m_hasImage m_isKeeping m_cursor m_answeredMany m_lastWord m_away m_answered m_unanswered m_saidWords m_isCalledAtSeven m_isAnsweredAtSeven m_seen m_weekAnswers m_weekHurt m_week m_row m_rowMany m_oneHas m_otherHas) s H locs → W p l e ({ frames := 0, cells := 0, slots := 0, locals := 0 } : Room) s m args below meth c H locs 0 0 (MQ below (QI G A (mC G q m_refused m_known m_setting m_kind m_figure m_tone m_word m_hours m_callers m_day m_tape m_letter m_letterAt m_told m_taped m_at m_statements m_kept m_hasImage m_isKeeping m_cursor m_answeredMany m_lastWord m_away m_answered m_unanswered m_saidWords m_isCalledAtSeven m_isAnsweredAtSeven m_seen m_weekAnswers m_weekHurt m_week m_row m_rowMany m_oneHas m_otherHas) o) args s 0 0 A) (F0 m 52 ls [])) : W p l e ({ frames := 0, cells := 0, slots := 0, locals := 0 } : Room) s m args below meth c H locs 0 0 (MQ below (QI G A (mC G q m_refused m_known m_setting m_kind m_figure m_tone m_word m_hours m_callers m_day m_tape m_letter m_letterAt m_told m_taped m_at m_statements m_kept m_hasImage m_isKeeping m_cursor m_answeredMany m_lastWord m_away m_answered m_unanswered m_saidWords m_isCalledAtSeven m_isAnsweredAtSeven m_seen m_weekAnswers m_weekHurt m_week m_row m_rowMany m_oneHas m_otherHas) o) args s 0 0 A) (F0 m 5 ls []) := by
  have hx := K.1.1
  have hb := K.1.2.1
  unfold f_X4_bestBut_L5 at h
  refine lv_iload_n hx hb dX4_bestBut_5 rfl (lv_at hl 3 rfl) ?_
  refine lv_bipush (v := (8 : Int32)) hx hb dX4_bestBut_6 (by decide) ?_
  refine lv_icmp_ge (tgt := 52) hx hb dX4_bestBut_8 (by decide) (fun hc9 => ?_) (fun hc9 => ?_)
  · have h := ifp hc9 h
    exact hx5 v2 _ _ _ (Option.some.inj h).symm (lv_sub hl [2] rfl) hw
  · have h := ifn hc9 h
    refine lv_iload_n hx hb dX4_bestBut_11 rfl (lv_at hl 3 rfl) ?_
    refine lv_iload_n hx hb dX4_bestBut_12 rfl (lv_at hl 1 rfl) ?_
    refine lv_icmp_eq (tgt := 46) hx hb dX4_bestBut_13 (by decide) (fun hc10 => ?_) (fun hc10 => ?_)
    · have h := ifp hc10 h
      refine lv_iinc (v := (v3 + (1 : Int32))) (lv' := [(3, .int (v3 + (1 : Int32))), (0, .ref (q 0)), (1, .int v1), (2, .int v2)]) hx hb dX4_bestBut_46 hl (k := 3) rfl rfl (by decide) rfl (fun ls hl => ?_)
      refine lv_goto (tgt := 5) hx hb dX4_bestBut_49 (by decide) ?_
      exact hk5 (v2, (v3 + (1 : Int32))) _ _ _ (Option.some.inj h).symm (lv_sub hl [1, 2, 3, 0] rfl) hw
    · have h := ifn hc10 h
      refine lv_aload_n hx hb dX4_bestBut_16 rfl (lv_at hl 0 rfl) ?_
      refine getX K hw inTX4 0 1 fl_X4_13 dX4_bestBut_17 rfl rfl (by decide) rfl rfl ?_
      refine lv_iload_n hx hb dX4_bestBut_20 rfl (lv_at hl 3 rfl) ?_
      obtain ⟨hg11, h⟩ := gd h
      refine ialX K hw 2 (inB_in hg11) dX4_bestBut_21 rfl ?_
      refine lv_if_le (tgt := 46) hx hb dX4_bestBut_22 (by decide) (fun hc12 => ?_) (fun hc12 => ?_)
      · have h := ifp hc12 h
        refine lv_iinc (v := (v3 + (1 : Int32))) (lv' := [(3, .int (v3 + (1 : Int32))), (0, .ref (q 0)), (1, .int v1), (2, .int v2)]) hx hb dX4_bestBut_46 hl (k := 3) rfl rfl (by decide) rfl (fun ls hl => ?_)
        refine lv_goto (tgt := 5) hx hb dX4_bestBut_49 (by decide) ?_
        exact hk5 (v2, (v3 + (1 : Int32))) _ _ _ (Option.some.inj h).symm (lv_sub hl [1, 2, 3, 0] rfl) hw
      · have h := ifn hc12 h
        refine lv_iload_n hx hb dX4_bestBut_25 rfl (lv_at hl 2 rfl) ?_
        refine lv_if_lt (tgt := 44) hx hb dX4_bestBut_26 (by decide) (fun hc13 => ?_) (fun hc13 => ?_)
        · have h := ifp hc13 h
          exact w_X4_bestBut_J44 K (lv_sub hl [0, 1, 3] rfl) hw h hk5 hx5
        · have h := ifn hc13 h
          refine lv_aload_n hx hb dX4_bestBut_29 rfl (lv_at hl 0 rfl) ?_
          refine getX K hw inTX4 0 1 fl_X4_13 dX4_bestBut_30 rfl rfl (by decide) rfl rfl ?_
          refine lv_iload_n hx hb dX4_bestBut_33 rfl (lv_at hl 3 rfl) ?_
          obtain ⟨hg14, h⟩ := gd h
          refine ialX K hw 2 (inB_in hg14) dX4_bestBut_34 rfl ?_
          refine lv_aload_n hx hb dX4_bestBut_35 rfl (lv_at hl 0 rfl) ?_
          refine getX K hw inTX4 0 1 fl_X4_13 dX4_bestBut_36 rfl rfl (by decide) rfl rfl ?_
          refine lv_iload_n hx hb dX4_bestBut_39 rfl (lv_at hl 2 rfl) ?_
          obtain ⟨hg15, h⟩ := gd h
          refine ialX K hw 2 (inB_in hg15) dX4_bestBut_40 rfl ?_
          refine lv_icmp_le (tgt := 46) hx hb dX4_bestBut_41 (by decide) (fun hc16 => ?_) (fun hc16 => ?_)
          · have h := ifp hc16 h
            refine lv_iinc (v := (v3 + (1 : Int32))) (lv' := [(3, .int (v3 + (1 : Int32))), (0, .ref (q 0)), (1, .int v1), (2, .int v2)]) hx hb dX4_bestBut_46 hl (k := 3) rfl rfl (by decide) rfl (fun ls hl => ?_)
            refine lv_goto (tgt := 5) hx hb dX4_bestBut_49 (by decide) ?_
            exact hk5 (v2, (v3 + (1 : Int32))) _ _ _ (Option.some.inj h).symm (lv_sub hl [1, 2, 3, 0] rfl) hw
          · have h := ifn hc16 h
            exact w_X4_bestBut_J44 K (lv_sub hl [0, 1, 3] rfl) hw h hk5 hx5
set_option maxHeartbeats 4000000 in
set_option maxRecDepth 100000 in
theorem w_X4_bestBut_L5 {l : Launch} {G : GP} {q : Nat → Nat} {p : Program} {e : Env} {s : State} {m : MethodId} {args : Array Value} {below : List Frame} {meth : Method} {c : Code} {A : Nat → Prop} {m_refused : Nat → Int32} {m_known : Nat → Int32} {m_setting : Nat → Int32} {m_kind : Nat → Int32} {m_figure : Nat → Int32} {m_tone : Nat → Int32} {m_word : Nat → Int32} {m_hours : Nat → Int32} {m_callers : Int32} {m_day : Int32} {m_tape : Nat → Int32} {m_letter : Nat → Int32} {m_letterAt : Nat → Int32} {m_told : Nat → Int32} {m_taped : Int32} {m_at : Int32} {m_statements : Int32} {m_kept : Nat → Int32} {m_hasImage : Int32} {m_isKeeping : Int32} {m_cursor : Int32} {m_answeredMany : Nat → Int32} {m_lastWord : Nat → Int32} {m_away : Int32} {m_answered : Int32} {m_unanswered : Int32} {m_saidWords : Int32} {m_isCalledAtSeven : Int32} {m_isAnsweredAtSeven : Int32} {m_seen : Nat → Int32} {m_weekAnswers : Int32} {m_weekHurt : Int32} {m_week : Nat → Int32} {m_row : Nat → Int32} {m_rowMany : Int32} {m_oneHas : Nat → Int32} {m_otherHas : Nat → Int32} {v1 : Int32} {o : Int32} (K : Cx p s m args meth c A G cX4_bestBut 4 RX4 (some .int)) : ∀ (fu : Nat) (v2 : Int32) (v3 : Int32) (H : Heap) (locs : List Loc) (ls : Array Slot), lv_has ls 4 [(0, .ref (q 0)), (1, .int v1), (2, .int v2), (3, .int v3)] → Wx G A (mC G q m_refused m_known m_setting m_kind m_figure m_tone m_word m_hours m_callers m_day m_tape m_letter m_letterAt m_told m_taped m_at m_statements m_kept m_hasImage m_isKeeping m_cursor m_answeredMany m_lastWord m_away m_answered m_unanswered m_saidWords m_isCalledAtSeven m_isAnsweredAtSeven m_seen m_weekAnswers m_weekHurt m_week m_row m_rowMany m_oneHas m_otherHas) s H locs → ∀ (x : Int32), lp (fun z : Int32 × Int32 => f_X4_bestBut_L5 v1 m_known (z.1) (z.2)) fu (v2, v3) = some x → (∀ (H : Heap) (locs : List Loc) (ls : Array Slot), lv_has ls 4 [(2, .int x)] → Wx G A (mC G q m_refused m_known m_setting m_kind m_figure m_tone m_word m_hours m_callers m_day m_tape m_letter m_letterAt m_told m_taped m_at m_statements m_kept m_hasImage m_isKeeping m_cursor m_answeredMany m_lastWord m_away m_answered m_unanswered m_saidWords m_isCalledAtSeven m_isAnsweredAtSeven m_seen m_weekAnswers m_weekHurt m_week m_row m_rowMany m_oneHas m_otherHas) s H locs → W p l e ({ frames := 0, cells := 0, slots := 0, locals := 0 } : Room) s m args below meth c H locs 0 0 (MQ below (QI G A (mC G q m_refused m_known m_setting m_kind m_figure m_tone m_word m_hours m_callers m_day m_tape m_letter m_letterAt m_told m_taped m_at m_statements m_kept m_hasImage m_isKeeping m_cursor m_answeredMany m_lastWord m_away m_answered m_unanswered m_saidWords m_isCalledAtSeven m_isAnsweredAtSeven m_seen m_weekAnswers m_weekHurt m_week m_row m_rowMany m_oneHas m_otherHas) o) args s 0 0 A) (F0 m 52 ls [])) → W p l e ({ frames := 0, cells := 0, slots := 0, locals := 0 } : Room) s m args below meth c H locs 0 0 (MQ below (QI G A (mC G q m_refused m_known m_setting m_kind m_figure m_tone m_word m_hours m_callers m_day m_tape m_letter m_letterAt m_told m_taped m_at m_statements m_kept m_hasImage m_isKeeping m_cursor m_answeredMany m_lastWord m_away m_answered m_unanswered m_saidWords m_isCalledAtSeven m_isAnsweredAtSeven m_seen m_weekAnswers m_weekHurt m_week m_row m_rowMany m_oneHas m_otherHas) o) args s 0 0 A) (F0 m 5 ls []) := by
  intro fu
  induction fu with
  | zero => intro v2 v3 H locs ls hl hw x h; exact absurd (show none = some x from h) (by simp)
  | succ fu ih =>
    intro v2 v3 H locs ls hl hw x h hx5
    obtain ⟨y, hy, hc⟩ := lp_s h
    exact b_X4_bestBut_L5 K hl hw hy (fun b H locs ls hE hl hw => ih b.1 b.2 H locs ls hl hw _ (lp_b hc hE) hx5) (fun b H locs ls hE hl hw => by
      have e9 := lp_x hc hE
      subst e9
      exact hx5 H locs ls hl hw)
set_option maxHeartbeats 4000000 in
set_option maxRecDepth 100000 in
theorem c_X4_bestBut (l : Launch) (G : GP) (q : Nat → Nat) (m_refused : Nat → Int32) (m_known : Nat → Int32) (m_setting : Nat → Int32) (m_kind : Nat → Int32) (m_figure : Nat → Int32) (m_tone : Nat → Int32) (m_word : Nat → Int32) (m_hours : Nat → Int32) (m_callers : Int32) (m_day : Int32) (m_tape : Nat → Int32) (m_letter : Nat → Int32) (m_letterAt : Nat → Int32) (m_told : Nat → Int32) (m_taped : Int32) (m_at : Int32) (m_statements : Int32) (m_kept : Nat → Int32) (m_hasImage : Int32) (m_isKeeping : Int32) (m_cursor : Int32) (m_answeredMany : Nat → Int32) (m_lastWord : Nat → Int32) (m_away : Int32) (m_answered : Int32) (m_unanswered : Int32) (m_saidWords : Int32) (m_isCalledAtSeven : Int32) (m_isAnsweredAtSeven : Int32) (m_seen : Nat → Int32) (m_weekAnswers : Int32) (m_weekHurt : Int32) (m_week : Nat → Int32) (m_row : Nat → Int32) (m_rowMany : Int32) (m_oneHas : Nat → Int32) (m_otherHas : Nat → Int32) (v1 : Int32) {o : Int32} (h : f_X4_bestBut m_known v1 = some o) : CtI l yX4_bestBut cX4_bestBut 4 (some .int) ({ frames := 0, cells := 0, slots := 0, locals := 0 } : Room) G (mC G q m_refused m_known m_setting m_kind m_figure m_tone m_word m_hours m_callers m_day m_tape m_letter m_letterAt m_told m_taped m_at m_statements m_kept m_hasImage m_isKeeping m_cursor m_answeredMany m_lastWord m_away m_answered m_unanswered m_saidWords m_isCalledAtSeven m_isAnsweredAtSeven m_seen m_weekAnswers m_weekHurt m_week m_row m_rowMany m_oneHas m_otherHas) [.ref (q 0), .int v1] o (mC G q m_refused m_known m_setting m_kind m_figure m_tone m_word m_hours m_callers m_day m_tape m_letter m_letterAt m_told m_taped m_at m_statements m_kept m_hasImage m_isKeeping m_cursor m_answeredMany m_lastWord m_away m_answered m_unanswered m_saidWords m_isCalledAtSeven m_isAnsweredAtSeven m_seen m_weekAnswers m_weekHurt m_week m_row m_rowMany m_oneHas m_otherHas) := by
  refine CtI.of (by decide) (Nat.le_of_ble_eq_true rfl) ?_
  intro p e s m below meth c A ls K hl hw
  have hl : lv_has ls 4 [(0, .ref (q 0)), (1, .int v1)] := hl
  generalize ([.ref (q 0), .int v1] : List Value).toArray = args at K ⊢
  have hx := K.1.1
  have hb := K.1.2.1
  unfold f_X4_bestBut at h
  refine lv_bipush (v := (-9 : Int32)) hx hb dX4_bestBut_0 (by decide) ?_
  refine lv_istore_n (lv' := [(2, .int (-9 : Int32)), (0, .ref (q 0)), (1, .int v1)]) hx hb dX4_bestBut_2 rfl hl (by decide) rfl (fun ls hl => ?_)
  refine lv_iconst (v := (0 : Int32)) hx hb dX4_bestBut_3 (by decide) ?_
  refine lv_istore_n (lv' := [(3, .int (0 : Int32)), (2, .int (-9 : Int32)), (0, .ref (q 0)), (1, .int v1)]) hx hb dX4_bestBut_4 rfl hl (by decide) rfl (fun ls hl => ?_)
  obtain ⟨z17, hz17, h⟩ := bd h
  refine w_X4_bestBut_L5 K 1000 (-9 : Int32) (0 : Int32) _ _ _ (lv_sub hl [2, 3, 1, 0] rfl) hw _ hz17 (fun H locs ls hl hw => ?_)
  refine lv_iload_n hx hb dX4_bestBut_52 rfl (lv_at hl 0 rfl) ?_
  have h := Option.some.inj h
  subst h
  exact retI K hw rfl dX4_bestBut_53
set_option maxHeartbeats 4000000 in
set_option maxRecDepth 100000 in
theorem c_X4_hurt (l : Launch) (G : GP) (q : Nat → Nat) (m_refused : Nat → Int32) (m_known : Nat → Int32) (m_setting : Nat → Int32) (m_kind : Nat → Int32) (m_figure : Nat → Int32) (m_tone : Nat → Int32) (m_word : Nat → Int32) (m_hours : Nat → Int32) (m_callers : Int32) (m_day : Int32) (m_tape : Nat → Int32) (m_letter : Nat → Int32) (m_letterAt : Nat → Int32) (m_told : Nat → Int32) (m_taped : Int32) (m_at : Int32) (m_statements : Int32) (m_kept : Nat → Int32) (m_hasImage : Int32) (m_isKeeping : Int32) (m_cursor : Int32) (m_answeredMany : Nat → Int32) (m_lastWord : Nat → Int32) (m_away : Int32) (m_answered : Int32) (m_unanswered : Int32) (m_saidWords : Int32) (m_isCalledAtSeven : Int32) (m_isAnsweredAtSeven : Int32) (m_seen : Nat → Int32) (m_weekAnswers : Int32) (m_weekHurt : Int32) (m_week : Nat → Int32) (m_row : Nat → Int32) (m_rowMany : Int32) (m_oneHas : Nat → Int32) (m_otherHas : Nat → Int32) (v1 : Int32) {o : (Nat → Int32)} (h : f_X4_hurt m_setting v1 = o) : CtV l yX4_hurt cX4_hurt 3 ({ frames := 0, cells := 0, slots := 0, locals := 0 } : Room) G (mC G q m_refused m_known m_setting m_kind m_figure m_tone m_word m_hours m_callers m_day m_tape m_letter m_letterAt m_told m_taped m_at m_statements m_kept m_hasImage m_isKeeping m_cursor m_answeredMany m_lastWord m_away m_answered m_unanswered m_saidWords m_isCalledAtSeven m_isAnsweredAtSeven m_seen m_weekAnswers m_weekHurt m_week m_row m_rowMany m_oneHas m_otherHas) [.ref (q 0), .int v1] (mC G q m_refused m_known o m_kind m_figure m_tone m_word m_hours m_callers m_day m_tape m_letter m_letterAt m_told m_taped m_at m_statements m_kept m_hasImage m_isKeeping m_cursor m_answeredMany m_lastWord m_away m_answered m_unanswered m_saidWords m_isCalledAtSeven m_isAnsweredAtSeven m_seen m_weekAnswers m_weekHurt m_week m_row m_rowMany m_oneHas m_otherHas) := by
  refine CtV.of (by decide) (Nat.le_of_ble_eq_true rfl) ?_
  intro p e s m below meth c A ls K hl hw
  have hl : lv_has ls 3 [(0, .ref (q 0)), (1, .int v1)] := hl
  generalize ([.ref (q 0), .int v1] : List Value).toArray = args at K ⊢
  have hx := K.1.1
  have hb := K.1.2.1
  unfold f_X4_hurt at h
  refine lv_aload_n hx hb dX4_hurt_0 rfl (lv_at hl 0 rfl) ?_
  refine getX K hw inTX4 0 2 fl_X4_16 dX4_hurt_1 rfl rfl (by decide) rfl rfl ?_
  refine lv_iconst (v := (1 : Int32)) hx hb dX4_hurt_4 (by decide) ?_
  refine ialX K hw 3 (inB_in (by decide)) dX4_hurt_5 rfl ?_
  refine lv_iload_n hx hb dX4_hurt_6 rfl (lv_at hl 1 rfl) ?_
  refine lv_iadd hx hb dX4_hurt_7 ?_
  refine lv_istore_n (lv' := [(2, .int ((m_setting (1 : Int32).toNatClampNeg) + v1)), (0, .ref (q 0)), (1, .int v1)]) hx hb dX4_hurt_8 rfl hl (by decide) rfl (fun ls hl => ?_)
  refine lv_aload_n hx hb dX4_hurt_9 rfl (lv_at hl 1 rfl) ?_
  refine getX K hw inTX4 0 2 fl_X4_16 dX4_hurt_10 rfl rfl (by decide) rfl rfl ?_
  refine lv_iconst (v := (1 : Int32)) hx hb dX4_hurt_13 (by decide) ?_
  refine lv_iload_n hx hb dX4_hurt_14 rfl (lv_at hl 0 rfl) ?_
  refine lv_if_ge (tgt := 22) hx hb dX4_hurt_15 (by decide) (fun hc1 => ?_) (fun hc1 => ?_)
  · have h := ifp hc1 h
    refine lv_iload_n hx hb dX4_hurt_22 rfl (lv_at hl 0 rfl) ?_
    refine lv_bipush (v := (99 : Int32)) hx hb dX4_hurt_23 (by decide) ?_
    refine lv_icmp_le (tgt := 33) hx hb dX4_hurt_25 (by decide) (fun hc2 => ?_) (fun hc2 => ?_)
    · have h := ifp hc2 h
      refine lv_iload_n hx hb dX4_hurt_33 rfl (lv_at hl 0 rfl) ?_
      refine iasX K hw 3 (inB_in (by decide)) dX4_hurt_34 rfl (fun H locs hw => ?_)
      have hw : Wx G A (mC G q m_refused m_known (upd m_setting (1 : Int32).toNatClampNeg ((m_setting (1 : Int32).toNatClampNeg) + v1)) m_kind m_figure m_tone m_word m_hours m_callers m_day m_tape m_letter m_letterAt m_told m_taped m_at m_statements m_kept m_hasImage m_isKeeping m_cursor m_answeredMany m_lastWord m_away m_answered m_unanswered m_saidWords m_isCalledAtSeven m_isAnsweredAtSeven m_seen m_weekAnswers m_weekHurt m_week m_row m_rowMany m_oneHas m_otherHas) s H locs := hw
      subst h
      exact retV K hw dX4_hurt_35
    · have h := ifn hc2 h
      refine lv_bipush (v := (99 : Int32)) hx hb dX4_hurt_28 (by decide) ?_
      refine lv_goto (tgt := 34) hx hb dX4_hurt_30 (by decide) ?_
      refine iasX K hw 3 (inB_in (by decide)) dX4_hurt_34 rfl (fun H locs hw => ?_)
      have hw : Wx G A (mC G q m_refused m_known (upd m_setting (1 : Int32).toNatClampNeg (99 : Int32)) m_kind m_figure m_tone m_word m_hours m_callers m_day m_tape m_letter m_letterAt m_told m_taped m_at m_statements m_kept m_hasImage m_isKeeping m_cursor m_answeredMany m_lastWord m_away m_answered m_unanswered m_saidWords m_isCalledAtSeven m_isAnsweredAtSeven m_seen m_weekAnswers m_weekHurt m_week m_row m_rowMany m_oneHas m_otherHas) s H locs := hw
      subst h
      exact retV K hw dX4_hurt_35
  · have h := ifn hc1 h
    refine lv_iconst (v := (0 : Int32)) hx hb dX4_hurt_18 (by decide) ?_
    refine lv_goto (tgt := 34) hx hb dX4_hurt_19 (by decide) ?_
    refine iasX K hw 3 (inB_in (by decide)) dX4_hurt_34 rfl (fun H locs hw => ?_)
    have hw : Wx G A (mC G q m_refused m_known (upd m_setting (1 : Int32).toNatClampNeg (0 : Int32)) m_kind m_figure m_tone m_word m_hours m_callers m_day m_tape m_letter m_letterAt m_told m_taped m_at m_statements m_kept m_hasImage m_isKeeping m_cursor m_answeredMany m_lastWord m_away m_answered m_unanswered m_saidWords m_isCalledAtSeven m_isAnsweredAtSeven m_seen m_weekAnswers m_weekHurt m_week m_row m_rowMany m_oneHas m_otherHas) s H locs := hw
    subst h
    exact retV K hw dX4_hurt_35
set_option maxHeartbeats 4000000 in
set_option maxRecDepth 100000 in
theorem c_X4_hurts (l : Launch) (G : GP) (q : Nat → Nat) (m_refused : Nat → Int32) (m_known : Nat → Int32) (m_setting : Nat → Int32) (m_kind : Nat → Int32) (m_figure : Nat → Int32) (m_tone : Nat → Int32) (m_word : Nat → Int32) (m_hours : Nat → Int32) (m_callers : Int32) (m_day : Int32) (m_tape : Nat → Int32) (m_letter : Nat → Int32) (m_letterAt : Nat → Int32) (m_told : Nat → Int32) (m_taped : Int32) (m_at : Int32) (m_statements : Int32) (m_kept : Nat → Int32) (m_hasImage : Int32) (m_isKeeping : Int32) (m_cursor : Int32) (m_answeredMany : Nat → Int32) (m_lastWord : Nat → Int32) (m_away : Int32) (m_answered : Int32) (m_unanswered : Int32) (m_saidWords : Int32) (m_isCalledAtSeven : Int32) (m_isAnsweredAtSeven : Int32) (m_seen : Nat → Int32) (m_weekAnswers : Int32) (m_weekHurt : Int32) (m_week : Nat → Int32) (m_row : Nat → Int32) (m_rowMany : Int32) (m_oneHas : Nat → Int32) (m_otherHas : Nat → Int32) (v1 : Int32) {o : Int32} (h : f_X4_hurts m_kind m_figure v1 = some o) : CtI l yX4_hurts cX4_hurts 2 (some .int) ({ frames := 0, cells := 0, slots := 0, locals := 0 } : Room) G (mC G q m_refused m_known m_setting m_kind m_figure m_tone m_word m_hours m_callers m_day m_tape m_letter m_letterAt m_told m_taped m_at m_statements m_kept m_hasImage m_isKeeping m_cursor m_answeredMany m_lastWord m_away m_answered m_unanswered m_saidWords m_isCalledAtSeven m_isAnsweredAtSeven m_seen m_weekAnswers m_weekHurt m_week m_row m_rowMany m_oneHas m_otherHas) [.ref (q 0), .int v1] o (mC G q m_refused m_known m_setting m_kind m_figure m_tone m_word m_hours m_callers m_day m_tape m_letter m_letterAt m_told m_taped m_at m_statements m_kept m_hasImage m_isKeeping m_cursor m_answeredMany m_lastWord m_away m_answered m_unanswered m_saidWords m_isCalledAtSeven m_isAnsweredAtSeven m_seen m_weekAnswers m_weekHurt m_week m_row m_rowMany m_oneHas m_otherHas) := by
  refine CtI.of (by decide) (Nat.le_of_ble_eq_true rfl) ?_
  intro p e s m below meth c A ls K hl hw
  have hl : lv_has ls 2 [(0, .ref (q 0)), (1, .int v1)] := hl
  generalize ([.ref (q 0), .int v1] : List Value).toArray = args at K ⊢
  have hx := K.1.1
  have hb := K.1.2.1
  unfold f_X4_hurts at h
  refine lv_aload_n hx hb dX4_hurts_0 rfl (lv_at hl 0 rfl) ?_
  refine getX K hw inTX4 0 3 fl_X4_19 dX4_hurts_1 rfl rfl (by decide) rfl rfl ?_
  refine lv_iload_n hx hb dX4_hurts_4 rfl (lv_at hl 1 rfl) ?_
  obtain ⟨hg4, h⟩ := gd h
  refine ialX K hw 4 (inB_in hg4) dX4_hurts_5 rfl ?_
  by_cases hs5 : (m_kind v1.toNatClampNeg) = (1 : Int32)
  · have h := ifp hs5 h
    refine lv_tableIn (off := 34) (tgt := 40) hx hb dX4_hurts_6 (by rw [hs5]; decide) (by rw [hs5]; decide) (by rw [hs5]; rfl) (by decide) ?_
    refine lv_iconst (v := (2 : Int32)) hx hb dX4_hurts_40 (by decide) ?_
    have h := Option.some.inj h
    subst h
    exact retI K hw rfl dX4_hurts_41
  have h := ifn hs5 h
  by_cases hs6 : (m_kind v1.toNatClampNeg) = (2 : Int32)
  · have h := ifp hs6 h
    refine lv_tableIn (off := 36) (tgt := 42) hx hb dX4_hurts_6 (by rw [hs6]; decide) (by rw [hs6]; decide) (by rw [hs6]; rfl) (by decide) ?_
    refine lv_iconst (v := (1 : Int32)) hx hb dX4_hurts_42 (by decide) ?_
    have h := Option.some.inj h
    subst h
    exact retI K hw rfl dX4_hurts_43
  have h := ifn hs6 h
  by_cases hs7 : (m_kind v1.toNatClampNeg) = (3 : Int32)
  · have h := ifp hs7 h
    refine lv_tableIn (off := 38) (tgt := 44) hx hb dX4_hurts_6 (by rw [hs7]; decide) (by rw [hs7]; decide) (by rw [hs7]; rfl) (by decide) ?_
    refine lv_aload_n hx hb dX4_hurts_44 rfl (lv_at hl 0 rfl) ?_
    refine getX K hw inTX4 0 4 fl_X4_22 dX4_hurts_45 rfl rfl (by decide) rfl rfl ?_
    refine lv_iload_n hx hb dX4_hurts_48 rfl (lv_at hl 1 rfl) ?_
    obtain ⟨hg8, h⟩ := gd h
    refine ialX K hw 5 (inB_in hg8) dX4_hurts_49 rfl ?_
    refine lv_ineg hx hb dX4_hurts_50 ?_
    have h := Option.some.inj h
    subst h
    exact retI K hw rfl dX4_hurts_51
  have h := ifn hs7 h
  by_cases hs9 : (m_kind v1.toNatClampNeg) = (5 : Int32)
  · have h := ifp hs9 h
    refine lv_tableIn (off := 46) (tgt := 52) hx hb dX4_hurts_6 (by rw [hs9]; decide) (by rw [hs9]; decide) (by rw [hs9]; rfl) (by decide) ?_
    refine lv_aload_n hx hb dX4_hurts_52 rfl (lv_at hl 0 rfl) ?_
    refine getX K hw inTX4 0 4 fl_X4_22 dX4_hurts_53 rfl rfl (by decide) rfl rfl ?_
    refine lv_iload_n hx hb dX4_hurts_56 rfl (lv_at hl 1 rfl) ?_
    obtain ⟨hg10, h⟩ := gd h
    refine ialX K hw 5 (inB_in hg10) dX4_hurts_57 rfl ?_
    have h := Option.some.inj h
    subst h
    exact retI K hw rfl dX4_hurts_58
  have h := ifn hs9 h
  refine tsw_d (tgt := 59) (n := 5) hx hb dX4_hurts_6 rfl (by decide) (fun j hj => ?_) (by decide) ?_
  · have hj2 : j = 0 ∨ j = 1 ∨ j = 2 ∨ j = 3 ∨ j = 4 := by omega
    rcases hj2 with rfl | rfl | rfl | rfl | rfl
    · exact Or.inr (lv_neT hs5 (by decide))
    · exact Or.inr (lv_neT hs6 (by decide))
    · exact Or.inr (lv_neT hs7 (by decide))
    · exact Or.inl rfl
    · exact Or.inr (lv_neT hs9 (by decide))
  refine lv_iconst (v := (0 : Int32)) hx hb dX4_hurts_59 (by decide) ?_
  have h := Option.some.inj h
  subst h
  exact retI K hw rfl dX4_hurts_60
set_option maxHeartbeats 4000000 in
set_option maxRecDepth 100000 in
theorem c_X4_isSilent (l : Launch) (G : GP) (q : Nat → Nat) (m_refused : Nat → Int32) (m_known : Nat → Int32) (m_setting : Nat → Int32) (m_kind : Nat → Int32) (m_figure : Nat → Int32) (m_tone : Nat → Int32) (m_word : Nat → Int32) (m_hours : Nat → Int32) (m_callers : Int32) (m_day : Int32) (m_tape : Nat → Int32) (m_letter : Nat → Int32) (m_letterAt : Nat → Int32) (m_told : Nat → Int32) (m_taped : Int32) (m_at : Int32) (m_statements : Int32) (m_kept : Nat → Int32) (m_hasImage : Int32) (m_isKeeping : Int32) (m_cursor : Int32) (m_answeredMany : Nat → Int32) (m_lastWord : Nat → Int32) (m_away : Int32) (m_answered : Int32) (m_unanswered : Int32) (m_saidWords : Int32) (m_isCalledAtSeven : Int32) (m_isAnsweredAtSeven : Int32) (m_seen : Nat → Int32) (m_weekAnswers : Int32) (m_weekHurt : Int32) (m_week : Nat → Int32) (m_row : Nat → Int32) (m_rowMany : Int32) (m_oneHas : Nat → Int32) (m_otherHas : Nat → Int32) {o : Int32} (h : f_X4_isSilent m_setting = o) : CtI l yX4_isSilent cX4_isSilent 1 (some .boolean) ({ frames := 0, cells := 0, slots := 0, locals := 0 } : Room) G (mC G q m_refused m_known m_setting m_kind m_figure m_tone m_word m_hours m_callers m_day m_tape m_letter m_letterAt m_told m_taped m_at m_statements m_kept m_hasImage m_isKeeping m_cursor m_answeredMany m_lastWord m_away m_answered m_unanswered m_saidWords m_isCalledAtSeven m_isAnsweredAtSeven m_seen m_weekAnswers m_weekHurt m_week m_row m_rowMany m_oneHas m_otherHas) [.ref (q 0)] o (mC G q m_refused m_known m_setting m_kind m_figure m_tone m_word m_hours m_callers m_day m_tape m_letter m_letterAt m_told m_taped m_at m_statements m_kept m_hasImage m_isKeeping m_cursor m_answeredMany m_lastWord m_away m_answered m_unanswered m_saidWords m_isCalledAtSeven m_isAnsweredAtSeven m_seen m_weekAnswers m_weekHurt m_week m_row m_rowMany m_oneHas m_otherHas) := by
  refine CtI.of (by decide) (Nat.le_of_ble_eq_true rfl) ?_
  intro p e s m below meth c A ls K hl hw
  have hl : lv_has ls 1 [(0, .ref (q 0))] := hl
  generalize ([.ref (q 0)] : List Value).toArray = args at K ⊢
  have hx := K.1.1
  have hb := K.1.2.1
  unfold f_X4_isSilent at h
  refine lv_aload_n hx hb dX4_isSilent_0 rfl (lv_at hl 0 rfl) ?_
  refine getX K hw inTX4 0 2 fl_X4_16 dX4_isSilent_1 rfl rfl (by decide) rfl rfl ?_
  refine lv_iconst (v := (1 : Int32)) hx hb dX4_isSilent_4 (by decide) ?_
  refine ialX K hw 3 (inB_in (by decide)) dX4_isSilent_5 rfl ?_
  refine lv_aload_n hx hb dX4_isSilent_6 rfl (lv_at hl 0 rfl) ?_
  refine getX K hw inTX4 0 2 fl_X4_16 dX4_isSilent_7 rfl rfl (by decide) rfl rfl ?_
  refine lv_iconst (v := (2 : Int32)) hx hb dX4_isSilent_10 (by decide) ?_
  refine ialX K hw 3 (inB_in (by decide)) dX4_isSilent_11 rfl ?_
  refine lv_icmp_le (tgt := 19) hx hb dX4_isSilent_12 (by decide) (fun hc1 => ?_) (fun hc1 => ?_)
  · have h := ifp hc1 h
    refine lv_iconst (v := (0 : Int32)) hx hb dX4_isSilent_19 (by decide) ?_
    subst h
    exact retZ K hw rfl rfl dX4_isSilent_20
  · have h := ifn hc1 h
    refine lv_iconst (v := (1 : Int32)) hx hb dX4_isSilent_15 (by decide) ?_
    refine lv_goto (tgt := 20) hx hb dX4_isSilent_16 (by decide) ?_
    subst h
    exact retZ K hw rfl rfl dX4_isSilent_20
set_option maxHeartbeats 4000000 in
set_option maxRecDepth 100000 in
theorem c_X4_reach (l : Launch) (G : GP) (q : Nat → Nat) (m_refused : Nat → Int32) (m_known : Nat → Int32) (m_setting : Nat → Int32) (m_kind : Nat → Int32) (m_figure : Nat → Int32) (m_tone : Nat → Int32) (m_word : Nat → Int32) (m_hours : Nat → Int32) (m_callers : Int32) (m_day : Int32) (m_tape : Nat → Int32) (m_letter : Nat → Int32) (m_letterAt : Nat → Int32) (m_told : Nat → Int32) (m_taped : Int32) (m_at : Int32) (m_statements : Int32) (m_kept : Nat → Int32) (m_hasImage : Int32) (m_isKeeping : Int32) (m_cursor : Int32) (m_answeredMany : Nat → Int32) (m_lastWord : Nat → Int32) (m_away : Int32) (m_answered : Int32) (m_unanswered : Int32) (m_saidWords : Int32) (m_isCalledAtSeven : Int32) (m_isAnsweredAtSeven : Int32) (m_seen : Nat → Int32) (m_weekAnswers : Int32) (m_weekHurt : Int32) (m_week : Nat → Int32) (m_row : Nat → Int32) (m_rowMany : Int32) (m_oneHas : Nat → Int32) (m_otherHas : Nat → Int32) (v1 : Int32) {o : Int32} (h : f_X4_reach m_kind v1 = some o) : CtI l yX4_reach cX4_reach 2 (some .int) ({ frames := 0, cells := 0, slots := 0, locals := 0 } : Room) G (mC G q m_refused m_known m_setting m_kind m_figure m_tone m_word m_hours m_callers m_day m_tape m_letter m_letterAt m_told m_taped m_at m_statements m_kept m_hasImage m_isKeeping m_cursor m_answeredMany m_lastWord m_away m_answered m_unanswered m_saidWords m_isCalledAtSeven m_isAnsweredAtSeven m_seen m_weekAnswers m_weekHurt m_week m_row m_rowMany m_oneHas m_otherHas) [.ref (q 0), .int v1] o (mC G q m_refused m_known m_setting m_kind m_figure m_tone m_word m_hours m_callers m_day m_tape m_letter m_letterAt m_told m_taped m_at m_statements m_kept m_hasImage m_isKeeping m_cursor m_answeredMany m_lastWord m_away m_answered m_unanswered m_saidWords m_isCalledAtSeven m_isAnsweredAtSeven m_seen m_weekAnswers m_weekHurt m_week m_row m_rowMany m_oneHas m_otherHas) := by
  refine CtI.of (by decide) (Nat.le_of_ble_eq_true rfl) ?_
  intro p e s m below meth c A ls K hl hw
  have hl : lv_has ls 2 [(0, .ref (q 0)), (1, .int v1)] := hl
  generalize ([.ref (q 0), .int v1] : List Value).toArray = args at K ⊢
  have hx := K.1.1
  have hb := K.1.2.1
  unfold f_X4_reach at h
  refine lv_aload_n hx hb dX4_reach_0 rfl (lv_at hl 0 rfl) ?_
  refine getX K hw inTX4 0 3 fl_X4_19 dX4_reach_1 rfl rfl (by decide) rfl rfl ?_
  refine lv_iload_n hx hb dX4_reach_4 rfl (lv_at hl 1 rfl) ?_
  obtain ⟨hg2, h⟩ := gd h
  refine ialX K hw 4 (inB_in hg2) dX4_reach_5 rfl ?_
  by_cases hs3 : (m_kind v1.toNatClampNeg) = (1 : Int32)
  · have h := ifp hs3 h
    refine lv_tableIn (off := 34) (tgt := 40) hx hb dX4_reach_6 (by rw [hs3]; decide) (by rw [hs3]; decide) (by rw [hs3]; rfl) (by decide) ?_
    refine lv_iconst (v := (4 : Int32)) hx hb dX4_reach_40 (by decide) ?_
    have h := Option.some.inj h
    subst h
    exact retI K hw rfl dX4_reach_41
  have h := ifn hs3 h
  by_cases hs4 : (m_kind v1.toNatClampNeg) = (3 : Int32)
  · have h := ifp hs4 h
    refine lv_tableIn (off := 36) (tgt := 42) hx hb dX4_reach_6 (by rw [hs4]; decide) (by rw [hs4]; decide) (by rw [hs4]; rfl) (by decide) ?_
    refine lv_iconst (v := (-1 : Int32)) hx hb dX4_reach_42 (by decide) ?_
    have h := Option.some.inj h
    subst h
    exact retI K hw rfl dX4_reach_43
  have h := ifn hs4 h
  by_cases hs5 : (m_kind v1.toNatClampNeg) = (4 : Int32)
  · have h := ifp hs5 h
    refine lv_tableIn (off := 38) (tgt := 44) hx hb dX4_reach_6 (by rw [hs5]; decide) (by rw [hs5]; decide) (by rw [hs5]; rfl) (by decide) ?_
    refine lv_iconst (v := (0 : Int32)) hx hb dX4_reach_44 (by decide) ?_
    have h := Option.some.inj h
    subst h
    exact retI K hw rfl dX4_reach_45
  have h := ifn hs5 h
  by_cases hs6 : (m_kind v1.toNatClampNeg) = (5 : Int32)
  · have h := ifp hs6 h
    refine lv_tableIn (off := 40) (tgt := 46) hx hb dX4_reach_6 (by rw [hs6]; decide) (by rw [hs6]; decide) (by rw [hs6]; rfl) (by decide) ?_
    refine lv_bipush (v := (9 : Int32)) hx hb dX4_reach_46 (by decide) ?_
    have h := Option.some.inj h
    subst h
    exact retI K hw rfl dX4_reach_48
  have h := ifn hs6 h
  refine tsw_d (tgt := 49) (n := 5) hx hb dX4_reach_6 rfl (by decide) (fun j hj => ?_) (by decide) ?_
  · have hj2 : j = 0 ∨ j = 1 ∨ j = 2 ∨ j = 3 ∨ j = 4 := by omega
    rcases hj2 with rfl | rfl | rfl | rfl | rfl
    · exact Or.inr (lv_neT hs3 (by decide))
    · exact Or.inl rfl
    · exact Or.inr (lv_neT hs4 (by decide))
    · exact Or.inr (lv_neT hs5 (by decide))
    · exact Or.inr (lv_neT hs6 (by decide))
  refine lv_iconst (v := (2 : Int32)) hx hb dX4_reach_49 (by decide) ?_
  have h := Option.some.inj h
  subst h
  exact retI K hw rfl dX4_reach_50
set_option maxHeartbeats 4000000 in
set_option maxRecDepth 100000 in
theorem w_X4_isAnswered_J44 {l : Launch} {G : GP} {q : Nat → Nat} {p : Program} {e : Env} {s : State} {m : MethodId} {args : Array Value} {below : List Frame} {meth : Method} {c : Code} {A : Nat → Prop} {m_refused : Nat → Int32} {m_known : Nat → Int32} {m_setting : Nat → Int32} {m_kind : Nat → Int32} {m_figure : Nat → Int32} {m_tone : Nat → Int32} {m_word : Nat → Int32} {m_hours : Nat → Int32} {m_callers : Int32} {m_day : Int32} {m_tape : Nat → Int32} {m_letter : Nat → Int32} {m_letterAt : Nat → Int32} {m_told : Nat → Int32} {m_taped : Int32} {m_at : Int32} {m_statements : Int32} {m_kept : Nat → Int32} {m_hasImage : Int32} {m_isKeeping : Int32} {m_cursor : Int32} {m_answeredMany : Nat → Int32} {m_lastWord : Nat → Int32} {m_away : Int32} {m_answered : Int32} {m_unanswered : Int32} {m_saidWords : Int32} {m_isCalledAtSeven : Int32} {m_isAnsweredAtSeven : Int32} {m_seen : Nat → Int32} {m_weekAnswers : Int32} {m_weekHurt : Int32} {m_week : Nat → Int32} {m_row : Nat → Int32} {m_rowMany : Int32} {m_oneHas : Nat → Int32} {m_otherHas : Nat → Int32} {v1 : Int32} {s0 : Int32} {o : Int32} (K : Cx p s m args meth c A G cX4_isAnswered 3 RX4 (some .boolean)) {H : Heap} {locs : List Loc} {ls : Array Slot} (hl : lv_has ls 3 [(0, .ref (q 0)), (1, .int v1)]) (hw : Wx G A (mC G q m_refused m_known m_setting m_kind m_figure m_tone m_word m_hours m_callers m_day m_tape m_letter m_letterAt m_told m_taped m_at m_statements m_kept m_hasImage m_isKeeping m_cursor m_answeredMany m_lastWord m_away m_answered m_unanswered m_saidWords m_isCalledAtSeven m_isAnsweredAtSeven m_seen m_weekAnswers m_weekHurt m_week m_row m_rowMany m_oneHas m_otherHas) s H locs) (h : f_X4_isAnswered_J44 v1 s0 m_setting m_kind = some o)  : W p l e ({ frames := 1, cells := 0, slots := 0, locals := 21 } : Room) s m args below meth c H locs 0 0 (MQ below (QI G A (mC G q m_refused m_known m_setting m_kind m_figure m_tone m_word m_hours m_callers m_day m_tape m_letter m_letterAt m_told m_taped m_at m_statements m_kept m_hasImage m_isKeeping m_cursor m_answeredMany m_lastWord m_away m_answered m_unanswered m_saidWords m_isCalledAtSeven m_isAnsweredAtSeven m_seen m_weekAnswers m_weekHurt m_week m_row m_rowMany m_oneHas m_otherHas) o) args s 0 0 A) (F0 m 44 ls [.int s0]) := by
  have hx := K.1.1
  have hb := K.1.2.1
  unfold f_X4_isAnswered_J44 at h
  refine lv_istore_n (lv' := [(2, .int s0), (0, .ref (q 0)), (1, .int v1)]) hx hb dX4_isAnswered_44 rfl hl (by decide) rfl (fun ls hl => ?_)
  refine lv_aload_n hx hb dX4_isAnswered_45 rfl (lv_at hl 1 rfl) ?_
  refine callVI K (c_X4_isSilent l G q m_refused m_known m_setting m_kind m_figure m_tone m_word m_hours m_callers m_day m_tape m_letter m_letterAt m_told m_taped m_at m_statements m_kept m_hasImage m_isKeeping m_cursor m_answeredMany m_lastWord m_away m_answered m_unanswered m_saidWords m_isCalledAtSeven m_isAnsweredAtSeven m_seen m_weekAnswers m_weekHurt m_week m_row m_rowMany m_oneHas m_otherHas rfl) mt_yX4_isSilent lk_X4_168 ⟨rfl, rfl, Nat.le_of_ble_eq_true rfl, Nat.le_of_ble_eq_true rfl⟩ hw dX4_isAnswered_46 hl.1 ⟨Nat.zero_le _, Nat.zero_le _⟩ (wa := ((mC G q m_refused m_known m_setting m_kind m_figure m_tone m_word m_hours m_callers m_day m_tape m_letter m_letterAt m_told m_taped m_at m_statements m_kept m_hasImage m_isKeeping m_cursor m_answeredMany m_lastWord m_away m_answered m_unanswered m_saidWords m_isCalledAtSeven m_isAnsweredAtSeven m_seen m_weekAnswers m_weekHurt m_week m_row m_rowMany m_oneHas m_otherHas).take 0)) (wb := ((mC G q m_refused m_known m_setting m_kind m_figure m_tone m_word m_hours m_callers m_day m_tape m_letter m_letterAt m_told m_taped m_at m_statements m_kept m_hasImage m_isKeeping m_cursor m_answeredMany m_lastWord m_away m_answered m_unanswered m_saidWords m_isCalledAtSeven m_isAnsweredAtSeven m_seen m_weekAnswers m_weekHurt m_week m_row m_rowMany m_oneHas m_otherHas).drop 21)) rfl rfl rfl (rest := []) rfl rfl (Nat.le_of_ble_eq_true rfl) (fun H locs hw => ?_)
  have hw : Wx G A (mC G q m_refused m_known m_setting m_kind m_figure m_tone m_word m_hours m_callers m_day m_tape m_letter m_letterAt m_told m_taped m_at m_statements m_kept m_hasImage m_isKeeping m_cursor m_answeredMany m_lastWord m_away m_answered m_unanswered m_saidWords m_isCalledAtSeven m_isAnsweredAtSeven m_seen m_weekAnswers m_weekHurt m_week m_row m_rowMany m_oneHas m_otherHas) s H locs := hw
  refine lv_if_ne (tgt := 65) hx hb dX4_isAnswered_49 (by decide) (fun hc9 => ?_) (fun hc9 => ?_)
  · have h := ifn hc9 h
    refine lv_iconst (v := (0 : Int32)) hx hb dX4_isAnswered_65 (by decide) ?_
    have h := Option.some.inj h
    subst h
    exact retZ K hw rfl rfl dX4_isAnswered_66
  · have h := ifp hc9 h
    refine lv_iload_n hx hb dX4_isAnswered_52 rfl (lv_at hl 0 rfl) ?_
    refine lv_aload_n hx hb dX4_isAnswered_53 rfl (lv_at hl 1 rfl) ?_
    refine lv_iload_n hx hb dX4_isAnswered_54 rfl (lv_at hl 2 rfl) ?_
    obtain ⟨z10, hz10, h⟩ := bd h
    refine callVI K (c_X4_reach l G q m_refused m_known m_setting m_kind m_figure m_tone m_word m_hours m_callers m_day m_tape m_letter m_letterAt m_told m_taped m_at m_statements m_kept m_hasImage m_isKeeping m_cursor m_answeredMany m_lastWord m_away m_answered m_unanswered m_saidWords m_isCalledAtSeven m_isAnsweredAtSeven m_seen m_weekAnswers m_weekHurt m_week m_row m_rowMany m_oneHas m_otherHas v1 hz10) mt_yX4_reach lk_X4_171 ⟨rfl, rfl, Nat.le_of_ble_eq_true rfl, Nat.le_of_ble_eq_true rfl⟩ hw dX4_isAnswered_55 hl.1 ⟨Nat.zero_le _, Nat.zero_le _⟩ (wa := ((mC G q m_refused m_known m_setting m_kind m_figure m_tone m_word m_hours m_callers m_day m_tape m_letter m_letterAt m_told m_taped m_at m_statements m_kept m_hasImage m_isKeeping m_cursor m_answeredMany m_lastWord m_away m_answered m_unanswered m_saidWords m_isCalledAtSeven m_isAnsweredAtSeven m_seen m_weekAnswers m_weekHurt m_week m_row m_rowMany m_oneHas m_otherHas).take 0)) (wb := ((mC G q m_refused m_known m_setting m_kind m_figure m_tone m_word m_hours m_callers m_day m_tape m_letter m_letterAt m_told m_taped m_at m_statements m_kept m_hasImage m_isKeeping m_cursor m_answeredMany m_lastWord m_away m_answered m_unanswered m_saidWords m_isCalledAtSeven m_isAnsweredAtSeven m_seen m_weekAnswers m_weekHurt m_week m_row m_rowMany m_oneHas m_otherHas).drop 21)) rfl rfl rfl (rest := [.int s0]) rfl rfl (Nat.le_of_ble_eq_true rfl) (fun H locs hw => ?_)
    have hw : Wx G A (mC G q m_refused m_known m_setting m_kind m_figure m_tone m_word m_hours m_callers m_day m_tape m_letter m_letterAt m_told m_taped m_at m_statements m_kept m_hasImage m_isKeeping m_cursor m_answeredMany m_lastWord m_away m_answered m_unanswered m_saidWords m_isCalledAtSeven m_isAnsweredAtSeven m_seen m_weekAnswers m_weekHurt m_week m_row m_rowMany m_oneHas m_otherHas) s H locs := hw
    refine lv_icmp_gt (tgt := 65) hx hb dX4_isAnswered_58 (by decide) (fun hc11 => ?_) (fun hc11 => ?_)
    · have h := ifp hc11 h
      refine lv_iconst (v := (0 : Int32)) hx hb dX4_isAnswered_65 (by decide) ?_
      have h := Option.some.inj h
      subst h
      exact retZ K hw rfl rfl dX4_isAnswered_66
    · have h := ifn hc11 h
      refine lv_iconst (v := (1 : Int32)) hx hb dX4_isAnswered_61 (by decide) ?_
      refine lv_goto (tgt := 66) hx hb dX4_isAnswered_62 (by decide) ?_
      have h := Option.some.inj h
      subst h
      exact retZ K hw rfl rfl dX4_isAnswered_66
set_option maxHeartbeats 4000000 in
set_option maxRecDepth 100000 in
theorem c_X4_isAnswered (l : Launch) (G : GP) (q : Nat → Nat) (m_refused : Nat → Int32) (m_known : Nat → Int32) (m_setting : Nat → Int32) (m_kind : Nat → Int32) (m_figure : Nat → Int32) (m_tone : Nat → Int32) (m_word : Nat → Int32) (m_hours : Nat → Int32) (m_callers : Int32) (m_day : Int32) (m_tape : Nat → Int32) (m_letter : Nat → Int32) (m_letterAt : Nat → Int32) (m_told : Nat → Int32) (m_taped : Int32) (m_at : Int32) (m_statements : Int32) (m_kept : Nat → Int32) (m_hasImage : Int32) (m_isKeeping : Int32) (m_cursor : Int32) (m_answeredMany : Nat → Int32) (m_lastWord : Nat → Int32) (m_away : Int32) (m_answered : Int32) (m_unanswered : Int32) (m_saidWords : Int32) (m_isCalledAtSeven : Int32) (m_isAnsweredAtSeven : Int32) (m_seen : Nat → Int32) (m_weekAnswers : Int32) (m_weekHurt : Int32) (m_week : Nat → Int32) (m_row : Nat → Int32) (m_rowMany : Int32) (m_oneHas : Nat → Int32) (m_otherHas : Nat → Int32) (v1 : Int32) {o : Int32} (h : f_X4_isAnswered m_setting m_kind m_tone v1 = some o) : CtI l yX4_isAnswered cX4_isAnswered 3 (some .boolean) ({ frames := 1, cells := 0, slots := 0, locals := 21 } : Room) G (mC G q m_refused m_known m_setting m_kind m_figure m_tone m_word m_hours m_callers m_day m_tape m_letter m_letterAt m_told m_taped m_at m_statements m_kept m_hasImage m_isKeeping m_cursor m_answeredMany m_lastWord m_away m_answered m_unanswered m_saidWords m_isCalledAtSeven m_isAnsweredAtSeven m_seen m_weekAnswers m_weekHurt m_week m_row m_rowMany m_oneHas m_otherHas) [.ref (q 0), .int v1] o (mC G q m_refused m_known m_setting m_kind m_figure m_tone m_word m_hours m_callers m_day m_tape m_letter m_letterAt m_told m_taped m_at m_statements m_kept m_hasImage m_isKeeping m_cursor m_answeredMany m_lastWord m_away m_answered m_unanswered m_saidWords m_isCalledAtSeven m_isAnsweredAtSeven m_seen m_weekAnswers m_weekHurt m_week m_row m_rowMany m_oneHas m_otherHas) := by
  refine CtI.of (by decide) (Nat.le_of_ble_eq_true rfl) ?_
  intro p e s m below meth c A ls K hl hw
  have hl : lv_has ls 3 [(0, .ref (q 0)), (1, .int v1)] := hl
  generalize ([.ref (q 0), .int v1] : List Value).toArray = args at K ⊢
  have hx := K.1.1
  have hb := K.1.2.1
  unfold f_X4_isAnswered at h
  refine lv_aload_n hx hb dX4_isAnswered_0 rfl (lv_at hl 0 rfl) ?_
  refine getX K hw inTX4 0 5 fl_X4_25 dX4_isAnswered_1 rfl rfl (by decide) rfl rfl ?_
  refine lv_iload_n hx hb dX4_isAnswered_4 rfl (lv_at hl 1 rfl) ?_
  obtain ⟨hg6, h⟩ := gd h
  refine ialX K hw 6 (inB_in hg6) dX4_isAnswered_5 rfl ?_
  refine lv_aload_n hx hb dX4_isAnswered_6 rfl (lv_at hl 0 rfl) ?_
  refine getX K hw inTX4 0 2 fl_X4_16 dX4_isAnswered_7 rfl rfl (by decide) rfl rfl ?_
  refine lv_iconst (v := (0 : Int32)) hx hb dX4_isAnswered_10 (by decide) ?_
  refine ialX K hw 3 (inB_in (by decide)) dX4_isAnswered_11 rfl ?_
  refine lv_icmp_ge (tgt := 31) hx hb dX4_isAnswered_12 (by decide) (fun hc7 => ?_) (fun hc7 => ?_)
  · have h := ifp hc7 h
    refine lv_aload_n hx hb dX4_isAnswered_31 rfl (lv_at hl 0 rfl) ?_
    refine getX K hw inTX4 0 5 fl_X4_25 dX4_isAnswered_32 rfl rfl (by decide) rfl rfl ?_
    refine lv_iload_n hx hb dX4_isAnswered_35 rfl (lv_at hl 1 rfl) ?_
    obtain ⟨hg8, h⟩ := gd h
    refine ialX K hw 6 (inB_in hg8) dX4_isAnswered_36 rfl ?_
    refine lv_aload_n hx hb dX4_isAnswered_37 rfl (lv_at hl 0 rfl) ?_
    refine getX K hw inTX4 0 2 fl_X4_16 dX4_isAnswered_38 rfl rfl (by decide) rfl rfl ?_
    refine lv_iconst (v := (0 : Int32)) hx hb dX4_isAnswered_41 (by decide) ?_
    refine ialX K hw 3 (inB_in (by decide)) dX4_isAnswered_42 rfl ?_
    refine lv_isub hx hb dX4_isAnswered_43 ?_
    exact w_X4_isAnswered_J44 K (lv_sub hl [0, 1] rfl) hw h
  · have h := ifn hc7 h
    refine lv_aload_n hx hb dX4_isAnswered_15 rfl (lv_at hl 0 rfl) ?_
    refine getX K hw inTX4 0 2 fl_X4_16 dX4_isAnswered_16 rfl rfl (by decide) rfl rfl ?_
    refine lv_iconst (v := (0 : Int32)) hx hb dX4_isAnswered_19 (by decide) ?_
    refine ialX K hw 3 (inB_in (by decide)) dX4_isAnswered_20 rfl ?_
    refine lv_aload_n hx hb dX4_isAnswered_21 rfl (lv_at hl 0 rfl) ?_
    refine getX K hw inTX4 0 5 fl_X4_25 dX4_isAnswered_22 rfl rfl (by decide) rfl rfl ?_
    refine lv_iload_n hx hb dX4_isAnswered_25 rfl (lv_at hl 1 rfl) ?_
    obtain ⟨hg12, h⟩ := gd h
    refine ialX K hw 6 (inB_in hg12) dX4_isAnswered_26 rfl ?_
    refine lv_isub hx hb dX4_isAnswered_27 ?_
    refine lv_goto (tgt := 44) hx hb dX4_isAnswered_28 (by decide) ?_
    exact w_X4_isAnswered_J44 K (lv_sub hl [0, 1] rfl) hw h
set_option maxHeartbeats 4000000 in
set_option maxRecDepth 100000 in
theorem c_X4_teaches (l : Launch) (G : GP) (q : Nat → Nat) (m_refused : Nat → Int32) (m_known : Nat → Int32) (m_setting : Nat → Int32) (m_kind : Nat → Int32) (m_figure : Nat → Int32) (m_tone : Nat → Int32) (m_word : Nat → Int32) (m_hours : Nat → Int32) (m_callers : Int32) (m_day : Int32) (m_tape : Nat → Int32) (m_letter : Nat → Int32) (m_letterAt : Nat → Int32) (m_told : Nat → Int32) (m_taped : Int32) (m_at : Int32) (m_statements : Int32) (m_kept : Nat → Int32) (m_hasImage : Int32) (m_isKeeping : Int32) (m_cursor : Int32) (m_answeredMany : Nat → Int32) (m_lastWord : Nat → Int32) (m_away : Int32) (m_answered : Int32) (m_unanswered : Int32) (m_saidWords : Int32) (m_isCalledAtSeven : Int32) (m_isAnsweredAtSeven : Int32) (m_seen : Nat → Int32) (m_weekAnswers : Int32) (m_weekHurt : Int32) (m_week : Nat → Int32) (m_row : Nat → Int32) (m_rowMany : Int32) (m_oneHas : Nat → Int32) (m_otherHas : Nat → Int32) (v1 : Int32) {o : Int32} (h : f_X4_teaches m_kind v1 = some o) : CtI l yX4_teaches cX4_teaches 2 (some .int) ({ frames := 0, cells := 0, slots := 0, locals := 0 } : Room) G (mC G q m_refused m_known m_setting m_kind m_figure m_tone m_word m_hours m_callers m_day m_tape m_letter m_letterAt m_told m_taped m_at m_statements m_kept m_hasImage m_isKeeping m_cursor m_answeredMany m_lastWord m_away m_answered m_unanswered m_saidWords m_isCalledAtSeven m_isAnsweredAtSeven m_seen m_weekAnswers m_weekHurt m_week m_row m_rowMany m_oneHas m_otherHas) [.ref (q 0), .int v1] o (mC G q m_refused m_known m_setting m_kind m_figure m_tone m_word m_hours m_callers m_day m_tape m_letter m_letterAt m_told m_taped m_at m_statements m_kept m_hasImage m_isKeeping m_cursor m_answeredMany m_lastWord m_away m_answered m_unanswered m_saidWords m_isCalledAtSeven m_isAnsweredAtSeven m_seen m_weekAnswers m_weekHurt m_week m_row m_rowMany m_oneHas m_otherHas) := by
  refine CtI.of (by decide) (Nat.le_of_ble_eq_true rfl) ?_
  intro p e s m below meth c A ls K hl hw
  have hl : lv_has ls 2 [(0, .ref (q 0)), (1, .int v1)] := hl
  generalize ([.ref (q 0), .int v1] : List Value).toArray = args at K ⊢
  have hx := K.1.1
  have hb := K.1.2.1
  unfold f_X4_teaches at h
  refine lv_aload_n hx hb dX4_teaches_0 rfl (lv_at hl 0 rfl) ?_
  refine getX K hw inTX4 0 3 fl_X4_19 dX4_teaches_1 rfl rfl (by decide) rfl rfl ?_
  refine lv_iload_n hx hb dX4_teaches_4 rfl (lv_at hl 1 rfl) ?_
  obtain ⟨hg3, h⟩ := gd h
  refine ialX K hw 4 (inB_in hg3) dX4_teaches_5 rfl ?_
  refine lv_iconst (v := (2 : Int32)) hx hb dX4_teaches_6 (by decide) ?_
  refine lv_icmp_ge (tgt := 14) hx hb dX4_teaches_7 (by decide) (fun hc4 => ?_) (fun hc4 => ?_)
  · have h := ifp hc4 h
    refine lv_aload_n hx hb dX4_teaches_14 rfl (lv_at hl 0 rfl) ?_
    refine getX K hw inTX4 0 3 fl_X4_19 dX4_teaches_15 rfl rfl (by decide) rfl rfl ?_
    refine lv_iload_n hx hb dX4_teaches_18 rfl (lv_at hl 1 rfl) ?_
    obtain ⟨hg5, h⟩ := gd h
    refine ialX K hw 4 (inB_in hg5) dX4_teaches_19 rfl ?_
    refine lv_iconst (v := (4 : Int32)) hx hb dX4_teaches_20 (by decide) ?_
    refine lv_icmp_ne (tgt := 28) hx hb dX4_teaches_21 (by decide) (fun hc6 => ?_) (fun hc6 => ?_)
    · have h := ifn hc6 h
      refine lv_iconst (v := (0 : Int32)) hx hb dX4_teaches_28 (by decide) ?_
      have h := Option.some.inj h
      subst h
      exact retI K hw rfl dX4_teaches_29
    · have h := ifp hc6 h
      refine lv_iconst (v := (2 : Int32)) hx hb dX4_teaches_24 (by decide) ?_
      refine lv_goto (tgt := 29) hx hb dX4_teaches_25 (by decide) ?_
      have h := Option.some.inj h
      subst h
      exact retI K hw rfl dX4_teaches_29
  · have h := ifn hc4 h
    refine lv_iconst (v := (1 : Int32)) hx hb dX4_teaches_10 (by decide) ?_
    refine lv_goto (tgt := 29) hx hb dX4_teaches_11 (by decide) ?_
    have h := Option.some.inj h
    subst h
    exact retI K hw rfl dX4_teaches_29
set_option maxHeartbeats 4000000 in
set_option maxRecDepth 100000 in
theorem c_X4_wordFor (l : Launch) (G : GP) (q : Nat → Nat) (m_refused : Nat → Int32) (m_known : Nat → Int32) (m_setting : Nat → Int32) (m_kind : Nat → Int32) (m_figure : Nat → Int32) (m_tone : Nat → Int32) (m_word : Nat → Int32) (m_hours : Nat → Int32) (m_callers : Int32) (m_day : Int32) (m_tape : Nat → Int32) (m_letter : Nat → Int32) (m_letterAt : Nat → Int32) (m_told : Nat → Int32) (m_taped : Int32) (m_at : Int32) (m_statements : Int32) (m_kept : Nat → Int32) (m_hasImage : Int32) (m_isKeeping : Int32) (m_cursor : Int32) (m_answeredMany : Nat → Int32) (m_lastWord : Nat → Int32) (m_away : Int32) (m_answered : Int32) (m_unanswered : Int32) (m_saidWords : Int32) (m_isCalledAtSeven : Int32) (m_isAnsweredAtSeven : Int32) (m_seen : Nat → Int32) (m_weekAnswers : Int32) (m_weekHurt : Int32) (m_week : Nat → Int32) (m_row : Nat → Int32) (m_rowMany : Int32) (m_oneHas : Nat → Int32) (m_otherHas : Nat → Int32) (v1 : Int32) {o : Int32} (h : f_X4_wordFor m_known m_kind m_word v1 = some o) : CtI l yX4_wordFor cX4_wordFor 3 (some .int) ({ frames := 1, cells := 0, slots := 0, locals := 23 } : Room) G (mC G q m_refused m_known m_setting m_kind m_figure m_tone m_word m_hours m_callers m_day m_tape m_letter m_letterAt m_told m_taped m_at m_statements m_kept m_hasImage m_isKeeping m_cursor m_answeredMany m_lastWord m_away m_answered m_unanswered m_saidWords m_isCalledAtSeven m_isAnsweredAtSeven m_seen m_weekAnswers m_weekHurt m_week m_row m_rowMany m_oneHas m_otherHas) [.ref (q 0), .int v1] o (mC G q m_refused m_known m_setting m_kind m_figure m_tone m_word m_hours m_callers m_day m_tape m_letter m_letterAt m_told m_taped m_at m_statements m_kept m_hasImage m_isKeeping m_cursor m_answeredMany m_lastWord m_away m_answered m_unanswered m_saidWords m_isCalledAtSeven m_isAnsweredAtSeven m_seen m_weekAnswers m_weekHurt m_week m_row m_rowMany m_oneHas m_otherHas) := by
  refine CtI.of (by decide) (Nat.le_of_ble_eq_true rfl) ?_
  intro p e s m below meth c A ls K hl hw
  have hl : lv_has ls 3 [(0, .ref (q 0)), (1, .int v1)] := hl
  generalize ([.ref (q 0), .int v1] : List Value).toArray = args at K ⊢
  have hx := K.1.1
  have hb := K.1.2.1
  unfold f_X4_wordFor at h
  refine lv_aload_n hx hb dX4_wordFor_0 rfl (lv_at hl 0 rfl) ?_
  refine getX K hw inTX4 0 3 fl_X4_19 dX4_wordFor_1 rfl rfl (by decide) rfl rfl ?_
  refine lv_iload_n hx hb dX4_wordFor_4 rfl (lv_at hl 1 rfl) ?_
  obtain ⟨hg8, h⟩ := gd h
  refine ialX K hw 4 (inB_in hg8) dX4_wordFor_5 rfl ?_
  refine lv_iconst (v := (2 : Int32)) hx hb dX4_wordFor_6 (by decide) ?_
  refine lv_icmp_ne (tgt := 17) hx hb dX4_wordFor_7 (by decide) (fun hc9 => ?_) (fun hc9 => ?_)
  · have h := ifn hc9 h
    refine lv_aload_n hx hb dX4_wordFor_17 rfl (lv_at hl 0 rfl) ?_
    refine getX K hw inTX4 0 3 fl_X4_19 dX4_wordFor_18 rfl rfl (by decide) rfl rfl ?_
    refine lv_iload_n hx hb dX4_wordFor_21 rfl (lv_at hl 1 rfl) ?_
    obtain ⟨hg10, h⟩ := gd h
    refine ialX K hw 4 (inB_in hg10) dX4_wordFor_22 rfl ?_
    refine lv_iconst (v := (5 : Int32)) hx hb dX4_wordFor_23 (by decide) ?_
    refine lv_icmp_ne (tgt := 39) hx hb dX4_wordFor_24 (by decide) (fun hc11 => ?_) (fun hc11 => ?_)
    · have h := ifn hc11 h
      refine lv_aload_n hx hb dX4_wordFor_39 rfl (lv_at hl 0 rfl) ?_
      refine lv_aload_n hx hb dX4_wordFor_40 rfl (lv_at hl 0 rfl) ?_
      refine getX K hw inTX4 0 6 fl_X4_28 dX4_wordFor_41 rfl rfl (by decide) rfl rfl ?_
      refine lv_iload_n hx hb dX4_wordFor_44 rfl (lv_at hl 1 rfl) ?_
      obtain ⟨hg12, h⟩ := gd h
      refine ialX K hw 7 (inB_in hg12) dX4_wordFor_45 rfl ?_
      obtain ⟨z13, hz13, h⟩ := bd h
      refine callVI K (c_X4_bestBut l G q m_refused m_known m_setting m_kind m_figure m_tone m_word m_hours m_callers m_day m_tape m_letter m_letterAt m_told m_taped m_at m_statements m_kept m_hasImage m_isKeeping m_cursor m_answeredMany m_lastWord m_away m_answered m_unanswered m_saidWords m_isCalledAtSeven m_isAnsweredAtSeven m_seen m_weekAnswers m_weekHurt m_week m_row m_rowMany m_oneHas m_otherHas (m_word v1.toNatClampNeg) hz13) mt_yX4_bestBut lk_X4_165 ⟨rfl, rfl, Nat.le_of_ble_eq_true rfl, Nat.le_of_ble_eq_true rfl⟩ hw dX4_wordFor_46 hl.1 ⟨Nat.zero_le _, Nat.zero_le _⟩ (wa := ((mC G q m_refused m_known m_setting m_kind m_figure m_tone m_word m_hours m_callers m_day m_tape m_letter m_letterAt m_told m_taped m_at m_statements m_kept m_hasImage m_isKeeping m_cursor m_answeredMany m_lastWord m_away m_answered m_unanswered m_saidWords m_isCalledAtSeven m_isAnsweredAtSeven m_seen m_weekAnswers m_weekHurt m_week m_row m_rowMany m_oneHas m_otherHas).take 0)) (wb := ((mC G q m_refused m_known m_setting m_kind m_figure m_tone m_word m_hours m_callers m_day m_tape m_letter m_letterAt m_told m_taped m_at m_statements m_kept m_hasImage m_isKeeping m_cursor m_answeredMany m_lastWord m_away m_answered m_unanswered m_saidWords m_isCalledAtSeven m_isAnsweredAtSeven m_seen m_weekAnswers m_weekHurt m_week m_row m_rowMany m_oneHas m_otherHas).drop 21)) rfl rfl rfl (rest := []) rfl rfl (Nat.le_of_ble_eq_true rfl) (fun H locs hw => ?_)
      have hw : Wx G A (mC G q m_refused m_known m_setting m_kind m_figure m_tone m_word m_hours m_callers m_day m_tape m_letter m_letterAt m_told m_taped m_at m_statements m_kept m_hasImage m_isKeeping m_cursor m_answeredMany m_lastWord m_away m_answered m_unanswered m_saidWords m_isCalledAtSeven m_isAnsweredAtSeven m_seen m_weekAnswers m_weekHurt m_week m_row m_rowMany m_oneHas m_otherHas) s H locs := hw
      refine lv_istore_n (lv' := [(2, .int z13), (0, .ref (q 0)), (1, .int v1)]) hx hb dX4_wordFor_49 rfl hl (by decide) rfl (fun ls hl => ?_)
      refine lv_iload_n hx hb dX4_wordFor_50 rfl (lv_at hl 0 rfl) ?_
      refine lv_if_ge (tgt := 63) hx hb dX4_wordFor_51 (by decide) (fun hc14 => ?_) (fun hc14 => ?_)
      · have h := ifp hc14 h
        refine lv_iload_n hx hb dX4_wordFor_63 rfl (lv_at hl 0 rfl) ?_
        have h := Option.some.inj h
        subst h
        exact retI K hw rfl dX4_wordFor_64
      · have h := ifn hc14 h
        refine lv_aload_n hx hb dX4_wordFor_54 rfl (lv_at hl 1 rfl) ?_
        refine getX K hw inTX4 0 6 fl_X4_28 dX4_wordFor_55 rfl rfl (by decide) rfl rfl ?_
        refine lv_iload_n hx hb dX4_wordFor_58 rfl (lv_at hl 2 rfl) ?_
        obtain ⟨hg15, h⟩ := gd h
        refine ialX K hw 7 (inB_in hg15) dX4_wordFor_59 rfl ?_
        refine lv_goto (tgt := 64) hx hb dX4_wordFor_60 (by decide) ?_
        have h := Option.some.inj h
        subst h
        exact retI K hw rfl dX4_wordFor_64
    · have h := ifp hc11 h
      refine lv_aload_n hx hb dX4_wordFor_27 rfl (lv_at hl 0 rfl) ?_
      refine getX K hw inTX4 0 6 fl_X4_28 dX4_wordFor_28 rfl rfl (by decide) rfl rfl ?_
      refine lv_iload_n hx hb dX4_wordFor_31 rfl (lv_at hl 1 rfl) ?_
      obtain ⟨hg16, h⟩ := gd h
      refine ialX K hw 7 (inB_in hg16) dX4_wordFor_32 rfl ?_
      refine lv_iconst (v := (1 : Int32)) hx hb dX4_wordFor_33 (by decide) ?_
      refine lv_iadd hx hb dX4_wordFor_34 ?_
      refine lv_bipush (v := (8 : Int32)) hx hb dX4_wordFor_35 (by decide) ?_
      refine lv_irem hx hb dX4_wordFor_37 (by decide) ?_
      have h := Option.some.inj h
      subst h
      exact retI K hw rfl dX4_wordFor_38
  · have h := ifp hc9 h
    refine lv_aload_n hx hb dX4_wordFor_10 rfl (lv_at hl 0 rfl) ?_
    refine getX K hw inTX4 0 6 fl_X4_28 dX4_wordFor_11 rfl rfl (by decide) rfl rfl ?_
    refine lv_iload_n hx hb dX4_wordFor_14 rfl (lv_at hl 1 rfl) ?_
    obtain ⟨hg17, h⟩ := gd h
    refine ialX K hw 7 (inB_in hg17) dX4_wordFor_15 rfl ?_
    have h := Option.some.inj h
    subst h
    exact retI K hw rfl dX4_wordFor_16
set_option maxHeartbeats 4000000 in
set_option maxRecDepth 100000 in
theorem w_X4_calls_J64 {l : Launch} {G : GP} {q : Nat → Nat} {p : Program} {e : Env} {s : State} {m : MethodId} {args : Array Value} {below : List Frame} {meth : Method} {c : Code} {A : Nat → Prop} {m_refused : Nat → Int32} {m_known : Nat → Int32} {m_setting : Nat → Int32} {m_kind : Nat → Int32} {m_figure : Nat → Int32} {m_tone : Nat → Int32} {m_word : Nat → Int32} {m_hours : Nat → Int32} {m_callers : Int32} {m_day : Int32} {m_tape : Nat → Int32} {m_letter : Nat → Int32} {m_letterAt : Nat → Int32} {m_told : Nat → Int32} {m_taped : Int32} {m_at : Int32} {m_statements : Int32} {m_kept : Nat → Int32} {m_hasImage : Int32} {m_isKeeping : Int32} {m_cursor : Int32} {m_answeredMany : Nat → Int32} {m_lastWord : Nat → Int32} {m_away : Int32} {m_answered : Int32} {m_unanswered : Int32} {m_saidWords : Int32} {m_isCalledAtSeven : Int32} {m_isAnsweredAtSeven : Int32} {m_seen : Nat → Int32} {m_weekAnswers : Int32} {m_weekHurt : Int32} {m_week : Nat → Int32} {m_row : Nat → Int32} {m_rowMany : Int32} {m_oneHas : Nat → Int32} {m_otherHas : Nat → Int32} {v1 : Int32} {s1 : Int32} {s2 : Int32} {o : (Nat → Int32) × (Nat → Int32) × (Nat → Int32) × (Nat → Int32) × Int32 × Int32 × Int32 × Int32 × Int32} (K : Cx p s m args meth c A G cX4_calls 3 RX4 none) {H : Heap} {locs : List Loc} {ls : Array Slot} (hl : lv_has ls 3 [(0, .ref (q 0)), (1, .int v1)]) (hw : Wx G A (mC G q m_refused m_known m_setting m_kind m_figure m_tone m_word m_hours m_callers m_day m_tape m_letter m_letterAt m_told m_taped m_at m_statements m_kept m_hasImage m_isKeeping m_cursor m_answeredMany m_lastWord m_away m_answered m_unanswered m_saidWords m_isCalledAtSeven m_isAnsweredAtSeven m_seen m_weekAnswers m_weekHurt m_week m_row m_rowMany m_oneHas m_otherHas) s H locs) (h : f_X4_calls_J64 v1 s1 s2 m_known m_setting m_kind m_word m_answeredMany m_lastWord m_answered m_unanswered m_saidWords m_isCalledAtSeven = some o)  : W p l e ({ frames := 2, cells := 0, slots := 0, locals := 45 } : Room) s m args below meth c H locs 0 0 (MQ below (QV G A (mC G q m_refused o.1 o.2.1 m_kind m_figure m_tone m_word m_hours m_callers m_day m_tape m_letter m_letterAt m_told m_taped m_at m_statements m_kept m_hasImage m_isKeeping m_cursor o.2.2.1 o.2.2.2.1 m_away o.2.2.2.2.1 o.2.2.2.2.2.1 o.2.2.2.2.2.2.1 o.2.2.2.2.2.2.2.1 o.2.2.2.2.2.2.2.2 m_seen m_weekAnswers m_weekHurt m_week m_row m_rowMany m_oneHas m_otherHas)) args s 0 0 A) (F0 m 64 ls [.int s2, .int s1, .ref (q 0)]) := by
  have hx := K.1.1
  have hb := K.1.2.1
  unfold f_X4_calls_J64 at h
  refine lv_ior hx hb dX4_calls_64 ?_
  obtain ⟨hg80, h⟩ := gd h
  refine putX K hw inTX4 tyX4_ok nmX4 0 28 fl_X4_196 dX4_calls_65 rfl rfl (by decide) rfl rfl (isB_n hg80) (isB_f hg80) (Nat.le_of_ble_eq_true rfl) (fun H locs hw => ?_)
  have hw : Wx G A (mC G q m_refused m_known m_setting m_kind m_figure m_tone m_word m_hours m_callers m_day m_tape m_letter m_letterAt m_told m_taped m_at m_statements m_kept m_hasImage m_isKeeping m_cursor m_answeredMany m_lastWord m_away m_answered m_unanswered m_saidWords m_isCalledAtSeven (s1 ||| s2) m_seen m_weekAnswers m_weekHurt m_week m_row m_rowMany m_oneHas m_otherHas) s H locs := hw
  refine lv_aload_n hx hb dX4_calls_68 rfl (lv_at hl 0 rfl) ?_
  refine lv_dup hx hb dX4_calls_69 rfl ?_
  refine getX K hw inTX4 0 24 fl_X4_174 dX4_calls_70 rfl rfl (by decide) rfl rfl ?_
  refine lv_iconst (v := (1 : Int32)) hx hb dX4_calls_73 (by decide) ?_
  refine lv_iadd hx hb dX4_calls_74 ?_
  refine putX K hw inTX4 tyX4_ok nmX4 0 24 fl_X4_174 dX4_calls_75 rfl rfl (by decide) rfl rfl rfl rfl (Nat.le_of_ble_eq_true rfl) (fun H locs hw => ?_)
  have hw : Wx G A (mC G q m_refused m_known m_setting m_kind m_figure m_tone m_word m_hours m_callers m_day m_tape m_letter m_letterAt m_told m_taped m_at m_statements m_kept m_hasImage m_isKeeping m_cursor m_answeredMany m_lastWord m_away (m_answered + (1 : Int32)) m_unanswered m_saidWords m_isCalledAtSeven (s1 ||| s2) m_seen m_weekAnswers m_weekHurt m_week m_row m_rowMany m_oneHas m_otherHas) s H locs := hw
  refine lv_aload_n hx hb dX4_calls_78 rfl (lv_at hl 0 rfl) ?_
  refine getX K hw inTX4 0 21 fl_X4_49 dX4_calls_79 rfl rfl (by decide) rfl rfl ?_
  refine lv_iload_n hx hb dX4_calls_82 rfl (lv_at hl 1 rfl) ?_
  refine lv_dup2_11 hx hb dX4_calls_83 rfl rfl ?_
  obtain ⟨hg81, h⟩ := gd h
  refine ialX K hw 14 (inB_in hg81) dX4_calls_84 rfl ?_
  refine lv_iconst (v := (1 : Int32)) hx hb dX4_calls_85 (by decide) ?_
  refine lv_iadd hx hb dX4_calls_86 ?_
  obtain ⟨hg82, h⟩ := gd h
  refine iasX K hw 14 (inB_in hg82) dX4_calls_87 rfl (fun H locs hw => ?_)
  have hw : Wx G A (mC G q m_refused m_known m_setting m_kind m_figure m_tone m_word m_hours m_callers m_day m_tape m_letter m_letterAt m_told m_taped m_at m_statements m_kept m_hasImage m_isKeeping m_cursor (upd m_answeredMany v1.toNatClampNeg ((m_answeredMany v1.toNatClampNeg) + (1 : Int32))) m_lastWord m_away (m_answered + (1 : Int32)) m_unanswered m_saidWords m_isCalledAtSeven (s1 ||| s2) m_seen m_weekAnswers m_weekHurt m_week m_row m_rowMany m_oneHas m_otherHas) s H locs := hw
  refine lv_aload_n hx hb dX4_calls_88 rfl (lv_at hl 0 rfl) ?_
  refine getX K hw inTX4 0 22 fl_X4_52 dX4_calls_89 rfl rfl (by decide) rfl rfl ?_
  refine lv_iload_n hx hb dX4_calls_92 rfl (lv_at hl 1 rfl) ?_
  refine lv_aload_n hx hb dX4_calls_93 rfl (lv_at hl 0 rfl) ?_
  refine lv_iload_n hx hb dX4_calls_94 rfl (lv_at hl 1 rfl) ?_
  obtain ⟨z83, hz83, h⟩ := bd h
  refine callVI K (c_X4_wordFor l G q m_refused m_known m_setting m_kind m_figure m_tone m_word m_hours m_callers m_day m_tape m_letter m_letterAt m_told m_taped m_at m_statements m_kept m_hasImage m_isKeeping m_cursor (upd m_answeredMany v1.toNatClampNeg ((m_answeredMany v1.toNatClampNeg) + (1 : Int32))) m_lastWord m_away (m_answered + (1 : Int32)) m_unanswered m_saidWords m_isCalledAtSeven (s1 ||| s2) m_seen m_weekAnswers m_weekHurt m_week m_row m_rowMany m_oneHas m_otherHas v1 hz83) mt_yX4_wordFor lk_X4_199 ⟨rfl, rfl, Nat.le_of_ble_eq_true rfl, Nat.le_of_ble_eq_true rfl⟩ hw dX4_calls_95 hl.1 ⟨Nat.zero_le _, Nat.zero_le _⟩ (wa := ((mC G q m_refused m_known m_setting m_kind m_figure m_tone m_word m_hours m_callers m_day m_tape m_letter m_letterAt m_told m_taped m_at m_statements m_kept m_hasImage m_isKeeping m_cursor (upd m_answeredMany v1.toNatClampNeg ((m_answeredMany v1.toNatClampNeg) + (1 : Int32))) m_lastWord m_away (m_answered + (1 : Int32)) m_unanswered m_saidWords m_isCalledAtSeven (s1 ||| s2) m_seen m_weekAnswers m_weekHurt m_week m_row m_rowMany m_oneHas m_otherHas).take 0)) (wb := ((mC G q m_refused m_known m_setting m_kind m_figure m_tone m_word m_hours m_callers m_day m_tape m_letter m_letterAt m_told m_taped m_at m_statements m_kept m_hasImage m_isKeeping m_cursor (upd m_answeredMany v1.toNatClampNeg ((m_answeredMany v1.toNatClampNeg) + (1 : Int32))) m_lastWord m_away (m_answered + (1 : Int32)) m_unanswered m_saidWords m_isCalledAtSeven (s1 ||| s2) m_seen m_weekAnswers m_weekHurt m_week m_row m_rowMany m_oneHas m_otherHas).drop 21)) rfl rfl rfl (rest := [.int v1, .ref (q 15)]) rfl rfl (Nat.le_of_ble_eq_true rfl) (fun H locs hw => ?_)
  have hw : Wx G A (mC G q m_refused m_known m_setting m_kind m_figure m_tone m_word m_hours m_callers m_day m_tape m_letter m_letterAt m_told m_taped m_at m_statements m_kept m_hasImage m_isKeeping m_cursor (upd m_answeredMany v1.toNatClampNeg ((m_answeredMany v1.toNatClampNeg) + (1 : Int32))) m_lastWord m_away (m_answered + (1 : Int32)) m_unanswered m_saidWords m_isCalledAtSeven (s1 ||| s2) m_seen m_weekAnswers m_weekHurt m_week m_row m_rowMany m_oneHas m_otherHas) s H locs := hw
  obtain ⟨hg84, h⟩ := gd h
  refine iasX K hw 15 (inB_in hg84) dX4_calls_98 rfl (fun H locs hw => ?_)
  have hw : Wx G A (mC G q m_refused m_known m_setting m_kind m_figure m_tone m_word m_hours m_callers m_day m_tape m_letter m_letterAt m_told m_taped m_at m_statements m_kept m_hasImage m_isKeeping m_cursor (upd m_answeredMany v1.toNatClampNeg ((m_answeredMany v1.toNatClampNeg) + (1 : Int32))) (upd m_lastWord v1.toNatClampNeg z83) m_away (m_answered + (1 : Int32)) m_unanswered m_saidWords m_isCalledAtSeven (s1 ||| s2) m_seen m_weekAnswers m_weekHurt m_week m_row m_rowMany m_oneHas m_otherHas) s H locs := hw
  refine lv_aload_n hx hb dX4_calls_99 rfl (lv_at hl 0 rfl) ?_
  refine lv_dup hx hb dX4_calls_100 rfl ?_
  refine getX K hw inTX4 0 26 fl_X4_180 dX4_calls_101 rfl rfl (by decide) rfl rfl ?_
  refine lv_iconst (v := (1 : Int32)) hx hb dX4_calls_104 (by decide) ?_
  refine lv_aload_n hx hb dX4_calls_105 rfl (lv_at hl 0 rfl) ?_
  refine getX K hw inTX4 0 22 fl_X4_52 dX4_calls_106 rfl rfl (by decide) rfl rfl ?_
  refine lv_iload_n hx hb dX4_calls_109 rfl (lv_at hl 1 rfl) ?_
  obtain ⟨hg85, h⟩ := gd h
  refine ialX K hw 15 (inB_in hg85) dX4_calls_110 rfl ?_
  refine lv_ishl hx hb dX4_calls_111 ?_
  refine lv_ior hx hb dX4_calls_112 ?_
  refine putX K hw inTX4 tyX4_ok nmX4 0 26 fl_X4_180 dX4_calls_113 rfl rfl (by decide) rfl rfl rfl rfl (Nat.le_of_ble_eq_true rfl) (fun H locs hw => ?_)
  have hw : Wx G A (mC G q m_refused m_known m_setting m_kind m_figure m_tone m_word m_hours m_callers m_day m_tape m_letter m_letterAt m_told m_taped m_at m_statements m_kept m_hasImage m_isKeeping m_cursor (upd m_answeredMany v1.toNatClampNeg ((m_answeredMany v1.toNatClampNeg) + (1 : Int32))) (upd m_lastWord v1.toNatClampNeg z83) m_away (m_answered + (1 : Int32)) m_unanswered (m_saidWords ||| ((1 : Int32) <<< (((upd m_lastWord v1.toNatClampNeg z83) v1.toNatClampNeg) &&& 31))) m_isCalledAtSeven (s1 ||| s2) m_seen m_weekAnswers m_weekHurt m_week m_row m_rowMany m_oneHas m_otherHas) s H locs := hw
  refine lv_aload_n hx hb dX4_calls_116 rfl (lv_at hl 0 rfl) ?_
  refine getX K hw inTX4 0 1 fl_X4_13 dX4_calls_117 rfl rfl (by decide) rfl rfl ?_
  refine lv_aload_n hx hb dX4_calls_120 rfl (lv_at hl 0 rfl) ?_
  refine getX K hw inTX4 0 6 fl_X4_28 dX4_calls_121 rfl rfl (by decide) rfl rfl ?_
  refine lv_iload_n hx hb dX4_calls_124 rfl (lv_at hl 1 rfl) ?_
  obtain ⟨hg86, h⟩ := gd h
  refine ialX K hw 7 (inB_in hg86) dX4_calls_125 rfl ?_
  refine lv_dup2_11 hx hb dX4_calls_126 rfl rfl ?_
  obtain ⟨hg87, h⟩ := gd h
  refine ialX K hw 2 (inB_in hg87) dX4_calls_127 rfl ?_
  refine lv_aload_n hx hb dX4_calls_128 rfl (lv_at hl 0 rfl) ?_
  refine lv_iload_n hx hb dX4_calls_129 rfl (lv_at hl 1 rfl) ?_
  obtain ⟨z88, hz88, h⟩ := bd h
  refine callVI K (c_X4_teaches l G q m_refused m_known m_setting m_kind m_figure m_tone m_word m_hours m_callers m_day m_tape m_letter m_letterAt m_told m_taped m_at m_statements m_kept m_hasImage m_isKeeping m_cursor (upd m_answeredMany v1.toNatClampNeg ((m_answeredMany v1.toNatClampNeg) + (1 : Int32))) (upd m_lastWord v1.toNatClampNeg z83) m_away (m_answered + (1 : Int32)) m_unanswered (m_saidWords ||| ((1 : Int32) <<< (((upd m_lastWord v1.toNatClampNeg z83) v1.toNatClampNeg) &&& 31))) m_isCalledAtSeven (s1 ||| s2) m_seen m_weekAnswers m_weekHurt m_week m_row m_rowMany m_oneHas m_otherHas v1 hz88) mt_yX4_teaches lk_X4_202 ⟨rfl, rfl, Nat.le_of_ble_eq_true rfl, Nat.le_of_ble_eq_true rfl⟩ hw dX4_calls_130 hl.1 ⟨Nat.zero_le _, Nat.zero_le _⟩ (wa := ((mC G q m_refused m_known m_setting m_kind m_figure m_tone m_word m_hours m_callers m_day m_tape m_letter m_letterAt m_told m_taped m_at m_statements m_kept m_hasImage m_isKeeping m_cursor (upd m_answeredMany v1.toNatClampNeg ((m_answeredMany v1.toNatClampNeg) + (1 : Int32))) (upd m_lastWord v1.toNatClampNeg z83) m_away (m_answered + (1 : Int32)) m_unanswered (m_saidWords ||| ((1 : Int32) <<< (((upd m_lastWord v1.toNatClampNeg z83) v1.toNatClampNeg) &&& 31))) m_isCalledAtSeven (s1 ||| s2) m_seen m_weekAnswers m_weekHurt m_week m_row m_rowMany m_oneHas m_otherHas).take 0)) (wb := ((mC G q m_refused m_known m_setting m_kind m_figure m_tone m_word m_hours m_callers m_day m_tape m_letter m_letterAt m_told m_taped m_at m_statements m_kept m_hasImage m_isKeeping m_cursor (upd m_answeredMany v1.toNatClampNeg ((m_answeredMany v1.toNatClampNeg) + (1 : Int32))) (upd m_lastWord v1.toNatClampNeg z83) m_away (m_answered + (1 : Int32)) m_unanswered (m_saidWords ||| ((1 : Int32) <<< (((upd m_lastWord v1.toNatClampNeg z83) v1.toNatClampNeg) &&& 31))) m_isCalledAtSeven (s1 ||| s2) m_seen m_weekAnswers m_weekHurt m_week m_row m_rowMany m_oneHas m_otherHas).drop 21)) rfl rfl rfl (rest := [.int (m_known (m_word v1.toNatClampNeg).toNatClampNeg), .int (m_word v1.toNatClampNeg), .ref (q 2)]) rfl rfl (Nat.le_of_ble_eq_true rfl) (fun H locs hw => ?_)
  have hw : Wx G A (mC G q m_refused m_known m_setting m_kind m_figure m_tone m_word m_hours m_callers m_day m_tape m_letter m_letterAt m_told m_taped m_at m_statements m_kept m_hasImage m_isKeeping m_cursor (upd m_answeredMany v1.toNatClampNeg ((m_answeredMany v1.toNatClampNeg) + (1 : Int32))) (upd m_lastWord v1.toNatClampNeg z83) m_away (m_answered + (1 : Int32)) m_unanswered (m_saidWords ||| ((1 : Int32) <<< (((upd m_lastWord v1.toNatClampNeg z83) v1.toNatClampNeg) &&& 31))) m_isCalledAtSeven (s1 ||| s2) m_seen m_weekAnswers m_weekHurt m_week m_row m_rowMany m_oneHas m_otherHas) s H locs := hw
  refine lv_iadd hx hb dX4_calls_133 ?_
  obtain ⟨hg89, h⟩ := gd h
  refine iasX K hw 2 (inB_in hg89) dX4_calls_134 rfl (fun H locs hw => ?_)
  have hw : Wx G A (mC G q m_refused (upd m_known (m_word v1.toNatClampNeg).toNatClampNeg ((m_known (m_word v1.toNatClampNeg).toNatClampNeg) + z88)) m_setting m_kind m_figure m_tone m_word m_hours m_callers m_day m_tape m_letter m_letterAt m_told m_taped m_at m_statements m_kept m_hasImage m_isKeeping m_cursor (upd m_answeredMany v1.toNatClampNeg ((m_answeredMany v1.toNatClampNeg) + (1 : Int32))) (upd m_lastWord v1.toNatClampNeg z83) m_away (m_answered + (1 : Int32)) m_unanswered (m_saidWords ||| ((1 : Int32) <<< (((upd m_lastWord v1.toNatClampNeg z83) v1.toNatClampNeg) &&& 31))) m_isCalledAtSeven (s1 ||| s2) m_seen m_weekAnswers m_weekHurt m_week m_row m_rowMany m_oneHas m_otherHas) s H locs := hw
  refine lv_aload_n hx hb dX4_calls_135 rfl (lv_at hl 0 rfl) ?_
  refine getX K hw inTX4 0 1 fl_X4_13 dX4_calls_136 rfl rfl (by decide) rfl rfl ?_
  refine lv_aload_n hx hb dX4_calls_139 rfl (lv_at hl 0 rfl) ?_
  refine getX K hw inTX4 0 6 fl_X4_28 dX4_calls_140 rfl rfl (by decide) rfl rfl ?_
  refine lv_iload_n hx hb dX4_calls_143 rfl (lv_at hl 1 rfl) ?_
  obtain ⟨hg90, h⟩ := gd h
  refine ialX K hw 7 (inB_in hg90) dX4_calls_144 rfl ?_
  refine lv_aload_n hx hb dX4_calls_145 rfl (lv_at hl 0 rfl) ?_
  refine getX K hw inTX4 0 1 fl_X4_13 dX4_calls_146 rfl rfl (by decide) rfl rfl ?_
  refine lv_aload_n hx hb dX4_calls_149 rfl (lv_at hl 0 rfl) ?_
  refine getX K hw inTX4 0 6 fl_X4_28 dX4_calls_150 rfl rfl (by decide) rfl rfl ?_
  refine lv_iload_n hx hb dX4_calls_153 rfl (lv_at hl 1 rfl) ?_
  obtain ⟨hg91, h⟩ := gd h
  refine ialX K hw 7 (inB_in hg91) dX4_calls_154 rfl ?_
  obtain ⟨hg92, h⟩ := gd h
  refine ialX K hw 2 (inB_in hg92) dX4_calls_155 rfl ?_
  refine lv_bipush (v := (20 : Int32)) hx hb dX4_calls_156 (by decide) ?_
  refine lv_icmp_le (tgt := 166) hx hb dX4_calls_158 (by decide) (fun hc93 => ?_) (fun hc93 => ?_)
  · have h := ifp hc93 h
    refine lv_aload_n hx hb dX4_calls_166 rfl (lv_at hl 0 rfl) ?_
    refine getX K hw inTX4 0 1 fl_X4_13 dX4_calls_167 rfl rfl (by decide) rfl rfl ?_
    refine lv_aload_n hx hb dX4_calls_170 rfl (lv_at hl 0 rfl) ?_
    refine getX K hw inTX4 0 6 fl_X4_28 dX4_calls_171 rfl rfl (by decide) rfl rfl ?_
    refine lv_iload_n hx hb dX4_calls_174 rfl (lv_at hl 1 rfl) ?_
    obtain ⟨hg94, h⟩ := gd h
    refine ialX K hw 7 (inB_in hg94) dX4_calls_175 rfl ?_
    obtain ⟨hg95, h⟩ := gd h
    refine ialX K hw 2 (inB_in hg95) dX4_calls_176 rfl ?_
    obtain ⟨hg96, h⟩ := gd h
    refine iasX K hw 2 (inB_in hg96) dX4_calls_177 rfl (fun H locs hw => ?_)
    have hw : Wx G A (mC G q m_refused (upd (upd m_known (m_word v1.toNatClampNeg).toNatClampNeg ((m_known (m_word v1.toNatClampNeg).toNatClampNeg) + z88)) (m_word v1.toNatClampNeg).toNatClampNeg ((upd m_known (m_word v1.toNatClampNeg).toNatClampNeg ((m_known (m_word v1.toNatClampNeg).toNatClampNeg) + z88)) (m_word v1.toNatClampNeg).toNatClampNeg)) m_setting m_kind m_figure m_tone m_word m_hours m_callers m_day m_tape m_letter m_letterAt m_told m_taped m_at m_statements m_kept m_hasImage m_isKeeping m_cursor (upd m_answeredMany v1.toNatClampNeg ((m_answeredMany v1.toNatClampNeg) + (1 : Int32))) (upd m_lastWord v1.toNatClampNeg z83) m_away (m_answered + (1 : Int32)) m_unanswered (m_saidWords ||| ((1 : Int32) <<< (((upd m_lastWord v1.toNatClampNeg z83) v1.toNatClampNeg) &&& 31))) m_isCalledAtSeven (s1 ||| s2) m_seen m_weekAnswers m_weekHurt m_week m_row m_rowMany m_oneHas m_otherHas) s H locs := hw
    have h := Option.some.inj h
    subst h
    exact retV K hw dX4_calls_178
  · have h := ifn hc93 h
    refine lv_bipush (v := (20 : Int32)) hx hb dX4_calls_161 (by decide) ?_
    refine lv_goto (tgt := 177) hx hb dX4_calls_163 (by decide) ?_
    obtain ⟨hg97, h⟩ := gd h
    refine iasX K hw 2 (inB_in hg97) dX4_calls_177 rfl (fun H locs hw => ?_)
    have hw : Wx G A (mC G q m_refused (upd (upd m_known (m_word v1.toNatClampNeg).toNatClampNeg ((m_known (m_word v1.toNatClampNeg).toNatClampNeg) + z88)) (m_word v1.toNatClampNeg).toNatClampNeg (20 : Int32)) m_setting m_kind m_figure m_tone m_word m_hours m_callers m_day m_tape m_letter m_letterAt m_told m_taped m_at m_statements m_kept m_hasImage m_isKeeping m_cursor (upd m_answeredMany v1.toNatClampNeg ((m_answeredMany v1.toNatClampNeg) + (1 : Int32))) (upd m_lastWord v1.toNatClampNeg z83) m_away (m_answered + (1 : Int32)) m_unanswered (m_saidWords ||| ((1 : Int32) <<< (((upd m_lastWord v1.toNatClampNeg z83) v1.toNatClampNeg) &&& 31))) m_isCalledAtSeven (s1 ||| s2) m_seen m_weekAnswers m_weekHurt m_week m_row m_rowMany m_oneHas m_otherHas) s H locs := hw
    have h := Option.some.inj h
    subst h
    exact retV K hw dX4_calls_178
set_option maxHeartbeats 4000000 in
set_option maxRecDepth 100000 in
theorem w_X4_calls_J16 {l : Launch} {G : GP} {q : Nat → Nat} {p : Program} {e : Env} {s : State} {m : MethodId} {args : Array Value} {below : List Frame} {meth : Method} {c : Code} {A : Nat → Prop} {m_refused : Nat → Int32} {m_known : Nat → Int32} {m_setting : Nat → Int32} {m_kind : Nat → Int32} {m_figure : Nat → Int32} {m_tone : Nat → Int32} {m_word : Nat → Int32} {m_hours : Nat → Int32} {m_callers : Int32} {m_day : Int32} {m_tape : Nat → Int32} {m_letter : Nat → Int32} {m_letterAt : Nat → Int32} {m_told : Nat → Int32} {m_taped : Int32} {m_at : Int32} {m_statements : Int32} {m_kept : Nat → Int32} {m_hasImage : Int32} {m_isKeeping : Int32} {m_cursor : Int32} {m_answeredMany : Nat → Int32} {m_lastWord : Nat → Int32} {m_away : Int32} {m_answered : Int32} {m_unanswered : Int32} {m_saidWords : Int32} {m_isCalledAtSeven : Int32} {m_isAnsweredAtSeven : Int32} {m_seen : Nat → Int32} {m_weekAnswers : Int32} {m_weekHurt : Int32} {m_week : Nat → Int32} {m_row : Nat → Int32} {m_rowMany : Int32} {m_oneHas : Nat → Int32} {m_otherHas : Nat → Int32} {v1 : Int32} {v2 : Int32} {s1 : Int32} {s2 : Int32} {o : (Nat → Int32) × (Nat → Int32) × (Nat → Int32) × (Nat → Int32) × Int32 × Int32 × Int32 × Int32 × Int32} (K : Cx p s m args meth c A G cX4_calls 3 RX4 none) {H : Heap} {locs : List Loc} {ls : Array Slot} (hl : lv_has ls 3 [(0, .ref (q 0)), (1, .int v1), (2, .int v2)]) (hw : Wx G A (mC G q m_refused m_known m_setting m_kind m_figure m_tone m_word m_hours m_callers m_day m_tape m_letter m_letterAt m_told m_taped m_at m_statements m_kept m_hasImage m_isKeeping m_cursor m_answeredMany m_lastWord m_away m_answered m_unanswered m_saidWords m_isCalledAtSeven m_isAnsweredAtSeven m_seen m_weekAnswers m_weekHurt m_week m_row m_rowMany m_oneHas m_otherHas) s H locs) (h : f_X4_calls_J16 v1 v2 s1 s2 m_known m_setting m_kind m_figure m_tone m_word m_answeredMany m_lastWord m_answered m_unanswered m_saidWords m_isAnsweredAtSeven = some o)  : W p l e ({ frames := 2, cells := 0, slots := 0, locals := 45 } : Room) s m args below meth c H locs 0 0 (MQ below (QV G A (mC G q m_refused o.1 o.2.1 m_kind m_figure m_tone m_word m_hours m_callers m_day m_tape m_letter m_letterAt m_told m_taped m_at m_statements m_kept m_hasImage m_isKeeping m_cursor o.2.2.1 o.2.2.2.1 m_away o.2.2.2.2.1 o.2.2.2.2.2.1 o.2.2.2.2.2.2.1 o.2.2.2.2.2.2.2.1 o.2.2.2.2.2.2.2.2 m_seen m_weekAnswers m_weekHurt m_week m_row m_rowMany m_oneHas m_otherHas)) args s 0 0 A) (F0 m 16 ls [.int s2, .int s1, .ref (q 0)]) := by
  have hx := K.1.1
  have hb := K.1.2.1
  unfold f_X4_calls_J16 at h
  refine lv_ior hx hb dX4_calls_16 ?_
  obtain ⟨hg76, h⟩ := gd h
  refine putX K hw inTX4 tyX4_ok nmX4 0 27 fl_X4_183 dX4_calls_17 rfl rfl (by decide) rfl rfl (isB_n hg76) (isB_f hg76) (Nat.le_of_ble_eq_true rfl) (fun H locs hw => ?_)
  have hw : Wx G A (mC G q m_refused m_known m_setting m_kind m_figure m_tone m_word m_hours m_callers m_day m_tape m_letter m_letterAt m_told m_taped m_at m_statements m_kept m_hasImage m_isKeeping m_cursor m_answeredMany m_lastWord m_away m_answered m_unanswered m_saidWords (s1 ||| s2) m_isAnsweredAtSeven m_seen m_weekAnswers m_weekHurt m_week m_row m_rowMany m_oneHas m_otherHas) s H locs := hw
  refine lv_aload_n hx hb dX4_calls_20 rfl (lv_at hl 0 rfl) ?_
  refine lv_iload_n hx hb dX4_calls_21 rfl (lv_at hl 1 rfl) ?_
  obtain ⟨z77, hz77, h⟩ := bd h
  refine callVI K (c_X4_isAnswered l G q m_refused m_known m_setting m_kind m_figure m_tone m_word m_hours m_callers m_day m_tape m_letter m_letterAt m_told m_taped m_at m_statements m_kept m_hasImage m_isKeeping m_cursor m_answeredMany m_lastWord m_away m_answered m_unanswered m_saidWords (s1 ||| s2) m_isAnsweredAtSeven m_seen m_weekAnswers m_weekHurt m_week m_row m_rowMany m_oneHas m_otherHas v1 hz77) mt_yX4_isAnswered lk_X4_186 ⟨rfl, rfl, Nat.le_of_ble_eq_true rfl, Nat.le_of_ble_eq_true rfl⟩ hw dX4_calls_22 hl.1 ⟨Nat.zero_le _, Nat.zero_le _⟩ (wa := ((mC G q m_refused m_known m_setting m_kind m_figure m_tone m_word m_hours m_callers m_day m_tape m_letter m_letterAt m_told m_taped m_at m_statements m_kept m_hasImage m_isKeeping m_cursor m_answeredMany m_lastWord m_away m_answered m_unanswered m_saidWords (s1 ||| s2) m_isAnsweredAtSeven m_seen m_weekAnswers m_weekHurt m_week m_row m_rowMany m_oneHas m_otherHas).take 0)) (wb := ((mC G q m_refused m_known m_setting m_kind m_figure m_tone m_word m_hours m_callers m_day m_tape m_letter m_letterAt m_told m_taped m_at m_statements m_kept m_hasImage m_isKeeping m_cursor m_answeredMany m_lastWord m_away m_answered m_unanswered m_saidWords (s1 ||| s2) m_isAnsweredAtSeven m_seen m_weekAnswers m_weekHurt m_week m_row m_rowMany m_oneHas m_otherHas).drop 21)) rfl rfl rfl (rest := []) rfl rfl (Nat.le_of_ble_eq_true rfl) (fun H locs hw => ?_)
  have hw : Wx G A (mC G q m_refused m_known m_setting m_kind m_figure m_tone m_word m_hours m_callers m_day m_tape m_letter m_letterAt m_told m_taped m_at m_statements m_kept m_hasImage m_isKeeping m_cursor m_answeredMany m_lastWord m_away m_answered m_unanswered m_saidWords (s1 ||| s2) m_isAnsweredAtSeven m_seen m_weekAnswers m_weekHurt m_week m_row m_rowMany m_oneHas m_otherHas) s H locs := hw
  refine lv_if_ne (tgt := 48) hx hb dX4_calls_25 (by decide) (fun hc78 => ?_) (fun hc78 => ?_)
  · have h := ifn hc78 h
    refine lv_aload_n hx hb dX4_calls_48 rfl (lv_at hl 0 rfl) ?_
    refine lv_dup hx hb dX4_calls_49 rfl ?_
    refine getX K hw inTX4 0 28 fl_X4_196 dX4_calls_50 rfl rfl (by decide) rfl rfl ?_
    refine lv_iload_n hx hb dX4_calls_53 rfl (lv_at hl 2 rfl) ?_
    refine lv_bipush (v := (7 : Int32)) hx hb dX4_calls_54 (by decide) ?_
    refine lv_icmp_ne (tgt := 63) hx hb dX4_calls_56 (by decide) (fun hc79 => ?_) (fun hc79 => ?_)
    · have h := ifn hc79 h
      refine lv_iconst (v := (0 : Int32)) hx hb dX4_calls_63 (by decide) ?_
      exact w_X4_calls_J64 K (lv_sub hl [0, 1] rfl) hw h
    · have h := ifp hc79 h
      refine lv_iconst (v := (1 : Int32)) hx hb dX4_calls_59 (by decide) ?_
      refine lv_goto (tgt := 64) hx hb dX4_calls_60 (by decide) ?_
      exact w_X4_calls_J64 K (lv_sub hl [0, 1] rfl) hw h
  · have h := ifp hc78 h
    refine lv_aload_n hx hb dX4_calls_28 rfl (lv_at hl 0 rfl) ?_
    refine lv_dup hx hb dX4_calls_29 rfl ?_
    refine getX K hw inTX4 0 25 fl_X4_177 dX4_calls_30 rfl rfl (by decide) rfl rfl ?_
    refine lv_iconst (v := (1 : Int32)) hx hb dX4_calls_33 (by decide) ?_
    refine lv_iadd hx hb dX4_calls_34 ?_
    refine putX K hw inTX4 tyX4_ok nmX4 0 25 fl_X4_177 dX4_calls_35 rfl rfl (by decide) rfl rfl rfl rfl (Nat.le_of_ble_eq_true rfl) (fun H locs hw => ?_)
    have hw : Wx G A (mC G q m_refused m_known m_setting m_kind m_figure m_tone m_word m_hours m_callers m_day m_tape m_letter m_letterAt m_told m_taped m_at m_statements m_kept m_hasImage m_isKeeping m_cursor m_answeredMany m_lastWord m_away m_answered (m_unanswered + (1 : Int32)) m_saidWords (s1 ||| s2) m_isAnsweredAtSeven m_seen m_weekAnswers m_weekHurt m_week m_row m_rowMany m_oneHas m_otherHas) s H locs := hw
    refine lv_aload_n hx hb dX4_calls_38 rfl (lv_at hl 0 rfl) ?_
    refine lv_aload_n hx hb dX4_calls_39 rfl (lv_at hl 0 rfl) ?_
    refine lv_iload_n hx hb dX4_calls_40 rfl (lv_at hl 1 rfl) ?_
    obtain ⟨z98, hz98, h⟩ := bd h
    refine callVI K (c_X4_hurts l G q m_refused m_known m_setting m_kind m_figure m_tone m_word m_hours m_callers m_day m_tape m_letter m_letterAt m_told m_taped m_at m_statements m_kept m_hasImage m_isKeeping m_cursor m_answeredMany m_lastWord m_away m_answered (m_unanswered + (1 : Int32)) m_saidWords (s1 ||| s2) m_isAnsweredAtSeven m_seen m_weekAnswers m_weekHurt m_week m_row m_rowMany m_oneHas m_otherHas v1 hz98) mt_yX4_hurts lk_X4_189 ⟨rfl, rfl, Nat.le_of_ble_eq_true rfl, Nat.le_of_ble_eq_true rfl⟩ hw dX4_calls_41 hl.1 ⟨Nat.zero_le _, Nat.zero_le _⟩ (wa := ((mC G q m_refused m_known m_setting m_kind m_figure m_tone m_word m_hours m_callers m_day m_tape m_letter m_letterAt m_told m_taped m_at m_statements m_kept m_hasImage m_isKeeping m_cursor m_answeredMany m_lastWord m_away m_answered (m_unanswered + (1 : Int32)) m_saidWords (s1 ||| s2) m_isAnsweredAtSeven m_seen m_weekAnswers m_weekHurt m_week m_row m_rowMany m_oneHas m_otherHas).take 0)) (wb := ((mC G q m_refused m_known m_setting m_kind m_figure m_tone m_word m_hours m_callers m_day m_tape m_letter m_letterAt m_told m_taped m_at m_statements m_kept m_hasImage m_isKeeping m_cursor m_answeredMany m_lastWord m_away m_answered (m_unanswered + (1 : Int32)) m_saidWords (s1 ||| s2) m_isAnsweredAtSeven m_seen m_weekAnswers m_weekHurt m_week m_row m_rowMany m_oneHas m_otherHas).drop 21)) rfl rfl rfl (rest := [.ref (q 0)]) rfl rfl (Nat.le_of_ble_eq_true rfl) (fun H locs hw => ?_)
    have hw : Wx G A (mC G q m_refused m_known m_setting m_kind m_figure m_tone m_word m_hours m_callers m_day m_tape m_letter m_letterAt m_told m_taped m_at m_statements m_kept m_hasImage m_isKeeping m_cursor m_answeredMany m_lastWord m_away m_answered (m_unanswered + (1 : Int32)) m_saidWords (s1 ||| s2) m_isAnsweredAtSeven m_seen m_weekAnswers m_weekHurt m_week m_row m_rowMany m_oneHas m_otherHas) s H locs := hw
    refine callVV K (c_X4_hurt l G q m_refused m_known m_setting m_kind m_figure m_tone m_word m_hours m_callers m_day m_tape m_letter m_letterAt m_told m_taped m_at m_statements m_kept m_hasImage m_isKeeping m_cursor m_answeredMany m_lastWord m_away m_answered (m_unanswered + (1 : Int32)) m_saidWords (s1 ||| s2) m_isAnsweredAtSeven m_seen m_weekAnswers m_weekHurt m_week m_row m_rowMany m_oneHas m_otherHas z98 rfl) mt_yX4_hurt lk_X4_192 ⟨rfl, rfl, Nat.le_of_ble_eq_true rfl, Nat.le_of_ble_eq_true rfl⟩ hw dX4_calls_44 hl.1 ⟨Nat.zero_le _, Nat.zero_le _⟩ (wa := ((mC G q m_refused m_known m_setting m_kind m_figure m_tone m_word m_hours m_callers m_day m_tape m_letter m_letterAt m_told m_taped m_at m_statements m_kept m_hasImage m_isKeeping m_cursor m_answeredMany m_lastWord m_away m_answered (m_unanswered + (1 : Int32)) m_saidWords (s1 ||| s2) m_isAnsweredAtSeven m_seen m_weekAnswers m_weekHurt m_week m_row m_rowMany m_oneHas m_otherHas).take 0)) (wb := ((mC G q m_refused m_known m_setting m_kind m_figure m_tone m_word m_hours m_callers m_day m_tape m_letter m_letterAt m_told m_taped m_at m_statements m_kept m_hasImage m_isKeeping m_cursor m_answeredMany m_lastWord m_away m_answered (m_unanswered + (1 : Int32)) m_saidWords (s1 ||| s2) m_isAnsweredAtSeven m_seen m_weekAnswers m_weekHurt m_week m_row m_rowMany m_oneHas m_otherHas).drop 21)) rfl rfl rfl (rest := []) rfl rfl (Nat.le_of_ble_eq_true rfl) (fun H locs hw => ?_)
    have hw : Wx G A (mC G q m_refused m_known (f_X4_hurt m_setting z98) m_kind m_figure m_tone m_word m_hours m_callers m_day m_tape m_letter m_letterAt m_told m_taped m_at m_statements m_kept m_hasImage m_isKeeping m_cursor m_answeredMany m_lastWord m_away m_answered (m_unanswered + (1 : Int32)) m_saidWords (s1 ||| s2) m_isAnsweredAtSeven m_seen m_weekAnswers m_weekHurt m_week m_row m_rowMany m_oneHas m_otherHas) s H locs := hw
    have h := Option.some.inj h
    subst h
    exact retV K hw dX4_calls_47
set_option maxHeartbeats 4000000 in
set_option maxRecDepth 100000 in
theorem c_X4_calls (l : Launch) (G : GP) (q : Nat → Nat) (m_refused : Nat → Int32) (m_known : Nat → Int32) (m_setting : Nat → Int32) (m_kind : Nat → Int32) (m_figure : Nat → Int32) (m_tone : Nat → Int32) (m_word : Nat → Int32) (m_hours : Nat → Int32) (m_callers : Int32) (m_day : Int32) (m_tape : Nat → Int32) (m_letter : Nat → Int32) (m_letterAt : Nat → Int32) (m_told : Nat → Int32) (m_taped : Int32) (m_at : Int32) (m_statements : Int32) (m_kept : Nat → Int32) (m_hasImage : Int32) (m_isKeeping : Int32) (m_cursor : Int32) (m_answeredMany : Nat → Int32) (m_lastWord : Nat → Int32) (m_away : Int32) (m_answered : Int32) (m_unanswered : Int32) (m_saidWords : Int32) (m_isCalledAtSeven : Int32) (m_isAnsweredAtSeven : Int32) (m_seen : Nat → Int32) (m_weekAnswers : Int32) (m_weekHurt : Int32) (m_week : Nat → Int32) (m_row : Nat → Int32) (m_rowMany : Int32) (m_oneHas : Nat → Int32) (m_otherHas : Nat → Int32) (v1 : Int32) (v2 : Int32) {o : (Nat → Int32) × (Nat → Int32) × (Nat → Int32) × (Nat → Int32) × Int32 × Int32 × Int32 × Int32 × Int32} (h : f_X4_calls m_known m_setting m_kind m_figure m_tone m_word m_answeredMany m_lastWord m_answered m_unanswered m_saidWords m_isCalledAtSeven m_isAnsweredAtSeven v1 v2 = some o) : CtV l yX4_calls cX4_calls 3 ({ frames := 2, cells := 0, slots := 0, locals := 45 } : Room) G (mC G q m_refused m_known m_setting m_kind m_figure m_tone m_word m_hours m_callers m_day m_tape m_letter m_letterAt m_told m_taped m_at m_statements m_kept m_hasImage m_isKeeping m_cursor m_answeredMany m_lastWord m_away m_answered m_unanswered m_saidWords m_isCalledAtSeven m_isAnsweredAtSeven m_seen m_weekAnswers m_weekHurt m_week m_row m_rowMany m_oneHas m_otherHas) [.ref (q 0), .int v1, .int v2] (mC G q m_refused o.1 o.2.1 m_kind m_figure m_tone m_word m_hours m_callers m_day m_tape m_letter m_letterAt m_told m_taped m_at m_statements m_kept m_hasImage m_isKeeping m_cursor o.2.2.1 o.2.2.2.1 m_away o.2.2.2.2.1 o.2.2.2.2.2.1 o.2.2.2.2.2.2.1 o.2.2.2.2.2.2.2.1 o.2.2.2.2.2.2.2.2 m_seen m_weekAnswers m_weekHurt m_week m_row m_rowMany m_oneHas m_otherHas) := by
  refine CtV.of (by decide) (Nat.le_of_ble_eq_true rfl) ?_
  intro p e s m below meth c A ls K hl hw
  have hl : lv_has ls 3 [(0, .ref (q 0)), (1, .int v1), (2, .int v2)] := hl
  generalize ([.ref (q 0), .int v1, .int v2] : List Value).toArray = args at K ⊢
  have hx := K.1.1
  have hb := K.1.2.1
  unfold f_X4_calls at h
  refine lv_aload_n hx hb dX4_calls_0 rfl (lv_at hl 0 rfl) ?_
  refine lv_dup hx hb dX4_calls_1 rfl ?_
  refine getX K hw inTX4 0 27 fl_X4_183 dX4_calls_2 rfl rfl (by decide) rfl rfl ?_
  refine lv_iload_n hx hb dX4_calls_5 rfl (lv_at hl 2 rfl) ?_
  refine lv_bipush (v := (7 : Int32)) hx hb dX4_calls_6 (by decide) ?_
  refine lv_icmp_ne (tgt := 15) hx hb dX4_calls_8 (by decide) (fun hc75 => ?_) (fun hc75 => ?_)
  · have h := ifn hc75 h
    refine lv_iconst (v := (0 : Int32)) hx hb dX4_calls_15 (by decide) ?_
    exact w_X4_calls_J16 K (lv_sub hl [0, 1, 2] rfl) hw h
  · have h := ifp hc75 h
    refine lv_iconst (v := (1 : Int32)) hx hb dX4_calls_11 (by decide) ?_
    refine lv_goto (tgt := 16) hx hb dX4_calls_12 (by decide) ?_
    exact w_X4_calls_J16 K (lv_sub hl [0, 1, 2] rfl) hw h
set_option maxHeartbeats 4000000 in
set_option maxRecDepth 100000 in
theorem b_X4_goesDay_L20 {l : Launch} {G : GP} {q : Nat → Nat} {p : Program} {e : Env} {s : State} {m : MethodId} {args : Array Value} {below : List Frame} {meth : Method} {c : Code} {A : Nat → Prop} {m_refused : Nat → Int32} {m_known : Nat → Int32} {m_setting : Nat → Int32} {m_kind : Nat → Int32} {m_figure : Nat → Int32} {m_tone : Nat → Int32} {m_word : Nat → Int32} {m_hours : Nat → Int32} {m_callers : Int32} {m_day : Int32} {m_tape : Nat → Int32} {m_letter : Nat → Int32} {m_letterAt : Nat → Int32} {m_told : Nat → Int32} {m_taped : Int32} {m_at : Int32} {m_statements : Int32} {m_kept : Nat → Int32} {m_hasImage : Int32} {m_isKeeping : Int32} {m_cursor : Int32} {m_answeredMany : Nat → Int32} {m_lastWord : Nat → Int32} {m_away : Int32} {m_answered : Int32} {m_unanswered : Int32} {m_saidWords : Int32} {m_isCalledAtSeven : Int32} {m_isAnsweredAtSeven : Int32} {m_seen : Nat → Int32} {m_weekAnswers : Int32} {m_weekHurt : Int32} {m_week : Nat → Int32} {m_row : Nat → Int32} {m_rowMany : Int32} {m_oneHas : Nat → Int32} {m_otherHas : Nat → Int32} {v1 : Int32} {v2 : Int32} {o : (Nat → Int32) × (Nat → Int32) × Int32 × (Nat → Int32) × (Nat → Int32) × Int32 × Int32 × Int32 × Int32 × Int32} (K : Cx p s m args meth c A G cX4_goesDay 3 RX4 none) {H : Heap} {locs : List Loc} {ls : Array Slot} (hl : lv_has ls 3 [(0, .ref (q 0)), (1, .int v1), (2, .int v2)]) (hw : Wx G A (mC G q m_refused m_known m_setting m_kind m_figure m_tone m_word m_hours m_callers m_day m_tape m_letter m_letterAt m_told m_taped m_at m_statements m_kept m_hasImage m_isKeeping m_cursor m_answeredMany m_lastWord m_away m_answered m_unanswered m_saidWords m_isCalledAtSeven m_isAnsweredAtSeven m_seen m_weekAnswers m_weekHurt m_week m_row m_rowMany m_oneHas m_otherHas) s H locs) {y : (Int32 × (Nat → Int32) × (Nat → Int32) × (Nat → Int32) × (Nat → Int32) × Int32 × Int32 × Int32 × Int32 × Int32) ⊕ ((Nat → Int32) × (Nat → Int32) × (Nat → Int32) × (Nat → Int32) × Int32 × Int32 × Int32 × Int32 × Int32)} (h : f_X4_goesDay_L20 v1 m_kind m_figure m_tone m_word m_hours m_callers m_away v2 m_known m_setting m_answeredMany m_lastWord m_answered m_unanswered m_saidWords m_isCalledAtSeven m_isAnsweredAtSeven = some y) (hk20 : ∀ (b : Int32 × (Nat → Int32) × (Nat → Int32) × (Nat → Int32) × (Nat → Int32) × Int32 × Int32 × Int32 × Int32 × Int32) (H : Heap) (locs : List Loc) (ls : Array Slot), y = .inl b → lv_has ls 3 [(0, .ref (q 0)), (1, .int v1), (2, .int b.1)] → Wx G A (mC G q m_refused b.2.1 b.2.2.1 m_kind m_figure m_tone m_word m_hours m_callers m_day m_tape m_letter m_letterAt m_told m_taped m_at m_statements m_kept m_hasImage m_isKeeping m_cursor b.2.2.2.1 b.2.2.2.2.1 m_away b.2.2.2.2.2.1 b.2.2.2.2.2.2.1 b.2.2.2.2.2.2.2.1 b.2.2.2.2.2.2.2.2.1 b.2.2.2.2.2.2.2.2.2 m_seen m_weekAnswers m_weekHurt m_week m_row m_rowMany m_oneHas m_otherHas) s H locs → W p l e ({ frames := 3, cells := 0, slots := 0, locals := 67 } : Room) s m args below meth c H locs 0 0 (MQ below (QV G A (mC G q m_refused o.1 o.2.1 m_kind m_figure m_tone m_word m_hours m_callers o.2.2.1 m_tape m_letter m_letterAt m_told m_taped m_at m_statements m_kept m_hasImage m_isKeeping m_cursor o.2.2.2.1 o.2.2.2.2.1 m_away o.2.2.2.2.2.1 o.2.2.2.2.2.2.1 o.2.2.2.2.2.2.2.1 o.2.2.2.2.2.2.2.2.1 o.2.2.2.2.2.2.2.2.2 m_seen m_weekAnswers m_weekHurt m_week m_row m_rowMany m_oneHas m_otherHas)) args s 0 0 A) (F0 m 20 ls [])) (hx20 : ∀ (b : (Nat → Int32) × (Nat → Int32) × (Nat → Int32) × (Nat → Int32) × Int32 × Int32 × Int32 × Int32 × Int32) (H : Heap) (locs : List Loc) (ls : Array Slot), y = .inr b → lv_has ls 3 [(0, .ref (q 0)), (1, .int v1)] → Wx G A (mC G q m_refused b.1 b.2.1 m_kind m_figure m_tone m_word m_hours m_callers m_day m_tape m_letter m_letterAt m_told m_taped m_at m_statements m_kept m_hasImage m_isKeeping m_cursor b.2.2.1 b.2.2.2.1 m_away b.2.2.2.2.1 b.2.2.2.2.2.1 b.2.2.2.2.2.2.1 b.2.2.2.2.2.2.2.1 b.2.2.2.2.2.2.2.2 m_seen m_weekAnswers m_weekHurt m_week m_row m_rowMany m_oneHas m_otherHas) s H locs → W p l e ({ frames := 3, cells := 0, slots := 0, locals := 67 } : Room) s m args below meth c H locs 0 0 (MQ below (QV G A (mC G q m_refused o.1 o.2.1 m_kind m_figure m_tone m_word m_hours m_callers o.2.2.1 m_tape m_letter m_letterAt m_told m_taped m_at m_statements m_kept m_hasImage m_isKeeping m_cursor o.2.2.2.1 o.2.2.2.2.1 m_away o.2.2.2.2.2.1 o.2.2.2.2.2.2.1 o.2.2.2.2.2.2.2.1 o.2.2.2.2.2.2.2.2.1 o.2.2.2.2.2.2.2.2.2 m_seen m_weekAnswers m_weekHurt m_week m_row m_rowMany m_oneHas m_otherHas)) args s 0 0 A) (F0 m 61 ls [])) : W p l e ({ frames := 3, cells := 0, slots := 0, locals := 67 } : Room) s m args below meth c H locs 0 0 (MQ below (QV G A (mC G q m_refused o.1 o.2.1 m_kind m_figure m_tone m_word m_hours m_callers o.2.2.1 m_tape m_letter m_letterAt m_told m_taped m_at m_statements m_kept m_hasImage m_isKeeping m_cursor o.2.2.2.1 o.2.2.2.2.1 m_away o.2.2.2.2.2.1 o.2.2.2.2.2.2.1 o.2.2.2.2.2.2.2.1 o.2.2.2.2.2.2.2.2.1 o.2.2.2.2.2.2.2.2.2 m_seen m_weekAnswers m_weekHurt m_week m_row m_rowMany m_oneHas m_otherHas)) args s 0 0 A) (F0 m 20 ls []) := by
  have hx := K.1.1
  have hb := K.1.2.1
  unfold f_X4_goesDay_L20 at h
  refine lv_iload_n hx hb dX4_goesDay_20 rfl (lv_at hl 2 rfl) ?_
  refine lv_aload_n hx hb dX4_goesDay_21 rfl (lv_at hl 0 rfl) ?_
  refine getX K hw inTX4 0 8 fl_X4_70 dX4_goesDay_22 rfl rfl (by decide) rfl rfl ?_
  refine lv_icmp_ge (tgt := 61) hx hb dX4_goesDay_25 (by decide) (fun hc50 => ?_) (fun hc50 => ?_)
  · have h := ifp hc50 h
    exact hx20 (m_known, m_setting, m_answeredMany, m_lastWord, m_answered, m_unanswered, m_saidWords, m_isCalledAtSeven, m_isAnsweredAtSeven) _ _ _ (Option.some.inj h).symm (lv_sub hl [0, 1] rfl) hw
  · have h := ifn hc50 h
    refine lv_aload_n hx hb dX4_goesDay_28 rfl (lv_at hl 0 rfl) ?_
    refine getX K hw inTX4 0 7 fl_X4_31 dX4_goesDay_29 rfl rfl (by decide) rfl rfl ?_
    refine lv_iload_n hx hb dX4_goesDay_32 rfl (lv_at hl 2 rfl) ?_
    obtain ⟨hg51, h⟩ := gd h
    refine ialX K hw 8 (inB_in hg51) dX4_goesDay_33 rfl ?_
    refine lv_iload_n hx hb dX4_goesDay_34 rfl (lv_at hl 1 rfl) ?_
    refine lv_icmp_ne (tgt := 55) hx hb dX4_goesDay_35 (by decide) (fun hc52 => ?_) (fun hc52 => ?_)
    · have h := ifn hc52 h
      refine lv_iinc (v := (v2 + (1 : Int32))) (lv' := [(2, .int (v2 + (1 : Int32))), (0, .ref (q 0)), (1, .int v1)]) hx hb dX4_goesDay_55 hl (k := 2) rfl rfl (by decide) rfl (fun ls hl => ?_)
      refine lv_goto (tgt := 20) hx hb dX4_goesDay_58 (by decide) ?_
      exact hk20 ((v2 + (1 : Int32)), m_known, m_setting, m_answeredMany, m_lastWord, m_answered, m_unanswered, m_saidWords, m_isCalledAtSeven, m_isAnsweredAtSeven) _ _ _ (Option.some.inj h).symm (lv_sub hl [1, 2, 0] rfl) hw
    · have h := ifp hc52 h
      refine lv_aload_n hx hb dX4_goesDay_38 rfl (lv_at hl 0 rfl) ?_
      refine getX K hw inTX4 0 23 fl_X4_205 dX4_goesDay_39 rfl rfl (by decide) rfl rfl ?_
      refine lv_iload_n hx hb dX4_goesDay_42 rfl (lv_at hl 2 rfl) ?_
      refine callSI K (c_X4_has l G m_away v2 rfl) mt_yX4_has lk_X4_208 ⟨rfl, rfl, Nat.le_of_ble_eq_true rfl, Nat.le_of_ble_eq_true rfl⟩ hw dX4_goesDay_43 hl.1 ⟨Nat.zero_le _, Nat.zero_le _⟩ (wa := ((mC G q m_refused m_known m_setting m_kind m_figure m_tone m_word m_hours m_callers m_day m_tape m_letter m_letterAt m_told m_taped m_at m_statements m_kept m_hasImage m_isKeeping m_cursor m_answeredMany m_lastWord m_away m_answered m_unanswered m_saidWords m_isCalledAtSeven m_isAnsweredAtSeven m_seen m_weekAnswers m_weekHurt m_week m_row m_rowMany m_oneHas m_otherHas).take 0)) (wb := ((mC G q m_refused m_known m_setting m_kind m_figure m_tone m_word m_hours m_callers m_day m_tape m_letter m_letterAt m_told m_taped m_at m_statements m_kept m_hasImage m_isKeeping m_cursor m_answeredMany m_lastWord m_away m_answered m_unanswered m_saidWords m_isCalledAtSeven m_isAnsweredAtSeven m_seen m_weekAnswers m_weekHurt m_week m_row m_rowMany m_oneHas m_otherHas).drop 0)) rfl (rest := []) rfl rfl (Nat.le_of_ble_eq_true rfl) (fun H locs hw => ?_)
      have hw : Wx G A (mC G q m_refused m_known m_setting m_kind m_figure m_tone m_word m_hours m_callers m_day m_tape m_letter m_letterAt m_told m_taped m_at m_statements m_kept m_hasImage m_isKeeping m_cursor m_answeredMany m_lastWord m_away m_answered m_unanswered m_saidWords m_isCalledAtSeven m_isAnsweredAtSeven m_seen m_weekAnswers m_weekHurt m_week m_row m_rowMany m_oneHas m_otherHas) s H locs := hw
      refine lv_if_ne (tgt := 55) hx hb dX4_goesDay_46 (by decide) (fun hc53 => ?_) (fun hc53 => ?_)
      · have h := ifn hc53 h
        refine lv_iinc (v := (v2 + (1 : Int32))) (lv' := [(2, .int (v2 + (1 : Int32))), (0, .ref (q 0)), (1, .int v1)]) hx hb dX4_goesDay_55 hl (k := 2) rfl rfl (by decide) rfl (fun ls hl => ?_)
        refine lv_goto (tgt := 20) hx hb dX4_goesDay_58 (by decide) ?_
        exact hk20 ((v2 + (1 : Int32)), m_known, m_setting, m_answeredMany, m_lastWord, m_answered, m_unanswered, m_saidWords, m_isCalledAtSeven, m_isAnsweredAtSeven) _ _ _ (Option.some.inj h).symm (lv_sub hl [1, 2, 0] rfl) hw
      · have h := ifp hc53 h
        refine lv_aload_n hx hb dX4_goesDay_49 rfl (lv_at hl 0 rfl) ?_
        refine lv_iload_n hx hb dX4_goesDay_50 rfl (lv_at hl 2 rfl) ?_
        refine lv_iload_n hx hb dX4_goesDay_51 rfl (lv_at hl 1 rfl) ?_
        obtain ⟨z54, hz54, h⟩ := bd h
        refine callVV K (c_X4_calls l G q m_refused m_known m_setting m_kind m_figure m_tone m_word m_hours m_callers m_day m_tape m_letter m_letterAt m_told m_taped m_at m_statements m_kept m_hasImage m_isKeeping m_cursor m_answeredMany m_lastWord m_away m_answered m_unanswered m_saidWords m_isCalledAtSeven m_isAnsweredAtSeven m_seen m_weekAnswers m_weekHurt m_week m_row m_rowMany m_oneHas m_otherHas v2 v1 hz54) mt_yX4_calls lk_X4_211 ⟨rfl, rfl, Nat.le_of_ble_eq_true rfl, Nat.le_of_ble_eq_true rfl⟩ hw dX4_goesDay_52 hl.1 ⟨Nat.zero_le _, Nat.zero_le _⟩ (wa := ((mC G q m_refused m_known m_setting m_kind m_figure m_tone m_word m_hours m_callers m_day m_tape m_letter m_letterAt m_told m_taped m_at m_statements m_kept m_hasImage m_isKeeping m_cursor m_answeredMany m_lastWord m_away m_answered m_unanswered m_saidWords m_isCalledAtSeven m_isAnsweredAtSeven m_seen m_weekAnswers m_weekHurt m_week m_row m_rowMany m_oneHas m_otherHas).take 0)) (wb := ((mC G q m_refused m_known m_setting m_kind m_figure m_tone m_word m_hours m_callers m_day m_tape m_letter m_letterAt m_told m_taped m_at m_statements m_kept m_hasImage m_isKeeping m_cursor m_answeredMany m_lastWord m_away m_answered m_unanswered m_saidWords m_isCalledAtSeven m_isAnsweredAtSeven m_seen m_weekAnswers m_weekHurt m_week m_row m_rowMany m_oneHas m_otherHas).drop 21)) rfl rfl rfl (rest := []) rfl rfl (Nat.le_of_ble_eq_true rfl) (fun H locs hw => ?_)
        have hw : Wx G A (mC G q m_refused z54.1 z54.2.1 m_kind m_figure m_tone m_word m_hours m_callers m_day m_tape m_letter m_letterAt m_told m_taped m_at m_statements m_kept m_hasImage m_isKeeping m_cursor z54.2.2.1 z54.2.2.2.1 m_away z54.2.2.2.2.1 z54.2.2.2.2.2.1 z54.2.2.2.2.2.2.1 z54.2.2.2.2.2.2.2.1 z54.2.2.2.2.2.2.2.2 m_seen m_weekAnswers m_weekHurt m_week m_row m_rowMany m_oneHas m_otherHas) s H locs := hw
        refine lv_iinc (v := (v2 + (1 : Int32))) (lv' := [(2, .int (v2 + (1 : Int32))), (0, .ref (q 0)), (1, .int v1)]) hx hb dX4_goesDay_55 hl (k := 2) rfl rfl (by decide) rfl (fun ls hl => ?_)
        refine lv_goto (tgt := 20) hx hb dX4_goesDay_58 (by decide) ?_
        exact hk20 ((v2 + (1 : Int32)), z54.1, z54.2.1, z54.2.2.1, z54.2.2.2.1, z54.2.2.2.2.1, z54.2.2.2.2.2.1, z54.2.2.2.2.2.2.1, z54.2.2.2.2.2.2.2.1, z54.2.2.2.2.2.2.2.2) _ _ _ (Option.some.inj h).symm (lv_sub hl [1, 2, 0] rfl) hw
set_option maxHeartbeats 4000000 in
set_option maxRecDepth 100000 in
theorem w_X4_goesDay_L20 {l : Launch} {G : GP} {q : Nat → Nat} {p : Program} {e : Env} {s : State} {m : MethodId} {args : Array Value} {below : List Frame} {meth : Method} {c : Code} {A : Nat → Prop} {m_refused : Nat → Int32} {m_kind : Nat → Int32} {m_figure : Nat → Int32} {m_tone : Nat → Int32} {m_word : Nat → Int32} {m_hours : Nat → Int32} {m_callers : Int32} {m_day : Int32} {m_tape : Nat → Int32} {m_letter : Nat → Int32} {m_letterAt : Nat → Int32} {m_told : Nat → Int32} {m_taped : Int32} {m_at : Int32} {m_statements : Int32} {m_kept : Nat → Int32} {m_hasImage : Int32} {m_isKeeping : Int32} {m_cursor : Int32} {m_away : Int32} {m_seen : Nat → Int32} {m_weekAnswers : Int32} {m_weekHurt : Int32} {m_week : Nat → Int32} {m_row : Nat → Int32} {m_rowMany : Int32} {m_oneHas : Nat → Int32} {m_otherHas : Nat → Int32} {v1 : Int32} {o : (Nat → Int32) × (Nat → Int32) × Int32 × (Nat → Int32) × (Nat → Int32) × Int32 × Int32 × Int32 × Int32 × Int32} (K : Cx p s m args meth c A G cX4_goesDay 3 RX4 none) : ∀ (fu : Nat) (v2 : Int32) (m_known : Nat → Int32) (m_setting : Nat → Int32) (m_answeredMany : Nat → Int32) (m_lastWord : Nat → Int32) (m_answered : Int32) (m_unanswered : Int32) (m_saidWords : Int32) (m_isCalledAtSeven : Int32) (m_isAnsweredAtSeven : Int32) (H : Heap) (locs : List Loc) (ls : Array Slot), lv_has ls 3 [(0, .ref (q 0)), (1, .int v1), (2, .int v2)] → Wx G A (mC G q m_refused m_known m_setting m_kind m_figure m_tone m_word m_hours m_callers m_day m_tape m_letter m_letterAt m_told m_taped m_at m_statements m_kept m_hasImage m_isKeeping m_cursor m_answeredMany m_lastWord m_away m_answered m_unanswered m_saidWords m_isCalledAtSeven m_isAnsweredAtSeven m_seen m_weekAnswers m_weekHurt m_week m_row m_rowMany m_oneHas m_otherHas) s H locs → ∀ (x : (Nat → Int32) × (Nat → Int32) × (Nat → Int32) × (Nat → Int32) × Int32 × Int32 × Int32 × Int32 × Int32), lp (fun z : Int32 × (Nat → Int32) × (Nat → Int32) × (Nat → Int32) × (Nat → Int32) × Int32 × Int32 × Int32 × Int32 × Int32 => f_X4_goesDay_L20 v1 m_kind m_figure m_tone m_word m_hours m_callers m_away (z.1) (z.2.1) (z.2.2.1) (z.2.2.2.1) (z.2.2.2.2.1) (z.2.2.2.2.2.1) (z.2.2.2.2.2.2.1) (z.2.2.2.2.2.2.2.1) (z.2.2.2.2.2.2.2.2.1) (z.2.2.2.2.2.2.2.2.2)) fu (v2, m_known, m_setting, m_answeredMany, m_lastWord, m_answered, m_unanswered, m_saidWords, m_isCalledAtSeven, m_isAnsweredAtSeven) = some x → (∀ (H : Heap) (locs : List Loc) (ls : Array Slot), lv_has ls 3 [(0, .ref (q 0)), (1, .int v1)] → Wx G A (mC G q m_refused x.1 x.2.1 m_kind m_figure m_tone m_word m_hours m_callers m_day m_tape m_letter m_letterAt m_told m_taped m_at m_statements m_kept m_hasImage m_isKeeping m_cursor x.2.2.1 x.2.2.2.1 m_away x.2.2.2.2.1 x.2.2.2.2.2.1 x.2.2.2.2.2.2.1 x.2.2.2.2.2.2.2.1 x.2.2.2.2.2.2.2.2 m_seen m_weekAnswers m_weekHurt m_week m_row m_rowMany m_oneHas m_otherHas) s H locs → W p l e ({ frames := 3, cells := 0, slots := 0, locals := 67 } : Room) s m args below meth c H locs 0 0 (MQ below (QV G A (mC G q m_refused o.1 o.2.1 m_kind m_figure m_tone m_word m_hours m_callers o.2.2.1 m_tape m_letter m_letterAt m_told m_taped m_at m_statements m_kept m_hasImage m_isKeeping m_cursor o.2.2.2.1 o.2.2.2.2.1 m_away o.2.2.2.2.2.1 o.2.2.2.2.2.2.1 o.2.2.2.2.2.2.2.1 o.2.2.2.2.2.2.2.2.1 o.2.2.2.2.2.2.2.2.2 m_seen m_weekAnswers m_weekHurt m_week m_row m_rowMany m_oneHas m_otherHas)) args s 0 0 A) (F0 m 61 ls [])) → W p l e ({ frames := 3, cells := 0, slots := 0, locals := 67 } : Room) s m args below meth c H locs 0 0 (MQ below (QV G A (mC G q m_refused o.1 o.2.1 m_kind m_figure m_tone m_word m_hours m_callers o.2.2.1 m_tape m_letter m_letterAt m_told m_taped m_at m_statements m_kept m_hasImage m_isKeeping m_cursor o.2.2.2.1 o.2.2.2.2.1 m_away o.2.2.2.2.2.1 o.2.2.2.2.2.2.1 o.2.2.2.2.2.2.2.1 o.2.2.2.2.2.2.2.2.1 o.2.2.2.2.2.2.2.2.2 m_seen m_weekAnswers m_weekHurt m_week m_row m_rowMany m_oneHas m_otherHas)) args s 0 0 A) (F0 m 20 ls []) := by
  intro fu
  induction fu with
  | zero => intro v2 m_known m_setting m_answeredMany m_lastWord m_answered m_unanswered m_saidWords m_isCalledAtSeven m_isAnsweredAtSeven H locs ls hl hw x h; exact absurd (show none = some x from h) (by simp)
  | succ fu ih =>
    intro v2 m_known m_setting m_answeredMany m_lastWord m_answered m_unanswered m_saidWords m_isCalledAtSeven m_isAnsweredAtSeven H locs ls hl hw x h hx20
    obtain ⟨y, hy, hc⟩ := lp_s h
    exact b_X4_goesDay_L20 K hl hw hy (fun b H locs ls hE hl hw => ih b.1 b.2.1 b.2.2.1 b.2.2.2.1 b.2.2.2.2.1 b.2.2.2.2.2.1 b.2.2.2.2.2.2.1 b.2.2.2.2.2.2.2.1 b.2.2.2.2.2.2.2.2.1 b.2.2.2.2.2.2.2.2.2 H locs ls hl hw _ (lp_b hc hE) hx20) (fun b H locs ls hE hl hw => by
      have e9 := lp_x hc hE
      subst e9
      exact hx20 H locs ls hl hw)
set_option maxHeartbeats 4000000 in
set_option maxRecDepth 100000 in
theorem b_X4_goesDay_L12 {l : Launch} {G : GP} {q : Nat → Nat} {p : Program} {e : Env} {s : State} {m : MethodId} {args : Array Value} {below : List Frame} {meth : Method} {c : Code} {A : Nat → Prop} {m_refused : Nat → Int32} {m_known : Nat → Int32} {m_setting : Nat → Int32} {m_kind : Nat → Int32} {m_figure : Nat → Int32} {m_tone : Nat → Int32} {m_word : Nat → Int32} {m_hours : Nat → Int32} {m_callers : Int32} {m_day : Int32} {m_tape : Nat → Int32} {m_letter : Nat → Int32} {m_letterAt : Nat → Int32} {m_told : Nat → Int32} {m_taped : Int32} {m_at : Int32} {m_statements : Int32} {m_kept : Nat → Int32} {m_hasImage : Int32} {m_isKeeping : Int32} {m_cursor : Int32} {m_answeredMany : Nat → Int32} {m_lastWord : Nat → Int32} {m_away : Int32} {m_answered : Int32} {m_unanswered : Int32} {m_saidWords : Int32} {m_isCalledAtSeven : Int32} {m_isAnsweredAtSeven : Int32} {m_seen : Nat → Int32} {m_weekAnswers : Int32} {m_weekHurt : Int32} {m_week : Nat → Int32} {m_row : Nat → Int32} {m_rowMany : Int32} {m_oneHas : Nat → Int32} {m_otherHas : Nat → Int32} {v1 : Int32} {o : (Nat → Int32) × (Nat → Int32) × Int32 × (Nat → Int32) × (Nat → Int32) × Int32 × Int32 × Int32 × Int32 × Int32} (K : Cx p s m args meth c A G cX4_goesDay 3 RX4 none) {H : Heap} {locs : List Loc} {ls : Array Slot} (hl : lv_has ls 3 [(0, .ref (q 0)), (1, .int v1)]) (hw : Wx G A (mC G q m_refused m_known m_setting m_kind m_figure m_tone m_word m_hours m_callers m_day m_tape m_letter m_letterAt m_told m_taped m_at m_statements m_kept m_hasImage m_isKeeping m_cursor m_answeredMany m_lastWord m_away m_answered m_unanswered m_saidWords m_isCalledAtSeven m_isAnsweredAtSeven m_seen m_weekAnswers m_weekHurt m_week m_row m_rowMany m_oneHas m_otherHas) s H locs) {y : (Int32 × (Nat → Int32) × (Nat → Int32) × (Nat → Int32) × (Nat → Int32) × Int32 × Int32 × Int32 × Int32 × Int32) ⊕ ((Nat → Int32) × (Nat → Int32) × (Nat → Int32) × (Nat → Int32) × Int32 × Int32 × Int32 × Int32 × Int32)} (h : f_X4_goesDay_L12 m_kind m_figure m_tone m_word m_hours m_callers m_away v1 m_known m_setting m_answeredMany m_lastWord m_answered m_unanswered m_saidWords m_isCalledAtSeven m_isAnsweredAtSeven = some y) (hk12 : ∀ (b : Int32 × (Nat → Int32) × (Nat → Int32) × (Nat → Int32) × (Nat → Int32) × Int32 × Int32 × Int32 × Int32 × Int32) (H : Heap) (locs : List Loc) (ls : Array Slot), y = .inl b → lv_has ls 3 [(0, .ref (q 0)), (1, .int b.1)] → Wx G A (mC G q m_refused b.2.1 b.2.2.1 m_kind m_figure m_tone m_word m_hours m_callers m_day m_tape m_letter m_letterAt m_told m_taped m_at m_statements m_kept m_hasImage m_isKeeping m_cursor b.2.2.2.1 b.2.2.2.2.1 m_away b.2.2.2.2.2.1 b.2.2.2.2.2.2.1 b.2.2.2.2.2.2.2.1 b.2.2.2.2.2.2.2.2.1 b.2.2.2.2.2.2.2.2.2 m_seen m_weekAnswers m_weekHurt m_week m_row m_rowMany m_oneHas m_otherHas) s H locs → W p l e ({ frames := 3, cells := 0, slots := 0, locals := 67 } : Room) s m args below meth c H locs 0 0 (MQ below (QV G A (mC G q m_refused o.1 o.2.1 m_kind m_figure m_tone m_word m_hours m_callers o.2.2.1 m_tape m_letter m_letterAt m_told m_taped m_at m_statements m_kept m_hasImage m_isKeeping m_cursor o.2.2.2.1 o.2.2.2.2.1 m_away o.2.2.2.2.2.1 o.2.2.2.2.2.2.1 o.2.2.2.2.2.2.2.1 o.2.2.2.2.2.2.2.2.1 o.2.2.2.2.2.2.2.2.2 m_seen m_weekAnswers m_weekHurt m_week m_row m_rowMany m_oneHas m_otherHas)) args s 0 0 A) (F0 m 12 ls [])) (hx12 : ∀ (b : (Nat → Int32) × (Nat → Int32) × (Nat → Int32) × (Nat → Int32) × Int32 × Int32 × Int32 × Int32 × Int32) (H : Heap) (locs : List Loc) (ls : Array Slot), y = .inr b → lv_has ls 3 [(0, .ref (q 0))] → Wx G A (mC G q m_refused b.1 b.2.1 m_kind m_figure m_tone m_word m_hours m_callers m_day m_tape m_letter m_letterAt m_told m_taped m_at m_statements m_kept m_hasImage m_isKeeping m_cursor b.2.2.1 b.2.2.2.1 m_away b.2.2.2.2.1 b.2.2.2.2.2.1 b.2.2.2.2.2.2.1 b.2.2.2.2.2.2.2.1 b.2.2.2.2.2.2.2.2 m_seen m_weekAnswers m_weekHurt m_week m_row m_rowMany m_oneHas m_otherHas) s H locs → W p l e ({ frames := 3, cells := 0, slots := 0, locals := 67 } : Room) s m args below meth c H locs 0 0 (MQ below (QV G A (mC G q m_refused o.1 o.2.1 m_kind m_figure m_tone m_word m_hours m_callers o.2.2.1 m_tape m_letter m_letterAt m_told m_taped m_at m_statements m_kept m_hasImage m_isKeeping m_cursor o.2.2.2.1 o.2.2.2.2.1 m_away o.2.2.2.2.2.1 o.2.2.2.2.2.2.1 o.2.2.2.2.2.2.2.1 o.2.2.2.2.2.2.2.2.1 o.2.2.2.2.2.2.2.2.2 m_seen m_weekAnswers m_weekHurt m_week m_row m_rowMany m_oneHas m_otherHas)) args s 0 0 A) (F0 m 67 ls [])) : W p l e ({ frames := 3, cells := 0, slots := 0, locals := 67 } : Room) s m args below meth c H locs 0 0 (MQ below (QV G A (mC G q m_refused o.1 o.2.1 m_kind m_figure m_tone m_word m_hours m_callers o.2.2.1 m_tape m_letter m_letterAt m_told m_taped m_at m_statements m_kept m_hasImage m_isKeeping m_cursor o.2.2.2.1 o.2.2.2.2.1 m_away o.2.2.2.2.2.1 o.2.2.2.2.2.2.1 o.2.2.2.2.2.2.2.1 o.2.2.2.2.2.2.2.2.1 o.2.2.2.2.2.2.2.2.2 m_seen m_weekAnswers m_weekHurt m_week m_row m_rowMany m_oneHas m_otherHas)) args s 0 0 A) (F0 m 12 ls []) := by
  have hx := K.1.1
  have hb := K.1.2.1
  unfold f_X4_goesDay_L12 at h
  refine lv_iload_n hx hb dX4_goesDay_12 rfl (lv_at hl 1 rfl) ?_
  refine lv_bipush (v := (24 : Int32)) hx hb dX4_goesDay_13 (by decide) ?_
  refine lv_icmp_ge (tgt := 67) hx hb dX4_goesDay_15 (by decide) (fun hc49 => ?_) (fun hc49 => ?_)
  · have h := ifp hc49 h
    exact hx12 (m_known, m_setting, m_answeredMany, m_lastWord, m_answered, m_unanswered, m_saidWords, m_isCalledAtSeven, m_isAnsweredAtSeven) _ _ _ (Option.some.inj h).symm (lv_sub hl [0] rfl) hw
  · have h := ifn hc49 h
    refine lv_iconst (v := (0 : Int32)) hx hb dX4_goesDay_18 (by decide) ?_
    refine lv_istore_n (lv' := [(2, .int (0 : Int32)), (0, .ref (q 0)), (1, .int v1)]) hx hb dX4_goesDay_19 rfl hl (by decide) rfl (fun ls hl => ?_)
    obtain ⟨z55, hz55, h⟩ := bd h
    refine w_X4_goesDay_L20 K 1000 (0 : Int32) m_known m_setting m_answeredMany m_lastWord m_answered m_unanswered m_saidWords m_isCalledAtSeven m_isAnsweredAtSeven _ _ _ (lv_sub hl [1, 2, 0] rfl) hw _ hz55 (fun H locs ls hl hw => ?_)
    refine lv_iinc (v := (v1 + (1 : Int32))) (lv' := [(1, .int (v1 + (1 : Int32))), (0, .ref (q 0))]) hx hb dX4_goesDay_61 hl (k := 1) rfl rfl (by decide) rfl (fun ls hl => ?_)
    refine lv_goto (tgt := 12) hx hb dX4_goesDay_64 (by decide) ?_
    exact hk12 ((v1 + (1 : Int32)), z55.1, z55.2.1, z55.2.2.1, z55.2.2.2.1, z55.2.2.2.2.1, z55.2.2.2.2.2.1, z55.2.2.2.2.2.2.1, z55.2.2.2.2.2.2.2.1, z55.2.2.2.2.2.2.2.2) _ _ _ (Option.some.inj h).symm (lv_sub hl [1, 0] rfl) hw
set_option maxHeartbeats 4000000 in
set_option maxRecDepth 100000 in
theorem w_X4_goesDay_L12 {l : Launch} {G : GP} {q : Nat → Nat} {p : Program} {e : Env} {s : State} {m : MethodId} {args : Array Value} {below : List Frame} {meth : Method} {c : Code} {A : Nat → Prop} {m_refused : Nat → Int32} {m_kind : Nat → Int32} {m_figure : Nat → Int32} {m_tone : Nat → Int32} {m_word : Nat → Int32} {m_hours : Nat → Int32} {m_callers : Int32} {m_day : Int32} {m_tape : Nat → Int32} {m_letter : Nat → Int32} {m_letterAt : Nat → Int32} {m_told : Nat → Int32} {m_taped : Int32} {m_at : Int32} {m_statements : Int32} {m_kept : Nat → Int32} {m_hasImage : Int32} {m_isKeeping : Int32} {m_cursor : Int32} {m_away : Int32} {m_seen : Nat → Int32} {m_weekAnswers : Int32} {m_weekHurt : Int32} {m_week : Nat → Int32} {m_row : Nat → Int32} {m_rowMany : Int32} {m_oneHas : Nat → Int32} {m_otherHas : Nat → Int32} {o : (Nat → Int32) × (Nat → Int32) × Int32 × (Nat → Int32) × (Nat → Int32) × Int32 × Int32 × Int32 × Int32 × Int32} (K : Cx p s m args meth c A G cX4_goesDay 3 RX4 none) : ∀ (fu : Nat) (v1 : Int32) (m_known : Nat → Int32) (m_setting : Nat → Int32) (m_answeredMany : Nat → Int32) (m_lastWord : Nat → Int32) (m_answered : Int32) (m_unanswered : Int32) (m_saidWords : Int32) (m_isCalledAtSeven : Int32) (m_isAnsweredAtSeven : Int32) (H : Heap) (locs : List Loc) (ls : Array Slot), lv_has ls 3 [(0, .ref (q 0)), (1, .int v1)] → Wx G A (mC G q m_refused m_known m_setting m_kind m_figure m_tone m_word m_hours m_callers m_day m_tape m_letter m_letterAt m_told m_taped m_at m_statements m_kept m_hasImage m_isKeeping m_cursor m_answeredMany m_lastWord m_away m_answered m_unanswered m_saidWords m_isCalledAtSeven m_isAnsweredAtSeven m_seen m_weekAnswers m_weekHurt m_week m_row m_rowMany m_oneHas m_otherHas) s H locs → ∀ (x : (Nat → Int32) × (Nat → Int32) × (Nat → Int32) × (Nat → Int32) × Int32 × Int32 × Int32 × Int32 × Int32), lp (fun z : Int32 × (Nat → Int32) × (Nat → Int32) × (Nat → Int32) × (Nat → Int32) × Int32 × Int32 × Int32 × Int32 × Int32 => f_X4_goesDay_L12 m_kind m_figure m_tone m_word m_hours m_callers m_away (z.1) (z.2.1) (z.2.2.1) (z.2.2.2.1) (z.2.2.2.2.1) (z.2.2.2.2.2.1) (z.2.2.2.2.2.2.1) (z.2.2.2.2.2.2.2.1) (z.2.2.2.2.2.2.2.2.1) (z.2.2.2.2.2.2.2.2.2)) fu (v1, m_known, m_setting, m_answeredMany, m_lastWord, m_answered, m_unanswered, m_saidWords, m_isCalledAtSeven, m_isAnsweredAtSeven) = some x → (∀ (H : Heap) (locs : List Loc) (ls : Array Slot), lv_has ls 3 [(0, .ref (q 0))] → Wx G A (mC G q m_refused x.1 x.2.1 m_kind m_figure m_tone m_word m_hours m_callers m_day m_tape m_letter m_letterAt m_told m_taped m_at m_statements m_kept m_hasImage m_isKeeping m_cursor x.2.2.1 x.2.2.2.1 m_away x.2.2.2.2.1 x.2.2.2.2.2.1 x.2.2.2.2.2.2.1 x.2.2.2.2.2.2.2.1 x.2.2.2.2.2.2.2.2 m_seen m_weekAnswers m_weekHurt m_week m_row m_rowMany m_oneHas m_otherHas) s H locs → W p l e ({ frames := 3, cells := 0, slots := 0, locals := 67 } : Room) s m args below meth c H locs 0 0 (MQ below (QV G A (mC G q m_refused o.1 o.2.1 m_kind m_figure m_tone m_word m_hours m_callers o.2.2.1 m_tape m_letter m_letterAt m_told m_taped m_at m_statements m_kept m_hasImage m_isKeeping m_cursor o.2.2.2.1 o.2.2.2.2.1 m_away o.2.2.2.2.2.1 o.2.2.2.2.2.2.1 o.2.2.2.2.2.2.2.1 o.2.2.2.2.2.2.2.2.1 o.2.2.2.2.2.2.2.2.2 m_seen m_weekAnswers m_weekHurt m_week m_row m_rowMany m_oneHas m_otherHas)) args s 0 0 A) (F0 m 67 ls [])) → W p l e ({ frames := 3, cells := 0, slots := 0, locals := 67 } : Room) s m args below meth c H locs 0 0 (MQ below (QV G A (mC G q m_refused o.1 o.2.1 m_kind m_figure m_tone m_word m_hours m_callers o.2.2.1 m_tape m_letter m_letterAt m_told m_taped m_at m_statements m_kept m_hasImage m_isKeeping m_cursor o.2.2.2.1 o.2.2.2.2.1 m_away o.2.2.2.2.2.1 o.2.2.2.2.2.2.1 o.2.2.2.2.2.2.2.1 o.2.2.2.2.2.2.2.2.1 o.2.2.2.2.2.2.2.2.2 m_seen m_weekAnswers m_weekHurt m_week m_row m_rowMany m_oneHas m_otherHas)) args s 0 0 A) (F0 m 12 ls []) := by
  intro fu
  induction fu with
  | zero => intro v1 m_known m_setting m_answeredMany m_lastWord m_answered m_unanswered m_saidWords m_isCalledAtSeven m_isAnsweredAtSeven H locs ls hl hw x h; exact absurd (show none = some x from h) (by simp)
  | succ fu ih =>
    intro v1 m_known m_setting m_answeredMany m_lastWord m_answered m_unanswered m_saidWords m_isCalledAtSeven m_isAnsweredAtSeven H locs ls hl hw x h hx12
    obtain ⟨y, hy, hc⟩ := lp_s h
    exact b_X4_goesDay_L12 K hl hw hy (fun b H locs ls hE hl hw => ih b.1 b.2.1 b.2.2.1 b.2.2.2.1 b.2.2.2.2.1 b.2.2.2.2.2.1 b.2.2.2.2.2.2.1 b.2.2.2.2.2.2.2.1 b.2.2.2.2.2.2.2.2.1 b.2.2.2.2.2.2.2.2.2 H locs ls hl hw _ (lp_b hc hE) hx12) (fun b H locs ls hE hl hw => by
      have e9 := lp_x hc hE
      subst e9
      exact hx12 H locs ls hl hw)
set_option maxHeartbeats 4000000 in
set_option maxRecDepth 100000 in
theorem w_X4_goesDay_J123 {l : Launch} {G : GP} {q : Nat → Nat} {p : Program} {e : Env} {s : State} {m : MethodId} {args : Array Value} {below : List Frame} {meth : Method} {c : Code} {A : Nat → Prop} {m_refused : Nat → Int32} {m_known : Nat → Int32} {m_setting : Nat → Int32} {m_kind : Nat → Int32} {m_figure : Nat → Int32} {m_tone : Nat → Int32} {m_word : Nat → Int32} {m_hours : Nat → Int32} {m_callers : Int32} {m_day : Int32} {m_tape : Nat → Int32} {m_letter : Nat → Int32} {m_letterAt : Nat → Int32} {m_told : Nat → Int32} {m_taped : Int32} {m_at : Int32} {m_statements : Int32} {m_kept : Nat → Int32} {m_hasImage : Int32} {m_isKeeping : Int32} {m_cursor : Int32} {m_answeredMany : Nat → Int32} {m_lastWord : Nat → Int32} {m_away : Int32} {m_answered : Int32} {m_unanswered : Int32} {m_saidWords : Int32} {m_isCalledAtSeven : Int32} {m_isAnsweredAtSeven : Int32} {m_seen : Nat → Int32} {m_weekAnswers : Int32} {m_weekHurt : Int32} {m_week : Nat → Int32} {m_row : Nat → Int32} {m_rowMany : Int32} {m_oneHas : Nat → Int32} {m_otherHas : Nat → Int32}  {o : (Nat → Int32) × (Nat → Int32) × Int32 × (Nat → Int32) × (Nat → Int32) × Int32 × Int32 × Int32 × Int32 × Int32} (K : Cx p s m args meth c A G cX4_goesDay 3 RX4 none) {H : Heap} {locs : List Loc} {ls : Array Slot} (hl : lv_has ls 3 [(0, .ref (q 0))]) (hw : Wx G A (mC G q m_refused m_known m_setting m_kind m_figure m_tone m_word m_hours m_callers m_day m_tape m_letter m_letterAt m_told m_taped m_at m_statements m_kept m_hasImage m_isKeeping m_cursor m_answeredMany m_lastWord m_away m_answered m_unanswered m_saidWords m_isCalledAtSeven m_isAnsweredAtSeven m_seen m_weekAnswers m_weekHurt m_week m_row m_rowMany m_oneHas m_otherHas) s H locs) (h : f_X4_goesDay_J123 m_known m_setting m_day m_answeredMany m_lastWord m_answered m_unanswered m_saidWords m_isCalledAtSeven m_isAnsweredAtSeven = some o)  : W p l e ({ frames := 3, cells := 0, slots := 0, locals := 67 } : Room) s m args below meth c H locs 0 0 (MQ below (QV G A (mC G q m_refused o.1 o.2.1 m_kind m_figure m_tone m_word m_hours m_callers o.2.2.1 m_tape m_letter m_letterAt m_told m_taped m_at m_statements m_kept m_hasImage m_isKeeping m_cursor o.2.2.2.1 o.2.2.2.2.1 m_away o.2.2.2.2.2.1 o.2.2.2.2.2.2.1 o.2.2.2.2.2.2.2.1 o.2.2.2.2.2.2.2.2.1 o.2.2.2.2.2.2.2.2.2 m_seen m_weekAnswers m_weekHurt m_week m_row m_rowMany m_oneHas m_otherHas)) args s 0 0 A) (F0 m 123 ls []) := by
  have hx := K.1.1
  have hb := K.1.2.1
  unfold f_X4_goesDay_J123 at h
  refine lv_aload_n hx hb dX4_goesDay_123 rfl (lv_at hl 0 rfl) ?_
  refine lv_dup hx hb dX4_goesDay_124 rfl ?_
  refine getX K hw inTX4 0 9 fl_X4_131 dX4_goesDay_125 rfl rfl (by decide) rfl rfl ?_
  refine lv_iconst (v := (1 : Int32)) hx hb dX4_goesDay_128 (by decide) ?_
  refine lv_iadd hx hb dX4_goesDay_129 ?_
  refine putX K hw inTX4 tyX4_ok nmX4 0 9 fl_X4_131 dX4_goesDay_130 rfl rfl (by decide) rfl rfl rfl rfl (Nat.le_of_ble_eq_true rfl) (fun H locs hw => ?_)
  have hw : Wx G A (mC G q m_refused m_known m_setting m_kind m_figure m_tone m_word m_hours m_callers (m_day + (1 : Int32)) m_tape m_letter m_letterAt m_told m_taped m_at m_statements m_kept m_hasImage m_isKeeping m_cursor m_answeredMany m_lastWord m_away m_answered m_unanswered m_saidWords m_isCalledAtSeven m_isAnsweredAtSeven m_seen m_weekAnswers m_weekHurt m_week m_row m_rowMany m_oneHas m_otherHas) s H locs := hw
  have h := Option.some.inj h
  subst h
  exact retV K hw dX4_goesDay_133
set_option maxHeartbeats 4000000 in
set_option maxRecDepth 100000 in
theorem w_X4_goesDay_J91 {l : Launch} {G : GP} {q : Nat → Nat} {p : Program} {e : Env} {s : State} {m : MethodId} {args : Array Value} {below : List Frame} {meth : Method} {c : Code} {A : Nat → Prop} {m_refused : Nat → Int32} {m_known : Nat → Int32} {m_setting : Nat → Int32} {m_kind : Nat → Int32} {m_figure : Nat → Int32} {m_tone : Nat → Int32} {m_word : Nat → Int32} {m_hours : Nat → Int32} {m_callers : Int32} {m_day : Int32} {m_tape : Nat → Int32} {m_letter : Nat → Int32} {m_letterAt : Nat → Int32} {m_told : Nat → Int32} {m_taped : Int32} {m_at : Int32} {m_statements : Int32} {m_kept : Nat → Int32} {m_hasImage : Int32} {m_isKeeping : Int32} {m_cursor : Int32} {m_answeredMany : Nat → Int32} {m_lastWord : Nat → Int32} {m_away : Int32} {m_answered : Int32} {m_unanswered : Int32} {m_saidWords : Int32} {m_isCalledAtSeven : Int32} {m_isAnsweredAtSeven : Int32} {m_seen : Nat → Int32} {m_weekAnswers : Int32} {m_weekHurt : Int32} {m_week : Nat → Int32} {m_row : Nat → Int32} {m_rowMany : Int32} {m_oneHas : Nat → Int32} {m_otherHas : Nat → Int32}  {o : (Nat → Int32) × (Nat → Int32) × Int32 × (Nat → Int32) × (Nat → Int32) × Int32 × Int32 × Int32 × Int32 × Int32} (K : Cx p s m args meth c A G cX4_goesDay 3 RX4 none) {H : Heap} {locs : List Loc} {ls : Array Slot} (hl : lv_has ls 3 [(0, .ref (q 0))]) (hw : Wx G A (mC G q m_refused m_known m_setting m_kind m_figure m_tone m_word m_hours m_callers m_day m_tape m_letter m_letterAt m_told m_taped m_at m_statements m_kept m_hasImage m_isKeeping m_cursor m_answeredMany m_lastWord m_away m_answered m_unanswered m_saidWords m_isCalledAtSeven m_isAnsweredAtSeven m_seen m_weekAnswers m_weekHurt m_week m_row m_rowMany m_oneHas m_otherHas) s H locs) (h : f_X4_goesDay_J91 m_known m_setting m_day m_answeredMany m_lastWord m_answered m_unanswered m_saidWords m_isCalledAtSeven m_isAnsweredAtSeven = some o)  : W p l e ({ frames := 3, cells := 0, slots := 0, locals := 67 } : Room) s m args below meth c H locs 0 0 (MQ below (QV G A (mC G q m_refused o.1 o.2.1 m_kind m_figure m_tone m_word m_hours m_callers o.2.2.1 m_tape m_letter m_letterAt m_told m_taped m_at m_statements m_kept m_hasImage m_isKeeping m_cursor o.2.2.2.1 o.2.2.2.2.1 m_away o.2.2.2.2.2.1 o.2.2.2.2.2.2.1 o.2.2.2.2.2.2.2.1 o.2.2.2.2.2.2.2.2.1 o.2.2.2.2.2.2.2.2.2 m_seen m_weekAnswers m_weekHurt m_week m_row m_rowMany m_oneHas m_otherHas)) args s 0 0 A) (F0 m 91 ls []) := by
  have hx := K.1.1
  have hb := K.1.2.1
  unfold f_X4_goesDay_J91 at h
  refine lv_aload_n hx hb dX4_goesDay_91 rfl (lv_at hl 0 rfl) ?_
  refine lv_bipush (v := (-9 : Int32)) hx hb dX4_goesDay_92 (by decide) ?_
  obtain ⟨z59, hz59, h⟩ := bd h
  refine callVI K (c_X4_bestBut l G q m_refused m_known m_setting m_kind m_figure m_tone m_word m_hours m_callers m_day m_tape m_letter m_letterAt m_told m_taped m_at m_statements m_kept m_hasImage m_isKeeping m_cursor m_answeredMany m_lastWord m_away m_answered m_unanswered m_saidWords m_isCalledAtSeven m_isAnsweredAtSeven m_seen m_weekAnswers m_weekHurt m_week m_row m_rowMany m_oneHas m_otherHas (-9 : Int32) hz59) mt_yX4_bestBut lk_X4_165 ⟨rfl, rfl, Nat.le_of_ble_eq_true rfl, Nat.le_of_ble_eq_true rfl⟩ hw dX4_goesDay_94 hl.1 ⟨Nat.zero_le _, Nat.zero_le _⟩ (wa := ((mC G q m_refused m_known m_setting m_kind m_figure m_tone m_word m_hours m_callers m_day m_tape m_letter m_letterAt m_told m_taped m_at m_statements m_kept m_hasImage m_isKeeping m_cursor m_answeredMany m_lastWord m_away m_answered m_unanswered m_saidWords m_isCalledAtSeven m_isAnsweredAtSeven m_seen m_weekAnswers m_weekHurt m_week m_row m_rowMany m_oneHas m_otherHas).take 0)) (wb := ((mC G q m_refused m_known m_setting m_kind m_figure m_tone m_word m_hours m_callers m_day m_tape m_letter m_letterAt m_told m_taped m_at m_statements m_kept m_hasImage m_isKeeping m_cursor m_answeredMany m_lastWord m_away m_answered m_unanswered m_saidWords m_isCalledAtSeven m_isAnsweredAtSeven m_seen m_weekAnswers m_weekHurt m_week m_row m_rowMany m_oneHas m_otherHas).drop 21)) rfl rfl rfl (rest := []) rfl rfl (Nat.le_of_ble_eq_true rfl) (fun H locs hw => ?_)
  have hw : Wx G A (mC G q m_refused m_known m_setting m_kind m_figure m_tone m_word m_hours m_callers m_day m_tape m_letter m_letterAt m_told m_taped m_at m_statements m_kept m_hasImage m_isKeeping m_cursor m_answeredMany m_lastWord m_away m_answered m_unanswered m_saidWords m_isCalledAtSeven m_isAnsweredAtSeven m_seen m_weekAnswers m_weekHurt m_week m_row m_rowMany m_oneHas m_otherHas) s H locs := hw
  refine lv_istore_n (lv' := [(1, .int z59), (0, .ref (q 0))]) hx hb dX4_goesDay_97 rfl hl (by decide) rfl (fun ls hl => ?_)
  refine lv_aload_n hx hb dX4_goesDay_98 rfl (lv_at hl 1 rfl) ?_
  refine getX K hw inTX4 0 2 fl_X4_16 dX4_goesDay_99 rfl rfl (by decide) rfl rfl ?_
  refine lv_iconst (v := (1 : Int32)) hx hb dX4_goesDay_102 (by decide) ?_
  refine ialX K hw 3 (inB_in (by decide)) dX4_goesDay_103 rfl ?_
  refine lv_bipush (v := (10 : Int32)) hx hb dX4_goesDay_104 (by decide) ?_
  refine lv_icmp_lt (tgt := 123) hx hb dX4_goesDay_106 (by decide) (fun hc60 => ?_) (fun hc60 => ?_)
  · have h := ifp hc60 h
    exact w_X4_goesDay_J123 K (lv_sub hl [1] rfl) hw h
  · have h := ifn hc60 h
    refine lv_iload_n hx hb dX4_goesDay_109 rfl (lv_at hl 0 rfl) ?_
    refine lv_if_lt (tgt := 123) hx hb dX4_goesDay_110 (by decide) (fun hc61 => ?_) (fun hc61 => ?_)
    · have h := ifp hc61 h
      exact w_X4_goesDay_J123 K (lv_sub hl [1] rfl) hw h
    · have h := ifn hc61 h
      refine lv_aload_n hx hb dX4_goesDay_113 rfl (lv_at hl 1 rfl) ?_
      refine getX K hw inTX4 0 1 fl_X4_13 dX4_goesDay_114 rfl rfl (by decide) rfl rfl ?_
      refine lv_iload_n hx hb dX4_goesDay_117 rfl (lv_at hl 0 rfl) ?_
      refine lv_dup2_11 hx hb dX4_goesDay_118 rfl rfl ?_
      obtain ⟨hg62, h⟩ := gd h
      refine ialX K hw 2 (inB_in hg62) dX4_goesDay_119 rfl ?_
      refine lv_iconst (v := (1 : Int32)) hx hb dX4_goesDay_120 (by decide) ?_
      refine lv_isub hx hb dX4_goesDay_121 ?_
      obtain ⟨hg63, h⟩ := gd h
      refine iasX K hw 2 (inB_in hg63) dX4_goesDay_122 rfl (fun H locs hw => ?_)
      have hw : Wx G A (mC G q m_refused (upd m_known z59.toNatClampNeg ((m_known z59.toNatClampNeg) - (1 : Int32))) m_setting m_kind m_figure m_tone m_word m_hours m_callers m_day m_tape m_letter m_letterAt m_told m_taped m_at m_statements m_kept m_hasImage m_isKeeping m_cursor m_answeredMany m_lastWord m_away m_answered m_unanswered m_saidWords m_isCalledAtSeven m_isAnsweredAtSeven m_seen m_weekAnswers m_weekHurt m_week m_row m_rowMany m_oneHas m_otherHas) s H locs := hw
      exact w_X4_goesDay_J123 K (lv_sub hl [1] rfl) hw h
set_option maxHeartbeats 4000000 in
set_option maxRecDepth 100000 in
theorem w_X4_goesDay_J79 {l : Launch} {G : GP} {q : Nat → Nat} {p : Program} {e : Env} {s : State} {m : MethodId} {args : Array Value} {below : List Frame} {meth : Method} {c : Code} {A : Nat → Prop} {m_refused : Nat → Int32} {m_known : Nat → Int32} {m_setting : Nat → Int32} {m_kind : Nat → Int32} {m_figure : Nat → Int32} {m_tone : Nat → Int32} {m_word : Nat → Int32} {m_hours : Nat → Int32} {m_callers : Int32} {m_day : Int32} {m_tape : Nat → Int32} {m_letter : Nat → Int32} {m_letterAt : Nat → Int32} {m_told : Nat → Int32} {m_taped : Int32} {m_at : Int32} {m_statements : Int32} {m_kept : Nat → Int32} {m_hasImage : Int32} {m_isKeeping : Int32} {m_cursor : Int32} {m_answeredMany : Nat → Int32} {m_lastWord : Nat → Int32} {m_away : Int32} {m_answered : Int32} {m_unanswered : Int32} {m_saidWords : Int32} {m_isCalledAtSeven : Int32} {m_isAnsweredAtSeven : Int32} {m_seen : Nat → Int32} {m_weekAnswers : Int32} {m_weekHurt : Int32} {m_week : Nat → Int32} {m_row : Nat → Int32} {m_rowMany : Int32} {m_oneHas : Nat → Int32} {m_otherHas : Nat → Int32}  {o : (Nat → Int32) × (Nat → Int32) × Int32 × (Nat → Int32) × (Nat → Int32) × Int32 × Int32 × Int32 × Int32 × Int32} (K : Cx p s m args meth c A G cX4_goesDay 3 RX4 none) {H : Heap} {locs : List Loc} {ls : Array Slot} (hl : lv_has ls 3 [(0, .ref (q 0))]) (hw : Wx G A (mC G q m_refused m_known m_setting m_kind m_figure m_tone m_word m_hours m_callers m_day m_tape m_letter m_letterAt m_told m_taped m_at m_statements m_kept m_hasImage m_isKeeping m_cursor m_answeredMany m_lastWord m_away m_answered m_unanswered m_saidWords m_isCalledAtSeven m_isAnsweredAtSeven m_seen m_weekAnswers m_weekHurt m_week m_row m_rowMany m_oneHas m_otherHas) s H locs) (h : f_X4_goesDay_J79 m_known m_setting m_day m_answeredMany m_lastWord m_answered m_unanswered m_saidWords m_isCalledAtSeven m_isAnsweredAtSeven = some o)  : W p l e ({ frames := 3, cells := 0, slots := 0, locals := 67 } : Room) s m args below meth c H locs 0 0 (MQ below (QV G A (mC G q m_refused o.1 o.2.1 m_kind m_figure m_tone m_word m_hours m_callers o.2.2.1 m_tape m_letter m_letterAt m_told m_taped m_at m_statements m_kept m_hasImage m_isKeeping m_cursor o.2.2.2.1 o.2.2.2.2.1 m_away o.2.2.2.2.2.1 o.2.2.2.2.2.2.1 o.2.2.2.2.2.2.2.1 o.2.2.2.2.2.2.2.2.1 o.2.2.2.2.2.2.2.2.2 m_seen m_weekAnswers m_weekHurt m_week m_row m_rowMany m_oneHas m_otherHas)) args s 0 0 A) (F0 m 79 ls []) := by
  have hx := K.1.1
  have hb := K.1.2.1
  unfold f_X4_goesDay_J79 at h
  refine lv_aload_n hx hb dX4_goesDay_79 rfl (lv_at hl 0 rfl) ?_
  refine getX K hw inTX4 0 28 fl_X4_196 dX4_goesDay_80 rfl rfl (by decide) rfl rfl ?_
  refine lv_if_eq (tgt := 91) hx hb dX4_goesDay_83 (by decide) (fun hc58 => ?_) (fun hc58 => ?_)
  · have h := ifp hc58 h
    exact w_X4_goesDay_J91 K (lv_sub hl [0] rfl) hw h
  · have h := ifn hc58 h
    refine lv_aload_n hx hb dX4_goesDay_86 rfl (lv_at hl 0 rfl) ?_
    refine lv_iconst (v := (-1 : Int32)) hx hb dX4_goesDay_87 (by decide) ?_
    refine callVV K (c_X4_hurt l G q m_refused m_known m_setting m_kind m_figure m_tone m_word m_hours m_callers m_day m_tape m_letter m_letterAt m_told m_taped m_at m_statements m_kept m_hasImage m_isKeeping m_cursor m_answeredMany m_lastWord m_away m_answered m_unanswered m_saidWords m_isCalledAtSeven m_isAnsweredAtSeven m_seen m_weekAnswers m_weekHurt m_week m_row m_rowMany m_oneHas m_otherHas (-1 : Int32) rfl) mt_yX4_hurt lk_X4_192 ⟨rfl, rfl, Nat.le_of_ble_eq_true rfl, Nat.le_of_ble_eq_true rfl⟩ hw dX4_goesDay_88 hl.1 ⟨Nat.zero_le _, Nat.zero_le _⟩ (wa := ((mC G q m_refused m_known m_setting m_kind m_figure m_tone m_word m_hours m_callers m_day m_tape m_letter m_letterAt m_told m_taped m_at m_statements m_kept m_hasImage m_isKeeping m_cursor m_answeredMany m_lastWord m_away m_answered m_unanswered m_saidWords m_isCalledAtSeven m_isAnsweredAtSeven m_seen m_weekAnswers m_weekHurt m_week m_row m_rowMany m_oneHas m_otherHas).take 0)) (wb := ((mC G q m_refused m_known m_setting m_kind m_figure m_tone m_word m_hours m_callers m_day m_tape m_letter m_letterAt m_told m_taped m_at m_statements m_kept m_hasImage m_isKeeping m_cursor m_answeredMany m_lastWord m_away m_answered m_unanswered m_saidWords m_isCalledAtSeven m_isAnsweredAtSeven m_seen m_weekAnswers m_weekHurt m_week m_row m_rowMany m_oneHas m_otherHas).drop 21)) rfl rfl rfl (rest := []) rfl rfl (Nat.le_of_ble_eq_true rfl) (fun H locs hw => ?_)
    have hw : Wx G A (mC G q m_refused m_known (f_X4_hurt m_setting (-1 : Int32)) m_kind m_figure m_tone m_word m_hours m_callers m_day m_tape m_letter m_letterAt m_told m_taped m_at m_statements m_kept m_hasImage m_isKeeping m_cursor m_answeredMany m_lastWord m_away m_answered m_unanswered m_saidWords m_isCalledAtSeven m_isAnsweredAtSeven m_seen m_weekAnswers m_weekHurt m_week m_row m_rowMany m_oneHas m_otherHas) s H locs := hw
    exact w_X4_goesDay_J91 K (lv_sub hl [0] rfl) hw h
set_option maxHeartbeats 4000000 in
set_option maxRecDepth 100000 in
theorem c_X4_goesDay (l : Launch) (G : GP) (q : Nat → Nat) (m_refused : Nat → Int32) (m_known : Nat → Int32) (m_setting : Nat → Int32) (m_kind : Nat → Int32) (m_figure : Nat → Int32) (m_tone : Nat → Int32) (m_word : Nat → Int32) (m_hours : Nat → Int32) (m_callers : Int32) (m_day : Int32) (m_tape : Nat → Int32) (m_letter : Nat → Int32) (m_letterAt : Nat → Int32) (m_told : Nat → Int32) (m_taped : Int32) (m_at : Int32) (m_statements : Int32) (m_kept : Nat → Int32) (m_hasImage : Int32) (m_isKeeping : Int32) (m_cursor : Int32) (m_answeredMany : Nat → Int32) (m_lastWord : Nat → Int32) (m_away : Int32) (m_answered : Int32) (m_unanswered : Int32) (m_saidWords : Int32) (m_isCalledAtSeven : Int32) (m_isAnsweredAtSeven : Int32) (m_seen : Nat → Int32) (m_weekAnswers : Int32) (m_weekHurt : Int32) (m_week : Nat → Int32) (m_row : Nat → Int32) (m_rowMany : Int32) (m_oneHas : Nat → Int32) (m_otherHas : Nat → Int32) {o : (Nat → Int32) × (Nat → Int32) × Int32 × (Nat → Int32) × (Nat → Int32) × Int32 × Int32 × Int32 × Int32 × Int32} (h : f_X4_goesDay m_known m_setting m_kind m_figure m_tone m_word m_hours m_callers m_day m_answeredMany m_lastWord m_away m_answered m_unanswered m_saidWords = some o) : CtV l yX4_goesDay cX4_goesDay 3 ({ frames := 3, cells := 0, slots := 0, locals := 67 } : Room) G (mC G q m_refused m_known m_setting m_kind m_figure m_tone m_word m_hours m_callers m_day m_tape m_letter m_letterAt m_told m_taped m_at m_statements m_kept m_hasImage m_isKeeping m_cursor m_answeredMany m_lastWord m_away m_answered m_unanswered m_saidWords m_isCalledAtSeven m_isAnsweredAtSeven m_seen m_weekAnswers m_weekHurt m_week m_row m_rowMany m_oneHas m_otherHas) [.ref (q 0)] (mC G q m_refused o.1 o.2.1 m_kind m_figure m_tone m_word m_hours m_callers o.2.2.1 m_tape m_letter m_letterAt m_told m_taped m_at m_statements m_kept m_hasImage m_isKeeping m_cursor o.2.2.2.1 o.2.2.2.2.1 m_away o.2.2.2.2.2.1 o.2.2.2.2.2.2.1 o.2.2.2.2.2.2.2.1 o.2.2.2.2.2.2.2.2.1 o.2.2.2.2.2.2.2.2.2 m_seen m_weekAnswers m_weekHurt m_week m_row m_rowMany m_oneHas m_otherHas) := by
  refine CtV.of (by decide) (Nat.le_of_ble_eq_true rfl) ?_
  intro p e s m below meth c A ls K hl hw
  have hl : lv_has ls 3 [(0, .ref (q 0))] := hl
  generalize ([.ref (q 0)] : List Value).toArray = args at K ⊢
  have hx := K.1.1
  have hb := K.1.2.1
  unfold f_X4_goesDay at h
  refine lv_aload_n hx hb dX4_goesDay_0 rfl (lv_at hl 0 rfl) ?_
  refine lv_iconst (v := (0 : Int32)) hx hb dX4_goesDay_1 (by decide) ?_
  refine putX K hw inTX4 tyX4_ok nmX4 0 27 fl_X4_183 dX4_goesDay_2 rfl rfl (by decide) rfl rfl rfl rfl (Nat.le_of_ble_eq_true rfl) (fun H locs hw => ?_)
  have hw : Wx G A (mC G q m_refused m_known m_setting m_kind m_figure m_tone m_word m_hours m_callers m_day m_tape m_letter m_letterAt m_told m_taped m_at m_statements m_kept m_hasImage m_isKeeping m_cursor m_answeredMany m_lastWord m_away m_answered m_unanswered m_saidWords (0 : Int32) m_isAnsweredAtSeven m_seen m_weekAnswers m_weekHurt m_week m_row m_rowMany m_oneHas m_otherHas) s H locs := hw
  refine lv_aload_n hx hb dX4_goesDay_5 rfl (lv_at hl 0 rfl) ?_
  refine lv_iconst (v := (0 : Int32)) hx hb dX4_goesDay_6 (by decide) ?_
  refine putX K hw inTX4 tyX4_ok nmX4 0 28 fl_X4_196 dX4_goesDay_7 rfl rfl (by decide) rfl rfl rfl rfl (Nat.le_of_ble_eq_true rfl) (fun H locs hw => ?_)
  have hw : Wx G A (mC G q m_refused m_known m_setting m_kind m_figure m_tone m_word m_hours m_callers m_day m_tape m_letter m_letterAt m_told m_taped m_at m_statements m_kept m_hasImage m_isKeeping m_cursor m_answeredMany m_lastWord m_away m_answered m_unanswered m_saidWords (0 : Int32) (0 : Int32) m_seen m_weekAnswers m_weekHurt m_week m_row m_rowMany m_oneHas m_otherHas) s H locs := hw
  refine lv_iconst (v := (0 : Int32)) hx hb dX4_goesDay_10 (by decide) ?_
  refine lv_istore_n (lv' := [(1, .int (0 : Int32)), (0, .ref (q 0))]) hx hb dX4_goesDay_11 rfl hl (by decide) rfl (fun ls hl => ?_)
  obtain ⟨z56, hz56, h⟩ := bd h
  refine w_X4_goesDay_L12 K 1000 (0 : Int32) m_known m_setting m_answeredMany m_lastWord m_answered m_unanswered m_saidWords (0 : Int32) (0 : Int32) _ _ _ (lv_sub hl [1, 0] rfl) hw _ hz56 (fun H locs ls hl hw => ?_)
  refine lv_aload_n hx hb dX4_goesDay_67 rfl (lv_at hl 0 rfl) ?_
  refine getX K hw inTX4 0 27 fl_X4_183 dX4_goesDay_68 rfl rfl (by decide) rfl rfl ?_
  refine lv_if_ne (tgt := 79) hx hb dX4_goesDay_71 (by decide) (fun hc57 => ?_) (fun hc57 => ?_)
  · have h := ifn hc57 h
    exact w_X4_goesDay_J79 K (lv_sub hl [0] rfl) hw h
  · have h := ifp hc57 h
    refine lv_aload_n hx hb dX4_goesDay_74 rfl (lv_at hl 0 rfl) ?_
    refine lv_iconst (v := (1 : Int32)) hx hb dX4_goesDay_75 (by decide) ?_
    refine callVV K (c_X4_hurt l G q m_refused z56.1 z56.2.1 m_kind m_figure m_tone m_word m_hours m_callers m_day m_tape m_letter m_letterAt m_told m_taped m_at m_statements m_kept m_hasImage m_isKeeping m_cursor z56.2.2.1 z56.2.2.2.1 m_away z56.2.2.2.2.1 z56.2.2.2.2.2.1 z56.2.2.2.2.2.2.1 z56.2.2.2.2.2.2.2.1 z56.2.2.2.2.2.2.2.2 m_seen m_weekAnswers m_weekHurt m_week m_row m_rowMany m_oneHas m_otherHas (1 : Int32) rfl) mt_yX4_hurt lk_X4_192 ⟨rfl, rfl, Nat.le_of_ble_eq_true rfl, Nat.le_of_ble_eq_true rfl⟩ hw dX4_goesDay_76 hl.1 ⟨Nat.zero_le _, Nat.zero_le _⟩ (wa := ((mC G q m_refused z56.1 z56.2.1 m_kind m_figure m_tone m_word m_hours m_callers m_day m_tape m_letter m_letterAt m_told m_taped m_at m_statements m_kept m_hasImage m_isKeeping m_cursor z56.2.2.1 z56.2.2.2.1 m_away z56.2.2.2.2.1 z56.2.2.2.2.2.1 z56.2.2.2.2.2.2.1 z56.2.2.2.2.2.2.2.1 z56.2.2.2.2.2.2.2.2 m_seen m_weekAnswers m_weekHurt m_week m_row m_rowMany m_oneHas m_otherHas).take 0)) (wb := ((mC G q m_refused z56.1 z56.2.1 m_kind m_figure m_tone m_word m_hours m_callers m_day m_tape m_letter m_letterAt m_told m_taped m_at m_statements m_kept m_hasImage m_isKeeping m_cursor z56.2.2.1 z56.2.2.2.1 m_away z56.2.2.2.2.1 z56.2.2.2.2.2.1 z56.2.2.2.2.2.2.1 z56.2.2.2.2.2.2.2.1 z56.2.2.2.2.2.2.2.2 m_seen m_weekAnswers m_weekHurt m_week m_row m_rowMany m_oneHas m_otherHas).drop 21)) rfl rfl rfl (rest := []) rfl rfl (Nat.le_of_ble_eq_true rfl) (fun H locs hw => ?_)
    have hw : Wx G A (mC G q m_refused z56.1 (f_X4_hurt z56.2.1 (1 : Int32)) m_kind m_figure m_tone m_word m_hours m_callers m_day m_tape m_letter m_letterAt m_told m_taped m_at m_statements m_kept m_hasImage m_isKeeping m_cursor z56.2.2.1 z56.2.2.2.1 m_away z56.2.2.2.2.1 z56.2.2.2.2.2.1 z56.2.2.2.2.2.2.1 z56.2.2.2.2.2.2.2.1 z56.2.2.2.2.2.2.2.2 m_seen m_weekAnswers m_weekHurt m_week m_row m_rowMany m_oneHas m_otherHas) s H locs := hw
    exact w_X4_goesDay_J79 K (lv_sub hl [0] rfl) hw h
