set_option maxHeartbeats 4000000 in
set_option maxRecDepth 100000 in
theorem b_fill_L5 {l : Launch} {G : GP} {a : Nat} {nn : Nat} {p : Program} {e : Env} {s : State} {m : MethodId} {args : Array Value} {below : List Frame} {meth : Method} {c : Code} {A : Nat → Prop} {a_f : Nat → Int32} {v1 : Int32} {v2 : Int32} {v3 : Int32} {o : (Nat → Int32)} (K : Cx p s m args meth c A G cJ7_fill_53178 4 RJ7 none) {H : Heap} {locs : List Loc} {ls : Array Slot} (hl : lv_has ls 4 [(0, .ref a), (1, .int v1), (2, .int v2), (3, .int v3)]) (hw : Wx G A (aC G a nn a_f) s H locs) {y : (Int32 × (Nat → Int32)) ⊕ ((Nat → Int32))} (h : f_fill_L5 v1 v3 nn v2 a_f = some y) (hk5 : ∀ (b : Int32 × (Nat → Int32)) (H : Heap) (locs : List Loc) (ls : Array Slot), y = .inl b → lv_has ls 4 [(0, .ref a), (1, .int v1), (2, .int b.1), (3, .int v3)] → Wx G A (aC G a nn b.2) s H locs → W p l e ({ frames := 0, cells := 0, slots := 0, locals := 0 } : Room) s m args below meth c H locs 0 0 (MQ below (QV G A (aC G a nn o)) args s 0 0 A) (F0 m 5 ls [])) (hx5 : ∀ (b : (Nat → Int32)) (H : Heap) (locs : List Loc) (ls : Array Slot), y = .inr b → lv_has ls 4 [] → Wx G A (aC G a nn b) s H locs → W p l e ({ frames := 0, cells := 0, slots := 0, locals := 0 } : Room) s m args below meth c H locs 0 0 (MQ below (QV G A (aC G a nn o)) args s 0 0 A) (F0 m 20 ls [])) : W p l e ({ frames := 0, cells := 0, slots := 0, locals := 0 } : Room) s m args below meth c H locs 0 0 (MQ below (QV G A (aC G a nn o)) args s 0 0 A) (F0 m 5 ls []) := by
  have hx := K.1.1
  have hb := K.1.2.1
  unfold f_fill_L5 at h
  refine lv_iload_n hx hb dJ7_fill_53178_5 rfl (lv_at hl 2 rfl) ?_
  refine lv_iload_n hx hb dJ7_fill_53178_6 rfl (lv_at hl 3 rfl) ?_
  refine lv_icmp_ge (tgt := 20) hx hb dJ7_fill_53178_7 (by decide) (fun hc5 => ?_) (fun hc5 => ?_)
  · have h := ifp hc5 h
    exact hx5 a_f _ _ _ (Option.some.inj h).symm (lv_sub hl [] rfl) hw
  · have h := ifn hc5 h
    refine lv_aload_n hx hb dJ7_fill_53178_10 rfl (lv_at hl 0 rfl) ?_
    refine lv_iload_n hx hb dJ7_fill_53178_11 rfl (lv_at hl 2 rfl) ?_
    refine lv_iload_n hx hb dJ7_fill_53178_12 rfl (lv_at hl 1 rfl) ?_
    obtain ⟨hg6, h⟩ := gd h
    refine iasX K hw 0 (inB_in hg6) dJ7_fill_53178_13 rfl (fun H locs hw => ?_)
    have hw : Wx G A (aC G a nn (upd a_f v2.toNatClampNeg v1)) s H locs := hw
    refine lv_iinc (v := (v2 + (1 : Int32))) (lv' := [(2, .int (v2 + (1 : Int32))), (0, .ref a), (1, .int v1), (3, .int v3)]) hx hb dJ7_fill_53178_14 hl (k := 2) rfl rfl (by decide) rfl (fun ls hl => ?_)
    refine lv_goto (tgt := 5) hx hb dJ7_fill_53178_17 (by decide) ?_
    exact hk5 ((v2 + (1 : Int32)), (upd a_f v2.toNatClampNeg v1)) _ _ _ (Option.some.inj h).symm (lv_sub hl [1, 2, 0, 3] rfl) hw
set_option maxHeartbeats 4000000 in
set_option maxRecDepth 100000 in
theorem w_fill_L5 {l : Launch} {G : GP} {a : Nat} {nn : Nat} {p : Program} {e : Env} {s : State} {m : MethodId} {args : Array Value} {below : List Frame} {meth : Method} {c : Code} {A : Nat → Prop} {v1 : Int32} {v3 : Int32} {o : (Nat → Int32)} (K : Cx p s m args meth c A G cJ7_fill_53178 4 RJ7 none) : ∀ (fu : Nat) (v2 : Int32) (a_f : Nat → Int32) (H : Heap) (locs : List Loc) (ls : Array Slot), lv_has ls 4 [(0, .ref a), (1, .int v1), (2, .int v2), (3, .int v3)] → Wx G A (aC G a nn a_f) s H locs → ∀ (x : (Nat → Int32)), lp (fun z : Int32 × (Nat → Int32) => f_fill_L5 v1 v3 nn (z.1) (z.2)) fu (v2, a_f) = some x → (∀ (H : Heap) (locs : List Loc) (ls : Array Slot), lv_has ls 4 [] → Wx G A (aC G a nn x) s H locs → W p l e ({ frames := 0, cells := 0, slots := 0, locals := 0 } : Room) s m args below meth c H locs 0 0 (MQ below (QV G A (aC G a nn o)) args s 0 0 A) (F0 m 20 ls [])) → W p l e ({ frames := 0, cells := 0, slots := 0, locals := 0 } : Room) s m args below meth c H locs 0 0 (MQ below (QV G A (aC G a nn o)) args s 0 0 A) (F0 m 5 ls []) := by
  intro fu
  induction fu with
  | zero => intro v2 a_f H locs ls hl hw x h; exact absurd (show none = some x from h) (by simp)
  | succ fu ih =>
    intro v2 a_f H locs ls hl hw x h hx5
    obtain ⟨y, hy, hc⟩ := lp_s h
    exact b_fill_L5 K hl hw hy (fun b H locs ls hE hl hw => ih b.1 b.2 H locs ls hl hw _ (lp_b hc hE) hx5) (fun b H locs ls hE hl hw => by
      have e9 := lp_x hc hE
      subst e9
      exact hx5 H locs ls hl hw)
set_option maxHeartbeats 4000000 in
set_option maxRecDepth 100000 in
theorem c_fill (l : Launch) (G : GP) (a : Nat) (nn : Nat) (a_f : Nat → Int32) (v1 : Int32) {o : (Nat → Int32)} (h : f_fill a_f v1 nn = some o) : CtV l yJ7_fill_53178 cJ7_fill_53178 4 ({ frames := 0, cells := 0, slots := 0, locals := 0 } : Room) G (aC G a nn a_f) [.ref a, .int v1] (aC G a nn o) := by
  refine CtV.of (by decide) (Nat.le_of_ble_eq_true rfl) ?_
  intro p e s m below meth c A ls K hl hw
  have hl : lv_has ls 4 [(0, .ref a), (1, .int v1)] := hl
  generalize ([.ref a, .int v1] : List Value).toArray = args at K ⊢
  have hx := K.1.1
  have hb := K.1.2.1
  unfold f_fill at h
  refine lv_iconst (v := (0 : Int32)) hx hb dJ7_fill_53178_0 (by decide) ?_
  refine lv_istore_n (lv' := [(2, .int (0 : Int32)), (0, .ref a), (1, .int v1)]) hx hb dJ7_fill_53178_1 rfl hl (by decide) rfl (fun ls hl => ?_)
  refine lv_aload_n hx hb dJ7_fill_53178_2 rfl (lv_at hl 1 rfl) ?_
  refine lenX K hw 0 (Int32.ofNat nn) rfl dJ7_fill_53178_3 rfl ?_
  refine lv_istore_n (lv' := [(3, .int (Int32.ofNat nn)), (2, .int (0 : Int32)), (0, .ref a), (1, .int v1)]) hx hb dJ7_fill_53178_4 rfl hl (by decide) rfl (fun ls hl => ?_)
  obtain ⟨z7, hz7, h⟩ := bd h
  refine w_fill_L5 K 1000 (0 : Int32) a_f _ _ _ (lv_sub hl [2, 3, 1, 0] rfl) hw _ hz7 (fun H locs ls hl hw => ?_)
  have h := Option.some.inj h
  subst h
  exact retV K hw dJ7_fill_53178_20
set_option maxHeartbeats 4000000 in
set_option maxRecDepth 100000 in
theorem c_X1_forget (l : Launch) (G : GP) (q : Nat → Nat) (k : Nat) (g_answered : Int32) (g_unanswered : Int32) (g_said : Int32) (g_times : Nat → Int32) (g_last : Nat → Int32) {o : Int32 × Int32 × Int32 × (Nat → Int32) × (Nat → Int32)} (h : f_X1_forget g_times g_last = some o) : CtV l yX1_forget cX1_forget 1 ({ frames := 1, cells := 0, slots := 0, locals := 23 } : Room) G (hC G q k g_answered g_unanswered g_said g_times g_last) [.ref (q k)] (hC G q k o.1 o.2.1 o.2.2.1 o.2.2.2.1 o.2.2.2.2) := by
  refine CtV.of (by decide) (Nat.le_of_ble_eq_true rfl) ?_
  intro p e s m below meth c A ls K hl hw
  have hl : lv_has ls 1 [(0, .ref (q k))] := hl
  generalize ([.ref (q k)] : List Value).toArray = args at K ⊢
  have hx := K.1.1
  have hb := K.1.2.1
  unfold f_X1_forget at h
  refine lv_aload_n hx hb dX1_forget_0 rfl (lv_at hl 0 rfl) ?_
  refine lv_iconst (v := (0 : Int32)) hx hb dX1_forget_1 (by decide) ?_
  refine putX K hw inTX1 tyX1_ok nmX1 0 0 fl_X1_9 dX1_forget_2 rfl rfl (by decide) rfl rfl rfl rfl (Nat.le_of_ble_eq_true rfl) (fun H locs hw => ?_)
  have hw : Wx G A (hC G q k (0 : Int32) g_unanswered g_said g_times g_last) s H locs := hw
  refine lv_aload_n hx hb dX1_forget_5 rfl (lv_at hl 0 rfl) ?_
  refine lv_iconst (v := (0 : Int32)) hx hb dX1_forget_6 (by decide) ?_
  refine putX K hw inTX1 tyX1_ok nmX1 0 1 fl_X1_15 dX1_forget_7 rfl rfl (by decide) rfl rfl rfl rfl (Nat.le_of_ble_eq_true rfl) (fun H locs hw => ?_)
  have hw : Wx G A (hC G q k (0 : Int32) (0 : Int32) g_said g_times g_last) s H locs := hw
  refine lv_aload_n hx hb dX1_forget_10 rfl (lv_at hl 0 rfl) ?_
  refine lv_iconst (v := (0 : Int32)) hx hb dX1_forget_11 (by decide) ?_
  refine putX K hw inTX1 tyX1_ok nmX1 0 2 fl_X1_18 dX1_forget_12 rfl rfl (by decide) rfl rfl rfl rfl (Nat.le_of_ble_eq_true rfl) (fun H locs hw => ?_)
  have hw : Wx G A (hC G q k (0 : Int32) (0 : Int32) (0 : Int32) g_times g_last) s H locs := hw
  refine lv_aload_n hx hb dX1_forget_15 rfl (lv_at hl 0 rfl) ?_
  refine getX K hw inTX1 0 3 fl_X1_21 dX1_forget_16 rfl rfl (by decide) rfl rfl ?_
  refine lv_iconst (v := (0 : Int32)) hx hb dX1_forget_19 (by decide) ?_
  obtain ⟨z3, hz3, h⟩ := bd h
  refine callSV K (c_fill l G (q (k + 1)) 7 g_times (0 : Int32) hz3) mt_yJ7_fill_53178 lk_X1_28 ⟨rfl, rfl, Nat.le_of_ble_eq_true rfl, Nat.le_of_ble_eq_true rfl⟩ hw dX1_forget_20 hl.1 ⟨Nat.zero_le _, Nat.zero_le _⟩ (wa := ((hC G q k (0 : Int32) (0 : Int32) (0 : Int32) g_times g_last).take 1)) (wb := ((hC G q k (0 : Int32) (0 : Int32) (0 : Int32) g_times g_last).drop 2)) rfl (rest := []) rfl rfl (Nat.le_of_ble_eq_true rfl) (fun H locs hw => ?_)
  have hw : Wx G A (hC G q k (0 : Int32) (0 : Int32) (0 : Int32) z3 g_last) s H locs := hw
  refine lv_aload_n hx hb dX1_forget_23 rfl (lv_at hl 0 rfl) ?_
  refine getX K hw inTX1 0 4 fl_X1_25 dX1_forget_24 rfl rfl (by decide) rfl rfl ?_
  refine lv_bipush (v := (-9 : Int32)) hx hb dX1_forget_27 (by decide) ?_
  obtain ⟨z4, hz4, h⟩ := bd h
  refine callSV K (c_fill l G (q (k + 2)) 7 g_last (-9 : Int32) hz4) mt_yJ7_fill_53178 lk_X1_28 ⟨rfl, rfl, Nat.le_of_ble_eq_true rfl, Nat.le_of_ble_eq_true rfl⟩ hw dX1_forget_29 hl.1 ⟨Nat.zero_le _, Nat.zero_le _⟩ (wa := ((hC G q k (0 : Int32) (0 : Int32) (0 : Int32) z3 g_last).take 2)) (wb := ((hC G q k (0 : Int32) (0 : Int32) (0 : Int32) z3 g_last).drop 3)) rfl (rest := []) rfl rfl (Nat.le_of_ble_eq_true rfl) (fun H locs hw => ?_)
  have hw : Wx G A (hC G q k (0 : Int32) (0 : Int32) (0 : Int32) z3 z4) s H locs := hw
  have h := Option.some.inj h
  subst h
  exact retV K hw dX1_forget_32
set_option maxHeartbeats 4000000 in
set_option maxRecDepth 100000 in
theorem c_X1_noteAnswer (l : Launch) (G : GP) (q : Nat → Nat) (k : Nat) (g_answered : Int32) (g_unanswered : Int32) (g_said : Int32) (g_times : Nat → Int32) (g_last : Nat → Int32) (v1 : Int32) (v2 : Int32) {o : Int32 × Int32 × (Nat → Int32) × (Nat → Int32)} (h : f_X1_noteAnswer g_answered g_said g_times g_last v1 v2 = o) : CtV l yX1_noteAnswer cX1_noteAnswer 3 ({ frames := 1, cells := 0, slots := 0, locals := 22 } : Room) G (hC G q k g_answered g_unanswered g_said g_times g_last) [.ref (q k), .int v1, .int v2] (hC G q k o.1 g_unanswered o.2.1 o.2.2.1 o.2.2.2) := by
  refine CtV.of (by decide) (Nat.le_of_ble_eq_true rfl) ?_
  intro p e s m below meth c A ls K hl hw
  have hl : lv_has ls 3 [(0, .ref (q k)), (1, .int v1), (2, .int v2)] := hl
  generalize ([.ref (q k), .int v1, .int v2] : List Value).toArray = args at K ⊢
  have hx := K.1.1
  have hb := K.1.2.1
  unfold f_X1_noteAnswer at h
  refine lv_aload_n hx hb dX1_noteAnswer_0 rfl (lv_at hl 0 rfl) ?_
  refine lv_dup hx hb dX1_noteAnswer_1 rfl ?_
  refine getX K hw inTX1 0 0 fl_X1_9 dX1_noteAnswer_2 rfl rfl (by decide) rfl rfl ?_
  refine lv_iconst (v := (1 : Int32)) hx hb dX1_noteAnswer_5 (by decide) ?_
  refine lv_iadd hx hb dX1_noteAnswer_6 ?_
  refine putX K hw inTX1 tyX1_ok nmX1 0 0 fl_X1_9 dX1_noteAnswer_7 rfl rfl (by decide) rfl rfl rfl rfl (Nat.le_of_ble_eq_true rfl) (fun H locs hw => ?_)
  have hw : Wx G A (hC G q k (g_answered + (1 : Int32)) g_unanswered g_said g_times g_last) s H locs := hw
  refine lv_aload_n hx hb dX1_noteAnswer_10 rfl (lv_at hl 0 rfl) ?_
  refine lv_dup hx hb dX1_noteAnswer_11 rfl ?_
  refine getX K hw inTX1 0 2 fl_X1_18 dX1_noteAnswer_12 rfl rfl (by decide) rfl rfl ?_
  refine lv_iconst (v := (1 : Int32)) hx hb dX1_noteAnswer_15 (by decide) ?_
  refine lv_iload_n hx hb dX1_noteAnswer_16 rfl (lv_at hl 2 rfl) ?_
  refine lv_ishl hx hb dX1_noteAnswer_17 ?_
  refine lv_ior hx hb dX1_noteAnswer_18 ?_
  refine putX K hw inTX1 tyX1_ok nmX1 0 2 fl_X1_18 dX1_noteAnswer_19 rfl rfl (by decide) rfl rfl rfl rfl (Nat.le_of_ble_eq_true rfl) (fun H locs hw => ?_)
  have hw : Wx G A (hC G q k (g_answered + (1 : Int32)) g_unanswered (g_said ||| ((1 : Int32) <<< (v2 &&& 31))) g_times g_last) s H locs := hw
  refine lv_aload_n hx hb dX1_noteAnswer_22 rfl (lv_at hl 0 rfl) ?_
  refine getX K hw inTX1 0 3 fl_X1_21 dX1_noteAnswer_23 rfl rfl (by decide) rfl rfl ?_
  refine lv_iload_n hx hb dX1_noteAnswer_26 rfl (lv_at hl 1 rfl) ?_
  refine lv_aload_n hx hb dX1_noteAnswer_27 rfl (lv_at hl 0 rfl) ?_
  refine getX K hw inTX1 0 3 fl_X1_21 dX1_noteAnswer_28 rfl rfl (by decide) rfl rfl ?_
  refine lv_iload_n hx hb dX1_noteAnswer_31 rfl (lv_at hl 1 rfl) ?_
  refine callNI K (c_at l G (q (k + 1)) 7 g_times v1 rfl) mt_yX3_at (List.mem_of_getElem? (i := 8) rfl) ⟨rfl, rfl, Nat.le_of_ble_eq_true rfl, Nat.le_of_ble_eq_true rfl⟩ hw dX1_noteAnswer_32 hl.1 ⟨Nat.zero_le _, Nat.zero_le _⟩ (wa := ((hC G q k (g_answered + (1 : Int32)) g_unanswered (g_said ||| ((1 : Int32) <<< (v2 &&& 31))) g_times g_last).take 1)) (wb := ((hC G q k (g_answered + (1 : Int32)) g_unanswered (g_said ||| ((1 : Int32) <<< (v2 &&& 31))) g_times g_last).drop 2)) rfl (rest := [.int v1, .ref (q (k + 1))]) rfl rfl (Nat.le_of_ble_eq_true rfl) (fun H locs hw => ?_)
  have hw : Wx G A (hC G q k (g_answered + (1 : Int32)) g_unanswered (g_said ||| ((1 : Int32) <<< (v2 &&& 31))) g_times g_last) s H locs := hw
  refine lv_iconst (v := (1 : Int32)) hx hb dX1_noteAnswer_35 (by decide) ?_
  refine lv_iadd hx hb dX1_noteAnswer_36 ?_
  refine callNV K (c_put l G (q (k + 1)) 7 g_times v1 ((f_at 7 g_times v1) + (1 : Int32)) rfl) mt_yX3_put (List.mem_of_getElem? (i := 9) rfl) ⟨rfl, rfl, Nat.le_of_ble_eq_true rfl, Nat.le_of_ble_eq_true rfl⟩ hw dX1_noteAnswer_37 hl.1 ⟨Nat.zero_le _, Nat.zero_le _⟩ (wa := ((hC G q k (g_answered + (1 : Int32)) g_unanswered (g_said ||| ((1 : Int32) <<< (v2 &&& 31))) g_times g_last).take 1)) (wb := ((hC G q k (g_answered + (1 : Int32)) g_unanswered (g_said ||| ((1 : Int32) <<< (v2 &&& 31))) g_times g_last).drop 2)) rfl (rest := []) rfl rfl (Nat.le_of_ble_eq_true rfl) (fun H locs hw => ?_)
  have hw : Wx G A (hC G q k (g_answered + (1 : Int32)) g_unanswered (g_said ||| ((1 : Int32) <<< (v2 &&& 31))) (f_put 7 g_times v1 ((f_at 7 g_times v1) + (1 : Int32))) g_last) s H locs := hw
  refine lv_aload_n hx hb dX1_noteAnswer_40 rfl (lv_at hl 0 rfl) ?_
  refine getX K hw inTX1 0 4 fl_X1_25 dX1_noteAnswer_41 rfl rfl (by decide) rfl rfl ?_
  refine lv_iload_n hx hb dX1_noteAnswer_44 rfl (lv_at hl 1 rfl) ?_
  refine lv_iload_n hx hb dX1_noteAnswer_45 rfl (lv_at hl 2 rfl) ?_
  refine callNV K (c_put l G (q (k + 2)) 7 g_last v1 v2 rfl) mt_yX3_put (List.mem_of_getElem? (i := 9) rfl) ⟨rfl, rfl, Nat.le_of_ble_eq_true rfl, Nat.le_of_ble_eq_true rfl⟩ hw dX1_noteAnswer_46 hl.1 ⟨Nat.zero_le _, Nat.zero_le _⟩ (wa := ((hC G q k (g_answered + (1 : Int32)) g_unanswered (g_said ||| ((1 : Int32) <<< (v2 &&& 31))) (f_put 7 g_times v1 ((f_at 7 g_times v1) + (1 : Int32))) g_last).take 2)) (wb := ((hC G q k (g_answered + (1 : Int32)) g_unanswered (g_said ||| ((1 : Int32) <<< (v2 &&& 31))) (f_put 7 g_times v1 ((f_at 7 g_times v1) + (1 : Int32))) g_last).drop 3)) rfl (rest := []) rfl rfl (Nat.le_of_ble_eq_true rfl) (fun H locs hw => ?_)
  have hw : Wx G A (hC G q k (g_answered + (1 : Int32)) g_unanswered (g_said ||| ((1 : Int32) <<< (v2 &&& 31))) (f_put 7 g_times v1 ((f_at 7 g_times v1) + (1 : Int32))) (f_put 7 g_last v1 v2)) s H locs := hw
  subst h
  exact retV K hw dX1_noteAnswer_49
set_option maxHeartbeats 4000000 in
set_option maxRecDepth 100000 in
theorem c_X0_has (l : Launch) (G : GP) (q : Nat → Nat) (k : Nat) (g_callers : Int32) (g_kinds : Nat → Int32) (g_figures : Nat → Int32) (g_tones : Nat → Int32) (g_words : Nat → Int32) (g_hours : Nat → Int32) (g_order : Nat → Int32) (g_known : Nat → Int32) (g_tune : Int32) (g_hurt : Int32) (g_patience : Int32) (g_day : Int32) (g_answered : Int32) (g_unanswered : Int32) (g_said : Int32) (g_times : Nat → Int32) (g_last : Nat → Int32) (v1 : Int32) {o : Int32} (h : f_X0_has g_callers v1 = o) : CtI l yX0_has cX0_has 2 (some .boolean) ({ frames := 0, cells := 0, slots := 0, locals := 0 } : Room) G (gC G q k g_callers g_kinds g_figures g_tones g_words g_hours g_order g_known g_tune g_hurt g_patience g_day g_answered g_unanswered g_said g_times g_last) [.ref (q k), .int v1] o (gC G q k g_callers g_kinds g_figures g_tones g_words g_hours g_order g_known g_tune g_hurt g_patience g_day g_answered g_unanswered g_said g_times g_last) := by
  refine CtI.of (by decide) (Nat.le_of_ble_eq_true rfl) ?_
  intro p e s m below meth c A ls K hl hw
  have hl : lv_has ls 2 [(0, .ref (q k)), (1, .int v1)] := hl
  generalize ([.ref (q k), .int v1] : List Value).toArray = args at K ⊢
  have hx := K.1.1
  have hb := K.1.2.1
  unfold f_X0_has at h
  refine lv_iload_n hx hb dX0_has_0 rfl (lv_at hl 1 rfl) ?_
  refine lv_if_lt (tgt := 16) hx hb dX0_has_1 (by decide) (fun hc1 => ?_) (fun hc1 => ?_)
  · have h := ifp hc1 h
    refine lv_iconst (v := (0 : Int32)) hx hb dX0_has_16 (by decide) ?_
    subst h
    exact retZ K hw rfl rfl dX0_has_17
  · have h := ifn hc1 h
    refine lv_iload_n hx hb dX0_has_4 rfl (lv_at hl 1 rfl) ?_
    refine lv_aload_n hx hb dX0_has_5 rfl (lv_at hl 0 rfl) ?_
    refine getX K hw inTX0 0 0 fl_X0_9 dX0_has_6 rfl rfl (by decide) rfl rfl ?_
    refine lv_icmp_ge (tgt := 16) hx hb dX0_has_9 (by decide) (fun hc2 => ?_) (fun hc2 => ?_)
    · have h := ifp hc2 h
      refine lv_iconst (v := (0 : Int32)) hx hb dX0_has_16 (by decide) ?_
      subst h
      exact retZ K hw rfl rfl dX0_has_17
    · have h := ifn hc2 h
      refine lv_iconst (v := (1 : Int32)) hx hb dX0_has_12 (by decide) ?_
      refine lv_goto (tgt := 17) hx hb dX0_has_13 (by decide) ?_
      subst h
      exact retZ K hw rfl rfl dX0_has_17
set_option maxHeartbeats 4000000 in
set_option maxRecDepth 100000 in
theorem b_X0_arrange_L20 {l : Launch} {G : GP} {q : Nat → Nat} {k : Nat} {p : Program} {e : Env} {s : State} {m : MethodId} {args : Array Value} {below : List Frame} {meth : Method} {c : Code} {A : Nat → Prop} {g_callers : Int32} {g_kinds : Nat → Int32} {g_figures : Nat → Int32} {g_tones : Nat → Int32} {g_words : Nat → Int32} {g_hours : Nat → Int32} {g_order : Nat → Int32} {g_known : Nat → Int32} {g_tune : Int32} {g_hurt : Int32} {g_patience : Int32} {g_day : Int32} {g_answered : Int32} {g_unanswered : Int32} {g_said : Int32} {g_times : Nat → Int32} {g_last : Nat → Int32} {v1 : Int32} {v2 : Int32} {v3 : Int32} {o : (Nat → Int32)} (K : Cx p s m args meth c A G cX0_arrange 4 RX0 none) {H : Heap} {locs : List Loc} {ls : Array Slot} (hl : lv_has ls 4 [(0, .ref (q k)), (1, .int v1), (2, .int v2), (3, .int v3)]) (hw : Wx G A (gC G q k g_callers g_kinds g_figures g_tones g_words g_hours g_order g_known g_tune g_hurt g_patience g_day g_answered g_unanswered g_said g_times g_last) s H locs) {y : (Int32 × Int32 × (Nat → Int32)) ⊕ (Int32 × (Nat → Int32))} (h : f_X0_arrange_L20 v2 g_callers g_hours v1 v3 g_order = some y) (hk20 : ∀ (b : Int32 × Int32 × (Nat → Int32)) (H : Heap) (locs : List Loc) (ls : Array Slot), y = .inl b → lv_has ls 4 [(0, .ref (q k)), (1, .int b.1), (2, .int v2), (3, .int b.2.1)] → Wx G A (gC G q k g_callers g_kinds g_figures g_tones g_words g_hours b.2.2 g_known g_tune g_hurt g_patience g_day g_answered g_unanswered g_said g_times g_last) s H locs → W p l e ({ frames := 1, cells := 0, slots := 0, locals := 22 } : Room) s m args below meth c H locs 0 0 (MQ below (QV G A (gC G q k g_callers g_kinds g_figures g_tones g_words g_hours o g_known g_tune g_hurt g_patience g_day g_answered g_unanswered g_said g_times g_last)) args s 0 0 A) (F0 m 20 ls [])) (hx20 : ∀ (b : Int32 × (Nat → Int32)) (H : Heap) (locs : List Loc) (ls : Array Slot), y = .inr b → lv_has ls 4 [(0, .ref (q k)), (1, .int b.1), (2, .int v2)] → Wx G A (gC G q k g_callers g_kinds g_figures g_tones g_words g_hours b.2 g_known g_tune g_hurt g_patience g_day g_answered g_unanswered g_said g_times g_last) s H locs → W p l e ({ frames := 1, cells := 0, slots := 0, locals := 22 } : Room) s m args below meth c H locs 0 0 (MQ below (QV G A (gC G q k g_callers g_kinds g_figures g_tones g_words g_hours o g_known g_tune g_hurt g_patience g_day g_answered g_unanswered g_said g_times g_last)) args s 0 0 A) (F0 m 58 ls [])) : W p l e ({ frames := 1, cells := 0, slots := 0, locals := 22 } : Room) s m args below meth c H locs 0 0 (MQ below (QV G A (gC G q k g_callers g_kinds g_figures g_tones g_words g_hours o g_known g_tune g_hurt g_patience g_day g_answered g_unanswered g_said g_times g_last)) args s 0 0 A) (F0 m 20 ls []) := by
  have hx := K.1.1
  have hb := K.1.2.1
  unfold f_X0_arrange_L20 at h
  refine lv_iload_n hx hb dX0_arrange_20 rfl (lv_at hl 3 rfl) ?_
  refine lv_aload_n hx hb dX0_arrange_21 rfl (lv_at hl 0 rfl) ?_
  refine getX K hw inTX0 0 0 fl_X0_9 dX0_arrange_22 rfl rfl (by decide) rfl rfl ?_
  refine lv_icmp_ge (tgt := 58) hx hb dX0_arrange_25 (by decide) (fun hc12 => ?_) (fun hc12 => ?_)
  · have h := ifp hc12 h
    exact hx20 (v1, g_order) _ _ _ (Option.some.inj h).symm (lv_sub hl [0, 1, 2] rfl) hw
  · have h := ifn hc12 h
    refine lv_aload_n hx hb dX0_arrange_28 rfl (lv_at hl 0 rfl) ?_
    refine getX K hw inTX0 0 5 fl_X0_28 dX0_arrange_29 rfl rfl (by decide) rfl rfl ?_
    refine lv_iload_n hx hb dX0_arrange_32 rfl (lv_at hl 3 rfl) ?_
    refine callNI K (c_at l G (q (k + 5)) 7 g_hours v3 rfl) mt_yX3_at (List.mem_of_getElem? (i := 7) rfl) ⟨rfl, rfl, Nat.le_of_ble_eq_true rfl, Nat.le_of_ble_eq_true rfl⟩ hw dX0_arrange_33 hl.1 ⟨Nat.zero_le _, Nat.zero_le _⟩ (wa := ((gC G q k g_callers g_kinds g_figures g_tones g_words g_hours g_order g_known g_tune g_hurt g_patience g_day g_answered g_unanswered g_said g_times g_last).take 5)) (wb := ((gC G q k g_callers g_kinds g_figures g_tones g_words g_hours g_order g_known g_tune g_hurt g_patience g_day g_answered g_unanswered g_said g_times g_last).drop 6)) rfl (rest := []) rfl rfl (Nat.le_of_ble_eq_true rfl) (fun H locs hw => ?_)
    have hw : Wx G A (gC G q k g_callers g_kinds g_figures g_tones g_words g_hours g_order g_known g_tune g_hurt g_patience g_day g_answered g_unanswered g_said g_times g_last) s H locs := hw
    refine lv_iload_n hx hb dX0_arrange_36 rfl (lv_at hl 2 rfl) ?_
    refine lv_icmp_ne (tgt := 52) hx hb dX0_arrange_37 (by decide) (fun hc13 => ?_) (fun hc13 => ?_)
    · have h := ifn hc13 h
      refine lv_iinc (v := (v3 + (1 : Int32))) (lv' := [(3, .int (v3 + (1 : Int32))), (0, .ref (q k)), (1, .int v1), (2, .int v2)]) hx hb dX0_arrange_52 hl (k := 3) rfl rfl (by decide) rfl (fun ls hl => ?_)
      refine lv_goto (tgt := 20) hx hb dX0_arrange_55 (by decide) ?_
      exact hk20 (v1, (v3 + (1 : Int32)), g_order) _ _ _ (Option.some.inj h).symm (lv_sub hl [1, 2, 3, 0] rfl) hw
    · have h := ifp hc13 h
      refine lv_aload_n hx hb dX0_arrange_40 rfl (lv_at hl 0 rfl) ?_
      refine getX K hw inTX0 0 6 fl_X0_31 dX0_arrange_41 rfl rfl (by decide) rfl rfl ?_
      refine lv_iload_n hx hb dX0_arrange_44 rfl (lv_at hl 1 rfl) ?_
      refine lv_iload_n hx hb dX0_arrange_45 rfl (lv_at hl 3 rfl) ?_
      refine callNV K (c_put l G (q (k + 6)) 7 g_order v1 v3 rfl) mt_yX3_put (List.mem_of_getElem? (i := 6) rfl) ⟨rfl, rfl, Nat.le_of_ble_eq_true rfl, Nat.le_of_ble_eq_true rfl⟩ hw dX0_arrange_46 hl.1 ⟨Nat.zero_le _, Nat.zero_le _⟩ (wa := ((gC G q k g_callers g_kinds g_figures g_tones g_words g_hours g_order g_known g_tune g_hurt g_patience g_day g_answered g_unanswered g_said g_times g_last).take 6)) (wb := ((gC G q k g_callers g_kinds g_figures g_tones g_words g_hours g_order g_known g_tune g_hurt g_patience g_day g_answered g_unanswered g_said g_times g_last).drop 7)) rfl (rest := []) rfl rfl (Nat.le_of_ble_eq_true rfl) (fun H locs hw => ?_)
      have hw : Wx G A (gC G q k g_callers g_kinds g_figures g_tones g_words g_hours (f_put 7 g_order v1 v3) g_known g_tune g_hurt g_patience g_day g_answered g_unanswered g_said g_times g_last) s H locs := hw
      refine lv_iinc (v := (v1 + (1 : Int32))) (lv' := [(1, .int (v1 + (1 : Int32))), (0, .ref (q k)), (2, .int v2), (3, .int v3)]) hx hb dX0_arrange_49 hl (k := 1) rfl rfl (by decide) rfl (fun ls hl => ?_)
      refine lv_iinc (v := (v3 + (1 : Int32))) (lv' := [(3, .int (v3 + (1 : Int32))), (1, .int (v1 + (1 : Int32))), (0, .ref (q k)), (2, .int v2)]) hx hb dX0_arrange_52 hl (k := 3) rfl rfl (by decide) rfl (fun ls hl => ?_)
      refine lv_goto (tgt := 20) hx hb dX0_arrange_55 (by decide) ?_
      exact hk20 ((v1 + (1 : Int32)), (v3 + (1 : Int32)), (f_put 7 g_order v1 v3)) _ _ _ (Option.some.inj h).symm (lv_sub hl [2, 1, 3, 0] rfl) hw
set_option maxHeartbeats 4000000 in
set_option maxRecDepth 100000 in
theorem w_X0_arrange_L20 {l : Launch} {G : GP} {q : Nat → Nat} {k : Nat} {p : Program} {e : Env} {s : State} {m : MethodId} {args : Array Value} {below : List Frame} {meth : Method} {c : Code} {A : Nat → Prop} {g_callers : Int32} {g_kinds : Nat → Int32} {g_figures : Nat → Int32} {g_tones : Nat → Int32} {g_words : Nat → Int32} {g_hours : Nat → Int32} {g_known : Nat → Int32} {g_tune : Int32} {g_hurt : Int32} {g_patience : Int32} {g_day : Int32} {g_answered : Int32} {g_unanswered : Int32} {g_said : Int32} {g_times : Nat → Int32} {g_last : Nat → Int32} {v2 : Int32} {o : (Nat → Int32)} (K : Cx p s m args meth c A G cX0_arrange 4 RX0 none) : ∀ (fu : Nat) (v1 : Int32) (v3 : Int32) (g_order : Nat → Int32) (H : Heap) (locs : List Loc) (ls : Array Slot), lv_has ls 4 [(0, .ref (q k)), (1, .int v1), (2, .int v2), (3, .int v3)] → Wx G A (gC G q k g_callers g_kinds g_figures g_tones g_words g_hours g_order g_known g_tune g_hurt g_patience g_day g_answered g_unanswered g_said g_times g_last) s H locs → ∀ (x : Int32 × (Nat → Int32)), lp (fun z : Int32 × Int32 × (Nat → Int32) => f_X0_arrange_L20 v2 g_callers g_hours (z.1) (z.2.1) (z.2.2)) fu (v1, v3, g_order) = some x → (∀ (H : Heap) (locs : List Loc) (ls : Array Slot), lv_has ls 4 [(0, .ref (q k)), (1, .int x.1), (2, .int v2)] → Wx G A (gC G q k g_callers g_kinds g_figures g_tones g_words g_hours x.2 g_known g_tune g_hurt g_patience g_day g_answered g_unanswered g_said g_times g_last) s H locs → W p l e ({ frames := 1, cells := 0, slots := 0, locals := 22 } : Room) s m args below meth c H locs 0 0 (MQ below (QV G A (gC G q k g_callers g_kinds g_figures g_tones g_words g_hours o g_known g_tune g_hurt g_patience g_day g_answered g_unanswered g_said g_times g_last)) args s 0 0 A) (F0 m 58 ls [])) → W p l e ({ frames := 1, cells := 0, slots := 0, locals := 22 } : Room) s m args below meth c H locs 0 0 (MQ below (QV G A (gC G q k g_callers g_kinds g_figures g_tones g_words g_hours o g_known g_tune g_hurt g_patience g_day g_answered g_unanswered g_said g_times g_last)) args s 0 0 A) (F0 m 20 ls []) := by
  intro fu
  induction fu with
  | zero => intro v1 v3 g_order H locs ls hl hw x h; exact absurd (show none = some x from h) (by simp)
  | succ fu ih =>
    intro v1 v3 g_order H locs ls hl hw x h hx20
    obtain ⟨y, hy, hc⟩ := lp_s h
    exact b_X0_arrange_L20 K hl hw hy (fun b H locs ls hE hl hw => ih b.1 b.2.1 b.2.2 H locs ls hl hw _ (lp_b hc hE) hx20) (fun b H locs ls hE hl hw => by
      have e9 := lp_x hc hE
      subst e9
      exact hx20 H locs ls hl hw)
set_option maxHeartbeats 4000000 in
set_option maxRecDepth 100000 in
theorem b_X0_arrange_L4 {l : Launch} {G : GP} {q : Nat → Nat} {k : Nat} {p : Program} {e : Env} {s : State} {m : MethodId} {args : Array Value} {below : List Frame} {meth : Method} {c : Code} {A : Nat → Prop} {g_callers : Int32} {g_kinds : Nat → Int32} {g_figures : Nat → Int32} {g_tones : Nat → Int32} {g_words : Nat → Int32} {g_hours : Nat → Int32} {g_order : Nat → Int32} {g_known : Nat → Int32} {g_tune : Int32} {g_hurt : Int32} {g_patience : Int32} {g_day : Int32} {g_answered : Int32} {g_unanswered : Int32} {g_said : Int32} {g_times : Nat → Int32} {g_last : Nat → Int32} {v1 : Int32} {v2 : Int32} {o : (Nat → Int32)} (K : Cx p s m args meth c A G cX0_arrange 4 RX0 none) {H : Heap} {locs : List Loc} {ls : Array Slot} (hl : lv_has ls 4 [(0, .ref (q k)), (1, .int v1), (2, .int v2)]) (hw : Wx G A (gC G q k g_callers g_kinds g_figures g_tones g_words g_hours g_order g_known g_tune g_hurt g_patience g_day g_answered g_unanswered g_said g_times g_last) s H locs) {y : (Int32 × Int32 × (Nat → Int32)) ⊕ ((Nat → Int32))} (h : f_X0_arrange_L4 g_callers g_hours v1 v2 g_order = some y) (hk4 : ∀ (b : Int32 × Int32 × (Nat → Int32)) (H : Heap) (locs : List Loc) (ls : Array Slot), y = .inl b → lv_has ls 4 [(0, .ref (q k)), (1, .int b.1), (2, .int b.2.1)] → Wx G A (gC G q k g_callers g_kinds g_figures g_tones g_words g_hours b.2.2 g_known g_tune g_hurt g_patience g_day g_answered g_unanswered g_said g_times g_last) s H locs → W p l e ({ frames := 1, cells := 0, slots := 0, locals := 22 } : Room) s m args below meth c H locs 0 0 (MQ below (QV G A (gC G q k g_callers g_kinds g_figures g_tones g_words g_hours o g_known g_tune g_hurt g_patience g_day g_answered g_unanswered g_said g_times g_last)) args s 0 0 A) (F0 m 4 ls [])) (hx4 : ∀ (b : (Nat → Int32)) (H : Heap) (locs : List Loc) (ls : Array Slot), y = .inr b → lv_has ls 4 [] → Wx G A (gC G q k g_callers g_kinds g_figures g_tones g_words g_hours b g_known g_tune g_hurt g_patience g_day g_answered g_unanswered g_said g_times g_last) s H locs → W p l e ({ frames := 1, cells := 0, slots := 0, locals := 22 } : Room) s m args below meth c H locs 0 0 (MQ below (QV G A (gC G q k g_callers g_kinds g_figures g_tones g_words g_hours o g_known g_tune g_hurt g_patience g_day g_answered g_unanswered g_said g_times g_last)) args s 0 0 A) (F0 m 64 ls [])) : W p l e ({ frames := 1, cells := 0, slots := 0, locals := 22 } : Room) s m args below meth c H locs 0 0 (MQ below (QV G A (gC G q k g_callers g_kinds g_figures g_tones g_words g_hours o g_known g_tune g_hurt g_patience g_day g_answered g_unanswered g_said g_times g_last)) args s 0 0 A) (F0 m 4 ls []) := by
  have hx := K.1.1
  have hb := K.1.2.1
  unfold f_X0_arrange_L4 at h
  refine lv_iload_n hx hb dX0_arrange_4 rfl (lv_at hl 2 rfl) ?_
  refine lv_bipush (v := (24 : Int32)) hx hb dX0_arrange_5 (by decide) ?_
  refine lv_icmp_ge (tgt := 64) hx hb dX0_arrange_7 (by decide) (fun hc10 => ?_) (fun hc10 => ?_)
  · have h := ifp hc10 h
    exact hx4 g_order _ _ _ (Option.some.inj h).symm (lv_sub hl [] rfl) hw
  · have h := ifn hc10 h
    refine lv_iload_n hx hb dX0_arrange_10 rfl (lv_at hl 1 rfl) ?_
    refine lv_aload_n hx hb dX0_arrange_11 rfl (lv_at hl 0 rfl) ?_
    refine getX K hw inTX0 0 0 fl_X0_9 dX0_arrange_12 rfl rfl (by decide) rfl rfl ?_
    refine lv_icmp_ge (tgt := 64) hx hb dX0_arrange_15 (by decide) (fun hc11 => ?_) (fun hc11 => ?_)
    · have h := ifp hc11 h
      exact hx4 g_order _ _ _ (Option.some.inj h).symm (lv_sub hl [] rfl) hw
    · have h := ifn hc11 h
      refine lv_iconst (v := (0 : Int32)) hx hb dX0_arrange_18 (by decide) ?_
      refine lv_istore_n (lv' := [(3, .int (0 : Int32)), (0, .ref (q k)), (1, .int v1), (2, .int v2)]) hx hb dX0_arrange_19 rfl hl (by decide) rfl (fun ls hl => ?_)
      obtain ⟨z14, hz14, h⟩ := bd h
      refine w_X0_arrange_L20 K 1000 v1 (0 : Int32) g_order _ _ _ (lv_sub hl [1, 2, 3, 0] rfl) hw _ hz14 (fun H locs ls hl hw => ?_)
      refine lv_iinc (v := (v2 + (1 : Int32))) (lv' := [(2, .int (v2 + (1 : Int32))), (0, .ref (q k)), (1, .int z14.1)]) hx hb dX0_arrange_58 hl (k := 2) rfl rfl (by decide) rfl (fun ls hl => ?_)
      refine lv_goto (tgt := 4) hx hb dX0_arrange_61 (by decide) ?_
      exact hk4 (z14.1, (v2 + (1 : Int32)), z14.2) _ _ _ (Option.some.inj h).symm (lv_sub hl [1, 2, 0] rfl) hw
set_option maxHeartbeats 4000000 in
set_option maxRecDepth 100000 in
theorem w_X0_arrange_L4 {l : Launch} {G : GP} {q : Nat → Nat} {k : Nat} {p : Program} {e : Env} {s : State} {m : MethodId} {args : Array Value} {below : List Frame} {meth : Method} {c : Code} {A : Nat → Prop} {g_callers : Int32} {g_kinds : Nat → Int32} {g_figures : Nat → Int32} {g_tones : Nat → Int32} {g_words : Nat → Int32} {g_hours : Nat → Int32} {g_known : Nat → Int32} {g_tune : Int32} {g_hurt : Int32} {g_patience : Int32} {g_day : Int32} {g_answered : Int32} {g_unanswered : Int32} {g_said : Int32} {g_times : Nat → Int32} {g_last : Nat → Int32} {o : (Nat → Int32)} (K : Cx p s m args meth c A G cX0_arrange 4 RX0 none) : ∀ (fu : Nat) (v1 : Int32) (v2 : Int32) (g_order : Nat → Int32) (H : Heap) (locs : List Loc) (ls : Array Slot), lv_has ls 4 [(0, .ref (q k)), (1, .int v1), (2, .int v2)] → Wx G A (gC G q k g_callers g_kinds g_figures g_tones g_words g_hours g_order g_known g_tune g_hurt g_patience g_day g_answered g_unanswered g_said g_times g_last) s H locs → ∀ (x : (Nat → Int32)), lp (fun z : Int32 × Int32 × (Nat → Int32) => f_X0_arrange_L4 g_callers g_hours (z.1) (z.2.1) (z.2.2)) fu (v1, v2, g_order) = some x → (∀ (H : Heap) (locs : List Loc) (ls : Array Slot), lv_has ls 4 [] → Wx G A (gC G q k g_callers g_kinds g_figures g_tones g_words g_hours x g_known g_tune g_hurt g_patience g_day g_answered g_unanswered g_said g_times g_last) s H locs → W p l e ({ frames := 1, cells := 0, slots := 0, locals := 22 } : Room) s m args below meth c H locs 0 0 (MQ below (QV G A (gC G q k g_callers g_kinds g_figures g_tones g_words g_hours o g_known g_tune g_hurt g_patience g_day g_answered g_unanswered g_said g_times g_last)) args s 0 0 A) (F0 m 64 ls [])) → W p l e ({ frames := 1, cells := 0, slots := 0, locals := 22 } : Room) s m args below meth c H locs 0 0 (MQ below (QV G A (gC G q k g_callers g_kinds g_figures g_tones g_words g_hours o g_known g_tune g_hurt g_patience g_day g_answered g_unanswered g_said g_times g_last)) args s 0 0 A) (F0 m 4 ls []) := by
  intro fu
  induction fu with
  | zero => intro v1 v2 g_order H locs ls hl hw x h; exact absurd (show none = some x from h) (by simp)
  | succ fu ih =>
    intro v1 v2 g_order H locs ls hl hw x h hx4
    obtain ⟨y, hy, hc⟩ := lp_s h
    exact b_X0_arrange_L4 K hl hw hy (fun b H locs ls hE hl hw => ih b.1 b.2.1 b.2.2 H locs ls hl hw _ (lp_b hc hE) hx4) (fun b H locs ls hE hl hw => by
      have e9 := lp_x hc hE
      subst e9
      exact hx4 H locs ls hl hw)
set_option maxHeartbeats 4000000 in
set_option maxRecDepth 100000 in
theorem c_X0_arrange (l : Launch) (G : GP) (q : Nat → Nat) (k : Nat) (g_callers : Int32) (g_kinds : Nat → Int32) (g_figures : Nat → Int32) (g_tones : Nat → Int32) (g_words : Nat → Int32) (g_hours : Nat → Int32) (g_order : Nat → Int32) (g_known : Nat → Int32) (g_tune : Int32) (g_hurt : Int32) (g_patience : Int32) (g_day : Int32) (g_answered : Int32) (g_unanswered : Int32) (g_said : Int32) (g_times : Nat → Int32) (g_last : Nat → Int32) {o : (Nat → Int32)} (h : f_X0_arrange g_callers g_hours g_order = some o) : CtV l yX0_arrange cX0_arrange 4 ({ frames := 1, cells := 0, slots := 0, locals := 22 } : Room) G (gC G q k g_callers g_kinds g_figures g_tones g_words g_hours g_order g_known g_tune g_hurt g_patience g_day g_answered g_unanswered g_said g_times g_last) [.ref (q k)] (gC G q k g_callers g_kinds g_figures g_tones g_words g_hours o g_known g_tune g_hurt g_patience g_day g_answered g_unanswered g_said g_times g_last) := by
  refine CtV.of (by decide) (Nat.le_of_ble_eq_true rfl) ?_
  intro p e s m below meth c A ls K hl hw
  have hl : lv_has ls 4 [(0, .ref (q k))] := hl
  generalize ([.ref (q k)] : List Value).toArray = args at K ⊢
  have hx := K.1.1
  have hb := K.1.2.1
  unfold f_X0_arrange at h
  refine lv_iconst (v := (0 : Int32)) hx hb dX0_arrange_0 (by decide) ?_
  refine lv_istore_n (lv' := [(1, .int (0 : Int32)), (0, .ref (q k))]) hx hb dX0_arrange_1 rfl hl (by decide) rfl (fun ls hl => ?_)
  refine lv_iconst (v := (0 : Int32)) hx hb dX0_arrange_2 (by decide) ?_
  refine lv_istore_n (lv' := [(2, .int (0 : Int32)), (1, .int (0 : Int32)), (0, .ref (q k))]) hx hb dX0_arrange_3 rfl hl (by decide) rfl (fun ls hl => ?_)
  obtain ⟨z15, hz15, h⟩ := bd h
  refine w_X0_arrange_L4 K 1000 (0 : Int32) (0 : Int32) g_order _ _ _ (lv_sub hl [2, 1, 0] rfl) hw _ hz15 (fun H locs ls hl hw => ?_)
  have h := Option.some.inj h
  subst h
  exact retV K hw dX0_arrange_64
set_option maxHeartbeats 4000000 in
set_option maxRecDepth 100000 in
theorem c_X0_addCaller (l : Launch) (G : GP) (q : Nat → Nat) (k : Nat) (g_callers : Int32) (g_kinds : Nat → Int32) (g_figures : Nat → Int32) (g_tones : Nat → Int32) (g_words : Nat → Int32) (g_hours : Nat → Int32) (g_order : Nat → Int32) (g_known : Nat → Int32) (g_tune : Int32) (g_hurt : Int32) (g_patience : Int32) (g_day : Int32) (g_answered : Int32) (g_unanswered : Int32) (g_said : Int32) (g_times : Nat → Int32) (g_last : Nat → Int32) (v1 : Int32) (v2 : Int32) (v3 : Int32) (v4 : Int32) (v5 : Int32) {o : Int32 × (Nat → Int32) × (Nat → Int32) × (Nat → Int32) × (Nat → Int32) × (Nat → Int32) × (Nat → Int32)} (h : f_X0_addCaller g_callers g_kinds g_figures g_tones g_words g_hours g_order v1 v2 v3 v4 v5 = some o) : CtV l yX0_addCaller cX0_addCaller 6 ({ frames := 2, cells := 0, slots := 0, locals := 45 } : Room) G (gC G q k g_callers g_kinds g_figures g_tones g_words g_hours g_order g_known g_tune g_hurt g_patience g_day g_answered g_unanswered g_said g_times g_last) [.ref (q k), .int v1, .int v2, .int v3, .int v4, .int v5] (gC G q k o.1 o.2.1 o.2.2.1 o.2.2.2.1 o.2.2.2.2.1 o.2.2.2.2.2.1 o.2.2.2.2.2.2 g_known g_tune g_hurt g_patience g_day g_answered g_unanswered g_said g_times g_last) := by
  refine CtV.of (by decide) (Nat.le_of_ble_eq_true rfl) ?_
  intro p e s m below meth c A ls K hl hw
  have hl : lv_has ls 6 [(0, .ref (q k)), (1, .int v1), (2, .int v2), (3, .int v3), (4, .int v4), (5, .int v5)] := hl
  generalize ([.ref (q k), .int v1, .int v2, .int v3, .int v4, .int v5] : List Value).toArray = args at K ⊢
  have hx := K.1.1
  have hb := K.1.2.1
  unfold f_X0_addCaller at h
  refine lv_aload_n hx hb dX0_addCaller_0 rfl (lv_at hl 0 rfl) ?_
  refine getX K hw inTX0 0 0 fl_X0_9 dX0_addCaller_1 rfl rfl (by decide) rfl rfl ?_
  refine lv_bipush (v := (7 : Int32)) hx hb dX0_addCaller_4 (by decide) ?_
  refine lv_icmp_lt (tgt := 10) hx hb dX0_addCaller_6 (by decide) (fun hc2 => ?_) (fun hc2 => ?_)
  · have h := ifp hc2 h
    refine lv_aload_n hx hb dX0_addCaller_10 rfl (lv_at hl 0 rfl) ?_
    refine getX K hw inTX0 0 1 fl_X0_15 dX0_addCaller_11 rfl rfl (by decide) rfl rfl ?_
    refine lv_aload_n hx hb dX0_addCaller_14 rfl (lv_at hl 0 rfl) ?_
    refine getX K hw inTX0 0 0 fl_X0_9 dX0_addCaller_15 rfl rfl (by decide) rfl rfl ?_
    refine lv_iload_n hx hb dX0_addCaller_18 rfl (lv_at hl 1 rfl) ?_
    refine callNV K (c_put l G (q (k + 1)) 7 g_kinds g_callers v1 rfl) mt_yX3_put (List.mem_of_getElem? (i := 6) rfl) ⟨rfl, rfl, Nat.le_of_ble_eq_true rfl, Nat.le_of_ble_eq_true rfl⟩ hw dX0_addCaller_19 hl.1 ⟨Nat.zero_le _, Nat.zero_le _⟩ (wa := ((gC G q k g_callers g_kinds g_figures g_tones g_words g_hours g_order g_known g_tune g_hurt g_patience g_day g_answered g_unanswered g_said g_times g_last).take 1)) (wb := ((gC G q k g_callers g_kinds g_figures g_tones g_words g_hours g_order g_known g_tune g_hurt g_patience g_day g_answered g_unanswered g_said g_times g_last).drop 2)) rfl (rest := []) rfl rfl (Nat.le_of_ble_eq_true rfl) (fun H locs hw => ?_)
    have hw : Wx G A (gC G q k g_callers (f_put 7 g_kinds g_callers v1) g_figures g_tones g_words g_hours g_order g_known g_tune g_hurt g_patience g_day g_answered g_unanswered g_said g_times g_last) s H locs := hw
    refine lv_aload_n hx hb dX0_addCaller_22 rfl (lv_at hl 0 rfl) ?_
    refine getX K hw inTX0 0 2 fl_X0_19 dX0_addCaller_23 rfl rfl (by decide) rfl rfl ?_
    refine lv_aload_n hx hb dX0_addCaller_26 rfl (lv_at hl 0 rfl) ?_
    refine getX K hw inTX0 0 0 fl_X0_9 dX0_addCaller_27 rfl rfl (by decide) rfl rfl ?_
    refine lv_iload_n hx hb dX0_addCaller_30 rfl (lv_at hl 2 rfl) ?_
    refine callNV K (c_put l G (q (k + 2)) 7 g_figures g_callers v2 rfl) mt_yX3_put (List.mem_of_getElem? (i := 6) rfl) ⟨rfl, rfl, Nat.le_of_ble_eq_true rfl, Nat.le_of_ble_eq_true rfl⟩ hw dX0_addCaller_31 hl.1 ⟨Nat.zero_le _, Nat.zero_le _⟩ (wa := ((gC G q k g_callers (f_put 7 g_kinds g_callers v1) g_figures g_tones g_words g_hours g_order g_known g_tune g_hurt g_patience g_day g_answered g_unanswered g_said g_times g_last).take 2)) (wb := ((gC G q k g_callers (f_put 7 g_kinds g_callers v1) g_figures g_tones g_words g_hours g_order g_known g_tune g_hurt g_patience g_day g_answered g_unanswered g_said g_times g_last).drop 3)) rfl (rest := []) rfl rfl (Nat.le_of_ble_eq_true rfl) (fun H locs hw => ?_)
    have hw : Wx G A (gC G q k g_callers (f_put 7 g_kinds g_callers v1) (f_put 7 g_figures g_callers v2) g_tones g_words g_hours g_order g_known g_tune g_hurt g_patience g_day g_answered g_unanswered g_said g_times g_last) s H locs := hw
    refine lv_aload_n hx hb dX0_addCaller_34 rfl (lv_at hl 0 rfl) ?_
    refine getX K hw inTX0 0 3 fl_X0_22 dX0_addCaller_35 rfl rfl (by decide) rfl rfl ?_
    refine lv_aload_n hx hb dX0_addCaller_38 rfl (lv_at hl 0 rfl) ?_
    refine getX K hw inTX0 0 0 fl_X0_9 dX0_addCaller_39 rfl rfl (by decide) rfl rfl ?_
    refine lv_iload_n hx hb dX0_addCaller_42 rfl (lv_at hl 3 rfl) ?_
    refine callNV K (c_put l G (q (k + 3)) 7 g_tones g_callers v3 rfl) mt_yX3_put (List.mem_of_getElem? (i := 6) rfl) ⟨rfl, rfl, Nat.le_of_ble_eq_true rfl, Nat.le_of_ble_eq_true rfl⟩ hw dX0_addCaller_43 hl.1 ⟨Nat.zero_le _, Nat.zero_le _⟩ (wa := ((gC G q k g_callers (f_put 7 g_kinds g_callers v1) (f_put 7 g_figures g_callers v2) g_tones g_words g_hours g_order g_known g_tune g_hurt g_patience g_day g_answered g_unanswered g_said g_times g_last).take 3)) (wb := ((gC G q k g_callers (f_put 7 g_kinds g_callers v1) (f_put 7 g_figures g_callers v2) g_tones g_words g_hours g_order g_known g_tune g_hurt g_patience g_day g_answered g_unanswered g_said g_times g_last).drop 4)) rfl (rest := []) rfl rfl (Nat.le_of_ble_eq_true rfl) (fun H locs hw => ?_)
    have hw : Wx G A (gC G q k g_callers (f_put 7 g_kinds g_callers v1) (f_put 7 g_figures g_callers v2) (f_put 7 g_tones g_callers v3) g_words g_hours g_order g_known g_tune g_hurt g_patience g_day g_answered g_unanswered g_said g_times g_last) s H locs := hw
    refine lv_aload_n hx hb dX0_addCaller_46 rfl (lv_at hl 0 rfl) ?_
    refine getX K hw inTX0 0 4 fl_X0_25 dX0_addCaller_47 rfl rfl (by decide) rfl rfl ?_
    refine lv_aload_n hx hb dX0_addCaller_50 rfl (lv_at hl 0 rfl) ?_
    refine getX K hw inTX0 0 0 fl_X0_9 dX0_addCaller_51 rfl rfl (by decide) rfl rfl ?_
    refine lv_iload hx hb dX0_addCaller_54 (lv_at hl 4 rfl) ?_
    refine callNV K (c_put l G (q (k + 4)) 7 g_words g_callers v4 rfl) mt_yX3_put (List.mem_of_getElem? (i := 6) rfl) ⟨rfl, rfl, Nat.le_of_ble_eq_true rfl, Nat.le_of_ble_eq_true rfl⟩ hw dX0_addCaller_56 hl.1 ⟨Nat.zero_le _, Nat.zero_le _⟩ (wa := ((gC G q k g_callers (f_put 7 g_kinds g_callers v1) (f_put 7 g_figures g_callers v2) (f_put 7 g_tones g_callers v3) g_words g_hours g_order g_known g_tune g_hurt g_patience g_day g_answered g_unanswered g_said g_times g_last).take 4)) (wb := ((gC G q k g_callers (f_put 7 g_kinds g_callers v1) (f_put 7 g_figures g_callers v2) (f_put 7 g_tones g_callers v3) g_words g_hours g_order g_known g_tune g_hurt g_patience g_day g_answered g_unanswered g_said g_times g_last).drop 5)) rfl (rest := []) rfl rfl (Nat.le_of_ble_eq_true rfl) (fun H locs hw => ?_)
    have hw : Wx G A (gC G q k g_callers (f_put 7 g_kinds g_callers v1) (f_put 7 g_figures g_callers v2) (f_put 7 g_tones g_callers v3) (f_put 7 g_words g_callers v4) g_hours g_order g_known g_tune g_hurt g_patience g_day g_answered g_unanswered g_said g_times g_last) s H locs := hw
    refine lv_aload_n hx hb dX0_addCaller_59 rfl (lv_at hl 0 rfl) ?_
    refine getX K hw inTX0 0 5 fl_X0_28 dX0_addCaller_60 rfl rfl (by decide) rfl rfl ?_
    refine lv_aload_n hx hb dX0_addCaller_63 rfl (lv_at hl 0 rfl) ?_
    refine getX K hw inTX0 0 0 fl_X0_9 dX0_addCaller_64 rfl rfl (by decide) rfl rfl ?_
    refine lv_iload hx hb dX0_addCaller_67 (lv_at hl 5 rfl) ?_
    refine callNV K (c_put l G (q (k + 5)) 7 g_hours g_callers v5 rfl) mt_yX3_put (List.mem_of_getElem? (i := 6) rfl) ⟨rfl, rfl, Nat.le_of_ble_eq_true rfl, Nat.le_of_ble_eq_true rfl⟩ hw dX0_addCaller_69 hl.1 ⟨Nat.zero_le _, Nat.zero_le _⟩ (wa := ((gC G q k g_callers (f_put 7 g_kinds g_callers v1) (f_put 7 g_figures g_callers v2) (f_put 7 g_tones g_callers v3) (f_put 7 g_words g_callers v4) g_hours g_order g_known g_tune g_hurt g_patience g_day g_answered g_unanswered g_said g_times g_last).take 5)) (wb := ((gC G q k g_callers (f_put 7 g_kinds g_callers v1) (f_put 7 g_figures g_callers v2) (f_put 7 g_tones g_callers v3) (f_put 7 g_words g_callers v4) g_hours g_order g_known g_tune g_hurt g_patience g_day g_answered g_unanswered g_said g_times g_last).drop 6)) rfl (rest := []) rfl rfl (Nat.le_of_ble_eq_true rfl) (fun H locs hw => ?_)
    have hw : Wx G A (gC G q k g_callers (f_put 7 g_kinds g_callers v1) (f_put 7 g_figures g_callers v2) (f_put 7 g_tones g_callers v3) (f_put 7 g_words g_callers v4) (f_put 7 g_hours g_callers v5) g_order g_known g_tune g_hurt g_patience g_day g_answered g_unanswered g_said g_times g_last) s H locs := hw
    refine lv_aload_n hx hb dX0_addCaller_72 rfl (lv_at hl 0 rfl) ?_
    refine lv_dup hx hb dX0_addCaller_73 rfl ?_
    refine getX K hw inTX0 0 0 fl_X0_9 dX0_addCaller_74 rfl rfl (by decide) rfl rfl ?_
    refine lv_iconst (v := (1 : Int32)) hx hb dX0_addCaller_77 (by decide) ?_
    refine lv_iadd hx hb dX0_addCaller_78 ?_
    refine putX K hw inTX0 tyX0_ok nmX0 0 0 fl_X0_9 dX0_addCaller_79 rfl rfl (by decide) rfl rfl rfl rfl (Nat.le_of_ble_eq_true rfl) (fun H locs hw => ?_)
    have hw : Wx G A (gC G q k (g_callers + (1 : Int32)) (f_put 7 g_kinds g_callers v1) (f_put 7 g_figures g_callers v2) (f_put 7 g_tones g_callers v3) (f_put 7 g_words g_callers v4) (f_put 7 g_hours g_callers v5) g_order g_known g_tune g_hurt g_patience g_day g_answered g_unanswered g_said g_times g_last) s H locs := hw
    refine lv_aload_n hx hb dX0_addCaller_82 rfl (lv_at hl 0 rfl) ?_
    obtain ⟨z3, hz3, h⟩ := bd h
    refine callVV K (c_X0_arrange l G q k (g_callers + (1 : Int32)) (f_put 7 g_kinds g_callers v1) (f_put 7 g_figures g_callers v2) (f_put 7 g_tones g_callers v3) (f_put 7 g_words g_callers v4) (f_put 7 g_hours g_callers v5) g_order g_known g_tune g_hurt g_patience g_day g_answered g_unanswered g_said g_times g_last hz3) mt_yX0_arrange lk_X0_64 ⟨rfl, rfl, Nat.le_of_ble_eq_true rfl, Nat.le_of_ble_eq_true rfl⟩ hw dX0_addCaller_83 hl.1 ⟨Nat.zero_le _, Nat.zero_le _⟩ (wa := ((gC G q k (g_callers + (1 : Int32)) (f_put 7 g_kinds g_callers v1) (f_put 7 g_figures g_callers v2) (f_put 7 g_tones g_callers v3) (f_put 7 g_words g_callers v4) (f_put 7 g_hours g_callers v5) g_order g_known g_tune g_hurt g_patience g_day g_answered g_unanswered g_said g_times g_last).take 0)) (wb := ((gC G q k (g_callers + (1 : Int32)) (f_put 7 g_kinds g_callers v1) (f_put 7 g_figures g_callers v2) (f_put 7 g_tones g_callers v3) (f_put 7 g_words g_callers v4) (f_put 7 g_hours g_callers v5) g_order g_known g_tune g_hurt g_patience g_day g_answered g_unanswered g_said g_times g_last).drop 11)) rfl rfl rfl (rest := []) rfl rfl (Nat.le_of_ble_eq_true rfl) (fun H locs hw => ?_)
    have hw : Wx G A (gC G q k (g_callers + (1 : Int32)) (f_put 7 g_kinds g_callers v1) (f_put 7 g_figures g_callers v2) (f_put 7 g_tones g_callers v3) (f_put 7 g_words g_callers v4) (f_put 7 g_hours g_callers v5) z3 g_known g_tune g_hurt g_patience g_day g_answered g_unanswered g_said g_times g_last) s H locs := hw
    have h := Option.some.inj h
    subst h
    exact retV K hw dX0_addCaller_86
  · have h := ifn hc2 h
    have h := Option.some.inj h
    subst h
    exact retV K hw dX0_addCaller_9
set_option maxHeartbeats 4000000 in
set_option maxRecDepth 100000 in
theorem c_X0_moveTo (l : Launch) (G : GP) (q : Nat → Nat) (k : Nat) (g_callers : Int32) (g_kinds : Nat → Int32) (g_figures : Nat → Int32) (g_tones : Nat → Int32) (g_words : Nat → Int32) (g_hours : Nat → Int32) (g_order : Nat → Int32) (g_known : Nat → Int32) (g_tune : Int32) (g_hurt : Int32) (g_patience : Int32) (g_day : Int32) (g_answered : Int32) (g_unanswered : Int32) (g_said : Int32) (g_times : Nat → Int32) (g_last : Nat → Int32) (v1 : Int32) (v2 : Int32) {o : (Nat → Int32) × (Nat → Int32)} (h : f_X0_moveTo g_callers g_hours g_order v1 v2 = some o) : CtV l yX0_moveTo cX0_moveTo 3 ({ frames := 2, cells := 0, slots := 0, locals := 45 } : Room) G (gC G q k g_callers g_kinds g_figures g_tones g_words g_hours g_order g_known g_tune g_hurt g_patience g_day g_answered g_unanswered g_said g_times g_last) [.ref (q k), .int v1, .int v2] (gC G q k g_callers g_kinds g_figures g_tones g_words o.1 o.2 g_known g_tune g_hurt g_patience g_day g_answered g_unanswered g_said g_times g_last) := by
  refine CtV.of (by decide) (Nat.le_of_ble_eq_true rfl) ?_
  intro p e s m below meth c A ls K hl hw
  have hl : lv_has ls 3 [(0, .ref (q k)), (1, .int v1), (2, .int v2)] := hl
  generalize ([.ref (q k), .int v1, .int v2] : List Value).toArray = args at K ⊢
  have hx := K.1.1
  have hb := K.1.2.1
  unfold f_X0_moveTo at h
  refine lv_aload_n hx hb dX0_moveTo_0 rfl (lv_at hl 0 rfl) ?_
  refine getX K hw inTX0 0 5 fl_X0_28 dX0_moveTo_1 rfl rfl (by decide) rfl rfl ?_
  refine lv_iload_n hx hb dX0_moveTo_4 rfl (lv_at hl 1 rfl) ?_
  refine lv_iload_n hx hb dX0_moveTo_5 rfl (lv_at hl 2 rfl) ?_
  refine callNV K (c_put l G (q (k + 5)) 7 g_hours v1 v2 rfl) mt_yX3_put (List.mem_of_getElem? (i := 6) rfl) ⟨rfl, rfl, Nat.le_of_ble_eq_true rfl, Nat.le_of_ble_eq_true rfl⟩ hw dX0_moveTo_6 hl.1 ⟨Nat.zero_le _, Nat.zero_le _⟩ (wa := ((gC G q k g_callers g_kinds g_figures g_tones g_words g_hours g_order g_known g_tune g_hurt g_patience g_day g_answered g_unanswered g_said g_times g_last).take 5)) (wb := ((gC G q k g_callers g_kinds g_figures g_tones g_words g_hours g_order g_known g_tune g_hurt g_patience g_day g_answered g_unanswered g_said g_times g_last).drop 6)) rfl (rest := []) rfl rfl (Nat.le_of_ble_eq_true rfl) (fun H locs hw => ?_)
  have hw : Wx G A (gC G q k g_callers g_kinds g_figures g_tones g_words (f_put 7 g_hours v1 v2) g_order g_known g_tune g_hurt g_patience g_day g_answered g_unanswered g_said g_times g_last) s H locs := hw
  refine lv_aload_n hx hb dX0_moveTo_9 rfl (lv_at hl 0 rfl) ?_
  obtain ⟨z2, hz2, h⟩ := bd h
  refine callVV K (c_X0_arrange l G q k g_callers g_kinds g_figures g_tones g_words (f_put 7 g_hours v1 v2) g_order g_known g_tune g_hurt g_patience g_day g_answered g_unanswered g_said g_times g_last hz2) mt_yX0_arrange lk_X0_64 ⟨rfl, rfl, Nat.le_of_ble_eq_true rfl, Nat.le_of_ble_eq_true rfl⟩ hw dX0_moveTo_10 hl.1 ⟨Nat.zero_le _, Nat.zero_le _⟩ (wa := ((gC G q k g_callers g_kinds g_figures g_tones g_words (f_put 7 g_hours v1 v2) g_order g_known g_tune g_hurt g_patience g_day g_answered g_unanswered g_said g_times g_last).take 0)) (wb := ((gC G q k g_callers g_kinds g_figures g_tones g_words (f_put 7 g_hours v1 v2) g_order g_known g_tune g_hurt g_patience g_day g_answered g_unanswered g_said g_times g_last).drop 11)) rfl rfl rfl (rest := []) rfl rfl (Nat.le_of_ble_eq_true rfl) (fun H locs hw => ?_)
  have hw : Wx G A (gC G q k g_callers g_kinds g_figures g_tones g_words (f_put 7 g_hours v1 v2) z2 g_known g_tune g_hurt g_patience g_day g_answered g_unanswered g_said g_times g_last) s H locs := hw
  have h := Option.some.inj h
  subst h
  exact retV K hw dX0_moveTo_13
set_option maxHeartbeats 4000000 in
set_option maxRecDepth 100000 in
theorem c_X0_moveAllTo (l : Launch) (G : GP) (q : Nat → Nat) (k : Nat) (g_callers : Int32) (g_kinds : Nat → Int32) (g_figures : Nat → Int32) (g_tones : Nat → Int32) (g_words : Nat → Int32) (g_hours : Nat → Int32) (g_order : Nat → Int32) (g_known : Nat → Int32) (g_tune : Int32) (g_hurt : Int32) (g_patience : Int32) (g_day : Int32) (g_answered : Int32) (g_unanswered : Int32) (g_said : Int32) (g_times : Nat → Int32) (g_last : Nat → Int32) (v1 : Int32) {o : (Nat → Int32) × (Nat → Int32)} (h : f_X0_moveAllTo g_callers g_hours g_order v1 = some o) : CtV l yX0_moveAllTo cX0_moveAllTo 2 ({ frames := 2, cells := 0, slots := 0, locals := 45 } : Room) G (gC G q k g_callers g_kinds g_figures g_tones g_words g_hours g_order g_known g_tune g_hurt g_patience g_day g_answered g_unanswered g_said g_times g_last) [.ref (q k), .int v1] (gC G q k g_callers g_kinds g_figures g_tones g_words o.1 o.2 g_known g_tune g_hurt g_patience g_day g_answered g_unanswered g_said g_times g_last) := by
  refine CtV.of (by decide) (Nat.le_of_ble_eq_true rfl) ?_
  intro p e s m below meth c A ls K hl hw
  have hl : lv_has ls 2 [(0, .ref (q k)), (1, .int v1)] := hl
  generalize ([.ref (q k), .int v1] : List Value).toArray = args at K ⊢
  have hx := K.1.1
  have hb := K.1.2.1
  unfold f_X0_moveAllTo at h
  refine lv_aload_n hx hb dX0_moveAllTo_0 rfl (lv_at hl 0 rfl) ?_
  refine getX K hw inTX0 0 5 fl_X0_28 dX0_moveAllTo_1 rfl rfl (by decide) rfl rfl ?_
  refine lv_iload_n hx hb dX0_moveAllTo_4 rfl (lv_at hl 1 rfl) ?_
  obtain ⟨z3, hz3, h⟩ := bd h
  refine callSV K (c_fill l G (q (k + 5)) 7 g_hours v1 hz3) mt_yJ7_fill_53178 lk_X0_67 ⟨rfl, rfl, Nat.le_of_ble_eq_true rfl, Nat.le_of_ble_eq_true rfl⟩ hw dX0_moveAllTo_5 hl.1 ⟨Nat.zero_le _, Nat.zero_le _⟩ (wa := ((gC G q k g_callers g_kinds g_figures g_tones g_words g_hours g_order g_known g_tune g_hurt g_patience g_day g_answered g_unanswered g_said g_times g_last).take 5)) (wb := ((gC G q k g_callers g_kinds g_figures g_tones g_words g_hours g_order g_known g_tune g_hurt g_patience g_day g_answered g_unanswered g_said g_times g_last).drop 6)) rfl (rest := []) rfl rfl (Nat.le_of_ble_eq_true rfl) (fun H locs hw => ?_)
  have hw : Wx G A (gC G q k g_callers g_kinds g_figures g_tones g_words z3 g_order g_known g_tune g_hurt g_patience g_day g_answered g_unanswered g_said g_times g_last) s H locs := hw
  refine lv_aload_n hx hb dX0_moveAllTo_8 rfl (lv_at hl 0 rfl) ?_
  obtain ⟨z4, hz4, h⟩ := bd h
  refine callVV K (c_X0_arrange l G q k g_callers g_kinds g_figures g_tones g_words z3 g_order g_known g_tune g_hurt g_patience g_day g_answered g_unanswered g_said g_times g_last hz4) mt_yX0_arrange lk_X0_64 ⟨rfl, rfl, Nat.le_of_ble_eq_true rfl, Nat.le_of_ble_eq_true rfl⟩ hw dX0_moveAllTo_9 hl.1 ⟨Nat.zero_le _, Nat.zero_le _⟩ (wa := ((gC G q k g_callers g_kinds g_figures g_tones g_words z3 g_order g_known g_tune g_hurt g_patience g_day g_answered g_unanswered g_said g_times g_last).take 0)) (wb := ((gC G q k g_callers g_kinds g_figures g_tones g_words z3 g_order g_known g_tune g_hurt g_patience g_day g_answered g_unanswered g_said g_times g_last).drop 11)) rfl rfl rfl (rest := []) rfl rfl (Nat.le_of_ble_eq_true rfl) (fun H locs hw => ?_)
  have hw : Wx G A (gC G q k g_callers g_kinds g_figures g_tones g_words z3 z4 g_known g_tune g_hurt g_patience g_day g_answered g_unanswered g_said g_times g_last) s H locs := hw
  have h := Option.some.inj h
  subst h
  exact retV K hw dX0_moveAllTo_12
set_option maxHeartbeats 4000000 in
set_option maxRecDepth 100000 in
theorem c_X0_isSilent (l : Launch) (G : GP) (q : Nat → Nat) (k : Nat) (g_callers : Int32) (g_kinds : Nat → Int32) (g_figures : Nat → Int32) (g_tones : Nat → Int32) (g_words : Nat → Int32) (g_hours : Nat → Int32) (g_order : Nat → Int32) (g_known : Nat → Int32) (g_tune : Int32) (g_hurt : Int32) (g_patience : Int32) (g_day : Int32) (g_answered : Int32) (g_unanswered : Int32) (g_said : Int32) (g_times : Nat → Int32) (g_last : Nat → Int32) {o : Int32} (h : f_X0_isSilent g_hurt g_patience = o) : CtI l yX0_isSilent cX0_isSilent 1 (some .boolean) ({ frames := 0, cells := 0, slots := 0, locals := 0 } : Room) G (gC G q k g_callers g_kinds g_figures g_tones g_words g_hours g_order g_known g_tune g_hurt g_patience g_day g_answered g_unanswered g_said g_times g_last) [.ref (q k)] o (gC G q k g_callers g_kinds g_figures g_tones g_words g_hours g_order g_known g_tune g_hurt g_patience g_day g_answered g_unanswered g_said g_times g_last) := by
  refine CtI.of (by decide) (Nat.le_of_ble_eq_true rfl) ?_
  intro p e s m below meth c A ls K hl hw
  have hl : lv_has ls 1 [(0, .ref (q k))] := hl
  generalize ([.ref (q k)] : List Value).toArray = args at K ⊢
  have hx := K.1.1
  have hb := K.1.2.1
  unfold f_X0_isSilent at h
  refine lv_aload_n hx hb dX0_isSilent_0 rfl (lv_at hl 0 rfl) ?_
  refine getX K hw inTX0 0 9 fl_X0_40 dX0_isSilent_1 rfl rfl (by decide) rfl rfl ?_
  refine lv_aload_n hx hb dX0_isSilent_4 rfl (lv_at hl 0 rfl) ?_
  refine getX K hw inTX0 0 10 fl_X0_43 dX0_isSilent_5 rfl rfl (by decide) rfl rfl ?_
  refine lv_icmp_le (tgt := 15) hx hb dX0_isSilent_8 (by decide) (fun hc1 => ?_) (fun hc1 => ?_)
  · have h := ifp hc1 h
    refine lv_iconst (v := (0 : Int32)) hx hb dX0_isSilent_15 (by decide) ?_
    subst h
    exact retZ K hw rfl rfl dX0_isSilent_16
  · have h := ifn hc1 h
    refine lv_iconst (v := (1 : Int32)) hx hb dX0_isSilent_11 (by decide) ?_
    refine lv_goto (tgt := 16) hx hb dX0_isSilent_12 (by decide) ?_
    subst h
    exact retZ K hw rfl rfl dX0_isSilent_16
set_option maxHeartbeats 4000000 in
set_option maxRecDepth 100000 in
theorem b_X0_isCalled_L2 {l : Launch} {G : GP} {q : Nat → Nat} {k : Nat} {p : Program} {e : Env} {s : State} {m : MethodId} {args : Array Value} {below : List Frame} {meth : Method} {c : Code} {A : Nat → Prop} {g_callers : Int32} {g_kinds : Nat → Int32} {g_figures : Nat → Int32} {g_tones : Nat → Int32} {g_words : Nat → Int32} {g_hours : Nat → Int32} {g_order : Nat → Int32} {g_known : Nat → Int32} {g_tune : Int32} {g_hurt : Int32} {g_patience : Int32} {g_day : Int32} {g_answered : Int32} {g_unanswered : Int32} {g_said : Int32} {g_times : Nat → Int32} {g_last : Nat → Int32} {v1 : Int32} {v2 : Int32} {o : Int32} (K : Cx p s m args meth c A G cX0_isCalled 3 RX0 (some .boolean)) {H : Heap} {locs : List Loc} {ls : Array Slot} (hl : lv_has ls 3 [(0, .ref (q k)), (1, .int v1), (2, .int v2)]) (hw : Wx G A (gC G q k g_callers g_kinds g_figures g_tones g_words g_hours g_order g_known g_tune g_hurt g_patience g_day g_answered g_unanswered g_said g_times g_last) s H locs) {y : (Int32) ⊕ (Int32)} (h : f_X0_isCalled_L2 v1 g_callers g_words v2 = some y) (hk2 : ∀ (b : Int32) (H : Heap) (locs : List Loc) (ls : Array Slot), y = .inl b → lv_has ls 3 [(0, .ref (q k)), (1, .int v1), (2, .int b)] → Wx G A (gC G q k g_callers g_kinds g_figures g_tones g_words g_hours g_order g_known g_tune g_hurt g_patience g_day g_answered g_unanswered g_said g_times g_last) s H locs → W p l e ({ frames := 1, cells := 0, slots := 0, locals := 21 } : Room) s m args below meth c H locs 0 0 (MQ below (QI G A (gC G q k g_callers g_kinds g_figures g_tones g_words g_hours g_order g_known g_tune g_hurt g_patience g_day g_answered g_unanswered g_said g_times g_last) o) args s 0 0 A) (F0 m 2 ls [])) (hr : ∀ r : Int32, y = .inr r → r = o) : W p l e ({ frames := 1, cells := 0, slots := 0, locals := 21 } : Room) s m args below meth c H locs 0 0 (MQ below (QI G A (gC G q k g_callers g_kinds g_figures g_tones g_words g_hours g_order g_known g_tune g_hurt g_patience g_day g_answered g_unanswered g_said g_times g_last) o) args s 0 0 A) (F0 m 2 ls []) := by
  have hx := K.1.1
  have hb := K.1.2.1
  unfold f_X0_isCalled_L2 at h
  refine lv_iload_n hx hb dX0_isCalled_2 rfl (lv_at hl 2 rfl) ?_
  refine lv_aload_n hx hb dX0_isCalled_3 rfl (lv_at hl 0 rfl) ?_
  refine getX K hw inTX0 0 0 fl_X0_9 dX0_isCalled_4 rfl rfl (by decide) rfl rfl ?_
  refine lv_icmp_ge (tgt := 30) hx hb dX0_isCalled_7 (by decide) (fun hc2 => ?_) (fun hc2 => ?_)
  · have h := ifp hc2 h
    refine lv_iconst (v := (0 : Int32)) hx hb dX0_isCalled_30 (by decide) ?_
    have ho := hr _ (Option.some.inj h).symm
    subst ho
    exact retZ K hw rfl rfl dX0_isCalled_31
  · have h := ifn hc2 h
    refine lv_aload_n hx hb dX0_isCalled_10 rfl (lv_at hl 0 rfl) ?_
    refine getX K hw inTX0 0 4 fl_X0_25 dX0_isCalled_11 rfl rfl (by decide) rfl rfl ?_
    refine lv_iload_n hx hb dX0_isCalled_14 rfl (lv_at hl 2 rfl) ?_
    refine callNI K (c_at l G (q (k + 4)) 7 g_words v2 rfl) mt_yX3_at (List.mem_of_getElem? (i := 7) rfl) ⟨rfl, rfl, Nat.le_of_ble_eq_true rfl, Nat.le_of_ble_eq_true rfl⟩ hw dX0_isCalled_15 hl.1 ⟨Nat.zero_le _, Nat.zero_le _⟩ (wa := ((gC G q k g_callers g_kinds g_figures g_tones g_words g_hours g_order g_known g_tune g_hurt g_patience g_day g_answered g_unanswered g_said g_times g_last).take 4)) (wb := ((gC G q k g_callers g_kinds g_figures g_tones g_words g_hours g_order g_known g_tune g_hurt g_patience g_day g_answered g_unanswered g_said g_times g_last).drop 5)) rfl (rest := []) rfl rfl (Nat.le_of_ble_eq_true rfl) (fun H locs hw => ?_)
    have hw : Wx G A (gC G q k g_callers g_kinds g_figures g_tones g_words g_hours g_order g_known g_tune g_hurt g_patience g_day g_answered g_unanswered g_said g_times g_last) s H locs := hw
    refine lv_iload_n hx hb dX0_isCalled_18 rfl (lv_at hl 1 rfl) ?_
    refine lv_icmp_ne (tgt := 24) hx hb dX0_isCalled_19 (by decide) (fun hc3 => ?_) (fun hc3 => ?_)
    · have h := ifn hc3 h
      refine lv_iinc (v := (v2 + (1 : Int32))) (lv' := [(2, .int (v2 + (1 : Int32))), (0, .ref (q k)), (1, .int v1)]) hx hb dX0_isCalled_24 hl (k := 2) rfl rfl (by decide) rfl (fun ls hl => ?_)
      refine lv_goto (tgt := 2) hx hb dX0_isCalled_27 (by decide) ?_
      exact hk2 (v2 + (1 : Int32)) _ _ _ (Option.some.inj h).symm (lv_sub hl [1, 2, 0] rfl) hw
    · have h := ifp hc3 h
      refine lv_iconst (v := (1 : Int32)) hx hb dX0_isCalled_22 (by decide) ?_
      have ho := hr _ (Option.some.inj h).symm
      subst ho
      exact retZ K hw rfl rfl dX0_isCalled_23
set_option maxHeartbeats 4000000 in
set_option maxRecDepth 100000 in
theorem w_X0_isCalled_L2 {l : Launch} {G : GP} {q : Nat → Nat} {k : Nat} {p : Program} {e : Env} {s : State} {m : MethodId} {args : Array Value} {below : List Frame} {meth : Method} {c : Code} {A : Nat → Prop} {g_callers : Int32} {g_kinds : Nat → Int32} {g_figures : Nat → Int32} {g_tones : Nat → Int32} {g_words : Nat → Int32} {g_hours : Nat → Int32} {g_order : Nat → Int32} {g_known : Nat → Int32} {g_tune : Int32} {g_hurt : Int32} {g_patience : Int32} {g_day : Int32} {g_answered : Int32} {g_unanswered : Int32} {g_said : Int32} {g_times : Nat → Int32} {g_last : Nat → Int32} {v1 : Int32} {o : Int32} (K : Cx p s m args meth c A G cX0_isCalled 3 RX0 (some .boolean)) : ∀ (fu : Nat) (v2 : Int32) (H : Heap) (locs : List Loc) (ls : Array Slot), lv_has ls 3 [(0, .ref (q k)), (1, .int v1), (2, .int v2)] → Wx G A (gC G q k g_callers g_kinds g_figures g_tones g_words g_hours g_order g_known g_tune g_hurt g_patience g_day g_answered g_unanswered g_said g_times g_last) s H locs → ∀ (x : Int32), lp (fun z : Int32 => f_X0_isCalled_L2 v1 g_callers g_words (z)) fu v2 = some x → (x = o) → W p l e ({ frames := 1, cells := 0, slots := 0, locals := 21 } : Room) s m args below meth c H locs 0 0 (MQ below (QI G A (gC G q k g_callers g_kinds g_figures g_tones g_words g_hours g_order g_known g_tune g_hurt g_patience g_day g_answered g_unanswered g_said g_times g_last) o) args s 0 0 A) (F0 m 2 ls []) := by
  intro fu
  induction fu with
  | zero => intro v2 H locs ls hl hw x h; exact absurd (show none = some x from h) (by simp)
  | succ fu ih =>
    intro v2 H locs ls hl hw x h hr
    obtain ⟨y, hy, hc⟩ := lp_s h
    exact b_X0_isCalled_L2 K hl hw hy (fun b H locs ls hE hl hw => ih b H locs ls hl hw _ (lp_b hc hE) hr) (fun r hE => (lp_x hc hE).symm.trans hr)
set_option maxHeartbeats 4000000 in
set_option maxRecDepth 100000 in
theorem c_X0_isCalled (l : Launch) (G : GP) (q : Nat → Nat) (k : Nat) (g_callers : Int32) (g_kinds : Nat → Int32) (g_figures : Nat → Int32) (g_tones : Nat → Int32) (g_words : Nat → Int32) (g_hours : Nat → Int32) (g_order : Nat → Int32) (g_known : Nat → Int32) (g_tune : Int32) (g_hurt : Int32) (g_patience : Int32) (g_day : Int32) (g_answered : Int32) (g_unanswered : Int32) (g_said : Int32) (g_times : Nat → Int32) (g_last : Nat → Int32) (v1 : Int32) {o : Int32} (h : f_X0_isCalled g_callers g_words v1 = some o) : CtI l yX0_isCalled cX0_isCalled 3 (some .boolean) ({ frames := 1, cells := 0, slots := 0, locals := 21 } : Room) G (gC G q k g_callers g_kinds g_figures g_tones g_words g_hours g_order g_known g_tune g_hurt g_patience g_day g_answered g_unanswered g_said g_times g_last) [.ref (q k), .int v1] o (gC G q k g_callers g_kinds g_figures g_tones g_words g_hours g_order g_known g_tune g_hurt g_patience g_day g_answered g_unanswered g_said g_times g_last) := by
  refine CtI.of (by decide) (Nat.le_of_ble_eq_true rfl) ?_
  intro p e s m below meth c A ls K hl hw
  have hl : lv_has ls 3 [(0, .ref (q k)), (1, .int v1)] := hl
  generalize ([.ref (q k), .int v1] : List Value).toArray = args at K ⊢
  have hx := K.1.1
  have hb := K.1.2.1
  unfold f_X0_isCalled at h
  refine lv_iconst (v := (0 : Int32)) hx hb dX0_isCalled_0 (by decide) ?_
  refine lv_istore_n (lv' := [(2, .int (0 : Int32)), (0, .ref (q k)), (1, .int v1)]) hx hb dX0_isCalled_1 rfl hl (by decide) rfl (fun ls hl => ?_)
  exact w_X0_isCalled_L2 K 1000 (0 : Int32) _ _ _ (lv_sub hl [1, 2, 0] rfl) hw _ h rfl
set_option maxHeartbeats 4000000 in
set_option maxRecDepth 100000 in
theorem b_X0_allKnown_L4 {l : Launch} {G : GP} {q : Nat → Nat} {k : Nat} {p : Program} {e : Env} {s : State} {m : MethodId} {args : Array Value} {below : List Frame} {meth : Method} {c : Code} {A : Nat → Prop} {g_callers : Int32} {g_kinds : Nat → Int32} {g_figures : Nat → Int32} {g_tones : Nat → Int32} {g_words : Nat → Int32} {g_hours : Nat → Int32} {g_order : Nat → Int32} {g_known : Nat → Int32} {g_tune : Int32} {g_hurt : Int32} {g_patience : Int32} {g_day : Int32} {g_answered : Int32} {g_unanswered : Int32} {g_said : Int32} {g_times : Nat → Int32} {g_last : Nat → Int32} {v1 : Int32} {v2 : Int32} {o : Int32} (K : Cx p s m args meth c A G cX0_allKnown 3 RX0 (some .int)) {H : Heap} {locs : List Loc} {ls : Array Slot} (hl : lv_has ls 3 [(0, .ref (q k)), (1, .int v1), (2, .int v2)]) (hw : Wx G A (gC G q k g_callers g_kinds g_figures g_tones g_words g_hours g_order g_known g_tune g_hurt g_patience g_day g_answered g_unanswered g_said g_times g_last) s H locs) {y : (Int32 × Int32) ⊕ (Int32)} (h : f_X0_allKnown_L4 g_known v1 v2 = some y) (hk4 : ∀ (b : Int32 × Int32) (H : Heap) (locs : List Loc) (ls : Array Slot), y = .inl b → lv_has ls 3 [(0, .ref (q k)), (1, .int b.1), (2, .int b.2)] → Wx G A (gC G q k g_callers g_kinds g_figures g_tones g_words g_hours g_order g_known g_tune g_hurt g_patience g_day g_answered g_unanswered g_said g_times g_last) s H locs → W p l e ({ frames := 0, cells := 0, slots := 0, locals := 0 } : Room) s m args below meth c H locs 0 0 (MQ below (QI G A (gC G q k g_callers g_kinds g_figures g_tones g_words g_hours g_order g_known g_tune g_hurt g_patience g_day g_answered g_unanswered g_said g_times g_last) o) args s 0 0 A) (F0 m 4 ls [])) (hx4 : ∀ (b : Int32) (H : Heap) (locs : List Loc) (ls : Array Slot), y = .inr b → lv_has ls 3 [(1, .int b)] → Wx G A (gC G q k g_callers g_kinds g_figures g_tones g_words g_hours g_order g_known g_tune g_hurt g_patience g_day g_answered g_unanswered g_said g_times g_last) s H locs → W p l e ({ frames := 0, cells := 0, slots := 0, locals := 0 } : Room) s m args below meth c H locs 0 0 (MQ below (QI G A (gC G q k g_callers g_kinds g_figures g_tones g_words g_hours g_order g_known g_tune g_hurt g_patience g_day g_answered g_unanswered g_said g_times g_last) o) args s 0 0 A) (F0 m 28 ls [])) : W p l e ({ frames := 0, cells := 0, slots := 0, locals := 0 } : Room) s m args below meth c H locs 0 0 (MQ below (QI G A (gC G q k g_callers g_kinds g_figures g_tones g_words g_hours g_order g_known g_tune g_hurt g_patience g_day g_answered g_unanswered g_said g_times g_last) o) args s 0 0 A) (F0 m 4 ls []) := by
  have hx := K.1.1
  have hb := K.1.2.1
  unfold f_X0_allKnown_L4 at h
  refine lv_iload_n hx hb dX0_allKnown_4 rfl (lv_at hl 2 rfl) ?_
  refine lv_aload_n hx hb dX0_allKnown_5 rfl (lv_at hl 0 rfl) ?_
  refine getX K hw inTX0 0 7 fl_X0_34 dX0_allKnown_6 rfl rfl (by decide) rfl rfl ?_
  refine lenX K hw 7 (8 : Int32) rfl dX0_allKnown_9 rfl ?_
  refine lv_icmp_ge (tgt := 28) hx hb dX0_allKnown_10 (by decide) (fun hc5 => ?_) (fun hc5 => ?_)
  · have h := ifp hc5 h
    exact hx4 v1 _ _ _ (Option.some.inj h).symm (lv_sub hl [1] rfl) hw
  · have h := ifn hc5 h
    refine lv_iload_n hx hb dX0_allKnown_13 rfl (lv_at hl 1 rfl) ?_
    refine lv_aload_n hx hb dX0_allKnown_14 rfl (lv_at hl 0 rfl) ?_
    refine getX K hw inTX0 0 7 fl_X0_34 dX0_allKnown_15 rfl rfl (by decide) rfl rfl ?_
    refine lv_iload_n hx hb dX0_allKnown_18 rfl (lv_at hl 2 rfl) ?_
    obtain ⟨hg6, h⟩ := gd h
    refine ialX K hw 7 (inB_in hg6) dX0_allKnown_19 rfl ?_
    refine lv_iadd hx hb dX0_allKnown_20 ?_
    refine lv_istore_n (lv' := [(1, .int (v1 + (g_known v2.toNatClampNeg))), (0, .ref (q k)), (2, .int v2)]) hx hb dX0_allKnown_21 rfl hl (by decide) rfl (fun ls hl => ?_)
    refine lv_iinc (v := (v2 + (1 : Int32))) (lv' := [(2, .int (v2 + (1 : Int32))), (1, .int (v1 + (g_known v2.toNatClampNeg))), (0, .ref (q k))]) hx hb dX0_allKnown_22 hl (k := 2) rfl rfl (by decide) rfl (fun ls hl => ?_)
    refine lv_goto (tgt := 4) hx hb dX0_allKnown_25 (by decide) ?_
    exact hk4 ((v1 + (g_known v2.toNatClampNeg)), (v2 + (1 : Int32))) _ _ _ (Option.some.inj h).symm (lv_sub hl [2, 1, 0] rfl) hw
set_option maxHeartbeats 4000000 in
set_option maxRecDepth 100000 in
theorem w_X0_allKnown_L4 {l : Launch} {G : GP} {q : Nat → Nat} {k : Nat} {p : Program} {e : Env} {s : State} {m : MethodId} {args : Array Value} {below : List Frame} {meth : Method} {c : Code} {A : Nat → Prop} {g_callers : Int32} {g_kinds : Nat → Int32} {g_figures : Nat → Int32} {g_tones : Nat → Int32} {g_words : Nat → Int32} {g_hours : Nat → Int32} {g_order : Nat → Int32} {g_known : Nat → Int32} {g_tune : Int32} {g_hurt : Int32} {g_patience : Int32} {g_day : Int32} {g_answered : Int32} {g_unanswered : Int32} {g_said : Int32} {g_times : Nat → Int32} {g_last : Nat → Int32} {o : Int32} (K : Cx p s m args meth c A G cX0_allKnown 3 RX0 (some .int)) : ∀ (fu : Nat) (v1 : Int32) (v2 : Int32) (H : Heap) (locs : List Loc) (ls : Array Slot), lv_has ls 3 [(0, .ref (q k)), (1, .int v1), (2, .int v2)] → Wx G A (gC G q k g_callers g_kinds g_figures g_tones g_words g_hours g_order g_known g_tune g_hurt g_patience g_day g_answered g_unanswered g_said g_times g_last) s H locs → ∀ (x : Int32), lp (fun z : Int32 × Int32 => f_X0_allKnown_L4 g_known (z.1) (z.2)) fu (v1, v2) = some x → (∀ (H : Heap) (locs : List Loc) (ls : Array Slot), lv_has ls 3 [(1, .int x)] → Wx G A (gC G q k g_callers g_kinds g_figures g_tones g_words g_hours g_order g_known g_tune g_hurt g_patience g_day g_answered g_unanswered g_said g_times g_last) s H locs → W p l e ({ frames := 0, cells := 0, slots := 0, locals := 0 } : Room) s m args below meth c H locs 0 0 (MQ below (QI G A (gC G q k g_callers g_kinds g_figures g_tones g_words g_hours g_order g_known g_tune g_hurt g_patience g_day g_answered g_unanswered g_said g_times g_last) o) args s 0 0 A) (F0 m 28 ls [])) → W p l e ({ frames := 0, cells := 0, slots := 0, locals := 0 } : Room) s m args below meth c H locs 0 0 (MQ below (QI G A (gC G q k g_callers g_kinds g_figures g_tones g_words g_hours g_order g_known g_tune g_hurt g_patience g_day g_answered g_unanswered g_said g_times g_last) o) args s 0 0 A) (F0 m 4 ls []) := by
  intro fu
  induction fu with
  | zero => intro v1 v2 H locs ls hl hw x h; exact absurd (show none = some x from h) (by simp)
  | succ fu ih =>
    intro v1 v2 H locs ls hl hw x h hx4
    obtain ⟨y, hy, hc⟩ := lp_s h
    exact b_X0_allKnown_L4 K hl hw hy (fun b H locs ls hE hl hw => ih b.1 b.2 H locs ls hl hw _ (lp_b hc hE) hx4) (fun b H locs ls hE hl hw => by
      have e9 := lp_x hc hE
      subst e9
      exact hx4 H locs ls hl hw)
set_option maxHeartbeats 4000000 in
set_option maxRecDepth 100000 in
theorem c_X0_allKnown (l : Launch) (G : GP) (q : Nat → Nat) (k : Nat) (g_callers : Int32) (g_kinds : Nat → Int32) (g_figures : Nat → Int32) (g_tones : Nat → Int32) (g_words : Nat → Int32) (g_hours : Nat → Int32) (g_order : Nat → Int32) (g_known : Nat → Int32) (g_tune : Int32) (g_hurt : Int32) (g_patience : Int32) (g_day : Int32) (g_answered : Int32) (g_unanswered : Int32) (g_said : Int32) (g_times : Nat → Int32) (g_last : Nat → Int32) {o : Int32} (h : f_X0_allKnown g_known = some o) : CtI l yX0_allKnown cX0_allKnown 3 (some .int) ({ frames := 0, cells := 0, slots := 0, locals := 0 } : Room) G (gC G q k g_callers g_kinds g_figures g_tones g_words g_hours g_order g_known g_tune g_hurt g_patience g_day g_answered g_unanswered g_said g_times g_last) [.ref (q k)] o (gC G q k g_callers g_kinds g_figures g_tones g_words g_hours g_order g_known g_tune g_hurt g_patience g_day g_answered g_unanswered g_said g_times g_last) := by
  refine CtI.of (by decide) (Nat.le_of_ble_eq_true rfl) ?_
  intro p e s m below meth c A ls K hl hw
  have hl : lv_has ls 3 [(0, .ref (q k))] := hl
  generalize ([.ref (q k)] : List Value).toArray = args at K ⊢
  have hx := K.1.1
  have hb := K.1.2.1
  unfold f_X0_allKnown at h
  refine lv_iconst (v := (0 : Int32)) hx hb dX0_allKnown_0 (by decide) ?_
  refine lv_istore_n (lv' := [(1, .int (0 : Int32)), (0, .ref (q k))]) hx hb dX0_allKnown_1 rfl hl (by decide) rfl (fun ls hl => ?_)
  refine lv_iconst (v := (0 : Int32)) hx hb dX0_allKnown_2 (by decide) ?_
  refine lv_istore_n (lv' := [(2, .int (0 : Int32)), (1, .int (0 : Int32)), (0, .ref (q k))]) hx hb dX0_allKnown_3 rfl hl (by decide) rfl (fun ls hl => ?_)
  obtain ⟨z7, hz7, h⟩ := bd h
  refine w_X0_allKnown_L4 K 1000 (0 : Int32) (0 : Int32) _ _ _ (lv_sub hl [2, 1, 0] rfl) hw _ hz7 (fun H locs ls hl hw => ?_)
  refine lv_iload_n hx hb dX0_allKnown_28 rfl (lv_at hl 0 rfl) ?_
  have h := Option.some.inj h
  subst h
  exact retI K hw rfl dX0_allKnown_29
set_option maxHeartbeats 4000000 in
set_option maxRecDepth 100000 in
theorem b_X0_bestBut_L8 {l : Launch} {G : GP} {q : Nat → Nat} {k : Nat} {p : Program} {e : Env} {s : State} {m : MethodId} {args : Array Value} {below : List Frame} {meth : Method} {c : Code} {A : Nat → Prop} {g_callers : Int32} {g_kinds : Nat → Int32} {g_figures : Nat → Int32} {g_tones : Nat → Int32} {g_words : Nat → Int32} {g_hours : Nat → Int32} {g_order : Nat → Int32} {g_known : Nat → Int32} {g_tune : Int32} {g_hurt : Int32} {g_patience : Int32} {g_day : Int32} {g_answered : Int32} {g_unanswered : Int32} {g_said : Int32} {g_times : Nat → Int32} {g_last : Nat → Int32} {v1 : Int32} {v2 : Int32} {v3 : Int32} {v4 : Int32} {o : Int32} (K : Cx p s m args meth c A G cX0_bestBut 5 RX0 (some .int)) {H : Heap} {locs : List Loc} {ls : Array Slot} (hl : lv_has ls 5 [(0, .ref (q k)), (1, .int v1), (2, .int v2), (3, .int v3), (4, .int v4)]) (hw : Wx G A (gC G q k g_callers g_kinds g_figures g_tones g_words g_hours g_order g_known g_tune g_hurt g_patience g_day g_answered g_unanswered g_said g_times g_last) s H locs) {y : (Int32 × Int32 × Int32) ⊕ (Int32)} (h : f_X0_bestBut_L8 v1 g_known v2 v3 v4 = some y) (hk8 : ∀ (b : Int32 × Int32 × Int32) (H : Heap) (locs : List Loc) (ls : Array Slot), y = .inl b → lv_has ls 5 [(0, .ref (q k)), (1, .int v1), (2, .int b.1), (3, .int b.2.1), (4, .int b.2.2)] → Wx G A (gC G q k g_callers g_kinds g_figures g_tones g_words g_hours g_order g_known g_tune g_hurt g_patience g_day g_answered g_unanswered g_said g_times g_last) s H locs → W p l e ({ frames := 0, cells := 0, slots := 0, locals := 0 } : Room) s m args below meth c H locs 0 0 (MQ below (QI G A (gC G q k g_callers g_kinds g_figures g_tones g_words g_hours g_order g_known g_tune g_hurt g_patience g_day g_answered g_unanswered g_said g_times g_last) o) args s 0 0 A) (F0 m 8 ls [])) (hx8 : ∀ (b : Int32) (H : Heap) (locs : List Loc) (ls : Array Slot), y = .inr b → lv_has ls 5 [(2, .int b)] → Wx G A (gC G q k g_callers g_kinds g_figures g_tones g_words g_hours g_order g_known g_tune g_hurt g_patience g_day g_answered g_unanswered g_said g_times g_last) s H locs → W p l e ({ frames := 0, cells := 0, slots := 0, locals := 0 } : Room) s m args below meth c H locs 0 0 (MQ below (QI G A (gC G q k g_callers g_kinds g_figures g_tones g_words g_hours g_order g_known g_tune g_hurt g_patience g_day g_answered g_unanswered g_said g_times g_last) o) args s 0 0 A) (F0 m 52 ls [])) : W p l e ({ frames := 0, cells := 0, slots := 0, locals := 0 } : Room) s m args below meth c H locs 0 0 (MQ below (QI G A (gC G q k g_callers g_kinds g_figures g_tones g_words g_hours g_order g_known g_tune g_hurt g_patience g_day g_answered g_unanswered g_said g_times g_last) o) args s 0 0 A) (F0 m 8 ls []) := by
  have hx := K.1.1
  have hb := K.1.2.1
  unfold f_X0_bestBut_L8 at h
  refine lv_iload hx hb dX0_bestBut_8 (lv_at hl 4 rfl) ?_
  refine lv_aload_n hx hb dX0_bestBut_10 rfl (lv_at hl 0 rfl) ?_
  refine getX K hw inTX0 0 7 fl_X0_34 dX0_bestBut_11 rfl rfl (by decide) rfl rfl ?_
  refine lenX K hw 7 (8 : Int32) rfl dX0_bestBut_14 rfl ?_
  refine lv_icmp_ge (tgt := 52) hx hb dX0_bestBut_15 (by decide) (fun hc8 => ?_) (fun hc8 => ?_)
  · have h := ifp hc8 h
    exact hx8 v2 _ _ _ (Option.some.inj h).symm (lv_sub hl [2] rfl) hw
  · have h := ifn hc8 h
    refine lv_iload hx hb dX0_bestBut_18 (lv_at hl 4 rfl) ?_
    refine lv_iload_n hx hb dX0_bestBut_20 rfl (lv_at hl 1 rfl) ?_
    refine lv_icmp_eq (tgt := 46) hx hb dX0_bestBut_21 (by decide) (fun hc9 => ?_) (fun hc9 => ?_)
    · have h := ifp hc9 h
      refine lv_iinc (v := (v4 + (1 : Int32))) (lv' := [(4, .int (v4 + (1 : Int32))), (0, .ref (q k)), (1, .int v1), (2, .int v2), (3, .int v3)]) hx hb dX0_bestBut_46 hl (k := 4) rfl rfl (by decide) rfl (fun ls hl => ?_)
      refine lv_goto (tgt := 8) hx hb dX0_bestBut_49 (by decide) ?_
      exact hk8 (v2, v3, (v4 + (1 : Int32))) _ _ _ (Option.some.inj h).symm (lv_sub hl [1, 2, 3, 4, 0] rfl) hw
    · have h := ifn hc9 h
      refine lv_aload_n hx hb dX0_bestBut_24 rfl (lv_at hl 0 rfl) ?_
      refine getX K hw inTX0 0 7 fl_X0_34 dX0_bestBut_25 rfl rfl (by decide) rfl rfl ?_
      refine lv_iload hx hb dX0_bestBut_28 (lv_at hl 4 rfl) ?_
      obtain ⟨hg10, h⟩ := gd h
      refine ialX K hw 7 (inB_in hg10) dX0_bestBut_30 rfl ?_
      refine lv_iload_n hx hb dX0_bestBut_31 rfl (lv_at hl 3 rfl) ?_
      refine lv_icmp_le (tgt := 46) hx hb dX0_bestBut_32 (by decide) (fun hc11 => ?_) (fun hc11 => ?_)
      · have h := ifp hc11 h
        refine lv_iinc (v := (v4 + (1 : Int32))) (lv' := [(4, .int (v4 + (1 : Int32))), (0, .ref (q k)), (1, .int v1), (2, .int v2), (3, .int v3)]) hx hb dX0_bestBut_46 hl (k := 4) rfl rfl (by decide) rfl (fun ls hl => ?_)
        refine lv_goto (tgt := 8) hx hb dX0_bestBut_49 (by decide) ?_
        exact hk8 (v2, v3, (v4 + (1 : Int32))) _ _ _ (Option.some.inj h).symm (lv_sub hl [1, 2, 3, 4, 0] rfl) hw
      · have h := ifn hc11 h
        refine lv_aload_n hx hb dX0_bestBut_35 rfl (lv_at hl 0 rfl) ?_
        refine getX K hw inTX0 0 7 fl_X0_34 dX0_bestBut_36 rfl rfl (by decide) rfl rfl ?_
        refine lv_iload hx hb dX0_bestBut_39 (lv_at hl 4 rfl) ?_
        obtain ⟨hg12, h⟩ := gd h
        refine ialX K hw 7 (inB_in hg12) dX0_bestBut_41 rfl ?_
        refine lv_istore_n (lv' := [(3, .int (g_known v4.toNatClampNeg)), (0, .ref (q k)), (1, .int v1), (2, .int v2), (4, .int v4)]) hx hb dX0_bestBut_42 rfl hl (by decide) rfl (fun ls hl => ?_)
        refine lv_iload hx hb dX0_bestBut_43 (lv_at hl 4 rfl) ?_
        refine lv_istore_n (lv' := [(2, .int v4), (3, .int (g_known v4.toNatClampNeg)), (0, .ref (q k)), (1, .int v1), (4, .int v4)]) hx hb dX0_bestBut_45 rfl hl (by decide) rfl (fun ls hl => ?_)
        refine lv_iinc (v := (v4 + (1 : Int32))) (lv' := [(4, .int (v4 + (1 : Int32))), (2, .int v4), (3, .int (g_known v4.toNatClampNeg)), (0, .ref (q k)), (1, .int v1)]) hx hb dX0_bestBut_46 hl (k := 4) rfl rfl (by decide) rfl (fun ls hl => ?_)
        refine lv_goto (tgt := 8) hx hb dX0_bestBut_49 (by decide) ?_
        exact hk8 (v4, (g_known v4.toNatClampNeg), (v4 + (1 : Int32))) _ _ _ (Option.some.inj h).symm (lv_sub hl [3, 4, 1, 2, 0] rfl) hw
set_option maxHeartbeats 4000000 in
set_option maxRecDepth 100000 in
theorem w_X0_bestBut_L8 {l : Launch} {G : GP} {q : Nat → Nat} {k : Nat} {p : Program} {e : Env} {s : State} {m : MethodId} {args : Array Value} {below : List Frame} {meth : Method} {c : Code} {A : Nat → Prop} {g_callers : Int32} {g_kinds : Nat → Int32} {g_figures : Nat → Int32} {g_tones : Nat → Int32} {g_words : Nat → Int32} {g_hours : Nat → Int32} {g_order : Nat → Int32} {g_known : Nat → Int32} {g_tune : Int32} {g_hurt : Int32} {g_patience : Int32} {g_day : Int32} {g_answered : Int32} {g_unanswered : Int32} {g_said : Int32} {g_times : Nat → Int32} {g_last : Nat → Int32} {v1 : Int32} {o : Int32} (K : Cx p s m args meth c A G cX0_bestBut 5 RX0 (some .int)) : ∀ (fu : Nat) (v2 : Int32) (v3 : Int32) (v4 : Int32) (H : Heap) (locs : List Loc) (ls : Array Slot), lv_has ls 5 [(0, .ref (q k)), (1, .int v1), (2, .int v2), (3, .int v3), (4, .int v4)] → Wx G A (gC G q k g_callers g_kinds g_figures g_tones g_words g_hours g_order g_known g_tune g_hurt g_patience g_day g_answered g_unanswered g_said g_times g_last) s H locs → ∀ (x : Int32), lp (fun z : Int32 × Int32 × Int32 => f_X0_bestBut_L8 v1 g_known (z.1) (z.2.1) (z.2.2)) fu (v2, v3, v4) = some x → (∀ (H : Heap) (locs : List Loc) (ls : Array Slot), lv_has ls 5 [(2, .int x)] → Wx G A (gC G q k g_callers g_kinds g_figures g_tones g_words g_hours g_order g_known g_tune g_hurt g_patience g_day g_answered g_unanswered g_said g_times g_last) s H locs → W p l e ({ frames := 0, cells := 0, slots := 0, locals := 0 } : Room) s m args below meth c H locs 0 0 (MQ below (QI G A (gC G q k g_callers g_kinds g_figures g_tones g_words g_hours g_order g_known g_tune g_hurt g_patience g_day g_answered g_unanswered g_said g_times g_last) o) args s 0 0 A) (F0 m 52 ls [])) → W p l e ({ frames := 0, cells := 0, slots := 0, locals := 0 } : Room) s m args below meth c H locs 0 0 (MQ below (QI G A (gC G q k g_callers g_kinds g_figures g_tones g_words g_hours g_order g_known g_tune g_hurt g_patience g_day g_answered g_unanswered g_said g_times g_last) o) args s 0 0 A) (F0 m 8 ls []) := by
  intro fu
  induction fu with
  | zero => intro v2 v3 v4 H locs ls hl hw x h; exact absurd (show none = some x from h) (by simp)
  | succ fu ih =>
    intro v2 v3 v4 H locs ls hl hw x h hx8
    obtain ⟨y, hy, hc⟩ := lp_s h
    exact b_X0_bestBut_L8 K hl hw hy (fun b H locs ls hE hl hw => ih b.1 b.2.1 b.2.2 H locs ls hl hw _ (lp_b hc hE) hx8) (fun b H locs ls hE hl hw => by
      have e9 := lp_x hc hE
      subst e9
      exact hx8 H locs ls hl hw)
set_option maxHeartbeats 4000000 in
set_option maxRecDepth 100000 in
theorem c_X0_bestBut (l : Launch) (G : GP) (q : Nat → Nat) (k : Nat) (g_callers : Int32) (g_kinds : Nat → Int32) (g_figures : Nat → Int32) (g_tones : Nat → Int32) (g_words : Nat → Int32) (g_hours : Nat → Int32) (g_order : Nat → Int32) (g_known : Nat → Int32) (g_tune : Int32) (g_hurt : Int32) (g_patience : Int32) (g_day : Int32) (g_answered : Int32) (g_unanswered : Int32) (g_said : Int32) (g_times : Nat → Int32) (g_last : Nat → Int32) (v1 : Int32) {o : Int32} (h : f_X0_bestBut g_known v1 = some o) : CtI l yX0_bestBut cX0_bestBut 5 (some .int) ({ frames := 0, cells := 0, slots := 0, locals := 0 } : Room) G (gC G q k g_callers g_kinds g_figures g_tones g_words g_hours g_order g_known g_tune g_hurt g_patience g_day g_answered g_unanswered g_said g_times g_last) [.ref (q k), .int v1] o (gC G q k g_callers g_kinds g_figures g_tones g_words g_hours g_order g_known g_tune g_hurt g_patience g_day g_answered g_unanswered g_said g_times g_last) := by
  refine CtI.of (by decide) (Nat.le_of_ble_eq_true rfl) ?_
  intro p e s m below meth c A ls K hl hw
  have hl : lv_has ls 5 [(0, .ref (q k)), (1, .int v1)] := hl
  generalize ([.ref (q k), .int v1] : List Value).toArray = args at K ⊢
  have hx := K.1.1
  have hb := K.1.2.1
  unfold f_X0_bestBut at h
  refine lv_bipush (v := (-9 : Int32)) hx hb dX0_bestBut_0 (by decide) ?_
  refine lv_istore_n (lv' := [(2, .int (-9 : Int32)), (0, .ref (q k)), (1, .int v1)]) hx hb dX0_bestBut_2 rfl hl (by decide) rfl (fun ls hl => ?_)
  refine lv_iconst (v := (0 : Int32)) hx hb dX0_bestBut_3 (by decide) ?_
  refine lv_istore_n (lv' := [(3, .int (0 : Int32)), (2, .int (-9 : Int32)), (0, .ref (q k)), (1, .int v1)]) hx hb dX0_bestBut_4 rfl hl (by decide) rfl (fun ls hl => ?_)
  refine lv_iconst (v := (0 : Int32)) hx hb dX0_bestBut_5 (by decide) ?_
  refine lv_istore (lv' := [(4, .int (0 : Int32)), (3, .int (0 : Int32)), (2, .int (-9 : Int32)), (0, .ref (q k)), (1, .int v1)]) hx hb dX0_bestBut_6 hl (by decide) rfl (fun ls hl => ?_)
  obtain ⟨z13, hz13, h⟩ := bd h
  refine w_X0_bestBut_L8 K 1000 (-9 : Int32) (0 : Int32) (0 : Int32) _ _ _ (lv_sub hl [3, 4, 2, 1, 0] rfl) hw _ hz13 (fun H locs ls hl hw => ?_)
  refine lv_iload_n hx hb dX0_bestBut_52 rfl (lv_at hl 0 rfl) ?_
  have h := Option.some.inj h
  subst h
  exact retI K hw rfl dX0_bestBut_53
set_option maxHeartbeats 4000000 in
set_option maxRecDepth 100000 in
theorem c_X0_wouldAnswer (l : Launch) (G : GP) (q : Nat → Nat) (k : Nat) (g_callers : Int32) (g_kinds : Nat → Int32) (g_figures : Nat → Int32) (g_tones : Nat → Int32) (g_words : Nat → Int32) (g_hours : Nat → Int32) (g_order : Nat → Int32) (g_known : Nat → Int32) (g_tune : Int32) (g_hurt : Int32) (g_patience : Int32) (g_day : Int32) (g_answered : Int32) (g_unanswered : Int32) (g_said : Int32) (g_times : Nat → Int32) (g_last : Nat → Int32) (v1 : Int32) {o : Int32} (h : f_X0_wouldAnswer g_kinds g_tones g_tune g_hurt g_patience v1 = o) : CtI l yX0_wouldAnswer cX0_wouldAnswer 3 (some .boolean) ({ frames := 1, cells := 0, slots := 0, locals := 21 } : Room) G (gC G q k g_callers g_kinds g_figures g_tones g_words g_hours g_order g_known g_tune g_hurt g_patience g_day g_answered g_unanswered g_said g_times g_last) [.ref (q k), .int v1] o (gC G q k g_callers g_kinds g_figures g_tones g_words g_hours g_order g_known g_tune g_hurt g_patience g_day g_answered g_unanswered g_said g_times g_last) := by
  refine CtI.of (by decide) (Nat.le_of_ble_eq_true rfl) ?_
  intro p e s m below meth c A ls K hl hw
  have hl : lv_has ls 3 [(0, .ref (q k)), (1, .int v1)] := hl
  generalize ([.ref (q k), .int v1] : List Value).toArray = args at K ⊢
  have hx := K.1.1
  have hb := K.1.2.1
  unfold f_X0_wouldAnswer at h
  refine lv_aload_n hx hb dX0_wouldAnswer_0 rfl (lv_at hl 0 rfl) ?_
  refine getX K hw inTX0 0 3 fl_X0_22 dX0_wouldAnswer_1 rfl rfl (by decide) rfl rfl ?_
  refine lv_iload_n hx hb dX0_wouldAnswer_4 rfl (lv_at hl 1 rfl) ?_
  refine callNI K (c_at l G (q (k + 3)) 7 g_tones v1 rfl) mt_yX3_at (List.mem_of_getElem? (i := 7) rfl) ⟨rfl, rfl, Nat.le_of_ble_eq_true rfl, Nat.le_of_ble_eq_true rfl⟩ hw dX0_wouldAnswer_5 hl.1 ⟨Nat.zero_le _, Nat.zero_le _⟩ (wa := ((gC G q k g_callers g_kinds g_figures g_tones g_words g_hours g_order g_known g_tune g_hurt g_patience g_day g_answered g_unanswered g_said g_times g_last).take 3)) (wb := ((gC G q k g_callers g_kinds g_figures g_tones g_words g_hours g_order g_known g_tune g_hurt g_patience g_day g_answered g_unanswered g_said g_times g_last).drop 4)) rfl (rest := []) rfl rfl (Nat.le_of_ble_eq_true rfl) (fun H locs hw => ?_)
  have hw : Wx G A (gC G q k g_callers g_kinds g_figures g_tones g_words g_hours g_order g_known g_tune g_hurt g_patience g_day g_answered g_unanswered g_said g_times g_last) s H locs := hw
  refine lv_aload_n hx hb dX0_wouldAnswer_8 rfl (lv_at hl 0 rfl) ?_
  refine getX K hw inTX0 0 8 fl_X0_37 dX0_wouldAnswer_9 rfl rfl (by decide) rfl rfl ?_
  refine lv_isub hx hb dX0_wouldAnswer_12 ?_
  refine va_mabs hx hb (K.1.2.2.1.trans hl.1.symm) K.1.2.2.2.1 (K.1.2.2.2.2 _ lk_X0_77) (K.1.2.2.2.2 _ st_Mathabs) (K.1.2.2.2.2 _ ini_J9) (K.1.2.2.2.2 _ cd_Mathabs) (Nat.le_of_ble_eq_true rfl) (Nat.le_of_ble_eq_true rfl) (Nat.zero_le _) (Nat.zero_le _) dX0_wouldAnswer_13 ?_
  refine lv_istore_n (lv' := [(2, .int (if 0 ≤ ((f_at 7 g_tones v1) - g_tune) then ((f_at 7 g_tones v1) - g_tune) else 0 - ((f_at 7 g_tones v1) - g_tune))), (0, .ref (q k)), (1, .int v1)]) hx hb dX0_wouldAnswer_16 rfl hl (by decide) rfl (fun ls hl => ?_)
  refine lv_aload_n hx hb dX0_wouldAnswer_17 rfl (lv_at hl 1 rfl) ?_
  refine callVI K (c_X0_isSilent l G q k g_callers g_kinds g_figures g_tones g_words g_hours g_order g_known g_tune g_hurt g_patience g_day g_answered g_unanswered g_said g_times g_last rfl) mt_yX0_isSilent lk_X0_83 ⟨rfl, rfl, Nat.le_of_ble_eq_true rfl, Nat.le_of_ble_eq_true rfl⟩ hw dX0_wouldAnswer_18 hl.1 ⟨Nat.zero_le _, Nat.zero_le _⟩ (wa := ((gC G q k g_callers g_kinds g_figures g_tones g_words g_hours g_order g_known g_tune g_hurt g_patience g_day g_answered g_unanswered g_said g_times g_last).take 0)) (wb := ((gC G q k g_callers g_kinds g_figures g_tones g_words g_hours g_order g_known g_tune g_hurt g_patience g_day g_answered g_unanswered g_said g_times g_last).drop 11)) rfl rfl rfl (rest := []) rfl rfl (Nat.le_of_ble_eq_true rfl) (fun H locs hw => ?_)
  have hw : Wx G A (gC G q k g_callers g_kinds g_figures g_tones g_words g_hours g_order g_known g_tune g_hurt g_patience g_day g_answered g_unanswered g_said g_times g_last) s H locs := hw
  refine lv_if_ne (tgt := 46) hx hb dX0_wouldAnswer_21 (by decide) (fun hc1 => ?_) (fun hc1 => ?_)
  · have h := ifn hc1 h
    refine lv_iconst (v := (0 : Int32)) hx hb dX0_wouldAnswer_46 (by decide) ?_
    subst h
    exact retZ K hw rfl rfl dX0_wouldAnswer_47
  · have h := ifp hc1 h
    refine lv_iload_n hx hb dX0_wouldAnswer_24 rfl (lv_at hl 0 rfl) ?_
    refine va_getsN hx hb (K.2.2.2.2.2.2.1 0 (by decide)).1 hw.2 K.1.2.2.2.1 (va_Nw.use rfl (K.2.2.2.2.1 _ (List.mem_of_getElem? (i := 0) rfl))) (fun _ h => h) dX0_wouldAnswer_25 ?_
    refine lv_aload_n hx hb dX0_wouldAnswer_28 rfl (lv_at hl 1 rfl) ?_
    refine getX K hw inTX0 0 1 fl_X0_15 dX0_wouldAnswer_29 rfl rfl (by decide) rfl rfl ?_
    refine lv_iload_n hx hb dX0_wouldAnswer_32 rfl (lv_at hl 2 rfl) ?_
    refine callNI K (c_at l G (q (k + 1)) 7 g_kinds v1 rfl) mt_yX3_at (List.mem_of_getElem? (i := 7) rfl) ⟨rfl, rfl, Nat.le_of_ble_eq_true rfl, Nat.le_of_ble_eq_true rfl⟩ hw dX0_wouldAnswer_33 hl.1 ⟨Nat.zero_le _, Nat.zero_le _⟩ (wa := ((gC G q k g_callers g_kinds g_figures g_tones g_words g_hours g_order g_known g_tune g_hurt g_patience g_day g_answered g_unanswered g_said g_times g_last).take 1)) (wb := ((gC G q k g_callers g_kinds g_figures g_tones g_words g_hours g_order g_known g_tune g_hurt g_patience g_day g_answered g_unanswered g_said g_times g_last).drop 2)) rfl (rest := [.ref (G.2.2.1 0), .int (if 0 ≤ ((f_at 7 g_tones v1) - g_tune) then ((f_at 7 g_tones v1) - g_tune) else 0 - ((f_at 7 g_tones v1) - g_tune))]) rfl rfl (Nat.le_of_ble_eq_true rfl) (fun H locs hw => ?_)
    have hw : Wx G A (gC G q k g_callers g_kinds g_figures g_tones g_words g_hours g_order g_known g_tune g_hurt g_patience g_day g_answered g_unanswered g_said g_times g_last) s H locs := hw
    refine callNI K (c_att l G 0 (f_at 7 g_kinds v1) rfl) mt_yX3_at (List.mem_of_getElem? (i := 7) rfl) ⟨rfl, rfl, Nat.le_of_ble_eq_true rfl, Nat.le_of_ble_eq_true rfl⟩ hw dX0_wouldAnswer_36 hl.1 ⟨Nat.zero_le _, Nat.zero_le _⟩ (wa := ((gC G q k g_callers g_kinds g_figures g_tones g_words g_hours g_order g_known g_tune g_hurt g_patience g_day g_answered g_unanswered g_said g_times g_last).take 0)) (wb := ((gC G q k g_callers g_kinds g_figures g_tones g_words g_hours g_order g_known g_tune g_hurt g_patience g_day g_answered g_unanswered g_said g_times g_last).drop 0)) rfl (rest := [.int (if 0 ≤ ((f_at 7 g_tones v1) - g_tune) then ((f_at 7 g_tones v1) - g_tune) else 0 - ((f_at 7 g_tones v1) - g_tune))]) rfl rfl (Nat.le_of_ble_eq_true rfl) (fun H locs hw => ?_)
    have hw : Wx G A (gC G q k g_callers g_kinds g_figures g_tones g_words g_hours g_order g_known g_tune g_hurt g_patience g_day g_answered g_unanswered g_said g_times g_last) s H locs := hw
    refine lv_icmp_gt (tgt := 46) hx hb dX0_wouldAnswer_39 (by decide) (fun hc2 => ?_) (fun hc2 => ?_)
    · have h := ifp hc2 h
      refine lv_iconst (v := (0 : Int32)) hx hb dX0_wouldAnswer_46 (by decide) ?_
      subst h
      exact retZ K hw rfl rfl dX0_wouldAnswer_47
    · have h := ifn hc2 h
      refine lv_iconst (v := (1 : Int32)) hx hb dX0_wouldAnswer_42 (by decide) ?_
      refine lv_goto (tgt := 47) hx hb dX0_wouldAnswer_43 (by decide) ?_
      subst h
      exact retZ K hw rfl rfl dX0_wouldAnswer_47
set_option maxHeartbeats 4000000 in
set_option maxRecDepth 100000 in
theorem w_X0_wordFor_J51 {l : Launch} {G : GP} {q : Nat → Nat} {k : Nat} {p : Program} {e : Env} {s : State} {m : MethodId} {args : Array Value} {below : List Frame} {meth : Method} {c : Code} {A : Nat → Prop} {g_callers : Int32} {g_kinds : Nat → Int32} {g_figures : Nat → Int32} {g_tones : Nat → Int32} {g_words : Nat → Int32} {g_hours : Nat → Int32} {g_order : Nat → Int32} {g_known : Nat → Int32} {g_tune : Int32} {g_hurt : Int32} {g_patience : Int32} {g_day : Int32} {g_answered : Int32} {g_unanswered : Int32} {g_said : Int32} {g_times : Nat → Int32} {g_last : Nat → Int32} {v2 : Int32} {s0 : Int32} {o : Int32} (K : Cx p s m args meth c A G cX0_wordFor 5 RX0 (some .int)) {H : Heap} {locs : List Loc} {ls : Array Slot} (hl : lv_has ls 5 [(2, .int v2)]) (hw : Wx G A (gC G q k g_callers g_kinds g_figures g_tones g_words g_hours g_order g_known g_tune g_hurt g_patience g_day g_answered g_unanswered g_said g_times g_last) s H locs) (h : f_X0_wordFor_J51 v2 s0 = some o)  : W p l e ({ frames := 1, cells := 0, slots := 0, locals := 24 } : Room) s m args below meth c H locs 0 0 (MQ below (QI G A (gC G q k g_callers g_kinds g_figures g_tones g_words g_hours g_order g_known g_tune g_hurt g_patience g_day g_answered g_unanswered g_said g_times g_last) o) args s 0 0 A) (F0 m 51 ls [.int s0]) := by
  have hx := K.1.1
  have hb := K.1.2.1
  unfold f_X0_wordFor_J51 at h
  refine lv_istore (lv' := [(4, .int s0), (2, .int v2)]) hx hb dX0_wordFor_51 hl (by decide) rfl (fun ls hl => ?_)
  refine lv_iload hx hb dX0_wordFor_53 (lv_at hl 0 rfl) ?_
  refine lv_bipush (v := (-9 : Int32)) hx hb dX0_wordFor_55 (by decide) ?_
  refine lv_icmp_ne (tgt := 64) hx hb dX0_wordFor_57 (by decide) (fun hc5 => ?_) (fun hc5 => ?_)
  · have h := ifn hc5 h
    refine lv_iload hx hb dX0_wordFor_64 (lv_at hl 0 rfl) ?_
    have h := Option.some.inj h
    subst h
    exact retI K hw rfl dX0_wordFor_66
  · have h := ifp hc5 h
    refine lv_iload_n hx hb dX0_wordFor_60 rfl (lv_at hl 1 rfl) ?_
    refine lv_goto (tgt := 66) hx hb dX0_wordFor_61 (by decide) ?_
    have h := Option.some.inj h
    subst h
    exact retI K hw rfl dX0_wordFor_66
set_option maxHeartbeats 4000000 in
set_option maxRecDepth 100000 in
theorem c_X0_wordFor (l : Launch) (G : GP) (q : Nat → Nat) (k : Nat) (g_callers : Int32) (g_kinds : Nat → Int32) (g_figures : Nat → Int32) (g_tones : Nat → Int32) (g_words : Nat → Int32) (g_hours : Nat → Int32) (g_order : Nat → Int32) (g_known : Nat → Int32) (g_tune : Int32) (g_hurt : Int32) (g_patience : Int32) (g_day : Int32) (g_answered : Int32) (g_unanswered : Int32) (g_said : Int32) (g_times : Nat → Int32) (g_last : Nat → Int32) (v1 : Int32) {o : Int32} (h : f_X0_wordFor g_kinds g_words g_known v1 = some o) : CtI l yX0_wordFor cX0_wordFor 5 (some .int) ({ frames := 1, cells := 0, slots := 0, locals := 24 } : Room) G (gC G q k g_callers g_kinds g_figures g_tones g_words g_hours g_order g_known g_tune g_hurt g_patience g_day g_answered g_unanswered g_said g_times g_last) [.ref (q k), .int v1] o (gC G q k g_callers g_kinds g_figures g_tones g_words g_hours g_order g_known g_tune g_hurt g_patience g_day g_answered g_unanswered g_said g_times g_last) := by
  refine CtI.of (by decide) (Nat.le_of_ble_eq_true rfl) ?_
  intro p e s m below meth c A ls K hl hw
  have hl : lv_has ls 5 [(0, .ref (q k)), (1, .int v1)] := hl
  generalize ([.ref (q k), .int v1] : List Value).toArray = args at K ⊢
  have hx := K.1.1
  have hb := K.1.2.1
  unfold f_X0_wordFor at h
  refine lv_aload_n hx hb dX0_wordFor_0 rfl (lv_at hl 0 rfl) ?_
  refine getX K hw inTX0 0 4 fl_X0_25 dX0_wordFor_1 rfl rfl (by decide) rfl rfl ?_
  refine lv_iload_n hx hb dX0_wordFor_4 rfl (lv_at hl 1 rfl) ?_
  refine callNI K (c_at l G (q (k + 4)) 7 g_words v1 rfl) mt_yX3_at (List.mem_of_getElem? (i := 7) rfl) ⟨rfl, rfl, Nat.le_of_ble_eq_true rfl, Nat.le_of_ble_eq_true rfl⟩ hw dX0_wordFor_5 hl.1 ⟨Nat.zero_le _, Nat.zero_le _⟩ (wa := ((gC G q k g_callers g_kinds g_figures g_tones g_words g_hours g_order g_known g_tune g_hurt g_patience g_day g_answered g_unanswered g_said g_times g_last).take 4)) (wb := ((gC G q k g_callers g_kinds g_figures g_tones g_words g_hours g_order g_known g_tune g_hurt g_patience g_day g_answered g_unanswered g_said g_times g_last).drop 5)) rfl (rest := []) rfl rfl (Nat.le_of_ble_eq_true rfl) (fun H locs hw => ?_)
  have hw : Wx G A (gC G q k g_callers g_kinds g_figures g_tones g_words g_hours g_order g_known g_tune g_hurt g_patience g_day g_answered g_unanswered g_said g_times g_last) s H locs := hw
  refine lv_istore_n (lv' := [(2, .int (f_at 7 g_words v1)), (0, .ref (q k)), (1, .int v1)]) hx hb dX0_wordFor_8 rfl hl (by decide) rfl (fun ls hl => ?_)
  refine va_getsN hx hb (K.2.2.2.2.2.2.1 4 (by decide)).1 hw.2 K.1.2.2.2.1 (va_Nw.use rfl (K.2.2.2.2.1 _ (List.mem_of_getElem? (i := 4) rfl))) (fun _ h => h) dX0_wordFor_9 ?_
  refine lv_aload_n hx hb dX0_wordFor_12 rfl (lv_at hl 1 rfl) ?_
  refine getX K hw inTX0 0 1 fl_X0_15 dX0_wordFor_13 rfl rfl (by decide) rfl rfl ?_
  refine lv_iload_n hx hb dX0_wordFor_16 rfl (lv_at hl 2 rfl) ?_
  refine callNI K (c_at l G (q (k + 1)) 7 g_kinds v1 rfl) mt_yX3_at (List.mem_of_getElem? (i := 7) rfl) ⟨rfl, rfl, Nat.le_of_ble_eq_true rfl, Nat.le_of_ble_eq_true rfl⟩ hw dX0_wordFor_17 hl.1 ⟨Nat.zero_le _, Nat.zero_le _⟩ (wa := ((gC G q k g_callers g_kinds g_figures g_tones g_words g_hours g_order g_known g_tune g_hurt g_patience g_day g_answered g_unanswered g_said g_times g_last).take 1)) (wb := ((gC G q k g_callers g_kinds g_figures g_tones g_words g_hours g_order g_known g_tune g_hurt g_patience g_day g_answered g_unanswered g_said g_times g_last).drop 2)) rfl (rest := [.ref (G.2.2.1 4)]) rfl rfl (Nat.le_of_ble_eq_true rfl) (fun H locs hw => ?_)
  have hw : Wx G A (gC G q k g_callers g_kinds g_figures g_tones g_words g_hours g_order g_known g_tune g_hurt g_patience g_day g_answered g_unanswered g_said g_times g_last) s H locs := hw
  refine callNI K (c_att l G 4 (f_at 7 g_kinds v1) rfl) mt_yX3_at (List.mem_of_getElem? (i := 7) rfl) ⟨rfl, rfl, Nat.le_of_ble_eq_true rfl, Nat.le_of_ble_eq_true rfl⟩ hw dX0_wordFor_20 hl.1 ⟨Nat.zero_le _, Nat.zero_le _⟩ (wa := ((gC G q k g_callers g_kinds g_figures g_tones g_words g_hours g_order g_known g_tune g_hurt g_patience g_day g_answered g_unanswered g_said g_times g_last).take 0)) (wb := ((gC G q k g_callers g_kinds g_figures g_tones g_words g_hours g_order g_known g_tune g_hurt g_patience g_day g_answered g_unanswered g_said g_times g_last).drop 0)) rfl (rest := []) rfl rfl (Nat.le_of_ble_eq_true rfl) (fun H locs hw => ?_)
  have hw : Wx G A (gC G q k g_callers g_kinds g_figures g_tones g_words g_hours g_order g_known g_tune g_hurt g_patience g_day g_answered g_unanswered g_said g_times g_last) s H locs := hw
  refine lv_istore_n (lv' := [(3, .int (f_at 6 (tv 4) (f_at 7 g_kinds v1))), (2, .int (f_at 7 g_words v1)), (0, .ref (q k)), (1, .int v1)]) hx hb dX0_wordFor_23 rfl hl (by decide) rfl (fun ls hl => ?_)
  refine lv_iload_n hx hb dX0_wordFor_24 rfl (lv_at hl 0 rfl) ?_
  refine lv_iconst (v := (2 : Int32)) hx hb dX0_wordFor_25 (by decide) ?_
  refine lv_icmp_ne (tgt := 36) hx hb dX0_wordFor_26 (by decide) (fun hc2 => ?_) (fun hc2 => ?_)
  · have h := ifn hc2 h
    refine lv_iload_n hx hb dX0_wordFor_36 rfl (lv_at hl 0 rfl) ?_
    refine lv_iconst (v := (1 : Int32)) hx hb dX0_wordFor_37 (by decide) ?_
    refine lv_icmp_ne (tgt := 46) hx hb dX0_wordFor_38 (by decide) (fun hc3 => ?_) (fun hc3 => ?_)
    · have h := ifn hc3 h
      refine lv_aload_n hx hb dX0_wordFor_46 rfl (lv_at hl 2 rfl) ?_
      refine lv_iload_n hx hb dX0_wordFor_47 rfl (lv_at hl 1 rfl) ?_
      obtain ⟨z4, hz4, h⟩ := bd h
      refine callVI K (c_X0_bestBut l G q k g_callers g_kinds g_figures g_tones g_words g_hours g_order g_known g_tune g_hurt g_patience g_day g_answered g_unanswered g_said g_times g_last (f_at 7 g_words v1) hz4) mt_yX0_bestBut lk_X0_100 ⟨rfl, rfl, Nat.le_of_ble_eq_true rfl, Nat.le_of_ble_eq_true rfl⟩ hw dX0_wordFor_48 hl.1 ⟨Nat.zero_le _, Nat.zero_le _⟩ (wa := ((gC G q k g_callers g_kinds g_figures g_tones g_words g_hours g_order g_known g_tune g_hurt g_patience g_day g_answered g_unanswered g_said g_times g_last).take 0)) (wb := ((gC G q k g_callers g_kinds g_figures g_tones g_words g_hours g_order g_known g_tune g_hurt g_patience g_day g_answered g_unanswered g_said g_times g_last).drop 11)) rfl rfl rfl (rest := []) rfl rfl (Nat.le_of_ble_eq_true rfl) (fun H locs hw => ?_)
      have hw : Wx G A (gC G q k g_callers g_kinds g_figures g_tones g_words g_hours g_order g_known g_tune g_hurt g_patience g_day g_answered g_unanswered g_said g_times g_last) s H locs := hw
      exact w_X0_wordFor_J51 K (lv_sub hl [1] rfl) hw h
    · have h := ifp hc3 h
      refine lv_bipush (v := (-9 : Int32)) hx hb dX0_wordFor_41 (by decide) ?_
      refine lv_goto (tgt := 51) hx hb dX0_wordFor_43 (by decide) ?_
      exact w_X0_wordFor_J51 K (lv_sub hl [1] rfl) hw h
  · have h := ifp hc2 h
    refine lv_iload_n hx hb dX0_wordFor_29 rfl (lv_at hl 1 rfl) ?_
    refine lv_iconst (v := (1 : Int32)) hx hb dX0_wordFor_30 (by decide) ?_
    refine lv_iadd hx hb dX0_wordFor_31 ?_
    refine lv_bipush (v := (8 : Int32)) hx hb dX0_wordFor_32 (by decide) ?_
    refine lv_irem hx hb dX0_wordFor_34 (by decide) ?_
    have h := Option.some.inj h
    subst h
    exact retI K hw rfl dX0_wordFor_35
set_option maxHeartbeats 4000000 in
set_option maxRecDepth 100000 in
theorem c_X0_wordOrNone (l : Launch) (G : GP) (q : Nat → Nat) (k : Nat) (g_callers : Int32) (g_kinds : Nat → Int32) (g_figures : Nat → Int32) (g_tones : Nat → Int32) (g_words : Nat → Int32) (g_hours : Nat → Int32) (g_order : Nat → Int32) (g_known : Nat → Int32) (g_tune : Int32) (g_hurt : Int32) (g_patience : Int32) (g_day : Int32) (g_answered : Int32) (g_unanswered : Int32) (g_said : Int32) (g_times : Nat → Int32) (g_last : Nat → Int32) (v1 : Int32) {o : Int32} (h : f_X0_wordOrNone g_kinds g_tones g_words g_known g_tune g_hurt g_patience v1 = some o) : CtI l yX0_wordOrNone cX0_wordOrNone 2 (some .int) ({ frames := 2, cells := 0, slots := 0, locals := 48 } : Room) G (gC G q k g_callers g_kinds g_figures g_tones g_words g_hours g_order g_known g_tune g_hurt g_patience g_day g_answered g_unanswered g_said g_times g_last) [.ref (q k), .int v1] o (gC G q k g_callers g_kinds g_figures g_tones g_words g_hours g_order g_known g_tune g_hurt g_patience g_day g_answered g_unanswered g_said g_times g_last) := by
  refine CtI.of (by decide) (Nat.le_of_ble_eq_true rfl) ?_
  intro p e s m below meth c A ls K hl hw
  have hl : lv_has ls 2 [(0, .ref (q k)), (1, .int v1)] := hl
  generalize ([.ref (q k), .int v1] : List Value).toArray = args at K ⊢
  have hx := K.1.1
  have hb := K.1.2.1
  unfold f_X0_wordOrNone at h
  refine lv_aload_n hx hb dX0_wordOrNone_0 rfl (lv_at hl 0 rfl) ?_
  refine lv_iload_n hx hb dX0_wordOrNone_1 rfl (lv_at hl 1 rfl) ?_
  refine callVI K (c_X0_wouldAnswer l G q k g_callers g_kinds g_figures g_tones g_words g_hours g_order g_known g_tune g_hurt g_patience g_day g_answered g_unanswered g_said g_times g_last v1 rfl) mt_yX0_wouldAnswer lk_X0_90 ⟨rfl, rfl, Nat.le_of_ble_eq_true rfl, Nat.le_of_ble_eq_true rfl⟩ hw dX0_wordOrNone_2 hl.1 ⟨Nat.zero_le _, Nat.zero_le _⟩ (wa := ((gC G q k g_callers g_kinds g_figures g_tones g_words g_hours g_order g_known g_tune g_hurt g_patience g_day g_answered g_unanswered g_said g_times g_last).take 0)) (wb := ((gC G q k g_callers g_kinds g_figures g_tones g_words g_hours g_order g_known g_tune g_hurt g_patience g_day g_answered g_unanswered g_said g_times g_last).drop 11)) rfl rfl rfl (rest := []) rfl rfl (Nat.le_of_ble_eq_true rfl) (fun H locs hw => ?_)
  have hw : Wx G A (gC G q k g_callers g_kinds g_figures g_tones g_words g_hours g_order g_known g_tune g_hurt g_patience g_day g_answered g_unanswered g_said g_times g_last) s H locs := hw
  refine lv_if_eq (tgt := 16) hx hb dX0_wordOrNone_5 (by decide) (fun hc2 => ?_) (fun hc2 => ?_)
  · have h := ifp hc2 h
    refine lv_bipush (v := (-9 : Int32)) hx hb dX0_wordOrNone_16 (by decide) ?_
    have h := Option.some.inj h
    subst h
    exact retI K hw rfl dX0_wordOrNone_18
  · have h := ifn hc2 h
    refine lv_aload_n hx hb dX0_wordOrNone_8 rfl (lv_at hl 0 rfl) ?_
    refine lv_iload_n hx hb dX0_wordOrNone_9 rfl (lv_at hl 1 rfl) ?_
    obtain ⟨z3, hz3, h⟩ := bd h
    refine callVI K (c_X0_wordFor l G q k g_callers g_kinds g_figures g_tones g_words g_hours g_order g_known g_tune g_hurt g_patience g_day g_answered g_unanswered g_said g_times g_last v1 hz3) mt_yX0_wordFor lk_X0_94 ⟨rfl, rfl, Nat.le_of_ble_eq_true rfl, Nat.le_of_ble_eq_true rfl⟩ hw dX0_wordOrNone_10 hl.1 ⟨Nat.zero_le _, Nat.zero_le _⟩ (wa := ((gC G q k g_callers g_kinds g_figures g_tones g_words g_hours g_order g_known g_tune g_hurt g_patience g_day g_answered g_unanswered g_said g_times g_last).take 0)) (wb := ((gC G q k g_callers g_kinds g_figures g_tones g_words g_hours g_order g_known g_tune g_hurt g_patience g_day g_answered g_unanswered g_said g_times g_last).drop 11)) rfl rfl rfl (rest := []) rfl rfl (Nat.le_of_ble_eq_true rfl) (fun H locs hw => ?_)
    have hw : Wx G A (gC G q k g_callers g_kinds g_figures g_tones g_words g_hours g_order g_known g_tune g_hurt g_patience g_day g_answered g_unanswered g_said g_times g_last) s H locs := hw
    refine lv_goto (tgt := 18) hx hb dX0_wordOrNone_13 (by decide) ?_
    have h := Option.some.inj h
    subst h
    exact retI K hw rfl dX0_wordOrNone_18
set_option maxHeartbeats 4000000 in
set_option maxRecDepth 100000 in
theorem c_X0_hurtBy (l : Launch) (G : GP) (q : Nat → Nat) (k : Nat) (g_callers : Int32) (g_kinds : Nat → Int32) (g_figures : Nat → Int32) (g_tones : Nat → Int32) (g_words : Nat → Int32) (g_hours : Nat → Int32) (g_order : Nat → Int32) (g_known : Nat → Int32) (g_tune : Int32) (g_hurt : Int32) (g_patience : Int32) (g_day : Int32) (g_answered : Int32) (g_unanswered : Int32) (g_said : Int32) (g_times : Nat → Int32) (g_last : Nat → Int32) (v1 : Int32) {o : Int32} (h : f_X0_hurtBy g_hurt v1 = o) : CtV l yX0_hurtBy cX0_hurtBy 2 ({ frames := 1, cells := 0, slots := 0, locals := 21 } : Room) G (gC G q k g_callers g_kinds g_figures g_tones g_words g_hours g_order g_known g_tune g_hurt g_patience g_day g_answered g_unanswered g_said g_times g_last) [.ref (q k), .int v1] (gC G q k g_callers g_kinds g_figures g_tones g_words g_hours g_order g_known g_tune o g_patience g_day g_answered g_unanswered g_said g_times g_last) := by
  refine CtV.of (by decide) (Nat.le_of_ble_eq_true rfl) ?_
  intro p e s m below meth c A ls K hl hw
  have hl : lv_has ls 2 [(0, .ref (q k)), (1, .int v1)] := hl
  generalize ([.ref (q k), .int v1] : List Value).toArray = args at K ⊢
  have hx := K.1.1
  have hb := K.1.2.1
  unfold f_X0_hurtBy at h
  refine lv_aload_n hx hb dX0_hurtBy_0 rfl (lv_at hl 0 rfl) ?_
  refine lv_iconst (v := (0 : Int32)) hx hb dX0_hurtBy_1 (by decide) ?_
  refine lv_bipush (v := (99 : Int32)) hx hb dX0_hurtBy_2 (by decide) ?_
  refine lv_aload_n hx hb dX0_hurtBy_4 rfl (lv_at hl 0 rfl) ?_
  refine getX K hw inTX0 0 9 fl_X0_40 dX0_hurtBy_5 rfl rfl (by decide) rfl rfl ?_
  refine lv_iload_n hx hb dX0_hurtBy_8 rfl (lv_at hl 1 rfl) ?_
  refine lv_iadd hx hb dX0_hurtBy_9 ?_
  refine va_mmin hx hb (K.1.2.2.1.trans hl.1.symm) K.1.2.2.2.1 (K.1.2.2.2.2 _ lk_X0_121) (K.1.2.2.2.2 _ st_Mathmin) (K.1.2.2.2.2 _ ini_J9) (K.1.2.2.2.2 _ cd_Mathmin) (Nat.le_of_ble_eq_true rfl) (Nat.le_of_ble_eq_true rfl) (Nat.zero_le _) (Nat.zero_le _) dX0_hurtBy_10 ?_
  refine va_mmax hx hb (K.1.2.2.1.trans hl.1.symm) K.1.2.2.2.1 (K.1.2.2.2.2 _ lk_X0_137) (K.1.2.2.2.2 _ st_Mathmax) (K.1.2.2.2.2 _ ini_J9) (K.1.2.2.2.2 _ cd_Mathmax) (Nat.le_of_ble_eq_true rfl) (Nat.le_of_ble_eq_true rfl) (Nat.zero_le _) (Nat.zero_le _) dX0_hurtBy_13 ?_
  refine putX K hw inTX0 tyX0_ok nmX0 0 9 fl_X0_40 dX0_hurtBy_16 rfl rfl (by decide) rfl rfl rfl rfl (Nat.le_of_ble_eq_true rfl) (fun H locs hw => ?_)
  have hw : Wx G A (gC G q k g_callers g_kinds g_figures g_tones g_words g_hours g_order g_known g_tune (if (0 : Int32) < (if (g_hurt + v1) < (99 : Int32) then (g_hurt + v1) else (99 : Int32)) then (if (g_hurt + v1) < (99 : Int32) then (g_hurt + v1) else (99 : Int32)) else (0 : Int32)) g_patience g_day g_answered g_unanswered g_said g_times g_last) s H locs := hw
  subst h
  exact retV K hw dX0_hurtBy_19
set_option maxHeartbeats 4000000 in
set_option maxRecDepth 100000 in
theorem c_X0_hearCall (l : Launch) (G : GP) (q : Nat → Nat) (k : Nat) (g_callers : Int32) (g_kinds : Nat → Int32) (g_figures : Nat → Int32) (g_tones : Nat → Int32) (g_words : Nat → Int32) (g_hours : Nat → Int32) (g_order : Nat → Int32) (g_known : Nat → Int32) (g_tune : Int32) (g_hurt : Int32) (g_patience : Int32) (g_day : Int32) (g_answered : Int32) (g_unanswered : Int32) (g_said : Int32) (g_times : Nat → Int32) (g_last : Nat → Int32) (v1 : Int32) {o : Int32 × (Nat → Int32) × Int32 × Int32 × Int32 × Int32 × (Nat → Int32) × (Nat → Int32)} (h : f_X0_hearCall g_kinds g_figures g_tones g_words g_known g_tune g_hurt g_patience g_answered g_unanswered g_said g_times g_last v1 = some o) : CtI l yX0_hearCall cX0_hearCall 5 (some .boolean) ({ frames := 2, cells := 0, slots := 0, locals := 48 } : Room) G (gC G q k g_callers g_kinds g_figures g_tones g_words g_hours g_order g_known g_tune g_hurt g_patience g_day g_answered g_unanswered g_said g_times g_last) [.ref (q k), .int v1] o.1 (gC G q k g_callers g_kinds g_figures g_tones g_words g_hours g_order o.2.1 g_tune o.2.2.1 g_patience g_day o.2.2.2.1 o.2.2.2.2.1 o.2.2.2.2.2.1 o.2.2.2.2.2.2.1 o.2.2.2.2.2.2.2) := by
  refine CtI.of (by decide) (Nat.le_of_ble_eq_true rfl) ?_
  intro p e s m below meth c A ls K hl hw
  have hl : lv_has ls 5 [(0, .ref (q k)), (1, .int v1)] := hl
  generalize ([.ref (q k), .int v1] : List Value).toArray = args at K ⊢
  have hx := K.1.1
  have hb := K.1.2.1
  unfold f_X0_hearCall at h
  refine lv_aload_n hx hb dX0_hearCall_0 rfl (lv_at hl 0 rfl) ?_
  refine getX K hw inTX0 0 1 fl_X0_15 dX0_hearCall_1 rfl rfl (by decide) rfl rfl ?_
  refine lv_iload_n hx hb dX0_hearCall_4 rfl (lv_at hl 1 rfl) ?_
  refine callNI K (c_at l G (q (k + 1)) 7 g_kinds v1 rfl) mt_yX3_at (List.mem_of_getElem? (i := 7) rfl) ⟨rfl, rfl, Nat.le_of_ble_eq_true rfl, Nat.le_of_ble_eq_true rfl⟩ hw dX0_hearCall_5 hl.1 ⟨Nat.zero_le _, Nat.zero_le _⟩ (wa := ((gC G q k g_callers g_kinds g_figures g_tones g_words g_hours g_order g_known g_tune g_hurt g_patience g_day g_answered g_unanswered g_said g_times g_last).take 1)) (wb := ((gC G q k g_callers g_kinds g_figures g_tones g_words g_hours g_order g_known g_tune g_hurt g_patience g_day g_answered g_unanswered g_said g_times g_last).drop 2)) rfl (rest := []) rfl rfl (Nat.le_of_ble_eq_true rfl) (fun H locs hw => ?_)
  have hw : Wx G A (gC G q k g_callers g_kinds g_figures g_tones g_words g_hours g_order g_known g_tune g_hurt g_patience g_day g_answered g_unanswered g_said g_times g_last) s H locs := hw
  refine lv_istore_n (lv' := [(2, .int (f_at 7 g_kinds v1)), (0, .ref (q k)), (1, .int v1)]) hx hb dX0_hearCall_8 rfl hl (by decide) rfl (fun ls hl => ?_)
  refine lv_aload_n hx hb dX0_hearCall_9 rfl (lv_at hl 1 rfl) ?_
  refine lv_iload_n hx hb dX0_hearCall_10 rfl (lv_at hl 2 rfl) ?_
  refine callVI K (c_X0_wouldAnswer l G q k g_callers g_kinds g_figures g_tones g_words g_hours g_order g_known g_tune g_hurt g_patience g_day g_answered g_unanswered g_said g_times g_last v1 rfl) mt_yX0_wouldAnswer lk_X0_90 ⟨rfl, rfl, Nat.le_of_ble_eq_true rfl, Nat.le_of_ble_eq_true rfl⟩ hw dX0_hearCall_11 hl.1 ⟨Nat.zero_le _, Nat.zero_le _⟩ (wa := ((gC G q k g_callers g_kinds g_figures g_tones g_words g_hours g_order g_known g_tune g_hurt g_patience g_day g_answered g_unanswered g_said g_times g_last).take 0)) (wb := ((gC G q k g_callers g_kinds g_figures g_tones g_words g_hours g_order g_known g_tune g_hurt g_patience g_day g_answered g_unanswered g_said g_times g_last).drop 11)) rfl rfl rfl (rest := []) rfl rfl (Nat.le_of_ble_eq_true rfl) (fun H locs hw => ?_)
  have hw : Wx G A (gC G q k g_callers g_kinds g_figures g_tones g_words g_hours g_order g_known g_tune g_hurt g_patience g_day g_answered g_unanswered g_said g_times g_last) s H locs := hw
  refine lv_istore_n (lv' := [(3, .int (f_X0_wouldAnswer g_kinds g_tones g_tune g_hurt g_patience v1)), (2, .int (f_at 7 g_kinds v1)), (0, .ref (q k)), (1, .int v1)]) hx hb dX0_hearCall_14 rfl hl (by decide) rfl (fun ls hl => ?_)
  refine lv_iload_n hx hb dX0_hearCall_15 rfl (lv_at hl 0 rfl) ?_
  refine lv_if_eq (tgt := 76) hx hb dX0_hearCall_16 (by decide) (fun hc2 => ?_) (fun hc2 => ?_)
  · have h := ifp hc2 h
    refine lv_aload_n hx hb dX0_hearCall_76 rfl (lv_at hl 2 rfl) ?_
    refine getX K hw inTX0 0 12 fl_X0_52 dX0_hearCall_77 rfl rfl (by decide) rfl rfl ?_
    refine lv_dup hx hb dX0_hearCall_80 rfl ?_
    refine getX K hw inTX1 8 1 fl_X0_125 dX0_hearCall_81 rfl rfl (by decide) rfl rfl ?_
    refine lv_iconst (v := (1 : Int32)) hx hb dX0_hearCall_84 (by decide) ?_
    refine lv_iadd hx hb dX0_hearCall_85 ?_
    refine putX K hw inTX1 tyX1_ok nmX1 8 1 fl_X0_125 dX0_hearCall_86 rfl rfl (by decide) rfl rfl rfl rfl (Nat.le_of_ble_eq_true rfl) (fun H locs hw => ?_)
    have hw : Wx G A (gC G q k g_callers g_kinds g_figures g_tones g_words g_hours g_order g_known g_tune g_hurt g_patience g_day g_answered (g_unanswered + (1 : Int32)) g_said g_times g_last) s H locs := hw
    refine lv_aload_n hx hb dX0_hearCall_89 rfl (lv_at hl 2 rfl) ?_
    refine va_getsN hx hb (K.2.2.2.2.2.2.1 2 (by decide)).1 hw.2 K.1.2.2.2.1 (va_Nw.use rfl (K.2.2.2.2.1 _ (List.mem_of_getElem? (i := 2) rfl))) (fun _ h => h) dX0_hearCall_90 ?_
    refine lv_iload_n hx hb dX0_hearCall_93 rfl (lv_at hl 1 rfl) ?_
    refine callNI K (c_att l G 2 (f_at 7 g_kinds v1) rfl) mt_yX3_at (List.mem_of_getElem? (i := 7) rfl) ⟨rfl, rfl, Nat.le_of_ble_eq_true rfl, Nat.le_of_ble_eq_true rfl⟩ hw dX0_hearCall_94 hl.1 ⟨Nat.zero_le _, Nat.zero_le _⟩ (wa := ((gC G q k g_callers g_kinds g_figures g_tones g_words g_hours g_order g_known g_tune g_hurt g_patience g_day g_answered (g_unanswered + (1 : Int32)) g_said g_times g_last).take 0)) (wb := ((gC G q k g_callers g_kinds g_figures g_tones g_words g_hours g_order g_known g_tune g_hurt g_patience g_day g_answered (g_unanswered + (1 : Int32)) g_said g_times g_last).drop 0)) rfl (rest := [.ref (q k)]) rfl rfl (Nat.le_of_ble_eq_true rfl) (fun H locs hw => ?_)
    have hw : Wx G A (gC G q k g_callers g_kinds g_figures g_tones g_words g_hours g_order g_known g_tune g_hurt g_patience g_day g_answered (g_unanswered + (1 : Int32)) g_said g_times g_last) s H locs := hw
    refine va_getsN hx hb (K.2.2.2.2.2.2.1 3 (by decide)).1 hw.2 K.1.2.2.2.1 (va_Nw.use rfl (K.2.2.2.2.1 _ (List.mem_of_getElem? (i := 3) rfl))) (fun _ h => h) dX0_hearCall_97 ?_
    refine lv_iload_n hx hb dX0_hearCall_100 rfl (lv_at hl 1 rfl) ?_
    refine callNI K (c_att l G 3 (f_at 7 g_kinds v1) rfl) mt_yX3_at (List.mem_of_getElem? (i := 7) rfl) ⟨rfl, rfl, Nat.le_of_ble_eq_true rfl, Nat.le_of_ble_eq_true rfl⟩ hw dX0_hearCall_101 hl.1 ⟨Nat.zero_le _, Nat.zero_le _⟩ (wa := ((gC G q k g_callers g_kinds g_figures g_tones g_words g_hours g_order g_known g_tune g_hurt g_patience g_day g_answered (g_unanswered + (1 : Int32)) g_said g_times g_last).take 0)) (wb := ((gC G q k g_callers g_kinds g_figures g_tones g_words g_hours g_order g_known g_tune g_hurt g_patience g_day g_answered (g_unanswered + (1 : Int32)) g_said g_times g_last).drop 0)) rfl (rest := [.int (f_at 6 (tv 2) (f_at 7 g_kinds v1)), .ref (q k)]) rfl rfl (Nat.le_of_ble_eq_true rfl) (fun H locs hw => ?_)
    have hw : Wx G A (gC G q k g_callers g_kinds g_figures g_tones g_words g_hours g_order g_known g_tune g_hurt g_patience g_day g_answered (g_unanswered + (1 : Int32)) g_said g_times g_last) s H locs := hw
    refine lv_aload_n hx hb dX0_hearCall_104 rfl (lv_at hl 2 rfl) ?_
    refine getX K hw inTX0 0 2 fl_X0_19 dX0_hearCall_105 rfl rfl (by decide) rfl rfl ?_
    refine lv_iload_n hx hb dX0_hearCall_108 rfl (lv_at hl 3 rfl) ?_
    refine callNI K (c_at l G (q (k + 2)) 7 g_figures v1 rfl) mt_yX3_at (List.mem_of_getElem? (i := 7) rfl) ⟨rfl, rfl, Nat.le_of_ble_eq_true rfl, Nat.le_of_ble_eq_true rfl⟩ hw dX0_hearCall_109 hl.1 ⟨Nat.zero_le _, Nat.zero_le _⟩ (wa := ((gC G q k g_callers g_kinds g_figures g_tones g_words g_hours g_order g_known g_tune g_hurt g_patience g_day g_answered (g_unanswered + (1 : Int32)) g_said g_times g_last).take 2)) (wb := ((gC G q k g_callers g_kinds g_figures g_tones g_words g_hours g_order g_known g_tune g_hurt g_patience g_day g_answered (g_unanswered + (1 : Int32)) g_said g_times g_last).drop 3)) rfl (rest := [.int (f_at 6 (tv 3) (f_at 7 g_kinds v1)), .int (f_at 6 (tv 2) (f_at 7 g_kinds v1)), .ref (q k)]) rfl rfl (Nat.le_of_ble_eq_true rfl) (fun H locs hw => ?_)
    have hw : Wx G A (gC G q k g_callers g_kinds g_figures g_tones g_words g_hours g_order g_known g_tune g_hurt g_patience g_day g_answered (g_unanswered + (1 : Int32)) g_said g_times g_last) s H locs := hw
    refine lv_imul hx hb dX0_hearCall_112 ?_
    refine lv_iadd hx hb dX0_hearCall_113 ?_
    refine callVV K (c_X0_hurtBy l G q k g_callers g_kinds g_figures g_tones g_words g_hours g_order g_known g_tune g_hurt g_patience g_day g_answered (g_unanswered + (1 : Int32)) g_said g_times g_last ((f_at 6 (tv 2) (f_at 7 g_kinds v1)) + ((f_at 6 (tv 3) (f_at 7 g_kinds v1)) * (f_at 7 g_figures v1))) rfl) mt_yX0_hurtBy lk_X0_134 ⟨rfl, rfl, Nat.le_of_ble_eq_true rfl, Nat.le_of_ble_eq_true rfl⟩ hw dX0_hearCall_114 hl.1 ⟨Nat.zero_le _, Nat.zero_le _⟩ (wa := ((gC G q k g_callers g_kinds g_figures g_tones g_words g_hours g_order g_known g_tune g_hurt g_patience g_day g_answered (g_unanswered + (1 : Int32)) g_said g_times g_last).take 0)) (wb := ((gC G q k g_callers g_kinds g_figures g_tones g_words g_hours g_order g_known g_tune g_hurt g_patience g_day g_answered (g_unanswered + (1 : Int32)) g_said g_times g_last).drop 11)) rfl rfl rfl (rest := []) rfl rfl (Nat.le_of_ble_eq_true rfl) (fun H locs hw => ?_)
    have hw : Wx G A (gC G q k g_callers g_kinds g_figures g_tones g_words g_hours g_order g_known g_tune (f_X0_hurtBy g_hurt ((f_at 6 (tv 2) (f_at 7 g_kinds v1)) + ((f_at 6 (tv 3) (f_at 7 g_kinds v1)) * (f_at 7 g_figures v1)))) g_patience g_day g_answered (g_unanswered + (1 : Int32)) g_said g_times g_last) s H locs := hw
    refine lv_iload_n hx hb dX0_hearCall_117 rfl (lv_at hl 0 rfl) ?_
    obtain ⟨hg3, h⟩ := gd h
    have h := Option.some.inj h
    subst h
    exact retZ K hw (isB_n hg3) rfl dX0_hearCall_118
  · have h := ifn hc2 h
    refine lv_aload_n hx hb dX0_hearCall_19 rfl (lv_at hl 2 rfl) ?_
    refine getX K hw inTX0 0 12 fl_X0_52 dX0_hearCall_20 rfl rfl (by decide) rfl rfl ?_
    refine lv_iload_n hx hb dX0_hearCall_23 rfl (lv_at hl 3 rfl) ?_
    refine lv_aload_n hx hb dX0_hearCall_24 rfl (lv_at hl 2 rfl) ?_
    refine lv_iload_n hx hb dX0_hearCall_25 rfl (lv_at hl 3 rfl) ?_
    obtain ⟨z4, hz4, h⟩ := bd h
    refine callVI K (c_X0_wordFor l G q k g_callers g_kinds g_figures g_tones g_words g_hours g_order g_known g_tune g_hurt g_patience g_day g_answered g_unanswered g_said g_times g_last v1 hz4) mt_yX0_wordFor lk_X0_94 ⟨rfl, rfl, Nat.le_of_ble_eq_true rfl, Nat.le_of_ble_eq_true rfl⟩ hw dX0_hearCall_26 hl.1 ⟨Nat.zero_le _, Nat.zero_le _⟩ (wa := ((gC G q k g_callers g_kinds g_figures g_tones g_words g_hours g_order g_known g_tune g_hurt g_patience g_day g_answered g_unanswered g_said g_times g_last).take 0)) (wb := ((gC G q k g_callers g_kinds g_figures g_tones g_words g_hours g_order g_known g_tune g_hurt g_patience g_day g_answered g_unanswered g_said g_times g_last).drop 11)) rfl rfl rfl (rest := [.int v1, .ref (q (k + 8))]) rfl rfl (Nat.le_of_ble_eq_true rfl) (fun H locs hw => ?_)
    have hw : Wx G A (gC G q k g_callers g_kinds g_figures g_tones g_words g_hours g_order g_known g_tune g_hurt g_patience g_day g_answered g_unanswered g_said g_times g_last) s H locs := hw
    refine callVV K (c_X1_noteAnswer l G q (k + 8) g_answered g_unanswered g_said g_times g_last v1 z4 rfl) mt_yX1_noteAnswer lk_X0_114 ⟨rfl, rfl, Nat.le_of_ble_eq_true rfl, Nat.le_of_ble_eq_true rfl⟩ hw dX0_hearCall_29 hl.1 ⟨Nat.zero_le _, Nat.zero_le _⟩ (wa := ((gC G q k g_callers g_kinds g_figures g_tones g_words g_hours g_order g_known g_tune g_hurt g_patience g_day g_answered g_unanswered g_said g_times g_last).take 8)) (wb := ((gC G q k g_callers g_kinds g_figures g_tones g_words g_hours g_order g_known g_tune g_hurt g_patience g_day g_answered g_unanswered g_said g_times g_last).drop 11)) rfl rfl rfl (rest := []) rfl rfl (Nat.le_of_ble_eq_true rfl) (fun H locs hw => ?_)
    have hw : Wx G A (gC G q k g_callers g_kinds g_figures g_tones g_words g_hours g_order g_known g_tune g_hurt g_patience g_day (f_X1_noteAnswer g_answered g_said g_times g_last v1 z4).1 g_unanswered (f_X1_noteAnswer g_answered g_said g_times g_last v1 z4).2.1 (f_X1_noteAnswer g_answered g_said g_times g_last v1 z4).2.2.1 (f_X1_noteAnswer g_answered g_said g_times g_last v1 z4).2.2.2) s H locs := hw
    refine lv_aload_n hx hb dX0_hearCall_32 rfl (lv_at hl 2 rfl) ?_
    refine getX K hw inTX0 0 4 fl_X0_25 dX0_hearCall_33 rfl rfl (by decide) rfl rfl ?_
    refine lv_iload_n hx hb dX0_hearCall_36 rfl (lv_at hl 3 rfl) ?_
    refine callNI K (c_at l G (q (k + 4)) 7 g_words v1 rfl) mt_yX3_at (List.mem_of_getElem? (i := 7) rfl) ⟨rfl, rfl, Nat.le_of_ble_eq_true rfl, Nat.le_of_ble_eq_true rfl⟩ hw dX0_hearCall_37 hl.1 ⟨Nat.zero_le _, Nat.zero_le _⟩ (wa := ((gC G q k g_callers g_kinds g_figures g_tones g_words g_hours g_order g_known g_tune g_hurt g_patience g_day (f_X1_noteAnswer g_answered g_said g_times g_last v1 z4).1 g_unanswered (f_X1_noteAnswer g_answered g_said g_times g_last v1 z4).2.1 (f_X1_noteAnswer g_answered g_said g_times g_last v1 z4).2.2.1 (f_X1_noteAnswer g_answered g_said g_times g_last v1 z4).2.2.2).take 4)) (wb := ((gC G q k g_callers g_kinds g_figures g_tones g_words g_hours g_order g_known g_tune g_hurt g_patience g_day (f_X1_noteAnswer g_answered g_said g_times g_last v1 z4).1 g_unanswered (f_X1_noteAnswer g_answered g_said g_times g_last v1 z4).2.1 (f_X1_noteAnswer g_answered g_said g_times g_last v1 z4).2.2.1 (f_X1_noteAnswer g_answered g_said g_times g_last v1 z4).2.2.2).drop 5)) rfl (rest := []) rfl rfl (Nat.le_of_ble_eq_true rfl) (fun H locs hw => ?_)
    have hw : Wx G A (gC G q k g_callers g_kinds g_figures g_tones g_words g_hours g_order g_known g_tune g_hurt g_patience g_day (f_X1_noteAnswer g_answered g_said g_times g_last v1 z4).1 g_unanswered (f_X1_noteAnswer g_answered g_said g_times g_last v1 z4).2.1 (f_X1_noteAnswer g_answered g_said g_times g_last v1 z4).2.2.1 (f_X1_noteAnswer g_answered g_said g_times g_last v1 z4).2.2.2) s H locs := hw
    refine lv_istore (lv' := [(4, .int (f_at 7 g_words v1)), (3, .int (f_X0_wouldAnswer g_kinds g_tones g_tune g_hurt g_patience v1)), (2, .int (f_at 7 g_kinds v1)), (0, .ref (q k)), (1, .int v1)]) hx hb dX0_hearCall_40 hl (by decide) rfl (fun ls hl => ?_)
    refine lv_aload_n hx hb dX0_hearCall_42 rfl (lv_at hl 3 rfl) ?_
    refine getX K hw inTX0 0 7 fl_X0_34 dX0_hearCall_43 rfl rfl (by decide) rfl rfl ?_
    refine lv_iload hx hb dX0_hearCall_46 (lv_at hl 0 rfl) ?_
    refine lv_bipush (v := (20 : Int32)) hx hb dX0_hearCall_48 (by decide) ?_
    refine lv_aload_n hx hb dX0_hearCall_50 rfl (lv_at hl 3 rfl) ?_
    refine getX K hw inTX0 0 7 fl_X0_34 dX0_hearCall_51 rfl rfl (by decide) rfl rfl ?_
    refine lv_iload hx hb dX0_hearCall_54 (lv_at hl 0 rfl) ?_
    refine callNI K (c_at l G (q (k + 7)) 8 g_known (f_at 7 g_words v1) rfl) mt_yX3_at (List.mem_of_getElem? (i := 7) rfl) ⟨rfl, rfl, Nat.le_of_ble_eq_true rfl, Nat.le_of_ble_eq_true rfl⟩ hw dX0_hearCall_56 hl.1 ⟨Nat.zero_le _, Nat.zero_le _⟩ (wa := ((gC G q k g_callers g_kinds g_figures g_tones g_words g_hours g_order g_known g_tune g_hurt g_patience g_day (f_X1_noteAnswer g_answered g_said g_times g_last v1 z4).1 g_unanswered (f_X1_noteAnswer g_answered g_said g_times g_last v1 z4).2.1 (f_X1_noteAnswer g_answered g_said g_times g_last v1 z4).2.2.1 (f_X1_noteAnswer g_answered g_said g_times g_last v1 z4).2.2.2).take 7)) (wb := ((gC G q k g_callers g_kinds g_figures g_tones g_words g_hours g_order g_known g_tune g_hurt g_patience g_day (f_X1_noteAnswer g_answered g_said g_times g_last v1 z4).1 g_unanswered (f_X1_noteAnswer g_answered g_said g_times g_last v1 z4).2.1 (f_X1_noteAnswer g_answered g_said g_times g_last v1 z4).2.2.1 (f_X1_noteAnswer g_answered g_said g_times g_last v1 z4).2.2.2).drop 8)) rfl (rest := [.int (20 : Int32), .int (f_at 7 g_words v1), .ref (q (k + 7))]) rfl rfl (Nat.le_of_ble_eq_true rfl) (fun H locs hw => ?_)
    have hw : Wx G A (gC G q k g_callers g_kinds g_figures g_tones g_words g_hours g_order g_known g_tune g_hurt g_patience g_day (f_X1_noteAnswer g_answered g_said g_times g_last v1 z4).1 g_unanswered (f_X1_noteAnswer g_answered g_said g_times g_last v1 z4).2.1 (f_X1_noteAnswer g_answered g_said g_times g_last v1 z4).2.2.1 (f_X1_noteAnswer g_answered g_said g_times g_last v1 z4).2.2.2) s H locs := hw
    refine va_getsN hx hb (K.2.2.2.2.2.2.1 1 (by decide)).1 hw.2 K.1.2.2.2.1 (va_Nw.use rfl (K.2.2.2.2.1 _ (List.mem_of_getElem? (i := 1) rfl))) (fun _ h => h) dX0_hearCall_59 ?_
    refine lv_iload_n hx hb dX0_hearCall_62 rfl (lv_at hl 2 rfl) ?_
    refine callNI K (c_att l G 1 (f_at 7 g_kinds v1) rfl) mt_yX3_at (List.mem_of_getElem? (i := 7) rfl) ⟨rfl, rfl, Nat.le_of_ble_eq_true rfl, Nat.le_of_ble_eq_true rfl⟩ hw dX0_hearCall_63 hl.1 ⟨Nat.zero_le _, Nat.zero_le _⟩ (wa := ((gC G q k g_callers g_kinds g_figures g_tones g_words g_hours g_order g_known g_tune g_hurt g_patience g_day (f_X1_noteAnswer g_answered g_said g_times g_last v1 z4).1 g_unanswered (f_X1_noteAnswer g_answered g_said g_times g_last v1 z4).2.1 (f_X1_noteAnswer g_answered g_said g_times g_last v1 z4).2.2.1 (f_X1_noteAnswer g_answered g_said g_times g_last v1 z4).2.2.2).take 0)) (wb := ((gC G q k g_callers g_kinds g_figures g_tones g_words g_hours g_order g_known g_tune g_hurt g_patience g_day (f_X1_noteAnswer g_answered g_said g_times g_last v1 z4).1 g_unanswered (f_X1_noteAnswer g_answered g_said g_times g_last v1 z4).2.1 (f_X1_noteAnswer g_answered g_said g_times g_last v1 z4).2.2.1 (f_X1_noteAnswer g_answered g_said g_times g_last v1 z4).2.2.2).drop 0)) rfl (rest := [.int (f_at 8 g_known (f_at 7 g_words v1)), .int (20 : Int32), .int (f_at 7 g_words v1), .ref (q (k + 7))]) rfl rfl (Nat.le_of_ble_eq_true rfl) (fun H locs hw => ?_)
    have hw : Wx G A (gC G q k g_callers g_kinds g_figures g_tones g_words g_hours g_order g_known g_tune g_hurt g_patience g_day (f_X1_noteAnswer g_answered g_said g_times g_last v1 z4).1 g_unanswered (f_X1_noteAnswer g_answered g_said g_times g_last v1 z4).2.1 (f_X1_noteAnswer g_answered g_said g_times g_last v1 z4).2.2.1 (f_X1_noteAnswer g_answered g_said g_times g_last v1 z4).2.2.2) s H locs := hw
    refine lv_iadd hx hb dX0_hearCall_66 ?_
    refine va_mmin hx hb (K.1.2.2.1.trans hl.1.symm) K.1.2.2.2.1 (K.1.2.2.2.2 _ lk_X0_121) (K.1.2.2.2.2 _ st_Mathmin) (K.1.2.2.2.2 _ ini_J9) (K.1.2.2.2.2 _ cd_Mathmin) (Nat.le_of_ble_eq_true rfl) (Nat.le_of_ble_eq_true rfl) (Nat.zero_le _) (Nat.zero_le _) dX0_hearCall_67 ?_
    refine callNV K (c_put l G (q (k + 7)) 8 g_known (f_at 7 g_words v1) (if ((f_at 8 g_known (f_at 7 g_words v1)) + (f_at 6 (tv 1) (f_at 7 g_kinds v1))) < (20 : Int32) then ((f_at 8 g_known (f_at 7 g_words v1)) + (f_at 6 (tv 1) (f_at 7 g_kinds v1))) else (20 : Int32)) rfl) mt_yX3_put (List.mem_of_getElem? (i := 6) rfl) ⟨rfl, rfl, Nat.le_of_ble_eq_true rfl, Nat.le_of_ble_eq_true rfl⟩ hw dX0_hearCall_70 hl.1 ⟨Nat.zero_le _, Nat.zero_le _⟩ (wa := ((gC G q k g_callers g_kinds g_figures g_tones g_words g_hours g_order g_known g_tune g_hurt g_patience g_day (f_X1_noteAnswer g_answered g_said g_times g_last v1 z4).1 g_unanswered (f_X1_noteAnswer g_answered g_said g_times g_last v1 z4).2.1 (f_X1_noteAnswer g_answered g_said g_times g_last v1 z4).2.2.1 (f_X1_noteAnswer g_answered g_said g_times g_last v1 z4).2.2.2).take 7)) (wb := ((gC G q k g_callers g_kinds g_figures g_tones g_words g_hours g_order g_known g_tune g_hurt g_patience g_day (f_X1_noteAnswer g_answered g_said g_times g_last v1 z4).1 g_unanswered (f_X1_noteAnswer g_answered g_said g_times g_last v1 z4).2.1 (f_X1_noteAnswer g_answered g_said g_times g_last v1 z4).2.2.1 (f_X1_noteAnswer g_answered g_said g_times g_last v1 z4).2.2.2).drop 8)) rfl (rest := []) rfl rfl (Nat.le_of_ble_eq_true rfl) (fun H locs hw => ?_)
    have hw : Wx G A (gC G q k g_callers g_kinds g_figures g_tones g_words g_hours g_order (f_put 8 g_known (f_at 7 g_words v1) (if ((f_at 8 g_known (f_at 7 g_words v1)) + (f_at 6 (tv 1) (f_at 7 g_kinds v1))) < (20 : Int32) then ((f_at 8 g_known (f_at 7 g_words v1)) + (f_at 6 (tv 1) (f_at 7 g_kinds v1))) else (20 : Int32))) g_tune g_hurt g_patience g_day (f_X1_noteAnswer g_answered g_said g_times g_last v1 z4).1 g_unanswered (f_X1_noteAnswer g_answered g_said g_times g_last v1 z4).2.1 (f_X1_noteAnswer g_answered g_said g_times g_last v1 z4).2.2.1 (f_X1_noteAnswer g_answered g_said g_times g_last v1 z4).2.2.2) s H locs := hw
    refine lv_goto (tgt := 117) hx hb dX0_hearCall_73 (by decide) ?_
    refine lv_iload_n hx hb dX0_hearCall_117 rfl (lv_at hl 1 rfl) ?_
    obtain ⟨hg5, h⟩ := gd h
    have h := Option.some.inj h
    subst h
    exact retZ K hw (isB_n hg5) rfl dX0_hearCall_118
set_option maxHeartbeats 4000000 in
set_option maxRecDepth 100000 in
theorem w_X0_endDay_J63 {l : Launch} {G : GP} {q : Nat → Nat} {k : Nat} {p : Program} {e : Env} {s : State} {m : MethodId} {args : Array Value} {below : List Frame} {meth : Method} {c : Code} {A : Nat → Prop} {g_callers : Int32} {g_kinds : Nat → Int32} {g_figures : Nat → Int32} {g_tones : Nat → Int32} {g_words : Nat → Int32} {g_hours : Nat → Int32} {g_order : Nat → Int32} {g_known : Nat → Int32} {g_tune : Int32} {g_hurt : Int32} {g_patience : Int32} {g_day : Int32} {g_answered : Int32} {g_unanswered : Int32} {g_said : Int32} {g_times : Nat → Int32} {g_last : Nat → Int32}  {o : (Nat → Int32) × Int32 × Int32} (K : Cx p s m args meth c A G cX0_endDay 4 RX0 none) {H : Heap} {locs : List Loc} {ls : Array Slot} (hl : lv_has ls 4 [(0, .ref (q k))]) (hw : Wx G A (gC G q k g_callers g_kinds g_figures g_tones g_words g_hours g_order g_known g_tune g_hurt g_patience g_day g_answered g_unanswered g_said g_times g_last) s H locs) (h : f_X0_endDay_J63 g_known g_hurt g_day = some o)  : W p l e ({ frames := 2, cells := 0, slots := 0, locals := 42 } : Room) s m args below meth c H locs 0 0 (MQ below (QV G A (gC G q k g_callers g_kinds g_figures g_tones g_words g_hours g_order o.1 g_tune o.2.1 g_patience o.2.2 g_answered g_unanswered g_said g_times g_last)) args s 0 0 A) (F0 m 63 ls []) := by
  have hx := K.1.1
  have hb := K.1.2.1
  unfold f_X0_endDay_J63 at h
  refine lv_aload_n hx hb dX0_endDay_63 rfl (lv_at hl 0 rfl) ?_
  refine lv_dup hx hb dX0_endDay_64 rfl ?_
  refine getX K hw inTX0 0 11 fl_X0_46 dX0_endDay_65 rfl rfl (by decide) rfl rfl ?_
  refine lv_iconst (v := (1 : Int32)) hx hb dX0_endDay_68 (by decide) ?_
  refine lv_iadd hx hb dX0_endDay_69 ?_
  refine putX K hw inTX0 tyX0_ok nmX0 0 11 fl_X0_46 dX0_endDay_70 rfl rfl (by decide) rfl rfl rfl rfl (Nat.le_of_ble_eq_true rfl) (fun H locs hw => ?_)
  have hw : Wx G A (gC G q k g_callers g_kinds g_figures g_tones g_words g_hours g_order g_known g_tune g_hurt g_patience (g_day + (1 : Int32)) g_answered g_unanswered g_said g_times g_last) s H locs := hw
  have h := Option.some.inj h
  subst h
  exact retV K hw dX0_endDay_73
set_option maxHeartbeats 4000000 in
set_option maxRecDepth 100000 in
theorem w_X0_endDay_J38 {l : Launch} {G : GP} {q : Nat → Nat} {k : Nat} {p : Program} {e : Env} {s : State} {m : MethodId} {args : Array Value} {below : List Frame} {meth : Method} {c : Code} {A : Nat → Prop} {g_callers : Int32} {g_kinds : Nat → Int32} {g_figures : Nat → Int32} {g_tones : Nat → Int32} {g_words : Nat → Int32} {g_hours : Nat → Int32} {g_order : Nat → Int32} {g_known : Nat → Int32} {g_tune : Int32} {g_hurt : Int32} {g_patience : Int32} {g_day : Int32} {g_answered : Int32} {g_unanswered : Int32} {g_said : Int32} {g_times : Nat → Int32} {g_last : Nat → Int32} {s0 : Int32} {o : (Nat → Int32) × Int32 × Int32} (K : Cx p s m args meth c A G cX0_endDay 4 RX0 none) {H : Heap} {locs : List Loc} {ls : Array Slot} (hl : lv_has ls 4 [(0, .ref (q k))]) (hw : Wx G A (gC G q k g_callers g_kinds g_figures g_tones g_words g_hours g_order g_known g_tune g_hurt g_patience g_day g_answered g_unanswered g_said g_times g_last) s H locs) (h : f_X0_endDay_J38 s0 g_known g_hurt g_day = some o)  : W p l e ({ frames := 2, cells := 0, slots := 0, locals := 42 } : Room) s m args below meth c H locs 0 0 (MQ below (QV G A (gC G q k g_callers g_kinds g_figures g_tones g_words g_hours g_order o.1 g_tune o.2.1 g_patience o.2.2 g_answered g_unanswered g_said g_times g_last)) args s 0 0 A) (F0 m 38 ls [.int s0]) := by
  have hx := K.1.1
  have hb := K.1.2.1
  unfold f_X0_endDay_J38 at h
  refine lv_istore_n (lv' := [(3, .int s0), (0, .ref (q k))]) hx hb dX0_endDay_38 rfl hl (by decide) rfl (fun ls hl => ?_)
  refine lv_iload_n hx hb dX0_endDay_39 rfl (lv_at hl 0 rfl) ?_
  refine lv_bipush (v := (-9 : Int32)) hx hb dX0_endDay_40 (by decide) ?_
  refine lv_icmp_eq (tgt := 63) hx hb dX0_endDay_42 (by decide) (fun hc8 => ?_) (fun hc8 => ?_)
  · have h := ifp hc8 h
    exact w_X0_endDay_J63 K (lv_sub hl [1] rfl) hw h
  · have h := ifn hc8 h
    refine lv_aload_n hx hb dX0_endDay_45 rfl (lv_at hl 1 rfl) ?_
    refine getX K hw inTX0 0 7 fl_X0_34 dX0_endDay_46 rfl rfl (by decide) rfl rfl ?_
    refine lv_iload_n hx hb dX0_endDay_49 rfl (lv_at hl 0 rfl) ?_
    refine lv_aload_n hx hb dX0_endDay_50 rfl (lv_at hl 1 rfl) ?_
    refine getX K hw inTX0 0 7 fl_X0_34 dX0_endDay_51 rfl rfl (by decide) rfl rfl ?_
    refine lv_iload_n hx hb dX0_endDay_54 rfl (lv_at hl 0 rfl) ?_
    refine callNI K (c_at l G (q (k + 7)) 8 g_known s0 rfl) mt_yX3_at (List.mem_of_getElem? (i := 7) rfl) ⟨rfl, rfl, Nat.le_of_ble_eq_true rfl, Nat.le_of_ble_eq_true rfl⟩ hw dX0_endDay_55 hl.1 ⟨Nat.zero_le _, Nat.zero_le _⟩ (wa := ((gC G q k g_callers g_kinds g_figures g_tones g_words g_hours g_order g_known g_tune g_hurt g_patience g_day g_answered g_unanswered g_said g_times g_last).take 7)) (wb := ((gC G q k g_callers g_kinds g_figures g_tones g_words g_hours g_order g_known g_tune g_hurt g_patience g_day g_answered g_unanswered g_said g_times g_last).drop 8)) rfl (rest := [.int s0, .ref (q (k + 7))]) rfl rfl (Nat.le_of_ble_eq_true rfl) (fun H locs hw => ?_)
    have hw : Wx G A (gC G q k g_callers g_kinds g_figures g_tones g_words g_hours g_order g_known g_tune g_hurt g_patience g_day g_answered g_unanswered g_said g_times g_last) s H locs := hw
    refine lv_iconst (v := (1 : Int32)) hx hb dX0_endDay_58 (by decide) ?_
    refine lv_isub hx hb dX0_endDay_59 ?_
    refine callNV K (c_put l G (q (k + 7)) 8 g_known s0 ((f_at 8 g_known s0) - (1 : Int32)) rfl) mt_yX3_put (List.mem_of_getElem? (i := 6) rfl) ⟨rfl, rfl, Nat.le_of_ble_eq_true rfl, Nat.le_of_ble_eq_true rfl⟩ hw dX0_endDay_60 hl.1 ⟨Nat.zero_le _, Nat.zero_le _⟩ (wa := ((gC G q k g_callers g_kinds g_figures g_tones g_words g_hours g_order g_known g_tune g_hurt g_patience g_day g_answered g_unanswered g_said g_times g_last).take 7)) (wb := ((gC G q k g_callers g_kinds g_figures g_tones g_words g_hours g_order g_known g_tune g_hurt g_patience g_day g_answered g_unanswered g_said g_times g_last).drop 8)) rfl (rest := []) rfl rfl (Nat.le_of_ble_eq_true rfl) (fun H locs hw => ?_)
    have hw : Wx G A (gC G q k g_callers g_kinds g_figures g_tones g_words g_hours g_order (f_put 8 g_known s0 ((f_at 8 g_known s0) - (1 : Int32))) g_tune g_hurt g_patience g_day g_answered g_unanswered g_said g_times g_last) s H locs := hw
    exact w_X0_endDay_J63 K (lv_sub hl [1] rfl) hw h
set_option maxHeartbeats 4000000 in
set_option maxRecDepth 100000 in
theorem w_X0_endDay_J18 {l : Launch} {G : GP} {q : Nat → Nat} {k : Nat} {p : Program} {e : Env} {s : State} {m : MethodId} {args : Array Value} {below : List Frame} {meth : Method} {c : Code} {A : Nat → Prop} {g_callers : Int32} {g_kinds : Nat → Int32} {g_figures : Nat → Int32} {g_tones : Nat → Int32} {g_words : Nat → Int32} {g_hours : Nat → Int32} {g_order : Nat → Int32} {g_known : Nat → Int32} {g_tune : Int32} {g_hurt : Int32} {g_patience : Int32} {g_day : Int32} {g_answered : Int32} {g_unanswered : Int32} {g_said : Int32} {g_times : Nat → Int32} {g_last : Nat → Int32}  {o : (Nat → Int32) × Int32 × Int32} (K : Cx p s m args meth c A G cX0_endDay 4 RX0 none) {H : Heap} {locs : List Loc} {ls : Array Slot} (hl : lv_has ls 4 [(0, .ref (q k))]) (hw : Wx G A (gC G q k g_callers g_kinds g_figures g_tones g_words g_hours g_order g_known g_tune g_hurt g_patience g_day g_answered g_unanswered g_said g_times g_last) s H locs) (h : f_X0_endDay_J18 g_known g_hurt g_day = some o)  : W p l e ({ frames := 2, cells := 0, slots := 0, locals := 42 } : Room) s m args below meth c H locs 0 0 (MQ below (QV G A (gC G q k g_callers g_kinds g_figures g_tones g_words g_hours g_order o.1 g_tune o.2.1 g_patience o.2.2 g_answered g_unanswered g_said g_times g_last)) args s 0 0 A) (F0 m 18 ls []) := by
  have hx := K.1.1
  have hb := K.1.2.1
  unfold f_X0_endDay_J18 at h
  refine lv_aload_n hx hb dX0_endDay_18 rfl (lv_at hl 0 rfl) ?_
  refine getX K hw inTX0 0 9 fl_X0_40 dX0_endDay_19 rfl rfl (by decide) rfl rfl ?_
  refine lv_bipush (v := (10 : Int32)) hx hb dX0_endDay_22 (by decide) ?_
  refine lv_icmp_lt (tgt := 36) hx hb dX0_endDay_24 (by decide) (fun hc7 => ?_) (fun hc7 => ?_)
  · have h := ifp hc7 h
    refine lv_bipush (v := (-9 : Int32)) hx hb dX0_endDay_36 (by decide) ?_
    exact w_X0_endDay_J38 K (lv_sub hl [0] rfl) hw h
  · have h := ifn hc7 h
    refine lv_aload_n hx hb dX0_endDay_27 rfl (lv_at hl 0 rfl) ?_
    refine lv_bipush (v := (-9 : Int32)) hx hb dX0_endDay_28 (by decide) ?_
    obtain ⟨z9, hz9, h⟩ := bd h
    refine callVI K (c_X0_bestBut l G q k g_callers g_kinds g_figures g_tones g_words g_hours g_order g_known g_tune g_hurt g_patience g_day g_answered g_unanswered g_said g_times g_last (-9 : Int32) hz9) mt_yX0_bestBut lk_X0_100 ⟨rfl, rfl, Nat.le_of_ble_eq_true rfl, Nat.le_of_ble_eq_true rfl⟩ hw dX0_endDay_30 hl.1 ⟨Nat.zero_le _, Nat.zero_le _⟩ (wa := ((gC G q k g_callers g_kinds g_figures g_tones g_words g_hours g_order g_known g_tune g_hurt g_patience g_day g_answered g_unanswered g_said g_times g_last).take 0)) (wb := ((gC G q k g_callers g_kinds g_figures g_tones g_words g_hours g_order g_known g_tune g_hurt g_patience g_day g_answered g_unanswered g_said g_times g_last).drop 11)) rfl rfl rfl (rest := []) rfl rfl (Nat.le_of_ble_eq_true rfl) (fun H locs hw => ?_)
    have hw : Wx G A (gC G q k g_callers g_kinds g_figures g_tones g_words g_hours g_order g_known g_tune g_hurt g_patience g_day g_answered g_unanswered g_said g_times g_last) s H locs := hw
    refine lv_goto (tgt := 38) hx hb dX0_endDay_33 (by decide) ?_
    exact w_X0_endDay_J38 K (lv_sub hl [0] rfl) hw h
set_option maxHeartbeats 4000000 in
set_option maxRecDepth 100000 in
theorem w_X0_endDay_J9 {l : Launch} {G : GP} {q : Nat → Nat} {k : Nat} {p : Program} {e : Env} {s : State} {m : MethodId} {args : Array Value} {below : List Frame} {meth : Method} {c : Code} {A : Nat → Prop} {g_callers : Int32} {g_kinds : Nat → Int32} {g_figures : Nat → Int32} {g_tones : Nat → Int32} {g_words : Nat → Int32} {g_hours : Nat → Int32} {g_order : Nat → Int32} {g_known : Nat → Int32} {g_tune : Int32} {g_hurt : Int32} {g_patience : Int32} {g_day : Int32} {g_answered : Int32} {g_unanswered : Int32} {g_said : Int32} {g_times : Nat → Int32} {g_last : Nat → Int32} {v2 : Int32} {o : (Nat → Int32) × Int32 × Int32} (K : Cx p s m args meth c A G cX0_endDay 4 RX0 none) {H : Heap} {locs : List Loc} {ls : Array Slot} (hl : lv_has ls 4 [(0, .ref (q k)), (2, .int v2)]) (hw : Wx G A (gC G q k g_callers g_kinds g_figures g_tones g_words g_hours g_order g_known g_tune g_hurt g_patience g_day g_answered g_unanswered g_said g_times g_last) s H locs) (h : f_X0_endDay_J9 v2 g_known g_hurt g_day = some o)  : W p l e ({ frames := 2, cells := 0, slots := 0, locals := 42 } : Room) s m args below meth c H locs 0 0 (MQ below (QV G A (gC G q k g_callers g_kinds g_figures g_tones g_words g_hours g_order o.1 g_tune o.2.1 g_patience o.2.2 g_answered g_unanswered g_said g_times g_last)) args s 0 0 A) (F0 m 9 ls []) := by
  have hx := K.1.1
  have hb := K.1.2.1
  unfold f_X0_endDay_J9 at h
  refine lv_iload_n hx hb dX0_endDay_9 rfl (lv_at hl 1 rfl) ?_
  refine lv_if_eq (tgt := 18) hx hb dX0_endDay_10 (by decide) (fun hc6 => ?_) (fun hc6 => ?_)
  · have h := ifp hc6 h
    exact w_X0_endDay_J18 K (lv_sub hl [0] rfl) hw h
  · have h := ifn hc6 h
    refine lv_aload_n hx hb dX0_endDay_13 rfl (lv_at hl 0 rfl) ?_
    refine lv_iconst (v := (-1 : Int32)) hx hb dX0_endDay_14 (by decide) ?_
    refine callVV K (c_X0_hurtBy l G q k g_callers g_kinds g_figures g_tones g_words g_hours g_order g_known g_tune g_hurt g_patience g_day g_answered g_unanswered g_said g_times g_last (-1 : Int32) rfl) mt_yX0_hurtBy lk_X0_134 ⟨rfl, rfl, Nat.le_of_ble_eq_true rfl, Nat.le_of_ble_eq_true rfl⟩ hw dX0_endDay_15 hl.1 ⟨Nat.zero_le _, Nat.zero_le _⟩ (wa := ((gC G q k g_callers g_kinds g_figures g_tones g_words g_hours g_order g_known g_tune g_hurt g_patience g_day g_answered g_unanswered g_said g_times g_last).take 0)) (wb := ((gC G q k g_callers g_kinds g_figures g_tones g_words g_hours g_order g_known g_tune g_hurt g_patience g_day g_answered g_unanswered g_said g_times g_last).drop 11)) rfl rfl rfl (rest := []) rfl rfl (Nat.le_of_ble_eq_true rfl) (fun H locs hw => ?_)
    have hw : Wx G A (gC G q k g_callers g_kinds g_figures g_tones g_words g_hours g_order g_known g_tune (f_X0_hurtBy g_hurt (-1 : Int32)) g_patience g_day g_answered g_unanswered g_said g_times g_last) s H locs := hw
    exact w_X0_endDay_J18 K (lv_sub hl [0] rfl) hw h
set_option maxHeartbeats 4000000 in
set_option maxRecDepth 100000 in
theorem c_X0_endDay (l : Launch) (G : GP) (q : Nat → Nat) (k : Nat) (g_callers : Int32) (g_kinds : Nat → Int32) (g_figures : Nat → Int32) (g_tones : Nat → Int32) (g_words : Nat → Int32) (g_hours : Nat → Int32) (g_order : Nat → Int32) (g_known : Nat → Int32) (g_tune : Int32) (g_hurt : Int32) (g_patience : Int32) (g_day : Int32) (g_answered : Int32) (g_unanswered : Int32) (g_said : Int32) (g_times : Nat → Int32) (g_last : Nat → Int32) (v1 : Int32) (v2 : Int32) {o : (Nat → Int32) × Int32 × Int32} (h : f_X0_endDay g_known g_hurt g_day v1 v2 = some o) : CtV l yX0_endDay cX0_endDay 4 ({ frames := 2, cells := 0, slots := 0, locals := 42 } : Room) G (gC G q k g_callers g_kinds g_figures g_tones g_words g_hours g_order g_known g_tune g_hurt g_patience g_day g_answered g_unanswered g_said g_times g_last) [.ref (q k), .int v1, .int v2] (gC G q k g_callers g_kinds g_figures g_tones g_words g_hours g_order o.1 g_tune o.2.1 g_patience o.2.2 g_answered g_unanswered g_said g_times g_last) := by
  refine CtV.of (by decide) (Nat.le_of_ble_eq_true rfl) ?_
  intro p e s m below meth c A ls K hl hw
  have hl : lv_has ls 4 [(0, .ref (q k)), (1, .int v1), (2, .int v2)] := hl
  generalize ([.ref (q k), .int v1, .int v2] : List Value).toArray = args at K ⊢
  have hx := K.1.1
  have hb := K.1.2.1
  unfold f_X0_endDay at h
  refine lv_iload_n hx hb dX0_endDay_0 rfl (lv_at hl 1 rfl) ?_
  refine lv_if_ne (tgt := 9) hx hb dX0_endDay_1 (by decide) (fun hc5 => ?_) (fun hc5 => ?_)
  · have h := ifn hc5 h
    exact w_X0_endDay_J9 K (lv_sub hl [0, 2] rfl) hw h
  · have h := ifp hc5 h
    refine lv_aload_n hx hb dX0_endDay_4 rfl (lv_at hl 0 rfl) ?_
    refine lv_iconst (v := (1 : Int32)) hx hb dX0_endDay_5 (by decide) ?_
    refine callVV K (c_X0_hurtBy l G q k g_callers g_kinds g_figures g_tones g_words g_hours g_order g_known g_tune g_hurt g_patience g_day g_answered g_unanswered g_said g_times g_last (1 : Int32) rfl) mt_yX0_hurtBy lk_X0_134 ⟨rfl, rfl, Nat.le_of_ble_eq_true rfl, Nat.le_of_ble_eq_true rfl⟩ hw dX0_endDay_6 hl.1 ⟨Nat.zero_le _, Nat.zero_le _⟩ (wa := ((gC G q k g_callers g_kinds g_figures g_tones g_words g_hours g_order g_known g_tune g_hurt g_patience g_day g_answered g_unanswered g_said g_times g_last).take 0)) (wb := ((gC G q k g_callers g_kinds g_figures g_tones g_words g_hours g_order g_known g_tune g_hurt g_patience g_day g_answered g_unanswered g_said g_times g_last).drop 11)) rfl rfl rfl (rest := []) rfl rfl (Nat.le_of_ble_eq_true rfl) (fun H locs hw => ?_)
    have hw : Wx G A (gC G q k g_callers g_kinds g_figures g_tones g_words g_hours g_order g_known g_tune (f_X0_hurtBy g_hurt (1 : Int32)) g_patience g_day g_answered g_unanswered g_said g_times g_last) s H locs := hw
    exact w_X0_endDay_J9 K (lv_sub hl [0, 2] rfl) hw h
set_option maxHeartbeats 4000000 in
set_option maxRecDepth 100000 in
theorem b_X0_passDay_L7 {l : Launch} {G : GP} {q : Nat → Nat} {k : Nat} {p : Program} {e : Env} {s : State} {m : MethodId} {args : Array Value} {below : List Frame} {meth : Method} {c : Code} {A : Nat → Prop} {g_callers : Int32} {g_kinds : Nat → Int32} {g_figures : Nat → Int32} {g_tones : Nat → Int32} {g_words : Nat → Int32} {g_hours : Nat → Int32} {g_order : Nat → Int32} {g_known : Nat → Int32} {g_tune : Int32} {g_hurt : Int32} {g_patience : Int32} {g_day : Int32} {g_answered : Int32} {g_unanswered : Int32} {g_said : Int32} {g_times : Nat → Int32} {g_last : Nat → Int32} {v1 : Int32} {v2 : Int32} {v3 : Int32} {v4 : Int32} {o : (Nat → Int32) × Int32 × Int32 × Int32 × Int32 × Int32 × (Nat → Int32) × (Nat → Int32)} (K : Cx p s m args meth c A G cX0_passDay 7 RX0 none) {H : Heap} {locs : List Loc} {ls : Array Slot} (hl : lv_has ls 7 [(0, .ref (q k)), (1, .int v1), (2, .int v2), (3, .int v3), (4, .int v4)]) (hw : Wx G A (gC G q k g_callers g_kinds g_figures g_tones g_words g_hours g_order g_known g_tune g_hurt g_patience g_day g_answered g_unanswered g_said g_times g_last) s H locs) {y : (Int32 × Int32 × Int32 × (Nat → Int32) × Int32 × Int32 × Int32 × Int32 × (Nat → Int32) × (Nat → Int32)) ⊕ (Int32 × Int32 × (Nat → Int32) × Int32 × Int32 × Int32 × Int32 × (Nat → Int32) × (Nat → Int32))} (h : f_X0_passDay_L7 v1 g_callers g_kinds g_figures g_tones g_words g_hours g_order g_tune g_patience v2 v3 v4 g_known g_hurt g_answered g_unanswered g_said g_times g_last = some y) (hk7 : ∀ (b : Int32 × Int32 × Int32 × (Nat → Int32) × Int32 × Int32 × Int32 × Int32 × (Nat → Int32) × (Nat → Int32)) (H : Heap) (locs : List Loc) (ls : Array Slot), y = .inl b → lv_has ls 7 [(0, .ref (q k)), (1, .int v1), (2, .int b.1), (3, .int b.2.1), (4, .int b.2.2.1)] → Wx G A (gC G q k g_callers g_kinds g_figures g_tones g_words g_hours g_order b.2.2.2.1 g_tune b.2.2.2.2.1 g_patience g_day b.2.2.2.2.2.1 b.2.2.2.2.2.2.1 b.2.2.2.2.2.2.2.1 b.2.2.2.2.2.2.2.2.1 b.2.2.2.2.2.2.2.2.2) s H locs → W p l e ({ frames := 3, cells := 0, slots := 0, locals := 72 } : Room) s m args below meth c H locs 0 0 (MQ below (QV G A (gC G q k g_callers g_kinds g_figures g_tones g_words g_hours g_order o.1 g_tune o.2.1 g_patience o.2.2.1 o.2.2.2.1 o.2.2.2.2.1 o.2.2.2.2.2.1 o.2.2.2.2.2.2.1 o.2.2.2.2.2.2.2)) args s 0 0 A) (F0 m 7 ls [])) (hx7 : ∀ (b : Int32 × Int32 × (Nat → Int32) × Int32 × Int32 × Int32 × Int32 × (Nat → Int32) × (Nat → Int32)) (H : Heap) (locs : List Loc) (ls : Array Slot), y = .inr b → lv_has ls 7 [(0, .ref (q k)), (2, .int b.1), (3, .int b.2.1)] → Wx G A (gC G q k g_callers g_kinds g_figures g_tones g_words g_hours g_order b.2.2.1 g_tune b.2.2.2.1 g_patience g_day b.2.2.2.2.1 b.2.2.2.2.2.1 b.2.2.2.2.2.2.1 b.2.2.2.2.2.2.2.1 b.2.2.2.2.2.2.2.2) s H locs → W p l e ({ frames := 3, cells := 0, slots := 0, locals := 72 } : Room) s m args below meth c H locs 0 0 (MQ below (QV G A (gC G q k g_callers g_kinds g_figures g_tones g_words g_hours g_order o.1 g_tune o.2.1 g_patience o.2.2.1 o.2.2.2.1 o.2.2.2.2.1 o.2.2.2.2.2.1 o.2.2.2.2.2.2.1 o.2.2.2.2.2.2.2)) args s 0 0 A) (F0 m 81 ls [])) : W p l e ({ frames := 3, cells := 0, slots := 0, locals := 72 } : Room) s m args below meth c H locs 0 0 (MQ below (QV G A (gC G q k g_callers g_kinds g_figures g_tones g_words g_hours g_order o.1 g_tune o.2.1 g_patience o.2.2.1 o.2.2.2.1 o.2.2.2.2.1 o.2.2.2.2.2.1 o.2.2.2.2.2.2.1 o.2.2.2.2.2.2.2)) args s 0 0 A) (F0 m 7 ls []) := by
  have hx := K.1.1
  have hb := K.1.2.1
  unfold f_X0_passDay_L7 at h
  refine lv_iload hx hb dX0_passDay_7 (lv_at hl 4 rfl) ?_
  refine lv_aload_n hx hb dX0_passDay_9 rfl (lv_at hl 0 rfl) ?_
  refine getX K hw inTX0 0 0 fl_X0_9 dX0_passDay_10 rfl rfl (by decide) rfl rfl ?_
  refine lv_icmp_ge (tgt := 81) hx hb dX0_passDay_13 (by decide) (fun hc14 => ?_) (fun hc14 => ?_)
  · have h := ifp hc14 h
    exact hx7 (v2, v3, g_known, g_hurt, g_answered, g_unanswered, g_said, g_times, g_last) _ _ _ (Option.some.inj h).symm (lv_sub hl [0, 2, 3] rfl) hw
  · have h := ifn hc14 h
    refine lv_aload_n hx hb dX0_passDay_16 rfl (lv_at hl 0 rfl) ?_
    refine getX K hw inTX0 0 6 fl_X0_31 dX0_passDay_17 rfl rfl (by decide) rfl rfl ?_
    refine lv_iload hx hb dX0_passDay_20 (lv_at hl 4 rfl) ?_
    refine callNI K (c_at l G (q (k + 6)) 7 g_order v4 rfl) mt_yX3_at (List.mem_of_getElem? (i := 7) rfl) ⟨rfl, rfl, Nat.le_of_ble_eq_true rfl, Nat.le_of_ble_eq_true rfl⟩ hw dX0_passDay_22 hl.1 ⟨Nat.zero_le _, Nat.zero_le _⟩ (wa := ((gC G q k g_callers g_kinds g_figures g_tones g_words g_hours g_order g_known g_tune g_hurt g_patience g_day g_answered g_unanswered g_said g_times g_last).take 6)) (wb := ((gC G q k g_callers g_kinds g_figures g_tones g_words g_hours g_order g_known g_tune g_hurt g_patience g_day g_answered g_unanswered g_said g_times g_last).drop 7)) rfl (rest := []) rfl rfl (Nat.le_of_ble_eq_true rfl) (fun H locs hw => ?_)
    have hw : Wx G A (gC G q k g_callers g_kinds g_figures g_tones g_words g_hours g_order g_known g_tune g_hurt g_patience g_day g_answered g_unanswered g_said g_times g_last) s H locs := hw
    refine lv_istore (lv' := [(5, .int (f_at 7 g_order v4)), (0, .ref (q k)), (1, .int v1), (2, .int v2), (3, .int v3), (4, .int v4)]) hx hb dX0_passDay_25 hl (by decide) rfl (fun ls hl => ?_)
    refine lv_iload_n hx hb dX0_passDay_27 rfl (lv_at hl 2 rfl) ?_
    refine lv_iload hx hb dX0_passDay_28 (lv_at hl 0 rfl) ?_
    refine lv_ishr hx hb dX0_passDay_30 ?_
    refine lv_iconst (v := (1 : Int32)) hx hb dX0_passDay_31 (by decide) ?_
    refine lv_iand hx hb dX0_passDay_32 ?_
    refine lv_if_eq (tgt := 75) hx hb dX0_passDay_33 (by decide) (fun hc15 => ?_) (fun hc15 => ?_)
    · have h := ifp hc15 h
      refine lv_iinc (v := (v4 + (1 : Int32))) (lv' := [(4, .int (v4 + (1 : Int32))), (5, .int (f_at 7 g_order v4)), (0, .ref (q k)), (1, .int v1), (2, .int v2), (3, .int v3)]) hx hb dX0_passDay_75 hl (k := 5) rfl rfl (by decide) rfl (fun ls hl => ?_)
      refine lv_goto (tgt := 7) hx hb dX0_passDay_78 (by decide) ?_
      exact hk7 (v2, v3, (v4 + (1 : Int32)), g_known, g_hurt, g_answered, g_unanswered, g_said, g_times, g_last) _ _ _ (Option.some.inj h).symm (lv_sub hl [2, 3, 4, 5, 0] rfl) hw
    · have h := ifn hc15 h
      refine lv_aload_n hx hb dX0_passDay_36 rfl (lv_at hl 1 rfl) ?_
      refine lv_iload hx hb dX0_passDay_37 (lv_at hl 0 rfl) ?_
      obtain ⟨z16, hz16, h⟩ := bd h
      refine callVI K (c_X0_hearCall l G q k g_callers g_kinds g_figures g_tones g_words g_hours g_order g_known g_tune g_hurt g_patience g_day g_answered g_unanswered g_said g_times g_last (f_at 7 g_order v4) hz16) mt_yX0_hearCall lk_X0_107 ⟨rfl, rfl, Nat.le_of_ble_eq_true rfl, Nat.le_of_ble_eq_true rfl⟩ hw dX0_passDay_39 hl.1 ⟨Nat.zero_le _, Nat.zero_le _⟩ (wa := ((gC G q k g_callers g_kinds g_figures g_tones g_words g_hours g_order g_known g_tune g_hurt g_patience g_day g_answered g_unanswered g_said g_times g_last).take 0)) (wb := ((gC G q k g_callers g_kinds g_figures g_tones g_words g_hours g_order g_known g_tune g_hurt g_patience g_day g_answered g_unanswered g_said g_times g_last).drop 11)) rfl rfl rfl (rest := []) rfl rfl (Nat.le_of_ble_eq_true rfl) (fun H locs hw => ?_)
      have hw : Wx G A (gC G q k g_callers g_kinds g_figures g_tones g_words g_hours g_order z16.2.1 g_tune z16.2.2.1 g_patience g_day z16.2.2.2.1 z16.2.2.2.2.1 z16.2.2.2.2.2.1 z16.2.2.2.2.2.2.1 z16.2.2.2.2.2.2.2) s H locs := hw
      refine lv_istore (lv' := [(6, .int z16.1), (5, .int (f_at 7 g_order v4)), (0, .ref (q k)), (1, .int v1), (2, .int v2), (3, .int v3), (4, .int v4)]) hx hb dX0_passDay_42 hl (by decide) rfl (fun ls hl => ?_)
      refine lv_aload_n hx hb dX0_passDay_44 rfl (lv_at hl 2 rfl) ?_
      refine getX K hw inTX0 0 5 fl_X0_28 dX0_passDay_45 rfl rfl (by decide) rfl rfl ?_
      refine lv_iload hx hb dX0_passDay_48 (lv_at hl 1 rfl) ?_
      refine callNI K (c_at l G (q (k + 5)) 7 g_hours (f_at 7 g_order v4) rfl) mt_yX3_at (List.mem_of_getElem? (i := 7) rfl) ⟨rfl, rfl, Nat.le_of_ble_eq_true rfl, Nat.le_of_ble_eq_true rfl⟩ hw dX0_passDay_50 hl.1 ⟨Nat.zero_le _, Nat.zero_le _⟩ (wa := ((gC G q k g_callers g_kinds g_figures g_tones g_words g_hours g_order z16.2.1 g_tune z16.2.2.1 g_patience g_day z16.2.2.2.1 z16.2.2.2.2.1 z16.2.2.2.2.2.1 z16.2.2.2.2.2.2.1 z16.2.2.2.2.2.2.2).take 5)) (wb := ((gC G q k g_callers g_kinds g_figures g_tones g_words g_hours g_order z16.2.1 g_tune z16.2.2.1 g_patience g_day z16.2.2.2.1 z16.2.2.2.2.1 z16.2.2.2.2.2.1 z16.2.2.2.2.2.2.1 z16.2.2.2.2.2.2.2).drop 6)) rfl (rest := []) rfl rfl (Nat.le_of_ble_eq_true rfl) (fun H locs hw => ?_)
      have hw : Wx G A (gC G q k g_callers g_kinds g_figures g_tones g_words g_hours g_order z16.2.1 g_tune z16.2.2.1 g_patience g_day z16.2.2.2.1 z16.2.2.2.2.1 z16.2.2.2.2.2.1 z16.2.2.2.2.2.2.1 z16.2.2.2.2.2.2.2) s H locs := hw
      refine lv_bipush (v := (7 : Int32)) hx hb dX0_passDay_53 (by decide) ?_
      refine lv_icmp_ne (tgt := 75) hx hb dX0_passDay_55 (by decide) (fun hc17 => ?_) (fun hc17 => ?_)
      · have h := ifn hc17 h
        refine lv_iinc (v := (v4 + (1 : Int32))) (lv' := [(4, .int (v4 + (1 : Int32))), (6, .int z16.1), (5, .int (f_at 7 g_order v4)), (0, .ref (q k)), (1, .int v1), (2, .int v2), (3, .int v3)]) hx hb dX0_passDay_75 hl (k := 6) rfl rfl (by decide) rfl (fun ls hl => ?_)
        refine lv_goto (tgt := 7) hx hb dX0_passDay_78 (by decide) ?_
        exact hk7 (v2, v3, (v4 + (1 : Int32)), z16.2.1, z16.2.2.1, z16.2.2.2.1, z16.2.2.2.2.1, z16.2.2.2.2.2.1, z16.2.2.2.2.2.2.1, z16.2.2.2.2.2.2.2) _ _ _ (Option.some.inj h).symm (lv_sub hl [3, 4, 5, 6, 0] rfl) hw
      · have h := ifp hc17 h
        refine lv_iconst (v := (1 : Int32)) hx hb dX0_passDay_58 (by decide) ?_
        refine lv_istore_n (lv' := [(2, .int (1 : Int32)), (6, .int z16.1), (5, .int (f_at 7 g_order v4)), (0, .ref (q k)), (1, .int v1), (3, .int v3), (4, .int v4)]) hx hb dX0_passDay_59 rfl hl (by decide) rfl (fun ls hl => ?_)
        refine lv_iload_n hx hb dX0_passDay_60 rfl (lv_at hl 5 rfl) ?_
        refine lv_if_ne (tgt := 69) hx hb dX0_passDay_61 (by decide) (fun hc18 => ?_) (fun hc18 => ?_)
        · have h := ifn hc18 h
          refine lv_iconst (v := (1 : Int32)) hx hb dX0_passDay_69 (by decide) ?_
          refine lv_goto (tgt := 74) hx hb dX0_passDay_70 (by decide) ?_
          refine lv_istore_n (lv' := [(3, .int (1 : Int32)), (2, .int (1 : Int32)), (6, .int z16.1), (5, .int (f_at 7 g_order v4)), (0, .ref (q k)), (1, .int v1), (4, .int v4)]) hx hb dX0_passDay_74 rfl hl (by decide) rfl (fun ls hl => ?_)
          refine lv_iinc (v := (v4 + (1 : Int32))) (lv' := [(4, .int (v4 + (1 : Int32))), (3, .int (1 : Int32)), (2, .int (1 : Int32)), (6, .int z16.1), (5, .int (f_at 7 g_order v4)), (0, .ref (q k)), (1, .int v1)]) hx hb dX0_passDay_75 hl (k := 6) rfl rfl (by decide) rfl (fun ls hl => ?_)
          refine lv_goto (tgt := 7) hx hb dX0_passDay_78 (by decide) ?_
          exact hk7 ((1 : Int32), (1 : Int32), (v4 + (1 : Int32)), z16.2.1, z16.2.2.1, z16.2.2.2.1, z16.2.2.2.2.1, z16.2.2.2.2.2.1, z16.2.2.2.2.2.2.1, z16.2.2.2.2.2.2.2) _ _ _ (Option.some.inj h).symm (lv_sub hl [5, 6, 2, 1, 0] rfl) hw
        · have h := ifp hc18 h
          refine lv_iload hx hb dX0_passDay_64 (lv_at hl 1 rfl) ?_
          refine lv_if_eq (tgt := 73) hx hb dX0_passDay_66 (by decide) (fun hc19 => ?_) (fun hc19 => ?_)
          · have h := ifp hc19 h
            refine lv_iconst (v := (0 : Int32)) hx hb dX0_passDay_73 (by decide) ?_
            refine lv_istore_n (lv' := [(3, .int (0 : Int32)), (2, .int (1 : Int32)), (6, .int z16.1), (5, .int (f_at 7 g_order v4)), (0, .ref (q k)), (1, .int v1), (4, .int v4)]) hx hb dX0_passDay_74 rfl hl (by decide) rfl (fun ls hl => ?_)
            refine lv_iinc (v := (v4 + (1 : Int32))) (lv' := [(4, .int (v4 + (1 : Int32))), (3, .int (0 : Int32)), (2, .int (1 : Int32)), (6, .int z16.1), (5, .int (f_at 7 g_order v4)), (0, .ref (q k)), (1, .int v1)]) hx hb dX0_passDay_75 hl (k := 6) rfl rfl (by decide) rfl (fun ls hl => ?_)
            refine lv_goto (tgt := 7) hx hb dX0_passDay_78 (by decide) ?_
            exact hk7 ((1 : Int32), (0 : Int32), (v4 + (1 : Int32)), z16.2.1, z16.2.2.1, z16.2.2.2.1, z16.2.2.2.2.1, z16.2.2.2.2.2.1, z16.2.2.2.2.2.2.1, z16.2.2.2.2.2.2.2) _ _ _ (Option.some.inj h).symm (lv_sub hl [5, 6, 2, 1, 0] rfl) hw
          · have h := ifn hc19 h
            refine lv_iconst (v := (1 : Int32)) hx hb dX0_passDay_69 (by decide) ?_
            refine lv_goto (tgt := 74) hx hb dX0_passDay_70 (by decide) ?_
            refine lv_istore_n (lv' := [(3, .int (1 : Int32)), (2, .int (1 : Int32)), (6, .int z16.1), (5, .int (f_at 7 g_order v4)), (0, .ref (q k)), (1, .int v1), (4, .int v4)]) hx hb dX0_passDay_74 rfl hl (by decide) rfl (fun ls hl => ?_)
            refine lv_iinc (v := (v4 + (1 : Int32))) (lv' := [(4, .int (v4 + (1 : Int32))), (3, .int (1 : Int32)), (2, .int (1 : Int32)), (6, .int z16.1), (5, .int (f_at 7 g_order v4)), (0, .ref (q k)), (1, .int v1)]) hx hb dX0_passDay_75 hl (k := 6) rfl rfl (by decide) rfl (fun ls hl => ?_)
            refine lv_goto (tgt := 7) hx hb dX0_passDay_78 (by decide) ?_
            exact hk7 ((1 : Int32), (1 : Int32), (v4 + (1 : Int32)), z16.2.1, z16.2.2.1, z16.2.2.2.1, z16.2.2.2.2.1, z16.2.2.2.2.2.1, z16.2.2.2.2.2.2.1, z16.2.2.2.2.2.2.2) _ _ _ (Option.some.inj h).symm (lv_sub hl [5, 6, 2, 1, 0] rfl) hw
set_option maxHeartbeats 4000000 in
set_option maxRecDepth 100000 in
theorem w_X0_passDay_L7 {l : Launch} {G : GP} {q : Nat → Nat} {k : Nat} {p : Program} {e : Env} {s : State} {m : MethodId} {args : Array Value} {below : List Frame} {meth : Method} {c : Code} {A : Nat → Prop} {g_callers : Int32} {g_kinds : Nat → Int32} {g_figures : Nat → Int32} {g_tones : Nat → Int32} {g_words : Nat → Int32} {g_hours : Nat → Int32} {g_order : Nat → Int32} {g_tune : Int32} {g_patience : Int32} {g_day : Int32} {v1 : Int32} {o : (Nat → Int32) × Int32 × Int32 × Int32 × Int32 × Int32 × (Nat → Int32) × (Nat → Int32)} (K : Cx p s m args meth c A G cX0_passDay 7 RX0 none) : ∀ (fu : Nat) (v2 : Int32) (v3 : Int32) (v4 : Int32) (g_known : Nat → Int32) (g_hurt : Int32) (g_answered : Int32) (g_unanswered : Int32) (g_said : Int32) (g_times : Nat → Int32) (g_last : Nat → Int32) (H : Heap) (locs : List Loc) (ls : Array Slot), lv_has ls 7 [(0, .ref (q k)), (1, .int v1), (2, .int v2), (3, .int v3), (4, .int v4)] → Wx G A (gC G q k g_callers g_kinds g_figures g_tones g_words g_hours g_order g_known g_tune g_hurt g_patience g_day g_answered g_unanswered g_said g_times g_last) s H locs → ∀ (x : Int32 × Int32 × (Nat → Int32) × Int32 × Int32 × Int32 × Int32 × (Nat → Int32) × (Nat → Int32)), lp (fun z : Int32 × Int32 × Int32 × (Nat → Int32) × Int32 × Int32 × Int32 × Int32 × (Nat → Int32) × (Nat → Int32) => f_X0_passDay_L7 v1 g_callers g_kinds g_figures g_tones g_words g_hours g_order g_tune g_patience (z.1) (z.2.1) (z.2.2.1) (z.2.2.2.1) (z.2.2.2.2.1) (z.2.2.2.2.2.1) (z.2.2.2.2.2.2.1) (z.2.2.2.2.2.2.2.1) (z.2.2.2.2.2.2.2.2.1) (z.2.2.2.2.2.2.2.2.2)) fu (v2, v3, v4, g_known, g_hurt, g_answered, g_unanswered, g_said, g_times, g_last) = some x → (∀ (H : Heap) (locs : List Loc) (ls : Array Slot), lv_has ls 7 [(0, .ref (q k)), (2, .int x.1), (3, .int x.2.1)] → Wx G A (gC G q k g_callers g_kinds g_figures g_tones g_words g_hours g_order x.2.2.1 g_tune x.2.2.2.1 g_patience g_day x.2.2.2.2.1 x.2.2.2.2.2.1 x.2.2.2.2.2.2.1 x.2.2.2.2.2.2.2.1 x.2.2.2.2.2.2.2.2) s H locs → W p l e ({ frames := 3, cells := 0, slots := 0, locals := 72 } : Room) s m args below meth c H locs 0 0 (MQ below (QV G A (gC G q k g_callers g_kinds g_figures g_tones g_words g_hours g_order o.1 g_tune o.2.1 g_patience o.2.2.1 o.2.2.2.1 o.2.2.2.2.1 o.2.2.2.2.2.1 o.2.2.2.2.2.2.1 o.2.2.2.2.2.2.2)) args s 0 0 A) (F0 m 81 ls [])) → W p l e ({ frames := 3, cells := 0, slots := 0, locals := 72 } : Room) s m args below meth c H locs 0 0 (MQ below (QV G A (gC G q k g_callers g_kinds g_figures g_tones g_words g_hours g_order o.1 g_tune o.2.1 g_patience o.2.2.1 o.2.2.2.1 o.2.2.2.2.1 o.2.2.2.2.2.1 o.2.2.2.2.2.2.1 o.2.2.2.2.2.2.2)) args s 0 0 A) (F0 m 7 ls []) := by
  intro fu
  induction fu with
  | zero => intro v2 v3 v4 g_known g_hurt g_answered g_unanswered g_said g_times g_last H locs ls hl hw x h; exact absurd (show none = some x from h) (by simp)
  | succ fu ih =>
    intro v2 v3 v4 g_known g_hurt g_answered g_unanswered g_said g_times g_last H locs ls hl hw x h hx7
    obtain ⟨y, hy, hc⟩ := lp_s h
    exact b_X0_passDay_L7 K hl hw hy (fun b H locs ls hE hl hw => ih b.1 b.2.1 b.2.2.1 b.2.2.2.1 b.2.2.2.2.1 b.2.2.2.2.2.1 b.2.2.2.2.2.2.1 b.2.2.2.2.2.2.2.1 b.2.2.2.2.2.2.2.2.1 b.2.2.2.2.2.2.2.2.2 H locs ls hl hw _ (lp_b hc hE) hx7) (fun b H locs ls hE hl hw => by
      have e9 := lp_x hc hE
      subst e9
      exact hx7 H locs ls hl hw)
set_option maxHeartbeats 4000000 in
set_option maxRecDepth 100000 in
theorem c_X0_passDay (l : Launch) (G : GP) (q : Nat → Nat) (k : Nat) (g_callers : Int32) (g_kinds : Nat → Int32) (g_figures : Nat → Int32) (g_tones : Nat → Int32) (g_words : Nat → Int32) (g_hours : Nat → Int32) (g_order : Nat → Int32) (g_known : Nat → Int32) (g_tune : Int32) (g_hurt : Int32) (g_patience : Int32) (g_day : Int32) (g_answered : Int32) (g_unanswered : Int32) (g_said : Int32) (g_times : Nat → Int32) (g_last : Nat → Int32) (v1 : Int32) {o : (Nat → Int32) × Int32 × Int32 × Int32 × Int32 × Int32 × (Nat → Int32) × (Nat → Int32)} (h : f_X0_passDay g_callers g_kinds g_figures g_tones g_words g_hours g_order g_known g_tune g_hurt g_patience g_day g_answered g_unanswered g_said g_times g_last v1 = some o) : CtV l yX0_passDay cX0_passDay 7 ({ frames := 3, cells := 0, slots := 0, locals := 72 } : Room) G (gC G q k g_callers g_kinds g_figures g_tones g_words g_hours g_order g_known g_tune g_hurt g_patience g_day g_answered g_unanswered g_said g_times g_last) [.ref (q k), .int v1] (gC G q k g_callers g_kinds g_figures g_tones g_words g_hours g_order o.1 g_tune o.2.1 g_patience o.2.2.1 o.2.2.2.1 o.2.2.2.2.1 o.2.2.2.2.2.1 o.2.2.2.2.2.2.1 o.2.2.2.2.2.2.2) := by
  refine CtV.of (by decide) (Nat.le_of_ble_eq_true rfl) ?_
  intro p e s m below meth c A ls K hl hw
  have hl : lv_has ls 7 [(0, .ref (q k)), (1, .int v1)] := hl
  generalize ([.ref (q k), .int v1] : List Value).toArray = args at K ⊢
  have hx := K.1.1
  have hb := K.1.2.1
  unfold f_X0_passDay at h
  refine lv_iconst (v := (0 : Int32)) hx hb dX0_passDay_0 (by decide) ?_
  refine lv_istore_n (lv' := [(2, .int (0 : Int32)), (0, .ref (q k)), (1, .int v1)]) hx hb dX0_passDay_1 rfl hl (by decide) rfl (fun ls hl => ?_)
  refine lv_iconst (v := (0 : Int32)) hx hb dX0_passDay_2 (by decide) ?_
  refine lv_istore_n (lv' := [(3, .int (0 : Int32)), (2, .int (0 : Int32)), (0, .ref (q k)), (1, .int v1)]) hx hb dX0_passDay_3 rfl hl (by decide) rfl (fun ls hl => ?_)
  refine lv_iconst (v := (0 : Int32)) hx hb dX0_passDay_4 (by decide) ?_
  refine lv_istore (lv' := [(4, .int (0 : Int32)), (3, .int (0 : Int32)), (2, .int (0 : Int32)), (0, .ref (q k)), (1, .int v1)]) hx hb dX0_passDay_5 hl (by decide) rfl (fun ls hl => ?_)
  obtain ⟨z20, hz20, h⟩ := bd h
  refine w_X0_passDay_L7 K 1000 (0 : Int32) (0 : Int32) (0 : Int32) g_known g_hurt g_answered g_unanswered g_said g_times g_last _ _ _ (lv_sub hl [3, 4, 2, 1, 0] rfl) hw _ hz20 (fun H locs ls hl hw => ?_)
  refine lv_aload_n hx hb dX0_passDay_81 rfl (lv_at hl 0 rfl) ?_
  refine lv_iload_n hx hb dX0_passDay_82 rfl (lv_at hl 1 rfl) ?_
  refine lv_iload_n hx hb dX0_passDay_83 rfl (lv_at hl 2 rfl) ?_
  obtain ⟨z21, hz21, h⟩ := bd h
  refine callVV K (c_X0_endDay l G q k g_callers g_kinds g_figures g_tones g_words g_hours g_order z20.2.2.1 g_tune z20.2.2.2.1 g_patience g_day z20.2.2.2.2.1 z20.2.2.2.2.2.1 z20.2.2.2.2.2.2.1 z20.2.2.2.2.2.2.2.1 z20.2.2.2.2.2.2.2.2 z20.1 z20.2.1 hz21) mt_yX0_endDay lk_X0_110 ⟨rfl, rfl, Nat.le_of_ble_eq_true rfl, Nat.le_of_ble_eq_true rfl⟩ hw dX0_passDay_84 hl.1 ⟨Nat.zero_le _, Nat.zero_le _⟩ (wa := ((gC G q k g_callers g_kinds g_figures g_tones g_words g_hours g_order z20.2.2.1 g_tune z20.2.2.2.1 g_patience g_day z20.2.2.2.2.1 z20.2.2.2.2.2.1 z20.2.2.2.2.2.2.1 z20.2.2.2.2.2.2.2.1 z20.2.2.2.2.2.2.2.2).take 0)) (wb := ((gC G q k g_callers g_kinds g_figures g_tones g_words g_hours g_order z20.2.2.1 g_tune z20.2.2.2.1 g_patience g_day z20.2.2.2.2.1 z20.2.2.2.2.2.1 z20.2.2.2.2.2.2.1 z20.2.2.2.2.2.2.2.1 z20.2.2.2.2.2.2.2.2).drop 11)) rfl rfl rfl (rest := []) rfl rfl (Nat.le_of_ble_eq_true rfl) (fun H locs hw => ?_)
  have hw : Wx G A (gC G q k g_callers g_kinds g_figures g_tones g_words g_hours g_order z21.1 g_tune z21.2.1 g_patience z21.2.2 z20.2.2.2.2.1 z20.2.2.2.2.2.1 z20.2.2.2.2.2.2.1 z20.2.2.2.2.2.2.2.1 z20.2.2.2.2.2.2.2.2) s H locs := hw
  have h := Option.some.inj h
  subst h
  exact retV K hw dX0_passDay_87
set_option maxHeartbeats 4000000 in
set_option maxRecDepth 100000 in
theorem b_X0_passDays_L2 {l : Launch} {G : GP} {q : Nat → Nat} {k : Nat} {p : Program} {e : Env} {s : State} {m : MethodId} {args : Array Value} {below : List Frame} {meth : Method} {c : Code} {A : Nat → Prop} {g_callers : Int32} {g_kinds : Nat → Int32} {g_figures : Nat → Int32} {g_tones : Nat → Int32} {g_words : Nat → Int32} {g_hours : Nat → Int32} {g_order : Nat → Int32} {g_known : Nat → Int32} {g_tune : Int32} {g_hurt : Int32} {g_patience : Int32} {g_day : Int32} {g_answered : Int32} {g_unanswered : Int32} {g_said : Int32} {g_times : Nat → Int32} {g_last : Nat → Int32} {v1 : Int32} {v2 : Int32} {v3 : Int32} {o : (Nat → Int32) × Int32 × Int32 × Int32 × Int32 × Int32 × (Nat → Int32) × (Nat → Int32)} (K : Cx p s m args meth c A G cX0_passDays 4 RX0 none) {H : Heap} {locs : List Loc} {ls : Array Slot} (hl : lv_has ls 4 [(0, .ref (q k)), (1, .int v1), (2, .int v2), (3, .int v3)]) (hw : Wx G A (gC G q k g_callers g_kinds g_figures g_tones g_words g_hours g_order g_known g_tune g_hurt g_patience g_day g_answered g_unanswered g_said g_times g_last) s H locs) {y : (Int32 × (Nat → Int32) × Int32 × Int32 × Int32 × Int32 × Int32 × (Nat → Int32) × (Nat → Int32)) ⊕ ((Nat → Int32) × Int32 × Int32 × Int32 × Int32 × Int32 × (Nat → Int32) × (Nat → Int32))} (h : f_X0_passDays_L2 v1 v2 g_callers g_kinds g_figures g_tones g_words g_hours g_order g_tune g_patience v3 g_known g_hurt g_day g_answered g_unanswered g_said g_times g_last = some y) (hk2 : ∀ (b : Int32 × (Nat → Int32) × Int32 × Int32 × Int32 × Int32 × Int32 × (Nat → Int32) × (Nat → Int32)) (H : Heap) (locs : List Loc) (ls : Array Slot), y = .inl b → lv_has ls 4 [(0, .ref (q k)), (1, .int v1), (2, .int v2), (3, .int b.1)] → Wx G A (gC G q k g_callers g_kinds g_figures g_tones g_words g_hours g_order b.2.1 g_tune b.2.2.1 g_patience b.2.2.2.1 b.2.2.2.2.1 b.2.2.2.2.2.1 b.2.2.2.2.2.2.1 b.2.2.2.2.2.2.2.1 b.2.2.2.2.2.2.2.2) s H locs → W p l e ({ frames := 4, cells := 0, slots := 0, locals := 98 } : Room) s m args below meth c H locs 0 0 (MQ below (QV G A (gC G q k g_callers g_kinds g_figures g_tones g_words g_hours g_order o.1 g_tune o.2.1 g_patience o.2.2.1 o.2.2.2.1 o.2.2.2.2.1 o.2.2.2.2.2.1 o.2.2.2.2.2.2.1 o.2.2.2.2.2.2.2)) args s 0 0 A) (F0 m 2 ls [])) (hx2 : ∀ (b : (Nat → Int32) × Int32 × Int32 × Int32 × Int32 × Int32 × (Nat → Int32) × (Nat → Int32)) (H : Heap) (locs : List Loc) (ls : Array Slot), y = .inr b → lv_has ls 4 [] → Wx G A (gC G q k g_callers g_kinds g_figures g_tones g_words g_hours g_order b.1 g_tune b.2.1 g_patience b.2.2.1 b.2.2.2.1 b.2.2.2.2.1 b.2.2.2.2.2.1 b.2.2.2.2.2.2.1 b.2.2.2.2.2.2.2) s H locs → W p l e ({ frames := 4, cells := 0, slots := 0, locals := 98 } : Room) s m args below meth c H locs 0 0 (MQ below (QV G A (gC G q k g_callers g_kinds g_figures g_tones g_words g_hours g_order o.1 g_tune o.2.1 g_patience o.2.2.1 o.2.2.2.1 o.2.2.2.2.1 o.2.2.2.2.2.1 o.2.2.2.2.2.2.1 o.2.2.2.2.2.2.2)) args s 0 0 A) (F0 m 18 ls [])) : W p l e ({ frames := 4, cells := 0, slots := 0, locals := 98 } : Room) s m args below meth c H locs 0 0 (MQ below (QV G A (gC G q k g_callers g_kinds g_figures g_tones g_words g_hours g_order o.1 g_tune o.2.1 g_patience o.2.2.1 o.2.2.2.1 o.2.2.2.2.1 o.2.2.2.2.2.1 o.2.2.2.2.2.2.1 o.2.2.2.2.2.2.2)) args s 0 0 A) (F0 m 2 ls []) := by
  have hx := K.1.1
  have hb := K.1.2.1
  unfold f_X0_passDays_L2 at h
  refine lv_iload_n hx hb dX0_passDays_2 rfl (lv_at hl 3 rfl) ?_
  refine lv_iload_n hx hb dX0_passDays_3 rfl (lv_at hl 1 rfl) ?_
  refine lv_icmp_ge (tgt := 18) hx hb dX0_passDays_4 (by decide) (fun hc12 => ?_) (fun hc12 => ?_)
  · have h := ifp hc12 h
    exact hx2 (g_known, g_hurt, g_day, g_answered, g_unanswered, g_said, g_times, g_last) _ _ _ (Option.some.inj h).symm (lv_sub hl [] rfl) hw
  · have h := ifn hc12 h
    refine lv_aload_n hx hb dX0_passDays_7 rfl (lv_at hl 0 rfl) ?_
    refine lv_iload_n hx hb dX0_passDays_8 rfl (lv_at hl 2 rfl) ?_
    obtain ⟨z13, hz13, h⟩ := bd h
    refine callVV K (c_X0_passDay l G q k g_callers g_kinds g_figures g_tones g_words g_hours g_order g_known g_tune g_hurt g_patience g_day g_answered g_unanswered g_said g_times g_last v2 hz13) mt_yX0_passDay lk_X0_103 ⟨rfl, rfl, Nat.le_of_ble_eq_true rfl, Nat.le_of_ble_eq_true rfl⟩ hw dX0_passDays_9 hl.1 ⟨Nat.zero_le _, Nat.zero_le _⟩ (wa := ((gC G q k g_callers g_kinds g_figures g_tones g_words g_hours g_order g_known g_tune g_hurt g_patience g_day g_answered g_unanswered g_said g_times g_last).take 0)) (wb := ((gC G q k g_callers g_kinds g_figures g_tones g_words g_hours g_order g_known g_tune g_hurt g_patience g_day g_answered g_unanswered g_said g_times g_last).drop 11)) rfl rfl rfl (rest := []) rfl rfl (Nat.le_of_ble_eq_true rfl) (fun H locs hw => ?_)
    have hw : Wx G A (gC G q k g_callers g_kinds g_figures g_tones g_words g_hours g_order z13.1 g_tune z13.2.1 g_patience z13.2.2.1 z13.2.2.2.1 z13.2.2.2.2.1 z13.2.2.2.2.2.1 z13.2.2.2.2.2.2.1 z13.2.2.2.2.2.2.2) s H locs := hw
    refine lv_iinc (v := (v3 + (1 : Int32))) (lv' := [(3, .int (v3 + (1 : Int32))), (0, .ref (q k)), (1, .int v1), (2, .int v2)]) hx hb dX0_passDays_12 hl (k := 3) rfl rfl (by decide) rfl (fun ls hl => ?_)
    refine lv_goto (tgt := 2) hx hb dX0_passDays_15 (by decide) ?_
    exact hk2 ((v3 + (1 : Int32)), z13.1, z13.2.1, z13.2.2.1, z13.2.2.2.1, z13.2.2.2.2.1, z13.2.2.2.2.2.1, z13.2.2.2.2.2.2.1, z13.2.2.2.2.2.2.2) _ _ _ (Option.some.inj h).symm (lv_sub hl [1, 2, 3, 0] rfl) hw
set_option maxHeartbeats 4000000 in
set_option maxRecDepth 100000 in
theorem w_X0_passDays_L2 {l : Launch} {G : GP} {q : Nat → Nat} {k : Nat} {p : Program} {e : Env} {s : State} {m : MethodId} {args : Array Value} {below : List Frame} {meth : Method} {c : Code} {A : Nat → Prop} {g_callers : Int32} {g_kinds : Nat → Int32} {g_figures : Nat → Int32} {g_tones : Nat → Int32} {g_words : Nat → Int32} {g_hours : Nat → Int32} {g_order : Nat → Int32} {g_tune : Int32} {g_patience : Int32} {v1 : Int32} {v2 : Int32} {o : (Nat → Int32) × Int32 × Int32 × Int32 × Int32 × Int32 × (Nat → Int32) × (Nat → Int32)} (K : Cx p s m args meth c A G cX0_passDays 4 RX0 none) : ∀ (fu : Nat) (v3 : Int32) (g_known : Nat → Int32) (g_hurt : Int32) (g_day : Int32) (g_answered : Int32) (g_unanswered : Int32) (g_said : Int32) (g_times : Nat → Int32) (g_last : Nat → Int32) (H : Heap) (locs : List Loc) (ls : Array Slot), lv_has ls 4 [(0, .ref (q k)), (1, .int v1), (2, .int v2), (3, .int v3)] → Wx G A (gC G q k g_callers g_kinds g_figures g_tones g_words g_hours g_order g_known g_tune g_hurt g_patience g_day g_answered g_unanswered g_said g_times g_last) s H locs → ∀ (x : (Nat → Int32) × Int32 × Int32 × Int32 × Int32 × Int32 × (Nat → Int32) × (Nat → Int32)), lp (fun z : Int32 × (Nat → Int32) × Int32 × Int32 × Int32 × Int32 × Int32 × (Nat → Int32) × (Nat → Int32) => f_X0_passDays_L2 v1 v2 g_callers g_kinds g_figures g_tones g_words g_hours g_order g_tune g_patience (z.1) (z.2.1) (z.2.2.1) (z.2.2.2.1) (z.2.2.2.2.1) (z.2.2.2.2.2.1) (z.2.2.2.2.2.2.1) (z.2.2.2.2.2.2.2.1) (z.2.2.2.2.2.2.2.2)) fu (v3, g_known, g_hurt, g_day, g_answered, g_unanswered, g_said, g_times, g_last) = some x → (∀ (H : Heap) (locs : List Loc) (ls : Array Slot), lv_has ls 4 [] → Wx G A (gC G q k g_callers g_kinds g_figures g_tones g_words g_hours g_order x.1 g_tune x.2.1 g_patience x.2.2.1 x.2.2.2.1 x.2.2.2.2.1 x.2.2.2.2.2.1 x.2.2.2.2.2.2.1 x.2.2.2.2.2.2.2) s H locs → W p l e ({ frames := 4, cells := 0, slots := 0, locals := 98 } : Room) s m args below meth c H locs 0 0 (MQ below (QV G A (gC G q k g_callers g_kinds g_figures g_tones g_words g_hours g_order o.1 g_tune o.2.1 g_patience o.2.2.1 o.2.2.2.1 o.2.2.2.2.1 o.2.2.2.2.2.1 o.2.2.2.2.2.2.1 o.2.2.2.2.2.2.2)) args s 0 0 A) (F0 m 18 ls [])) → W p l e ({ frames := 4, cells := 0, slots := 0, locals := 98 } : Room) s m args below meth c H locs 0 0 (MQ below (QV G A (gC G q k g_callers g_kinds g_figures g_tones g_words g_hours g_order o.1 g_tune o.2.1 g_patience o.2.2.1 o.2.2.2.1 o.2.2.2.2.1 o.2.2.2.2.2.1 o.2.2.2.2.2.2.1 o.2.2.2.2.2.2.2)) args s 0 0 A) (F0 m 2 ls []) := by
  intro fu
  induction fu with
  | zero => intro v3 g_known g_hurt g_day g_answered g_unanswered g_said g_times g_last H locs ls hl hw x h; exact absurd (show none = some x from h) (by simp)
  | succ fu ih =>
    intro v3 g_known g_hurt g_day g_answered g_unanswered g_said g_times g_last H locs ls hl hw x h hx2
    obtain ⟨y, hy, hc⟩ := lp_s h
    exact b_X0_passDays_L2 K hl hw hy (fun b H locs ls hE hl hw => ih b.1 b.2.1 b.2.2.1 b.2.2.2.1 b.2.2.2.2.1 b.2.2.2.2.2.1 b.2.2.2.2.2.2.1 b.2.2.2.2.2.2.2.1 b.2.2.2.2.2.2.2.2 H locs ls hl hw _ (lp_b hc hE) hx2) (fun b H locs ls hE hl hw => by
      have e9 := lp_x hc hE
      subst e9
      exact hx2 H locs ls hl hw)
set_option maxHeartbeats 4000000 in
set_option maxRecDepth 100000 in
theorem c_X0_passDays (l : Launch) (G : GP) (q : Nat → Nat) (k : Nat) (g_callers : Int32) (g_kinds : Nat → Int32) (g_figures : Nat → Int32) (g_tones : Nat → Int32) (g_words : Nat → Int32) (g_hours : Nat → Int32) (g_order : Nat → Int32) (g_known : Nat → Int32) (g_tune : Int32) (g_hurt : Int32) (g_patience : Int32) (g_day : Int32) (g_answered : Int32) (g_unanswered : Int32) (g_said : Int32) (g_times : Nat → Int32) (g_last : Nat → Int32) (v1 : Int32) (v2 : Int32) {o : (Nat → Int32) × Int32 × Int32 × Int32 × Int32 × Int32 × (Nat → Int32) × (Nat → Int32)} (h : f_X0_passDays g_callers g_kinds g_figures g_tones g_words g_hours g_order g_known g_tune g_hurt g_patience g_day g_answered g_unanswered g_said g_times g_last v1 v2 = some o) : CtV l yX0_passDays cX0_passDays 4 ({ frames := 4, cells := 0, slots := 0, locals := 98 } : Room) G (gC G q k g_callers g_kinds g_figures g_tones g_words g_hours g_order g_known g_tune g_hurt g_patience g_day g_answered g_unanswered g_said g_times g_last) [.ref (q k), .int v1, .int v2] (gC G q k g_callers g_kinds g_figures g_tones g_words g_hours g_order o.1 g_tune o.2.1 g_patience o.2.2.1 o.2.2.2.1 o.2.2.2.2.1 o.2.2.2.2.2.1 o.2.2.2.2.2.2.1 o.2.2.2.2.2.2.2) := by
  refine CtV.of (by decide) (Nat.le_of_ble_eq_true rfl) ?_
  intro p e s m below meth c A ls K hl hw
  have hl : lv_has ls 4 [(0, .ref (q k)), (1, .int v1), (2, .int v2)] := hl
  generalize ([.ref (q k), .int v1, .int v2] : List Value).toArray = args at K ⊢
  have hx := K.1.1
  have hb := K.1.2.1
  unfold f_X0_passDays at h
  refine lv_iconst (v := (0 : Int32)) hx hb dX0_passDays_0 (by decide) ?_
  refine lv_istore_n (lv' := [(3, .int (0 : Int32)), (0, .ref (q k)), (1, .int v1), (2, .int v2)]) hx hb dX0_passDays_1 rfl hl (by decide) rfl (fun ls hl => ?_)
  obtain ⟨z14, hz14, h⟩ := bd h
  refine w_X0_passDays_L2 K 1000 (0 : Int32) g_known g_hurt g_day g_answered g_unanswered g_said g_times g_last _ _ _ (lv_sub hl [1, 2, 3, 0] rfl) hw _ hz14 (fun H locs ls hl hw => ?_)
  have h := Option.some.inj h
  subst h
  exact retV K hw dX0_passDays_18
