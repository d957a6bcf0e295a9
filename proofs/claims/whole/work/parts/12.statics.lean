set_option maxHeartbeats 4000000 in
set_option maxRecDepth 100000 in
theorem c_bitCount (l : Launch) (G : GP) (v0 : Int32) {o : Int32} (h : f_bitCount v0 = o) : CtI l yJ6_bitCount_0f7a4 cJ6_bitCount_0f7a4 1 (some .int) ({ frames := 0, cells := 0, slots := 0, locals := 0 } : Room) G ([] : va_W) [.int v0] o ([] : va_W) := by
  refine CtI.of (by decide) (Nat.le_of_ble_eq_true rfl) ?_
  intro p e s m below meth c A ls K hl hw
  have hl : lv_has ls 1 [(0, .int v0)] := hl
  generalize ([.int v0] : List Value).toArray = args at K ⊢
  have hx := K.1.1
  have hb := K.1.2.1
  unfold f_bitCount at h
  refine lv_iload_n hx hb dJ6_bitCount_0f7a4_0 rfl (lv_at hl 0 rfl) ?_
  refine lv_iload_n hx hb dJ6_bitCount_0f7a4_1 rfl (lv_at hl 0 rfl) ?_
  refine lv_iconst (v := (1 : Int32)) hx hb dJ6_bitCount_0f7a4_2 (by decide) ?_
  refine lv_iushr (v := (v0.toUInt32 >>> ((1 : Int32).toUInt32 &&& Int32.toUInt32 31)).toInt32) hx hb dJ6_bitCount_0f7a4_3 rfl ?_
  refine lv_ldcw (v := (1431655765 : Int32)) hx hb K.1.2.2.2.1 (K.1.2.2.2.2 _ cst_J6_265) dJ6_bitCount_0f7a4_4 ?_
  refine lv_iand hx hb dJ6_bitCount_0f7a4_7 ?_
  refine lv_isub hx hb dJ6_bitCount_0f7a4_8 ?_
  refine lv_istore_n (lv' := [(0, .int (v0 - (((v0.toUInt32 >>> ((1 : Int32).toUInt32 &&& Int32.toUInt32 31)).toInt32) &&& (1431655765 : Int32))))]) hx hb dJ6_bitCount_0f7a4_9 rfl hl (by decide) rfl (fun ls hl => ?_)
  refine lv_iload_n hx hb dJ6_bitCount_0f7a4_10 rfl (lv_at hl 0 rfl) ?_
  refine lv_ldcw (v := (858993459 : Int32)) hx hb K.1.2.2.2.1 (K.1.2.2.2.2 _ cst_J6_266) dJ6_bitCount_0f7a4_11 ?_
  refine lv_iand hx hb dJ6_bitCount_0f7a4_14 ?_
  refine lv_iload_n hx hb dJ6_bitCount_0f7a4_15 rfl (lv_at hl 0 rfl) ?_
  refine lv_iconst (v := (2 : Int32)) hx hb dJ6_bitCount_0f7a4_16 (by decide) ?_
  refine lv_iushr (v := ((v0 - (((v0.toUInt32 >>> ((1 : Int32).toUInt32 &&& Int32.toUInt32 31)).toInt32) &&& (1431655765 : Int32))).toUInt32 >>> ((2 : Int32).toUInt32 &&& Int32.toUInt32 31)).toInt32) hx hb dJ6_bitCount_0f7a4_17 rfl ?_
  refine lv_ldcw (v := (858993459 : Int32)) hx hb K.1.2.2.2.1 (K.1.2.2.2.2 _ cst_J6_266) dJ6_bitCount_0f7a4_18 ?_
  refine lv_iand hx hb dJ6_bitCount_0f7a4_21 ?_
  refine lv_iadd hx hb dJ6_bitCount_0f7a4_22 ?_
  refine lv_istore_n (lv' := [(0, .int (((v0 - (((v0.toUInt32 >>> ((1 : Int32).toUInt32 &&& Int32.toUInt32 31)).toInt32) &&& (1431655765 : Int32))) &&& (858993459 : Int32)) + ((((v0 - (((v0.toUInt32 >>> ((1 : Int32).toUInt32 &&& Int32.toUInt32 31)).toInt32) &&& (1431655765 : Int32))).toUInt32 >>> ((2 : Int32).toUInt32 &&& Int32.toUInt32 31)).toInt32) &&& (858993459 : Int32))))]) hx hb dJ6_bitCount_0f7a4_23 rfl hl (by decide) rfl (fun ls hl => ?_)
  refine lv_iload_n hx hb dJ6_bitCount_0f7a4_24 rfl (lv_at hl 0 rfl) ?_
  refine lv_iload_n hx hb dJ6_bitCount_0f7a4_25 rfl (lv_at hl 0 rfl) ?_
  refine lv_iconst (v := (4 : Int32)) hx hb dJ6_bitCount_0f7a4_26 (by decide) ?_
  refine lv_iushr (v := ((((v0 - (((v0.toUInt32 >>> ((1 : Int32).toUInt32 &&& Int32.toUInt32 31)).toInt32) &&& (1431655765 : Int32))) &&& (858993459 : Int32)) + ((((v0 - (((v0.toUInt32 >>> ((1 : Int32).toUInt32 &&& Int32.toUInt32 31)).toInt32) &&& (1431655765 : Int32))).toUInt32 >>> ((2 : Int32).toUInt32 &&& Int32.toUInt32 31)).toInt32) &&& (858993459 : Int32))).toUInt32 >>> ((4 : Int32).toUInt32 &&& Int32.toUInt32 31)).toInt32) hx hb dJ6_bitCount_0f7a4_27 rfl ?_
  refine lv_iadd hx hb dJ6_bitCount_0f7a4_28 ?_
  refine lv_ldcw (v := (252645135 : Int32)) hx hb K.1.2.2.2.1 (K.1.2.2.2.2 _ cst_J6_267) dJ6_bitCount_0f7a4_29 ?_
  refine lv_iand hx hb dJ6_bitCount_0f7a4_32 ?_
  refine lv_istore_n (lv' := [(0, .int (((((v0 - (((v0.toUInt32 >>> ((1 : Int32).toUInt32 &&& Int32.toUInt32 31)).toInt32) &&& (1431655765 : Int32))) &&& (858993459 : Int32)) + ((((v0 - (((v0.toUInt32 >>> ((1 : Int32).toUInt32 &&& Int32.toUInt32 31)).toInt32) &&& (1431655765 : Int32))).toUInt32 >>> ((2 : Int32).toUInt32 &&& Int32.toUInt32 31)).toInt32) &&& (858993459 : Int32))) + (((((v0 - (((v0.toUInt32 >>> ((1 : Int32).toUInt32 &&& Int32.toUInt32 31)).toInt32) &&& (1431655765 : Int32))) &&& (858993459 : Int32)) + ((((v0 - (((v0.toUInt32 >>> ((1 : Int32).toUInt32 &&& Int32.toUInt32 31)).toInt32) &&& (1431655765 : Int32))).toUInt32 >>> ((2 : Int32).toUInt32 &&& Int32.toUInt32 31)).toInt32) &&& (858993459 : Int32))).toUInt32 >>> ((4 : Int32).toUInt32 &&& Int32.toUInt32 31)).toInt32)) &&& (252645135 : Int32)))]) hx hb dJ6_bitCount_0f7a4_33 rfl hl (by decide) rfl (fun ls hl => ?_)
  refine lv_iload_n hx hb dJ6_bitCount_0f7a4_34 rfl (lv_at hl 0 rfl) ?_
  refine lv_iload_n hx hb dJ6_bitCount_0f7a4_35 rfl (lv_at hl 0 rfl) ?_
  refine lv_bipush (v := (8 : Int32)) hx hb dJ6_bitCount_0f7a4_36 (by decide) ?_
  refine lv_iushr (v := ((((((v0 - (((v0.toUInt32 >>> ((1 : Int32).toUInt32 &&& Int32.toUInt32 31)).toInt32) &&& (1431655765 : Int32))) &&& (858993459 : Int32)) + ((((v0 - (((v0.toUInt32 >>> ((1 : Int32).toUInt32 &&& Int32.toUInt32 31)).toInt32) &&& (1431655765 : Int32))).toUInt32 >>> ((2 : Int32).toUInt32 &&& Int32.toUInt32 31)).toInt32) &&& (858993459 : Int32))) + (((((v0 - (((v0.toUInt32 >>> ((1 : Int32).toUInt32 &&& Int32.toUInt32 31)).toInt32) &&& (1431655765 : Int32))) &&& (858993459 : Int32)) + ((((v0 - (((v0.toUInt32 >>> ((1 : Int32).toUInt32 &&& Int32.toUInt32 31)).toInt32) &&& (1431655765 : Int32))).toUInt32 >>> ((2 : Int32).toUInt32 &&& Int32.toUInt32 31)).toInt32) &&& (858993459 : Int32))).toUInt32 >>> ((4 : Int32).toUInt32 &&& Int32.toUInt32 31)).toInt32)) &&& (252645135 : Int32)).toUInt32 >>> ((8 : Int32).toUInt32 &&& Int32.toUInt32 31)).toInt32) hx hb dJ6_bitCount_0f7a4_38 rfl ?_
  refine lv_iadd hx hb dJ6_bitCount_0f7a4_39 ?_
  refine lv_istore_n (lv' := [(0, .int ((((((v0 - (((v0.toUInt32 >>> ((1 : Int32).toUInt32 &&& Int32.toUInt32 31)).toInt32) &&& (1431655765 : Int32))) &&& (858993459 : Int32)) + ((((v0 - (((v0.toUInt32 >>> ((1 : Int32).toUInt32 &&& Int32.toUInt32 31)).toInt32) &&& (1431655765 : Int32))).toUInt32 >>> ((2 : Int32).toUInt32 &&& Int32.toUInt32 31)).toInt32) &&& (858993459 : Int32))) + (((((v0 - (((v0.toUInt32 >>> ((1 : Int32).toUInt32 &&& Int32.toUInt32 31)).toInt32) &&& (1431655765 : Int32))) &&& (858993459 : Int32)) + ((((v0 - (((v0.toUInt32 >>> ((1 : Int32).toUInt32 &&& Int32.toUInt32 31)).toInt32) &&& (1431655765 : Int32))).toUInt32 >>> ((2 : Int32).toUInt32 &&& Int32.toUInt32 31)).toInt32) &&& (858993459 : Int32))).toUInt32 >>> ((4 : Int32).toUInt32 &&& Int32.toUInt32 31)).toInt32)) &&& (252645135 : Int32)) + (((((((v0 - (((v0.toUInt32 >>> ((1 : Int32).toUInt32 &&& Int32.toUInt32 31)).toInt32) &&& (1431655765 : Int32))) &&& (858993459 : Int32)) + ((((v0 - (((v0.toUInt32 >>> ((1 : Int32).toUInt32 &&& Int32.toUInt32 31)).toInt32) &&& (1431655765 : Int32))).toUInt32 >>> ((2 : Int32).toUInt32 &&& Int32.toUInt32 31)).toInt32) &&& (858993459 : Int32))) + (((((v0 - (((v0.toUInt32 >>> ((1 : Int32).toUInt32 &&& Int32.toUInt32 31)).toInt32) &&& (1431655765 : Int32))) &&& (858993459 : Int32)) + ((((v0 - (((v0.toUInt32 >>> ((1 : Int32).toUInt32 &&& Int32.toUInt32 31)).toInt32) &&& (1431655765 : Int32))).toUInt32 >>> ((2 : Int32).toUInt32 &&& Int32.toUInt32 31)).toInt32) &&& (858993459 : Int32))).toUInt32 >>> ((4 : Int32).toUInt32 &&& Int32.toUInt32 31)).toInt32)) &&& (252645135 : Int32)).toUInt32 >>> ((8 : Int32).toUInt32 &&& Int32.toUInt32 31)).toInt32)))]) hx hb dJ6_bitCount_0f7a4_40 rfl hl (by decide) rfl (fun ls hl => ?_)
  refine lv_iload_n hx hb dJ6_bitCount_0f7a4_41 rfl (lv_at hl 0 rfl) ?_
  refine lv_iload_n hx hb dJ6_bitCount_0f7a4_42 rfl (lv_at hl 0 rfl) ?_
  refine lv_bipush (v := (16 : Int32)) hx hb dJ6_bitCount_0f7a4_43 (by decide) ?_
  refine lv_iushr (v := (((((((v0 - (((v0.toUInt32 >>> ((1 : Int32).toUInt32 &&& Int32.toUInt32 31)).toInt32) &&& (1431655765 : Int32))) &&& (858993459 : Int32)) + ((((v0 - (((v0.toUInt32 >>> ((1 : Int32).toUInt32 &&& Int32.toUInt32 31)).toInt32) &&& (1431655765 : Int32))).toUInt32 >>> ((2 : Int32).toUInt32 &&& Int32.toUInt32 31)).toInt32) &&& (858993459 : Int32))) + (((((v0 - (((v0.toUInt32 >>> ((1 : Int32).toUInt32 &&& Int32.toUInt32 31)).toInt32) &&& (1431655765 : Int32))) &&& (858993459 : Int32)) + ((((v0 - (((v0.toUInt32 >>> ((1 : Int32).toUInt32 &&& Int32.toUInt32 31)).toInt32) &&& (1431655765 : Int32))).toUInt32 >>> ((2 : Int32).toUInt32 &&& Int32.toUInt32 31)).toInt32) &&& (858993459 : Int32))).toUInt32 >>> ((4 : Int32).toUInt32 &&& Int32.toUInt32 31)).toInt32)) &&& (252645135 : Int32)) + (((((((v0 - (((v0.toUInt32 >>> ((1 : Int32).toUInt32 &&& Int32.toUInt32 31)).toInt32) &&& (1431655765 : Int32))) &&& (858993459 : Int32)) + ((((v0 - (((v0.toUInt32 >>> ((1 : Int32).toUInt32 &&& Int32.toUInt32 31)).toInt32) &&& (1431655765 : Int32))).toUInt32 >>> ((2 : Int32).toUInt32 &&& Int32.toUInt32 31)).toInt32) &&& (858993459 : Int32))) + (((((v0 - (((v0.toUInt32 >>> ((1 : Int32).toUInt32 &&& Int32.toUInt32 31)).toInt32) &&& (1431655765 : Int32))) &&& (858993459 : Int32)) + ((((v0 - (((v0.toUInt32 >>> ((1 : Int32).toUInt32 &&& Int32.toUInt32 31)).toInt32) &&& (1431655765 : Int32))).toUInt32 >>> ((2 : Int32).toUInt32 &&& Int32.toUInt32 31)).toInt32) &&& (858993459 : Int32))).toUInt32 >>> ((4 : Int32).toUInt32 &&& Int32.toUInt32 31)).toInt32)) &&& (252645135 : Int32)).toUInt32 >>> ((8 : Int32).toUInt32 &&& Int32.toUInt32 31)).toInt32)).toUInt32 >>> ((16 : Int32).toUInt32 &&& Int32.toUInt32 31)).toInt32) hx hb dJ6_bitCount_0f7a4_45 rfl ?_
  refine lv_iadd hx hb dJ6_bitCount_0f7a4_46 ?_
  refine lv_istore_n (lv' := [(0, .int (((((((v0 - (((v0.toUInt32 >>> ((1 : Int32).toUInt32 &&& Int32.toUInt32 31)).toInt32) &&& (1431655765 : Int32))) &&& (858993459 : Int32)) + ((((v0 - (((v0.toUInt32 >>> ((1 : Int32).toUInt32 &&& Int32.toUInt32 31)).toInt32) &&& (1431655765 : Int32))).toUInt32 >>> ((2 : Int32).toUInt32 &&& Int32.toUInt32 31)).toInt32) &&& (858993459 : Int32))) + (((((v0 - (((v0.toUInt32 >>> ((1 : Int32).toUInt32 &&& Int32.toUInt32 31)).toInt32) &&& (1431655765 : Int32))) &&& (858993459 : Int32)) + ((((v0 - (((v0.toUInt32 >>> ((1 : Int32).toUInt32 &&& Int32.toUInt32 31)).toInt32) &&& (1431655765 : Int32))).toUInt32 >>> ((2 : Int32).toUInt32 &&& Int32.toUInt32 31)).toInt32) &&& (858993459 : Int32))).toUInt32 >>> ((4 : Int32).toUInt32 &&& Int32.toUInt32 31)).toInt32)) &&& (252645135 : Int32)) + (((((((v0 - (((v0.toUInt32 >>> ((1 : Int32).toUInt32 &&& Int32.toUInt32 31)).toInt32) &&& (1431655765 : Int32))) &&& (858993459 : Int32)) + ((((v0 - (((v0.toUInt32 >>> ((1 : Int32).toUInt32 &&& Int32.toUInt32 31)).toInt32) &&& (1431655765 : Int32))).toUInt32 >>> ((2 : Int32).toUInt32 &&& Int32.toUInt32 31)).toInt32) &&& (858993459 : Int32))) + (((((v0 - (((v0.toUInt32 >>> ((1 : Int32).toUInt32 &&& Int32.toUInt32 31)).toInt32) &&& (1431655765 : Int32))) &&& (858993459 : Int32)) + ((((v0 - (((v0.toUInt32 >>> ((1 : Int32).toUInt32 &&& Int32.toUInt32 31)).toInt32) &&& (1431655765 : Int32))).toUInt32 >>> ((2 : Int32).toUInt32 &&& Int32.toUInt32 31)).toInt32) &&& (858993459 : Int32))).toUInt32 >>> ((4 : Int32).toUInt32 &&& Int32.toUInt32 31)).toInt32)) &&& (252645135 : Int32)).toUInt32 >>> ((8 : Int32).toUInt32 &&& Int32.toUInt32 31)).toInt32)) + ((((((((v0 - (((v0.toUInt32 >>> ((1 : Int32).toUInt32 &&& Int32.toUInt32 31)).toInt32) &&& (1431655765 : Int32))) &&& (858993459 : Int32)) + ((((v0 - (((v0.toUInt32 >>> ((1 : Int32).toUInt32 &&& Int32.toUInt32 31)).toInt32) &&& (1431655765 : Int32))).toUInt32 >>> ((2 : Int32).toUInt32 &&& Int32.toUInt32 31)).toInt32) &&& (858993459 : Int32))) + (((((v0 - (((v0.toUInt32 >>> ((1 : Int32).toUInt32 &&& Int32.toUInt32 31)).toInt32) &&& (1431655765 : Int32))) &&& (858993459 : Int32)) + ((((v0 - (((v0.toUInt32 >>> ((1 : Int32).toUInt32 &&& Int32.toUInt32 31)).toInt32) &&& (1431655765 : Int32))).toUInt32 >>> ((2 : Int32).toUInt32 &&& Int32.toUInt32 31)).toInt32) &&& (858993459 : Int32))).toUInt32 >>> ((4 : Int32).toUInt32 &&& Int32.toUInt32 31)).toInt32)) &&& (252645135 : Int32)) + (((((((v0 - (((v0.toUInt32 >>> ((1 : Int32).toUInt32 &&& Int32.toUInt32 31)).toInt32) &&& (1431655765 : Int32))) &&& (858993459 : Int32)) + ((((v0 - (((v0.toUInt32 >>> ((1 : Int32).toUInt32 &&& Int32.toUInt32 31)).toInt32) &&& (1431655765 : Int32))).toUInt32 >>> ((2 : Int32).toUInt32 &&& Int32.toUInt32 31)).toInt32) &&& (858993459 : Int32))) + (((((v0 - (((v0.toUInt32 >>> ((1 : Int32).toUInt32 &&& Int32.toUInt32 31)).toInt32) &&& (1431655765 : Int32))) &&& (858993459 : Int32)) + ((((v0 - (((v0.toUInt32 >>> ((1 : Int32).toUInt32 &&& Int32.toUInt32 31)).toInt32) &&& (1431655765 : Int32))).toUInt32 >>> ((2 : Int32).toUInt32 &&& Int32.toUInt32 31)).toInt32) &&& (858993459 : Int32))).toUInt32 >>> ((4 : Int32).toUInt32 &&& Int32.toUInt32 31)).toInt32)) &&& (252645135 : Int32)).toUInt32 >>> ((8 : Int32).toUInt32 &&& Int32.toUInt32 31)).toInt32)).toUInt32 >>> ((16 : Int32).toUInt32 &&& Int32.toUInt32 31)).toInt32)))]) hx hb dJ6_bitCount_0f7a4_47 rfl hl (by decide) rfl (fun ls hl => ?_)
  refine lv_iload_n hx hb dJ6_bitCount_0f7a4_48 rfl (lv_at hl 0 rfl) ?_
  refine lv_bipush (v := (63 : Int32)) hx hb dJ6_bitCount_0f7a4_49 (by decide) ?_
  refine lv_iand hx hb dJ6_bitCount_0f7a4_51 ?_
  subst h
  exact retI K hw rfl dJ6_bitCount_0f7a4_52
set_option maxHeartbeats 4000000 in
set_option maxRecDepth 100000 in
theorem c_X0_copyFrom (l : Launch) (G : GP) (q : Nat → Nat) (k : Nat) (k2 : Nat) (d_callers : Int32) (d_kinds : Nat → Int32) (d_figures : Nat → Int32) (d_tones : Nat → Int32) (d_words : Nat → Int32) (d_hours : Nat → Int32) (d_order : Nat → Int32) (d_known : Nat → Int32) (d_tune : Int32) (d_hurt : Int32) (d_patience : Int32) (d_day : Int32) (d_answered : Int32) (d_unanswered : Int32) (d_said : Int32) (d_times : Nat → Int32) (d_last : Nat → Int32) (s_callers : Int32) (s_kinds : Nat → Int32) (s_figures : Nat → Int32) (s_tones : Nat → Int32) (s_words : Nat → Int32) (s_hours : Nat → Int32) (s_order : Nat → Int32) (s_known : Nat → Int32) (s_tune : Int32) (s_hurt : Int32) (s_patience : Int32) (s_day : Int32) (s_answered : Int32) (s_unanswered : Int32) (s_said : Int32) (s_times : Nat → Int32) (s_last : Nat → Int32) {o : Int32 × (Nat → Int32) × (Nat → Int32) × (Nat → Int32) × (Nat → Int32) × (Nat → Int32) × (Nat → Int32) × (Nat → Int32) × Int32 × Int32 × Int32 × Int32} (h : f_X0_copyFrom d_kinds d_figures d_tones d_words d_hours d_order d_known s_callers s_kinds s_figures s_tones s_words s_hours s_order s_known s_tune s_hurt s_patience s_day = o) : CtV l yX0_copyFrom cX0_copyFrom 2 ({ frames := 2, cells := 0, slots := 0, locals := 81 } : Room) G (gC G q k d_callers d_kinds d_figures d_tones d_words d_hours d_order d_known d_tune d_hurt d_patience d_day d_answered d_unanswered d_said d_times d_last ++ gC G q k2 s_callers s_kinds s_figures s_tones s_words s_hours s_order s_known s_tune s_hurt s_patience s_day s_answered s_unanswered s_said s_times s_last) [.ref (q k), .ref (q k2)] (gC G q k o.1 o.2.1 o.2.2.1 o.2.2.2.1 o.2.2.2.2.1 o.2.2.2.2.2.1 o.2.2.2.2.2.2.1 o.2.2.2.2.2.2.2.1 o.2.2.2.2.2.2.2.2.1 o.2.2.2.2.2.2.2.2.2.1 o.2.2.2.2.2.2.2.2.2.2.1 o.2.2.2.2.2.2.2.2.2.2.2 d_answered d_unanswered d_said d_times d_last ++ gC G q k2 s_callers s_kinds s_figures s_tones s_words s_hours s_order s_known s_tune s_hurt s_patience s_day s_answered s_unanswered s_said s_times s_last) := by
  refine CtV.of (by decide) (Nat.le_of_ble_eq_true rfl) ?_
  intro p e s m below meth c A ls K hl hw
  have hl : lv_has ls 2 [(0, .ref (q k)), (1, .ref (q k2))] := hl
  generalize ([.ref (q k), .ref (q k2)] : List Value).toArray = args at K ⊢
  have hx := K.1.1
  have hb := K.1.2.1
  unfold f_X0_copyFrom at h
  refine lv_aload_n hx hb dX0_copyFrom_0 rfl (lv_at hl 0 rfl) ?_
  refine lv_aload_n hx hb dX0_copyFrom_1 rfl (lv_at hl 1 rfl) ?_
  refine getX K hw inTX0 11 0 fl_X0_9 dX0_copyFrom_2 rfl rfl (by decide) rfl rfl ?_
  refine putX K hw inTX0 tyX0_ok nmX0 0 0 fl_X0_9 dX0_copyFrom_5 rfl rfl (by decide) rfl rfl rfl rfl (Nat.le_of_ble_eq_true rfl) (fun H locs hw => ?_)
  have hw : Wx G A (gC G q k s_callers d_kinds d_figures d_tones d_words d_hours d_order d_known d_tune d_hurt d_patience d_day d_answered d_unanswered d_said d_times d_last ++ gC G q k2 s_callers s_kinds s_figures s_tones s_words s_hours s_order s_known s_tune s_hurt s_patience s_day s_answered s_unanswered s_said s_times s_last) s H locs := hw
  refine lv_aload_n hx hb dX0_copyFrom_8 rfl (lv_at hl 1 rfl) ?_
  refine getX K hw inTX0 11 1 fl_X0_15 dX0_copyFrom_9 rfl rfl (by decide) rfl rfl ?_
  refine lv_aload_n hx hb dX0_copyFrom_12 rfl (lv_at hl 0 rfl) ?_
  refine getX K hw inTX0 0 1 fl_X0_15 dX0_copyFrom_13 rfl rfl (by decide) rfl rfl ?_
  refine callCopy K 12 1 (List.mem_of_getElem? (i := 10) rfl) ⟨rfl, rfl, Nat.le_of_ble_eq_true rfl, Nat.le_of_ble_eq_true rfl⟩ (by decide) rfl hw dX0_copyFrom_16 hl.1 ⟨Nat.zero_le _, Nat.zero_le _⟩ rfl rfl (Nat.le_of_ble_eq_true rfl) (fun H locs hw => ?_)
  have hw : Wx G A (gC G q k s_callers (f_copy 7 s_kinds d_kinds) d_figures d_tones d_words d_hours d_order d_known d_tune d_hurt d_patience d_day d_answered d_unanswered d_said d_times d_last ++ gC G q k2 s_callers s_kinds s_figures s_tones s_words s_hours s_order s_known s_tune s_hurt s_patience s_day s_answered s_unanswered s_said s_times s_last) s H locs := hw
  refine lv_aload_n hx hb dX0_copyFrom_19 rfl (lv_at hl 1 rfl) ?_
  refine getX K hw inTX0 11 2 fl_X0_19 dX0_copyFrom_20 rfl rfl (by decide) rfl rfl ?_
  refine lv_aload_n hx hb dX0_copyFrom_23 rfl (lv_at hl 0 rfl) ?_
  refine getX K hw inTX0 0 2 fl_X0_19 dX0_copyFrom_24 rfl rfl (by decide) rfl rfl ?_
  refine callCopy K 13 2 (List.mem_of_getElem? (i := 10) rfl) ⟨rfl, rfl, Nat.le_of_ble_eq_true rfl, Nat.le_of_ble_eq_true rfl⟩ (by decide) rfl hw dX0_copyFrom_27 hl.1 ⟨Nat.zero_le _, Nat.zero_le _⟩ rfl rfl (Nat.le_of_ble_eq_true rfl) (fun H locs hw => ?_)
  have hw : Wx G A (gC G q k s_callers (f_copy 7 s_kinds d_kinds) (f_copy 7 s_figures d_figures) d_tones d_words d_hours d_order d_known d_tune d_hurt d_patience d_day d_answered d_unanswered d_said d_times d_last ++ gC G q k2 s_callers s_kinds s_figures s_tones s_words s_hours s_order s_known s_tune s_hurt s_patience s_day s_answered s_unanswered s_said s_times s_last) s H locs := hw
  refine lv_aload_n hx hb dX0_copyFrom_30 rfl (lv_at hl 1 rfl) ?_
  refine getX K hw inTX0 11 3 fl_X0_22 dX0_copyFrom_31 rfl rfl (by decide) rfl rfl ?_
  refine lv_aload_n hx hb dX0_copyFrom_34 rfl (lv_at hl 0 rfl) ?_
  refine getX K hw inTX0 0 3 fl_X0_22 dX0_copyFrom_35 rfl rfl (by decide) rfl rfl ?_
  refine callCopy K 14 3 (List.mem_of_getElem? (i := 10) rfl) ⟨rfl, rfl, Nat.le_of_ble_eq_true rfl, Nat.le_of_ble_eq_true rfl⟩ (by decide) rfl hw dX0_copyFrom_38 hl.1 ⟨Nat.zero_le _, Nat.zero_le _⟩ rfl rfl (Nat.le_of_ble_eq_true rfl) (fun H locs hw => ?_)
  have hw : Wx G A (gC G q k s_callers (f_copy 7 s_kinds d_kinds) (f_copy 7 s_figures d_figures) (f_copy 7 s_tones d_tones) d_words d_hours d_order d_known d_tune d_hurt d_patience d_day d_answered d_unanswered d_said d_times d_last ++ gC G q k2 s_callers s_kinds s_figures s_tones s_words s_hours s_order s_known s_tune s_hurt s_patience s_day s_answered s_unanswered s_said s_times s_last) s H locs := hw
  refine lv_aload_n hx hb dX0_copyFrom_41 rfl (lv_at hl 1 rfl) ?_
  refine getX K hw inTX0 11 4 fl_X0_25 dX0_copyFrom_42 rfl rfl (by decide) rfl rfl ?_
  refine lv_aload_n hx hb dX0_copyFrom_45 rfl (lv_at hl 0 rfl) ?_
  refine getX K hw inTX0 0 4 fl_X0_25 dX0_copyFrom_46 rfl rfl (by decide) rfl rfl ?_
  refine callCopy K 15 4 (List.mem_of_getElem? (i := 10) rfl) ⟨rfl, rfl, Nat.le_of_ble_eq_true rfl, Nat.le_of_ble_eq_true rfl⟩ (by decide) rfl hw dX0_copyFrom_49 hl.1 ⟨Nat.zero_le _, Nat.zero_le _⟩ rfl rfl (Nat.le_of_ble_eq_true rfl) (fun H locs hw => ?_)
  have hw : Wx G A (gC G q k s_callers (f_copy 7 s_kinds d_kinds) (f_copy 7 s_figures d_figures) (f_copy 7 s_tones d_tones) (f_copy 7 s_words d_words) d_hours d_order d_known d_tune d_hurt d_patience d_day d_answered d_unanswered d_said d_times d_last ++ gC G q k2 s_callers s_kinds s_figures s_tones s_words s_hours s_order s_known s_tune s_hurt s_patience s_day s_answered s_unanswered s_said s_times s_last) s H locs := hw
  refine lv_aload_n hx hb dX0_copyFrom_52 rfl (lv_at hl 1 rfl) ?_
  refine getX K hw inTX0 11 5 fl_X0_28 dX0_copyFrom_53 rfl rfl (by decide) rfl rfl ?_
  refine lv_aload_n hx hb dX0_copyFrom_56 rfl (lv_at hl 0 rfl) ?_
  refine getX K hw inTX0 0 5 fl_X0_28 dX0_copyFrom_57 rfl rfl (by decide) rfl rfl ?_
  refine callCopy K 16 5 (List.mem_of_getElem? (i := 10) rfl) ⟨rfl, rfl, Nat.le_of_ble_eq_true rfl, Nat.le_of_ble_eq_true rfl⟩ (by decide) rfl hw dX0_copyFrom_60 hl.1 ⟨Nat.zero_le _, Nat.zero_le _⟩ rfl rfl (Nat.le_of_ble_eq_true rfl) (fun H locs hw => ?_)
  have hw : Wx G A (gC G q k s_callers (f_copy 7 s_kinds d_kinds) (f_copy 7 s_figures d_figures) (f_copy 7 s_tones d_tones) (f_copy 7 s_words d_words) (f_copy 7 s_hours d_hours) d_order d_known d_tune d_hurt d_patience d_day d_answered d_unanswered d_said d_times d_last ++ gC G q k2 s_callers s_kinds s_figures s_tones s_words s_hours s_order s_known s_tune s_hurt s_patience s_day s_answered s_unanswered s_said s_times s_last) s H locs := hw
  refine lv_aload_n hx hb dX0_copyFrom_63 rfl (lv_at hl 1 rfl) ?_
  refine getX K hw inTX0 11 6 fl_X0_31 dX0_copyFrom_64 rfl rfl (by decide) rfl rfl ?_
  refine lv_aload_n hx hb dX0_copyFrom_67 rfl (lv_at hl 0 rfl) ?_
  refine getX K hw inTX0 0 6 fl_X0_31 dX0_copyFrom_68 rfl rfl (by decide) rfl rfl ?_
  refine callCopy K 17 6 (List.mem_of_getElem? (i := 10) rfl) ⟨rfl, rfl, Nat.le_of_ble_eq_true rfl, Nat.le_of_ble_eq_true rfl⟩ (by decide) rfl hw dX0_copyFrom_71 hl.1 ⟨Nat.zero_le _, Nat.zero_le _⟩ rfl rfl (Nat.le_of_ble_eq_true rfl) (fun H locs hw => ?_)
  have hw : Wx G A (gC G q k s_callers (f_copy 7 s_kinds d_kinds) (f_copy 7 s_figures d_figures) (f_copy 7 s_tones d_tones) (f_copy 7 s_words d_words) (f_copy 7 s_hours d_hours) (f_copy 7 s_order d_order) d_known d_tune d_hurt d_patience d_day d_answered d_unanswered d_said d_times d_last ++ gC G q k2 s_callers s_kinds s_figures s_tones s_words s_hours s_order s_known s_tune s_hurt s_patience s_day s_answered s_unanswered s_said s_times s_last) s H locs := hw
  refine lv_aload_n hx hb dX0_copyFrom_74 rfl (lv_at hl 1 rfl) ?_
  refine getX K hw inTX0 11 7 fl_X0_34 dX0_copyFrom_75 rfl rfl (by decide) rfl rfl ?_
  refine lv_aload_n hx hb dX0_copyFrom_78 rfl (lv_at hl 0 rfl) ?_
  refine getX K hw inTX0 0 7 fl_X0_34 dX0_copyFrom_79 rfl rfl (by decide) rfl rfl ?_
  refine callCopy K 18 7 (List.mem_of_getElem? (i := 10) rfl) ⟨rfl, rfl, Nat.le_of_ble_eq_true rfl, Nat.le_of_ble_eq_true rfl⟩ (by decide) rfl hw dX0_copyFrom_82 hl.1 ⟨Nat.zero_le _, Nat.zero_le _⟩ rfl rfl (Nat.le_of_ble_eq_true rfl) (fun H locs hw => ?_)
  have hw : Wx G A (gC G q k s_callers (f_copy 7 s_kinds d_kinds) (f_copy 7 s_figures d_figures) (f_copy 7 s_tones d_tones) (f_copy 7 s_words d_words) (f_copy 7 s_hours d_hours) (f_copy 7 s_order d_order) (f_copy 8 s_known d_known) d_tune d_hurt d_patience d_day d_answered d_unanswered d_said d_times d_last ++ gC G q k2 s_callers s_kinds s_figures s_tones s_words s_hours s_order s_known s_tune s_hurt s_patience s_day s_answered s_unanswered s_said s_times s_last) s H locs := hw
  refine lv_aload_n hx hb dX0_copyFrom_85 rfl (lv_at hl 0 rfl) ?_
  refine lv_aload_n hx hb dX0_copyFrom_86 rfl (lv_at hl 1 rfl) ?_
  refine getX K hw inTX0 11 8 fl_X0_37 dX0_copyFrom_87 rfl rfl (by decide) rfl rfl ?_
  refine putX K hw inTX0 tyX0_ok nmX0 0 8 fl_X0_37 dX0_copyFrom_90 rfl rfl (by decide) rfl rfl rfl rfl (Nat.le_of_ble_eq_true rfl) (fun H locs hw => ?_)
  have hw : Wx G A (gC G q k s_callers (f_copy 7 s_kinds d_kinds) (f_copy 7 s_figures d_figures) (f_copy 7 s_tones d_tones) (f_copy 7 s_words d_words) (f_copy 7 s_hours d_hours) (f_copy 7 s_order d_order) (f_copy 8 s_known d_known) s_tune d_hurt d_patience d_day d_answered d_unanswered d_said d_times d_last ++ gC G q k2 s_callers s_kinds s_figures s_tones s_words s_hours s_order s_known s_tune s_hurt s_patience s_day s_answered s_unanswered s_said s_times s_last) s H locs := hw
  refine lv_aload_n hx hb dX0_copyFrom_93 rfl (lv_at hl 0 rfl) ?_
  refine lv_aload_n hx hb dX0_copyFrom_94 rfl (lv_at hl 1 rfl) ?_
  refine getX K hw inTX0 11 9 fl_X0_40 dX0_copyFrom_95 rfl rfl (by decide) rfl rfl ?_
  refine putX K hw inTX0 tyX0_ok nmX0 0 9 fl_X0_40 dX0_copyFrom_98 rfl rfl (by decide) rfl rfl rfl rfl (Nat.le_of_ble_eq_true rfl) (fun H locs hw => ?_)
  have hw : Wx G A (gC G q k s_callers (f_copy 7 s_kinds d_kinds) (f_copy 7 s_figures d_figures) (f_copy 7 s_tones d_tones) (f_copy 7 s_words d_words) (f_copy 7 s_hours d_hours) (f_copy 7 s_order d_order) (f_copy 8 s_known d_known) s_tune s_hurt d_patience d_day d_answered d_unanswered d_said d_times d_last ++ gC G q k2 s_callers s_kinds s_figures s_tones s_words s_hours s_order s_known s_tune s_hurt s_patience s_day s_answered s_unanswered s_said s_times s_last) s H locs := hw
  refine lv_aload_n hx hb dX0_copyFrom_101 rfl (lv_at hl 0 rfl) ?_
  refine lv_aload_n hx hb dX0_copyFrom_102 rfl (lv_at hl 1 rfl) ?_
  refine getX K hw inTX0 11 10 fl_X0_43 dX0_copyFrom_103 rfl rfl (by decide) rfl rfl ?_
  refine putX K hw inTX0 tyX0_ok nmX0 0 10 fl_X0_43 dX0_copyFrom_106 rfl rfl (by decide) rfl rfl rfl rfl (Nat.le_of_ble_eq_true rfl) (fun H locs hw => ?_)
  have hw : Wx G A (gC G q k s_callers (f_copy 7 s_kinds d_kinds) (f_copy 7 s_figures d_figures) (f_copy 7 s_tones d_tones) (f_copy 7 s_words d_words) (f_copy 7 s_hours d_hours) (f_copy 7 s_order d_order) (f_copy 8 s_known d_known) s_tune s_hurt s_patience d_day d_answered d_unanswered d_said d_times d_last ++ gC G q k2 s_callers s_kinds s_figures s_tones s_words s_hours s_order s_known s_tune s_hurt s_patience s_day s_answered s_unanswered s_said s_times s_last) s H locs := hw
  refine lv_aload_n hx hb dX0_copyFrom_109 rfl (lv_at hl 0 rfl) ?_
  refine lv_aload_n hx hb dX0_copyFrom_110 rfl (lv_at hl 1 rfl) ?_
  refine getX K hw inTX0 11 11 fl_X0_46 dX0_copyFrom_111 rfl rfl (by decide) rfl rfl ?_
  refine putX K hw inTX0 tyX0_ok nmX0 0 11 fl_X0_46 dX0_copyFrom_114 rfl rfl (by decide) rfl rfl rfl rfl (Nat.le_of_ble_eq_true rfl) (fun H locs hw => ?_)
  have hw : Wx G A (gC G q k s_callers (f_copy 7 s_kinds d_kinds) (f_copy 7 s_figures d_figures) (f_copy 7 s_tones d_tones) (f_copy 7 s_words d_words) (f_copy 7 s_hours d_hours) (f_copy 7 s_order d_order) (f_copy 8 s_known d_known) s_tune s_hurt s_patience s_day d_answered d_unanswered d_said d_times d_last ++ gC G q k2 s_callers s_kinds s_figures s_tones s_words s_hours s_order s_known s_tune s_hurt s_patience s_day s_answered s_unanswered s_said s_times s_last) s H locs := hw
  subst h
  exact retV K hw dX0_copyFrom_117
set_option maxHeartbeats 4000000 in
set_option maxRecDepth 100000 in
theorem c_X3_first (l : Launch) (G : GP) (v0 : Int32) (v1 : Int32) {o : Int32} (h : f_X3_first v0 v1 = o) : CtI l yX3_first cX3_first 2 (some .int) ({ frames := 0, cells := 0, slots := 0, locals := 0 } : Room) G ([] : va_W) [.int v0, .int v1] o ([] : va_W) := by
  refine CtI.of (by decide) (Nat.le_of_ble_eq_true rfl) ?_
  intro p e s m below meth c A ls K hl hw
  have hl : lv_has ls 2 [(0, .int v0), (1, .int v1)] := hl
  generalize ([.int v0, .int v1] : List Value).toArray = args at K ⊢
  have hx := K.1.1
  have hb := K.1.2.1
  unfold f_X3_first at h
  refine lv_iload_n hx hb dX3_first_0 rfl (lv_at hl 0 rfl) ?_
  refine lv_if_eq (tgt := 8) hx hb dX3_first_1 (by decide) (fun hc1 => ?_) (fun hc1 => ?_)
  · have h := ifp hc1 h
    refine lv_iload_n hx hb dX3_first_8 rfl (lv_at hl 1 rfl) ?_
    subst h
    exact retI K hw rfl dX3_first_9
  · have h := ifn hc1 h
    refine lv_iload_n hx hb dX3_first_4 rfl (lv_at hl 0 rfl) ?_
    refine lv_goto (tgt := 9) hx hb dX3_first_5 (by decide) ?_
    subst h
    exact retI K hw rfl dX3_first_9
set_option maxHeartbeats 4000000 in
set_option maxRecDepth 100000 in
theorem c_X3_rangeNo (l : Launch) (G : GP) (v0 : Int32) (v1 : Int32) (v2 : Int32) {o : Int32} (h : f_X3_rangeNo v0 v1 v2 = o) : CtI l yX3_rangeNo cX3_rangeNo 3 (some .int) ({ frames := 0, cells := 0, slots := 0, locals := 0 } : Room) G ([] : va_W) [.int v0, .int v1, .int v2] o ([] : va_W) := by
  refine CtI.of (by decide) (Nat.le_of_ble_eq_true rfl) ?_
  intro p e s m below meth c A ls K hl hw
  have hl : lv_has ls 3 [(0, .int v0), (1, .int v1), (2, .int v2)] := hl
  generalize ([.int v0, .int v1, .int v2] : List Value).toArray = args at K ⊢
  have hx := K.1.1
  have hb := K.1.2.1
  unfold f_X3_rangeNo at h
  refine lv_iload_n hx hb dX3_rangeNo_0 rfl (lv_at hl 0 rfl) ?_
  refine lv_iload_n hx hb dX3_rangeNo_1 rfl (lv_at hl 1 rfl) ?_
  refine lv_icmp_ge (tgt := 8) hx hb dX3_rangeNo_2 (by decide) (fun hc1 => ?_) (fun hc1 => ?_)
  · have h := ifp hc1 h
    refine lv_iload_n hx hb dX3_rangeNo_8 rfl (lv_at hl 0 rfl) ?_
    refine lv_iload_n hx hb dX3_rangeNo_9 rfl (lv_at hl 2 rfl) ?_
    refine lv_icmp_le (tgt := 18) hx hb dX3_rangeNo_10 (by decide) (fun hc2 => ?_) (fun hc2 => ?_)
    · have h := ifp hc2 h
      refine lv_iconst (v := (0 : Int32)) hx hb dX3_rangeNo_18 (by decide) ?_
      subst h
      exact retI K hw rfl dX3_rangeNo_19
    · have h := ifn hc2 h
      refine lv_bipush (v := (-6 : Int32)) hx hb dX3_rangeNo_13 (by decide) ?_
      refine lv_goto (tgt := 19) hx hb dX3_rangeNo_15 (by decide) ?_
      subst h
      exact retI K hw rfl dX3_rangeNo_19
  · have h := ifn hc1 h
    refine lv_bipush (v := (-4 : Int32)) hx hb dX3_rangeNo_5 (by decide) ?_
    subst h
    exact retI K hw rfl dX3_rangeNo_7
set_option maxHeartbeats 4000000 in
set_option maxRecDepth 100000 in
theorem c_X3_aheadNo (l : Launch) (G : GP) (v0 : Int32) {o : Int32} (h : f_X3_aheadNo v0 = o) : CtI l yX3_aheadNo cX3_aheadNo 1 (some .int) ({ frames := 1, cells := 0, slots := 0, locals := 22 } : Room) G ([] : va_W) [.int v0] o ([] : va_W) := by
  refine CtI.of (by decide) (Nat.le_of_ble_eq_true rfl) ?_
  intro p e s m below meth c A ls K hl hw
  have hl : lv_has ls 1 [(0, .int v0)] := hl
  generalize ([.int v0] : List Value).toArray = args at K ⊢
  have hx := K.1.1
  have hb := K.1.2.1
  unfold f_X3_aheadNo at h
  refine lv_iload_n hx hb dX3_aheadNo_0 rfl (lv_at hl 0 rfl) ?_
  refine lv_iconst (v := (0 : Int32)) hx hb dX3_aheadNo_1 (by decide) ?_
  refine lv_bipush (v := (60 : Int32)) hx hb dX3_aheadNo_2 (by decide) ?_
  refine callSI K (c_X3_rangeNo l G v0 (0 : Int32) (60 : Int32) rfl) mt_yX3_rangeNo lk_X3_44 ⟨rfl, rfl, Nat.le_of_ble_eq_true rfl, Nat.le_of_ble_eq_true rfl⟩ hw dX3_aheadNo_4 hl.1 ⟨Nat.zero_le _, Nat.zero_le _⟩ (wa := (([] : va_W).take 0)) (wb := (([] : va_W).drop 0)) rfl (rest := []) rfl rfl (Nat.le_of_ble_eq_true rfl) (fun H locs hw => ?_)
  have hw : Wx G A ([] : va_W) s H locs := hw
  subst h
  exact retI K hw rfl dX3_aheadNo_7
set_option maxHeartbeats 4000000 in
set_option maxRecDepth 100000 in
theorem c_X3_whatNo (l : Launch) (G : GP) (v0 : Int32) (v1 : Int32) {o : Int32} (h : f_X3_whatNo v0 v1 = o) : CtI l yX3_whatNo cX3_whatNo 2 (some .int) ({ frames := 0, cells := 0, slots := 0, locals := 0 } : Room) G ([] : va_W) [.int v0, .int v1] o ([] : va_W) := by
  refine CtI.of (by decide) (Nat.le_of_ble_eq_true rfl) ?_
  intro p e s m below meth c A ls K hl hw
  have hl : lv_has ls 2 [(0, .int v0), (1, .int v1)] := hl
  generalize ([.int v0, .int v1] : List Value).toArray = args at K ⊢
  have hx := K.1.1
  have hb := K.1.2.1
  unfold f_X3_whatNo at h
  refine lv_iload_n hx hb dX3_whatNo_0 rfl (lv_at hl 0 rfl) ?_
  refine lv_if_lt (tgt := 9) hx hb dX3_whatNo_1 (by decide) (fun hc1 => ?_) (fun hc1 => ?_)
  · have h := ifp hc1 h
    refine lv_bipush (v := (-2 : Int32)) hx hb dX3_whatNo_9 (by decide) ?_
    refine lv_goto (tgt := 15) hx hb dX3_whatNo_11 (by decide) ?_
    subst h
    exact retI K hw rfl dX3_whatNo_15
  · have h := ifn hc1 h
    refine lv_iload_n hx hb dX3_whatNo_4 rfl (lv_at hl 0 rfl) ?_
    refine lv_iload_n hx hb dX3_whatNo_5 rfl (lv_at hl 1 rfl) ?_
    refine lv_icmp_le (tgt := 14) hx hb dX3_whatNo_6 (by decide) (fun hc2 => ?_) (fun hc2 => ?_)
    · have h := ifp hc2 h
      refine lv_iconst (v := (0 : Int32)) hx hb dX3_whatNo_14 (by decide) ?_
      subst h
      exact retI K hw rfl dX3_whatNo_15
    · have h := ifn hc2 h
      refine lv_bipush (v := (-2 : Int32)) hx hb dX3_whatNo_9 (by decide) ?_
      refine lv_goto (tgt := 15) hx hb dX3_whatNo_11 (by decide) ?_
      subst h
      exact retI K hw rfl dX3_whatNo_15
set_option maxHeartbeats 4000000 in
set_option maxRecDepth 100000 in
theorem c_X3_settingNo (l : Launch) (G : GP) (v0 : Int32) (v1 : Int32) {o : Int32} (h : f_X3_settingNo v0 v1 = o) : CtI l yX3_settingNo cX3_settingNo 2 (some .int) ({ frames := 1, cells := 0, slots := 0, locals := 22 } : Room) G ([] : va_W) [.int v0, .int v1] o ([] : va_W) := by
  refine CtI.of (by decide) (Nat.le_of_ble_eq_true rfl) ?_
  intro p e s m below meth c A ls K hl hw
  have hl : lv_has ls 2 [(0, .int v0), (1, .int v1)] := hl
  generalize ([.int v0, .int v1] : List Value).toArray = args at K ⊢
  have hx := K.1.1
  have hb := K.1.2.1
  unfold f_X3_settingNo at h
  refine lv_iload_n hx hb dX3_settingNo_0 rfl (lv_at hl 0 rfl) ?_
  refine lv_if_ne (tgt := 12) hx hb dX3_settingNo_1 (by decide) (fun hc1 => ?_) (fun hc1 => ?_)
  · have h := ifn hc1 h
    refine lv_iload_n hx hb dX3_settingNo_12 rfl (lv_at hl 0 rfl) ?_
    refine lv_iconst (v := (1 : Int32)) hx hb dX3_settingNo_13 (by decide) ?_
    refine lv_icmp_ne (tgt := 27) hx hb dX3_settingNo_14 (by decide) (fun hc2 => ?_) (fun hc2 => ?_)
    · have h := ifn hc2 h
      refine lv_iload_n hx hb dX3_settingNo_27 rfl (lv_at hl 1 rfl) ?_
      refine lv_iconst (v := (1 : Int32)) hx hb dX3_settingNo_28 (by decide) ?_
      refine lv_bipush (v := (20 : Int32)) hx hb dX3_settingNo_29 (by decide) ?_
      refine callSI K (c_X3_rangeNo l G v1 (1 : Int32) (20 : Int32) rfl) mt_yX3_rangeNo lk_X3_44 ⟨rfl, rfl, Nat.le_of_ble_eq_true rfl, Nat.le_of_ble_eq_true rfl⟩ hw dX3_settingNo_31 hl.1 ⟨Nat.zero_le _, Nat.zero_le _⟩ (wa := (([] : va_W).take 0)) (wb := (([] : va_W).drop 0)) rfl (rest := []) rfl rfl (Nat.le_of_ble_eq_true rfl) (fun H locs hw => ?_)
      have hw : Wx G A ([] : va_W) s H locs := hw
      subst h
      exact retI K hw rfl dX3_settingNo_34
    · have h := ifp hc2 h
      refine lv_iload_n hx hb dX3_settingNo_17 rfl (lv_at hl 1 rfl) ?_
      refine lv_iconst (v := (0 : Int32)) hx hb dX3_settingNo_18 (by decide) ?_
      refine lv_bipush (v := (99 : Int32)) hx hb dX3_settingNo_19 (by decide) ?_
      refine callSI K (c_X3_rangeNo l G v1 (0 : Int32) (99 : Int32) rfl) mt_yX3_rangeNo lk_X3_44 ⟨rfl, rfl, Nat.le_of_ble_eq_true rfl, Nat.le_of_ble_eq_true rfl⟩ hw dX3_settingNo_21 hl.1 ⟨Nat.zero_le _, Nat.zero_le _⟩ (wa := (([] : va_W).take 0)) (wb := (([] : va_W).drop 0)) rfl (rest := []) rfl rfl (Nat.le_of_ble_eq_true rfl) (fun H locs hw => ?_)
      have hw : Wx G A ([] : va_W) s H locs := hw
      refine lv_goto (tgt := 34) hx hb dX3_settingNo_24 (by decide) ?_
      subst h
      exact retI K hw rfl dX3_settingNo_34
  · have h := ifp hc1 h
    refine lv_iload_n hx hb dX3_settingNo_4 rfl (lv_at hl 1 rfl) ?_
    refine lv_iconst (v := (0 : Int32)) hx hb dX3_settingNo_5 (by decide) ?_
    refine lv_bipush (v := (9 : Int32)) hx hb dX3_settingNo_6 (by decide) ?_
    refine callSI K (c_X3_rangeNo l G v1 (0 : Int32) (9 : Int32) rfl) mt_yX3_rangeNo lk_X3_44 ⟨rfl, rfl, Nat.le_of_ble_eq_true rfl, Nat.le_of_ble_eq_true rfl⟩ hw dX3_settingNo_8 hl.1 ⟨Nat.zero_le _, Nat.zero_le _⟩ (wa := (([] : va_W).take 0)) (wb := (([] : va_W).drop 0)) rfl (rest := []) rfl rfl (Nat.le_of_ble_eq_true rfl) (fun H locs hw => ?_)
    have hw : Wx G A ([] : va_W) s H locs := hw
    subst h
    exact retI K hw rfl dX3_settingNo_11
set_option maxHeartbeats 4000000 in
set_option maxRecDepth 100000 in
theorem c_X3_wordNo (l : Launch) (G : GP) (v0 : Int32) {o : Int32} (h : f_X3_wordNo v0 = o) : CtI l yX3_wordNo cX3_wordNo 1 (some .int) ({ frames := 0, cells := 0, slots := 0, locals := 0 } : Room) G ([] : va_W) [.int v0] o ([] : va_W) := by
  refine CtI.of (by decide) (Nat.le_of_ble_eq_true rfl) ?_
  intro p e s m below meth c A ls K hl hw
  have hl : lv_has ls 1 [(0, .int v0)] := hl
  generalize ([.int v0] : List Value).toArray = args at K ⊢
  have hx := K.1.1
  have hb := K.1.2.1
  unfold f_X3_wordNo at h
  refine lv_iload_n hx hb dX3_wordNo_0 rfl (lv_at hl 0 rfl) ?_
  refine lv_if_lt (tgt := 10) hx hb dX3_wordNo_1 (by decide) (fun hc1 => ?_) (fun hc1 => ?_)
  · have h := ifp hc1 h
    refine lv_iconst (v := (-1 : Int32)) hx hb dX3_wordNo_10 (by decide) ?_
    refine lv_goto (tgt := 15) hx hb dX3_wordNo_11 (by decide) ?_
    subst h
    exact retI K hw rfl dX3_wordNo_15
  · have h := ifn hc1 h
    refine lv_iload_n hx hb dX3_wordNo_4 rfl (lv_at hl 0 rfl) ?_
    refine lv_bipush (v := (8 : Int32)) hx hb dX3_wordNo_5 (by decide) ?_
    refine lv_icmp_lt (tgt := 14) hx hb dX3_wordNo_7 (by decide) (fun hc2 => ?_) (fun hc2 => ?_)
    · have h := ifp hc2 h
      refine lv_iconst (v := (0 : Int32)) hx hb dX3_wordNo_14 (by decide) ?_
      subst h
      exact retI K hw rfl dX3_wordNo_15
    · have h := ifn hc2 h
      refine lv_iconst (v := (-1 : Int32)) hx hb dX3_wordNo_10 (by decide) ?_
      refine lv_goto (tgt := 15) hx hb dX3_wordNo_11 (by decide) ?_
      subst h
      exact retI K hw rfl dX3_wordNo_15
set_option maxHeartbeats 4000000 in
set_option maxRecDepth 100000 in
theorem c_X3_without (l : Launch) (G : GP) (v0 : Int32) {o : Int32} (h : f_X3_without v0 = o) : CtI l yX3_without cX3_without 1 (some .int) ({ frames := 0, cells := 0, slots := 0, locals := 0 } : Room) G ([] : va_W) [.int v0] o ([] : va_W) := by
  refine CtI.of (by decide) (Nat.le_of_ble_eq_true rfl) ?_
  intro p e s m below meth c A ls K hl hw
  have hl : lv_has ls 1 [(0, .int v0)] := hl
  generalize ([.int v0] : List Value).toArray = args at K ⊢
  have hx := K.1.1
  have hb := K.1.2.1
  unfold f_X3_without at h
  refine lv_bipush (v := (127 : Int32)) hx hb dX3_without_0 (by decide) ?_
  refine lv_iload_n hx hb dX3_without_2 rfl (lv_at hl 0 rfl) ?_
  refine lv_iconst (v := (-1 : Int32)) hx hb dX3_without_3 (by decide) ?_
  refine lv_ixor hx hb dX3_without_4 ?_
  refine lv_iand hx hb dX3_without_5 ?_
  subst h
  exact retI K hw rfl dX3_without_6
