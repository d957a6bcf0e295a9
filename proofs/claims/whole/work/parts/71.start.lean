abbrev AL (s : State) : Nat → Prop := fun q => s.heap.size ≤ q
def FL : List Cond := flatC (Cond.and given_1 narrow_1)
theorem nf_in : ∀ q ∈ NF, NWf q ∈ lw_tbl := by decide +kernel
theorem nm_in : ∀ q ∈ NM, NWm q ∈ lw_tbl := by decide +kernel
theorem st_lay : ∀ k : Fin 5, Cond.laysStatic "TheEchosWidow" (tn k.val) "[I" ∈ lw_tbl := by decide +kernel
theorem st_arr : ∀ k : Fin 5, Cond.arrayOf (.static "TheEchosWidow" (tn k.val) "[I") .int ∈ FL := by decide +kernel
theorem st_len : ∀ k : Fin 5, Cond.eq (.length (.static "TheEchosWidow" (tn k.val) "[I")) (.int (Int32.ofNat 6)) ∈ FL := by decide +kernel
theorem st_el : ∀ k : Fin 5, ∀ j : Fin 6, Cond.eq (.elem (.static "TheEchosWidow" (tn k.val) "[I") (.int (Int32.ofNat j.val))) (.int (tv k.val j.val)) ∈ FL := by decide +kernel
theorem cs_lay : Cond.laysStatic "java/lang/String" "COMPACT_STRINGS" "Z" ∈ lw_tbl := by decide +kernel
theorem cs_ini : Cond.initialized "java/lang/String" ∈ lw_tbl := by decide +kernel
theorem cs_eq : Cond.eq (.static "java/lang/String" "COMPACT_STRINGS" "Z") (.int 1) ∈ FL := by decide +kernel
theorem sf_lay : Cond.laysStatic "jdk/internal/util/Preconditions" "SIOOBE_FORMATTER" "Ljava/util/function/BiFunction;" ∈ lw_tbl := by decide +kernel
theorem sf_ini : Cond.initialized "jdk/internal/util/Preconditions" ∈ lw_tbl := by decide +kernel
theorem sf_ref : Cond.isRef (.static "jdk/internal/util/Preconditions" "SIOOBE_FORMATTER" "Ljava/util/function/BiFunction;") ∈ FL := by decide +kernel
theorem sr_ref : ∀ i : Fin 9, Cond.stringRef RX2 (sIx.getD i.val 0) (sTx.getD i.val "") ∈ lw_tbl := by decide +kernel
abbrev tmStr (i : Nat) : Term := .string RX2 (sIx.getD i 0)
theorem sg_ex : ∀ i : Fin 9, Cond.exactly (tmStr i.val) "java/lang/String" ∈ FL := by decide +kernel
theorem sg_co : ∀ i : Fin 9, Cond.eq (.field (tmStr i.val) "java/lang/String" "coder" "B") (.int 0) ∈ FL := by decide +kernel
theorem sg_ar : ∀ i : Fin 9, Cond.arrayOf (.field (tmStr i.val) "java/lang/String" "value" "[B") .byte ∈ FL := by decide +kernel
theorem sg_le : ∀ i : Fin 9, Cond.eq (.length (.field (tmStr i.val) "java/lang/String" "value" "[B")) (.int (Int32.ofNat (sLen.getD i.val 0))) ∈ FL := by decide +kernel
theorem sg_el : ∀ i : Fin 9, ∀ j : Fin 8, j.val < sLen.getD i.val 0 → Cond.eq (.elem (.field (tmStr i.val) "java/lang/String" "value" "[B") (.int (Int32.ofNat j.val))) (.int ((sByt.getD i.val []).getD j.val 0)) ∈ FL := by decide +kernel
theorem sg_ne : ∀ i j : Fin 9, i.val ≠ j.val → Cond.not (Cond.eq (tmStr i.val) (tmStr j.val)) ∈ FL ∨ Cond.not (Cond.eq (tmStr j.val) (tmStr i.val)) ∈ FL := by decide +kernel
theorem sg_sz : ∀ i : Fin 9, sLen.getD i.val 0 < 9 := by decide +kernel
theorem arr_start {s : State} {args : Array Value} (h : (Cond.arrayClass .int).before args s = true) : ∃ cA, ArrOfT s cA .int ∧ va_RA s cA .int := by
  obtain ⟨c, k, comp, h1, h2, h3⟩ := Cond.arrayClass_spec h
  exact ⟨c, fun n z => ⟨fun k h => (by cases h), k, h2, comp, h3⟩, h1⟩
set_option maxHeartbeats 1000000 in
theorem start_G {s : State} {b : Nat} (hts : ∀ w ∈ lw_tbl, w.before #[Value.ref b] s = true) (hgv : (Jvm.Cond.and given_1 narrow_1).before #[Value.ref b] s = true) : ∃ G : GP, va_K G.1 vwCl [(G.2.1, .int)] s ∧ Ex G (AL s) s s.heap := by
  have hT : ∀ w ∈ TB, w.before #[Value.ref b] s = true := fun w h => hts w (List.mem_filter.mp h).1
  have hF : ∀ w ∈ FL, w.before #[Value.ref b] s = true := flat_of_before _ hgv
  have hA : ∀ a : Nat, a < s.heap.size → ¬ AL s a := fun a h => Nat.not_le.mpr h
  obtain ⟨c0, i0, k0⟩ := u_known (C := RX0) (T := TX0) (N := 13) (n := 13) hT inTX0 (hT _ inst_X0)
  obtain ⟨c1, i1, k1⟩ := u_known (C := RX1) (T := TX1) (N := 5) (n := 5) hT inTX1 (hT _ inst_X1)
  obtain ⟨c2, i2, k2⟩ := u_known (C := RX2) (T := TX2) (N := 2) (n := 2) hT inTX2 (hT _ inst_X2)
  obtain ⟨c3, i3, k3⟩ := u_known (C := RX3) (T := TX3) (N := 8) (n := 8) hT inTX3 (hT _ inst_X3)
  obtain ⟨c4, i4, k4⟩ := u_known (C := RX4) (T := TX4) (N := 37) (n := 37) hT inTX4 (hT _ inst_X4)
  obtain ⟨D, hD⟩ : ∃ D : va_G, ∀ (k : Nat) (q : vw_C), vwCl[k]? = some q → u_Kn s q.1 q.2.1 q.2.2 (D.1 k) (D.2 k) := by
    refine ⟨(fun k => match k with | 0 => c0 | 1 => c1 | 2 => c2 | 3 => c3 | _ => c4, fun k => match k with | 0 => i0 | 1 => i1 | 2 => i2 | 3 => i3 | _ => i4), ?_⟩
    intro k q hq
    match k, hq with
    | 0, hq => cases hq; exact k0
    | 1, hq => cases hq; exact k1
    | 2, hq => cases hq; exact k2
    | 3, hq => cases hq; exact k3
    | 4, hq => cases hq; exact k4
    | k + 5, hq => simp [vwCl] at hq
  obtain ⟨cA, a1, a2⟩ := arr_start (hT _ ac_int)
  have hst : ∀ k : Nat, ∃ t : Nat, k < 5 → va_Z "TheEchosWidow" (tn k) "[I" (.ref t) (AL s) s s.heap ∧ va_T .int t 6 (fun j => .int (tv k j)) (AL s) s s.heap := by
    intro k
    by_cases hk : k < 5
    · obtain ⟨t, e, hTt⟩ := va_Tof (N := 6) (f := fun j => .int (tv k j)) (by decide) (hF _ (st_arr ⟨k, hk⟩)) (va_eqt (hF _ (st_len ⟨k, hk⟩))) (fun j hj => va_eqt (hF _ (st_el ⟨k, hk⟩ ⟨j, hj⟩))) hA
      exact ⟨t, fun _ => ⟨va_Zof (hts _ (st_lay ⟨k, hk⟩)) (hT _ ini_X3) e hA, hTt⟩⟩
    · exact ⟨0, fun q => absurd q hk⟩
  obtain ⟨adK, adV, hS, hR⟩ := vk_Sof (N := 9) (tm := tmStr) (len := sLen) (byt := sByt) (fun i hi => by have := sg_sz ⟨i, hi⟩; dsimp only at this; omega) (fun i hi => hF _ (sg_ex ⟨i, hi⟩)) (fun i hi => hF _ (sg_co ⟨i, hi⟩)) (fun i hi => hF _ (sg_ar ⟨i, hi⟩)) (fun i hi => hF _ (sg_le ⟨i, hi⟩)) (fun i hi j hj => hF _ (sg_el ⟨i, hi⟩ ⟨j, by have := sg_sz ⟨i, hi⟩; dsimp only at this; omega⟩ hj)) (fun i j hi hj hne => (sg_ne ⟨i, hi⟩ ⟨j, hj⟩ hne).imp (hF _) (hF _)) hA
  refine ⟨(D, cA, fun k => (hst k).choose, adK, adV), ⟨hD, fun k x hx => ?_⟩, ?_⟩
  · match k, hx with
    | 0, hx => cases hx; exact ⟨a1, a2⟩
    | k + 1, hx => simp at hx
  · refine ⟨fun q hq => va_Nw.of rfl (hts _ (nf_in q hq)), fun q hq => va_Nw.of rfl (hts _ (nm_in q hq)), fun k hk => (hst k).choose_spec hk, va_Zof (hts _ cs_lay) (hts _ cs_ini) (va_eqi (hF _ cs_eq)) hA, va_Zqof (hts _ sf_lay) (hts _ sf_ini) (hF _ sf_ref) hA, hS, fun i hi => ?_⟩
    exact vk_R.of (hts _ (sr_ref ⟨i, hi⟩)) (hR i hi)
