theorem dI_dy {n : Nat} {kd fg tn wd hr : Nat → Int32} {tu pa who : Int32} {X : DX} : ∀ k, (dI n kd fg tn wd hr tu pa who k X).2.2.1 = X.2.2.1 + nI k
  | 0 => (Int32.add_zero _).symm
  | k + 1 => by
    have e : dI n kd fg tn wd hr tu pa who (k + 1) X = dT n kd fg tn wd hr tu pa who (dI n kd fg tn wd hr tu pa who k X) := by rw [dI]
    have e2 : (dT n kd fg tn wd hr tu pa who (dI n kd fg tn wd hr tu pa who k X)).2.2.1 = (dI n kd fg tn wd hr tu pa who k X).2.2.1 + 1 := rfl
    rw [e, e2, dI_dy k, Int32.add_assoc, nI_1]
set_option maxHeartbeats 1000000 in
theorem ef_d {lt l t : Nat → Int32} {len a s n : Nat} {kd fg tn wd hr od kn : Nat → Int32} {tu hu pa dy ca cu cs : Int32} {cti cla am lw : Nat → Int32} {an un sa f1 f2 : Int32} (hR : RT len lt) (ha : a < len) (hs : s < 40) (hf : sF lt len a = none) (hls : l s = (lA lt len (a))) (htv : TV lt len a t (5 * s)) (h1 : RM n kd fg tn wd hr od kn tu hu) (h2 : TZ cti cla) (h3 : TZ am lw) (hx : (lA lt len (a)) = 100) : Ef lt l t len a s n kd fg tn wd hr od kn tu hu pa dy ca cu cs cti cla am lw an un sa f1 f2 := by
  have hl := hR.1
  have h1' := h1
  obtain ⟨g1, g2, g3, g4, g5, g6, g7⟩ := h1
  have hn7 := g1.1
  have hj : jF lt len a = 6 := by
    unfold jF
    rw [hx]
    decide
  unfold sF at hf
  rw [hj, if_neg (by decide)] at hf
  have p1 : nI a + 1 = nI (a + 1) := nI_add a 1
  have p2 : nI a + 2 = nI (a + 2) := nI_add a 2
  have p3 : nI a + 3 = nI (a + 3) := nI_add a 3
  have p4 : nI a + 4 = nI (a + 4) := nI_add a 4
  have p5 : nI a + 5 = nI (a + 5) := nI_add a 5
  have s5 : (5 : Int32) * nI s = nI (5 * s) := pk_mul 5 s
  have lx : f_X2_letterAt lt (nI len) (nI a) = 100 := (lA_c hl (by omega)).trans hx
  have hc : ∀ {p : Nat}, LB (lA lt len p) := fun {p} => lA_b hR p
  have hlx : l s = 100 := hls.trans hx
  obtain ⟨k1, hf⟩ := fz_n hf
  obtain ⟨k2, hf⟩ := fz_n hf
  obtain ⟨d1, hd1, ed1⟩ := dgt_n hc k1
  obtain ⟨d2, hd2, ed2⟩ := dgt_n hc k2
  have em : nv lt len (a + 1) = nI (10 * d1 + d2) := nv_n ed1 ed2
  have t1 := htv.2.2.2 (Or.inl hx)
  rw [em] at t1
  generalize hm : 10 * d1 + d2 = m at em t1
  have hm1 : m < 100 := by omega
  have hin : f_X4_isIn (nI m) 1 60 = (if 1 ≤ m ∧ m ≤ 60 then 1 else 0) := isIn_n (lo := 1) (hi := 60) (by omega) (by omega) (by omega)
  have hrg : f_X3_rangeNo (nI m) 1 60 = 0 ↔ 1 ≤ m ∧ m ≤ 60 := rng_n (lo := 1) (hi := 60) (by omega) (by omega) (by omega)
  have ss : f_X2_isSensible lt (nI len) (nI a) (nI n) dy = (if f_X3_rangeNo (nI m) 1 60 = 0 then (if (999 : Int32) < dy + nI m then 0 else 1) else 0) := by
    unfold f_X2_isSensible
    rw [lx, if_neg (show ¬ (100 : Int32) = 99 by decide), if_pos rfl, p1, nmC hl (by omega), em]
  have cm : f_X4_comes kn (st3 tu hu pa) kd fg tn wd hr (nI n) dy l t am lw 0 an un sa f1 f2 (nI s) = (if f_X4_isIn (nI m) 1 60 = 0 then some (0, kn, st3 tu hu pa, kd, fg, tn, wd, hr, nI n, dy, am, lw, an, un, sa, f1, f2) else if dy + nI m ≤ 999 then bi (f_X4_goes kn (st3 tu hu pa) kd fg tn wd hr (nI n) dy am lw 0 f1 f2 (nI m)) (fun z36 => some (1, z36.2.1, z36.2.2.1, kd, fg, tn, wd, hr, nI n, z36.2.2.2.1, z36.2.2.2.2.1, z36.2.2.2.2.2.1, z36.2.2.2.2.2.2.1, z36.2.2.2.2.2.2.2.1, z36.2.2.2.2.2.2.2.2.1, z36.2.2.2.2.2.2.2.2.2.1, z36.2.2.2.2.2.2.2.2.2.2)) else some (0, kn, st3 tu hu pa, kd, fg, tn, wd, hr, nI n, dy, am, lw, an, un, sa, f1, f2)) := by
    unfold f_X4_comes
    rw [s5, nI_1, gu_t (inB_n (show 5 * s < 240 by omega)), gu_t (inB_n (show 5 * s + 1 < 240 by omega)), gu_t (inB_n (show s < 48 by omega)), cl_n (show s < 2147483648 by omega), hlx, if_neg (show ¬ (100 : Int32) = 99 by decide), if_neg (show ¬ (100 : Int32) = 104 by decide), if_neg (show ¬ (100 : Int32) = 107 by decide), if_neg (show ¬ (100 : Int32) = 112 by decide), if_neg (show ¬ (100 : Int32) = 116 by decide), if_neg (show ¬ (100 : Int32) = 117 by decide), cl_n (show 5 * s < 2147483648 by omega), t1]
  rw [hin] at cm
  by_cases q : 1 ≤ m ∧ m ≤ 60
  · rw [if_pos q, if_neg nz1] at cm
    rw [if_pos (hrg.mpr q)] at ss
    by_cases q2 : (999 : Int32) < dy + nI m
    · rw [if_pos q2] at ss
      rw [if_neg (show ¬ dy + nI m ≤ 999 from fun w => by rw [i_lt] at q2; rw [i_le] at w; omega)] at cm
      exact Ef_no ss cm
    · rw [if_neg q2] at ss
      rw [if_pos (show dy + nI m ≤ 999 by rw [i_lt] at q2; rw [i_le]; omega)] at cm
      obtain ⟨f1', f2', eg⟩ := goes_m (kd := kd) (fg := fg) (tn := tn) (wd := wd) (hr := hr) (tu := tu) (pa := pa) g1 g2 (Bits.all hn7) kn hu dy h3.1 h3.2 f1 f2 (k := m) (by omega)
      rw [bi_s eg] at cm
      dsimp only at cm
      have hzm := dI_z (tu := tu) (pa := pa) (who := 127) g1 (X0_z (hu := hu) (dy := dy) g6) g7 m
      have hzc := dI_z (tu := tu) (pa := pa) (who := 127) (X := (kn, hu, dy, ca, cu, cs, cti, cla)) g1 ⟨g6, h2.1, h2.2⟩ g7 m
      obtain ⟨e1, e2⟩ := dI_kh (n := n) (kd := kd) (fg := fg) (tn := tn) (wd := wd) (hr := hr) (tu := tu) (pa := pa) (who := 127) (X := (kn, hu, dy, ca, cu, cs, cti, cla)) (Y := X0 kn hu dy) rfl rfl m
      have e3 : (dI n kd fg tn wd hr tu pa 127 (m) ((kn, hu, dy, ca, cu, cs, cti, cla) : DX)).2.2.1 = (dI n kd fg tn wd hr tu pa 127 (m) (X0 kn hu dy)).2.2.1 := by rw [dI_dy, dI_dy]; rfl
      have e4 : (dI n kd fg tn wd hr tu pa 127 (m) ((kn, hu, dy, ca, cu, cs, cti, cla) : DX)).2.2.1 = dy + nI m := by rw [dI_dy]
      have br : f_X2_bring (nI n) kd fg tn wd hr od kn tu hu pa dy ca cu cs cti cla lt (nI len) (nI a) = some (nI n, kd, fg, tn, wd, hr, od, (dI n kd fg tn wd hr tu pa 127 (m) ((kn, hu, dy, ca, cu, cs, cti, cla) : DX)).1, tu, (dI n kd fg tn wd hr tu pa 127 (m) ((kn, hu, dy, ca, cu, cs, cti, cla) : DX)).2.1, pa, (dI n kd fg tn wd hr tu pa 127 (m) ((kn, hu, dy, ca, cu, cs, cti, cla) : DX)).2.2) := by
        have hl2 : lp (fun z : Int32 × (Nat → Int32) × Int32 × Int32 × Int32 × Int32 × Int32 × (Nat → Int32) × (Nat → Int32) => f_X2_bring_L239 (nI m) (nI n) kd fg tn wd hr od tu pa z.1 z.2.1 z.2.2.1 z.2.2.2.1 z.2.2.2.2.1 z.2.2.2.2.2.1 z.2.2.2.2.2.2.1 z.2.2.2.2.2.2.2.1 z.2.2.2.2.2.2.2.2) 1000 (0, kn, hu, dy, ca, cu, cs, cti, cla) = some (dI n kd fg tn wd hr tu pa 127 (m) ((kn, hu, dy, ca, cu, cs, cti, cla) : DX)) := by
          refine lp_for (fun i => (nI i, (dI n kd fg tn wd hr tu pa 127 (i) ((kn, hu, dy, ca, cu, cs, cti, cla) : DX)))) m ?_ ?_ (by omega) rfl
          · intro i hi
            dsimp only
            unfold f_X2_bring_L239
            rw [if_neg (nI_ge hi (by omega)), day_c g1 g4 127 (dI n kd fg tn wd hr tu pa 127 (i) ((kn, hu, dy, ca, cu, cs, cti, cla) : DX)), bi_some, nI_1]
            rfl
          · dsimp only
            unfold f_X2_bring_L239
            rw [if_pos (nI_le (Nat.le_refl m) (by omega))]
        unfold f_X2_bring
        rw [lx, if_neg (show ¬ (100 : Int32) = 99 by decide), if_pos rfl, p1, nmC hl (by omega), em, bi_s hl2]
      generalize (dI n kd fg tn wd hr tu pa 127 (m) ((kn, hu, dy, ca, cu, cs, cti, cla) : DX)) = X at hzc e1 e2 e3 e4 br
      generalize (dI n kd fg tn wd hr tu pa 127 (m) (X0 kn hu dy)) = Y at hzm e1 e2 e3 cm
      rw [← e1, ← e2, ← e3] at cm
      exact Ef_ok ss br cm ⟨g1, g2, g3, g4, g5, hzc.1.1, hzc.2⟩ ⟨hzc.1.2.1, hzc.1.2.2⟩ ⟨hzm.1.2.1, hzm.1.2.2⟩ (by rw [if_neg (by rw [hx]; decide)]) (by rw [if_pos hx, em, e4])
  · rw [if_neg q, if_pos rfl] at cm
    rw [if_neg (fun w => q (hrg.mp w))] at ss
    exact Ef_no ss cm
theorem OkF.add {n : Nat} {kd fg tn wd hr : Nat → Int32} (hF : OkF n kd fg tn wd hr) (hn : n < 7) {k f t w h : Nat} (hk : k < 6) (hf : f < 10) (ht : t < 10) (hw : w < 8) (hh : h < 24) : OkF (n + 1) (upd kd n (nI k)) (upd fg n (nI f)) (upd tn n (nI t)) (upd wd n (nI w)) (upd hr n (nI h)) := ⟨hn, fun c hc => by
  by_cases e : c = n
  · subst e
    exact ⟨k, f, t, w, h, hk, hf, ht, hw, hh, pk_us, pk_us, pk_us, pk_us, pk_us⟩
  · obtain ⟨k', f', t', w', h', q1, q2, q3, q4, q5, q6, q7, q8, q9, q10⟩ := hF.2 c (by omega)
    exact ⟨k', f', t', w', h', q1, q2, q3, q4, q5, (pk_un e).trans q6, (pk_un e).trans q7, (pk_un e).trans q8, (pk_un e).trans q9, (pk_un e).trans q10⟩⟩
set_option maxHeartbeats 1000000 in
theorem ef_c {lt l t : Nat → Int32} {len a s n : Nat} {kd fg tn wd hr od kn : Nat → Int32} {tu hu pa dy ca cu cs : Int32} {cti cla am lw : Nat → Int32} {an un sa f1 f2 : Int32} (hR : RT len lt) (ha : a < len) (hs : s < 40) (hf : sF lt len a = none) (hls : l s = (lA lt len (a))) (htv : TV lt len a t (5 * s)) (h1 : RM n kd fg tn wd hr od kn tu hu) (h2 : TZ cti cla) (h3 : TZ am lw) (hx : (lA lt len (a)) = 99) : Ef lt l t len a s n kd fg tn wd hr od kn tu hu pa dy ca cu cs cti cla am lw an un sa f1 f2 := by
  have hl := hR.1
  have h1' := h1
  obtain ⟨g1, g2, g3, g4, g5, g6, g7⟩ := h1
  have hn7 := g1.1
  have hj : jF lt len a = 0 := by
    unfold jF
    rw [hx]
    decide
  unfold sF at hf
  rw [hj, if_neg (by decide)] at hf
  have p1 : nI a + 1 = nI (a + 1) := nI_add a 1
  have p2 : nI a + 2 = nI (a + 2) := nI_add a 2
  have p3 : nI a + 3 = nI (a + 3) := nI_add a 3
  have p4 : nI a + 4 = nI (a + 4) := nI_add a 4
  have p5 : nI a + 5 = nI (a + 5) := nI_add a 5
  have s5 : (5 : Int32) * nI s = nI (5 * s) := pk_mul 5 s
  have lx : f_X2_letterAt lt (nI len) (nI a) = 99 := (lA_c hl (by omega)).trans hx
  have hc : ∀ {p : Nat}, LB (lA lt len p) := fun {p} => lA_b hR p
  have hlx : l s = 99 := hls.trans hx
  obtain ⟨k0, hf⟩ := fz_n hf
  obtain ⟨k1, hf⟩ := fz_n hf
  obtain ⟨k2, hf⟩ := fz_n hf
  obtain ⟨k3, hf⟩ := fz_n hf
  obtain ⟨k4, hf⟩ := fz_n hf
  obtain ⟨k5, hf⟩ := fz_n hf
  obtain ⟨f, hfd, ef⟩ := dgt_n hc k1
  obtain ⟨tt, htt, et⟩ := dgt_n hc k2
  obtain ⟨w, hw, ew⟩ := dgt_n hc k3
  obtain ⟨d1, hd1, ed1⟩ := dgt_n hc k4
  obtain ⟨d2, hd2, ed2⟩ := dgt_n hc k5
  have em : nv lt len (a + 5) = nI (10 * d1 + d2) := nv_n ed1 ed2
  have hkk : ∃ k, k < 6 ∧ f_X4_kindOf (lA lt len (a + 1)) = nI k := by
    rcases kind_or (lA lt len (a + 1)) with e | e
    · have := okk.mp k0
      rw [e] at this
      exact absurd this (by decide)
    · exact e
  obtain ⟨k, hk, ek⟩ := hkk
  have ef : dv lt len (a + 2) = nI f := ef
  have et : dv lt len (a + 3) = nI tt := et
  have ew : dv lt len (a + 4) = nI w := ew
  obtain ⟨t0, t1, t2, t3, t4⟩ := htv.1 hx
  rw [ek] at t0
  rw [ef] at t1
  rw [et] at t2
  rw [ew] at t3
  rw [em] at t4
  generalize hm : 10 * d1 + d2 = m at em t4
  have hm1 : m < 100 := by omega
  have r1 : nI (5 * s) + 1 = nI (5 * s + 1) := nI_add (5 * s) 1
  have r2 : nI (5 * s) + 2 = nI (5 * s + 2) := nI_add (5 * s) 2
  have r3 : nI (5 * s) + 3 = nI (5 * s + 3) := nI_add (5 * s) 3
  have r4 : nI (5 * s) + 4 = nI (5 * s + 4) := nI_add (5 * s) 4
  have ss : f_X2_isSensible lt (nI len) (nI a) (nI n) dy = (if (7 : Int32) ≤ nI n then 0 else if (8 : Int32) ≤ nI w then 0 else if (24 : Int32) ≤ nI m then 0 else 1) := by
    unfold f_X2_isSensible
    rw [lx, if_pos rfl, p4, p5, dgC hl (by omega), nmC hl (by omega), ew, em]
  have cc : f_X4_comesCaller kd fg tn wd hr (nI n) t (nI (5 * s)) = (if f_X4_isWord (nI w) = 0 then some (0, kd, fg, tn, wd, hr, nI n) else if (23 : Int32) < nI m then some (0, kd, fg, tn, wd, hr, nI n) else if nI n = 7 then some (0, kd, fg, tn, wd, hr, nI n) else gu (inB (nI n) 7) (some (1, upd kd (nI n).toNatClampNeg (nI k), upd fg (nI n).toNatClampNeg (nI f), upd tn (nI n).toNatClampNeg (nI tt), upd wd (nI n).toNatClampNeg (nI w), upd hr (nI n).toNatClampNeg (nI m), nI (n + 1)))) := by
    unfold f_X4_comesCaller
    rw [r1, r2, r3, r4, nI_1]
    simp only [gu_t (inB_n (show 5 * s < 240 by omega)), gu_t (inB_n (show 5 * s + 1 < 240 by omega)), gu_t (inB_n (show 5 * s + 2 < 240 by omega)), gu_t (inB_n (show 5 * s + 3 < 240 by omega)), gu_t (inB_n (show 5 * s + 4 < 240 by omega)), cl_n (show 5 * s < 2147483648 by omega), cl_n (show 5 * s + 1 < 2147483648 by omega), cl_n (show 5 * s + 2 < 2147483648 by omega), cl_n (show 5 * s + 3 < 2147483648 by omega), cl_n (show 5 * s + 4 < 2147483648 by omega), t0, t1, t2, t3, t4]
    have gg : ∀ {α : Type} (c : Bool) (x : Option α), gu c (gu c x) = gu c x := by
      intro α c x
      cases c <;> rfl
    simp only [gg]
  have cm : f_X4_comes kn (st3 tu hu pa) kd fg tn wd hr (nI n) dy l t am lw 0 an un sa f1 f2 (nI s) = (bi (f_X4_comesCaller kd fg tn wd hr (nI n) t (nI (5 * s))) (fun z15 => gu (isB z15.1) (some (z15.1, kn, st3 tu hu pa, z15.2.1, z15.2.2.1, z15.2.2.2.1, z15.2.2.2.2.1, z15.2.2.2.2.2.1, z15.2.2.2.2.2.2, dy, am, lw, an, un, sa, f1, f2)))) := by
    unfold f_X4_comes
    rw [s5, nI_1, gu_t (inB_n (show 5 * s < 240 by omega)), gu_t (inB_n (show 5 * s + 1 < 240 by omega)), gu_t (inB_n (show s < 48 by omega)), cl_n (show s < 2147483648 by omega), hlx, if_pos rfl]
  have no : ∀ (_ : f_X2_isSensible lt (nI len) (nI a) (nI n) dy = 0), f_X4_comesCaller kd fg tn wd hr (nI n) t (nI (5 * s)) = some (0, kd, fg, tn, wd, hr, nI n) → Ef lt l t len a s n kd fg tn wd hr od kn tu hu pa dy ca cu cs cti cla am lw an un sa f1 f2 := by
    intro ss0 e
    rw [bi_s e, gu_t (show isB 0 = true by decide)] at cm
    exact Ef_no ss0 cm
  by_cases q2 : 8 ≤ w
  · refine no ?_ ?_
    · rw [ss, if_pos (show (8 : Int32) ≤ nI w from nI_le (a := 8) q2 (by omega))]
      split <;> rfl
    · rw [cc, word_0 q2 (by omega), if_pos rfl]
  · rw [word_is (by omega), if_neg nz1] at cc
    rw [if_neg (show ¬ (8 : Int32) ≤ nI w from nI_ge (b := 8) (by omega) (by omega))] at ss
    by_cases q3 : 24 ≤ m
    · refine no ?_ ?_
      · rw [ss, if_pos (show (24 : Int32) ≤ nI m from nI_le (a := 24) q3 (by omega))]
        split <;> rfl
      · rw [cc, if_pos (show (23 : Int32) < nI m from nI_lt (a := 23) (by omega) (by omega))]
    · rw [if_neg (show ¬ (23 : Int32) < nI m from nI_nlt (a := 23) (by omega) (by omega))] at cc
      rw [if_neg (show ¬ (24 : Int32) ≤ nI m from nI_ge (b := 24) (by omega) (by omega))] at ss
      by_cases q1 : n = 7
      · refine no ?_ ?_
        · rw [ss, if_pos (show (7 : Int32) ≤ nI n by rw [q1]; decide)]
        · rw [cc, if_pos (show nI n = 7 by rw [q1]; rfl)]
      · have hn : n < 7 := by omega
        rw [if_neg (show ¬ nI n = 7 from fun w => q1 ((nI_eq (b := 7) (by omega) (by omega)).mp w)), gu_t (inB_n hn), cl_n (by omega)] at cc
        rw [if_neg (show ¬ (7 : Int32) ≤ nI n from nI_ge (b := 7) hn (by omega))] at ss
        rw [bi_s cc] at cm
        dsimp only at cm
        rw [gu_t (show isB 1 = true by decide)] at cm
        have hF' := g1.add hn hk hfd htt (show w < 8 by omega) (show m < 24 by omega)
        obtain ⟨od', eo, ho, hzo⟩ := arr_ok hF'.1 hF'.hs od g5
        have br : f_X2_bring (nI n) kd fg tn wd hr od kn tu hu pa dy ca cu cs cti cla lt (nI len) (nI a) = some (nI (n + 1), upd kd n (nI k), upd fg n (nI f), upd tn n (nI tt), upd wd n (nI w), upd hr n (nI m), od', kn, tu, hu, pa, dy, ca, cu, cs, cti, cla) := by
          unfold f_X2_bring f_X0_addCaller
          rw [lx, if_pos rfl, p1, p2, p3, p4, p5, lA_c hl (by omega), bi_s (kind_c hc), dgC hl (by omega), dgC hl (by omega), dgC hl (by omega), nmC hl (by omega), ek, ef, et, ew, em, if_pos (show nI n < 7 from nI_lt (b := 7) hn (by omega)), nI_1, put_n hn, put_n hn, put_n hn, put_n hn, put_n hn, bi_s eo]
          rfl
        exact Ef_ok ss br cm ⟨hF', g2, ⟨g3.1.upd hn, g3.2.1.upd hn, g3.2.2.1.upd hn, g3.2.2.2.1.upd hn, g3.2.2.2.2.upd hn⟩, ho, hzo, g6, g7⟩ h2 h3 (by rw [if_pos hx, nI_1]) (by rw [if_neg (by rw [hx]; decide)])
theorem ef_all {lt l t : Nat → Int32} {len a s n : Nat} {kd fg tn wd hr od kn : Nat → Int32} {tu hu pa dy ca cu cs : Int32} {cti cla am lw : Nat → Int32} {an un sa f1 f2 : Int32} (hR : RT len lt) (ha : a < len) (hs : s < 40) (hf : sF lt len a = none) (hls : l s = (lA lt len (a))) (htv : TV lt len a t (5 * s)) (h1 : RM n kd fg tn wd hr od kn tu hu) (h2 : TZ cti cla) (h3 : TZ am lw) : Ef lt l t len a s n kd fg tn wd hr od kn tu hu pa dy ca cu cs cti cla am lw an un sa f1 f2 := by
  rcases let_c (lA lt len (a)) with ⟨e1, -⟩ | ⟨-, ⟨hx, -⟩ | ⟨hx, -⟩ | ⟨hx, -⟩ | ⟨hx, -⟩ | ⟨hx, -⟩ | ⟨hx, -⟩ | ⟨hx, -⟩⟩
  · unfold sF jF at hf
    rw [e1, if_pos rfl] at hf
    exact absurd hf (by simp)
  · exact ef_c hR ha hs hf hls htv h1 h2 h3 hx
  · exact ef_h hR ha hs hf hls htv h1 h2 h3 hx
  · exact ef_k hR ha hs hf hls htv h1 h2 h3 hx
  · exact ef_t hR ha hs hf hls htv h1 h2 h3 hx
  · exact ef_d hR ha hs hf hls htv h1 h2 h3 hx
  · exact ef_p hR ha hs hf hls htv h1 h2 h3 hx
  · exact ef_u hR ha hs hf hls htv h1 h2 h3 hx
