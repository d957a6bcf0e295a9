theorem keep0 (kn st kd fg tn wd hr kept : Nat → Int32) (n d : Int32) : f_X4_passesAll kn st kd fg tn wd hr n d kept 0 1 = some (kn, st, kd, fg, tn, wd, hr, n, d, kA kept 0 kn st kd fg tn wd hr n d, 1, 48) := keepAll kn st kd fg tn wd hr kept n d 0 (by omega)
theorem back0 {kn st kd fg tn wd hr kept : Nat → Int32} {n d : Int32} {kn' st' kd' fg' tn' wd' hr' : Nat → Int32} {n' d' : Int32} (z1 : Zr 8 kn) (z2 : Zr 3 st) (z3 : Zr 7 kd) (z4 : Zr 7 fg) (z5 : Zr 7 tn) (z6 : Zr 7 wd) (z7 : Zr 7 hr) (y1 : Zr 8 kn') (y2 : Zr 3 st') (y3 : Zr 7 kd') (y4 : Zr 7 fg') (y5 : Zr 7 tn') (y6 : Zr 7 wd') (y7 : Zr 7 hr') (h : Sv kept 0 kn' st' kd' fg' tn' wd' hr' n' d') : f_X4_passesAll kn st kd fg tn wd hr n d kept 0 0 = some (kn', st', kd', fg', tn', wd', hr', n', d', kept, 0, 48) := backAll 0 (by omega) z1 z2 z3 z4 z5 z6 z7 y1 y2 y3 y4 y5 y6 y7 h
theorem keep1 (kn st kd fg tn wd hr kept : Nat → Int32) (n d : Int32) : f_X4_passesAll kn st kd fg tn wd hr n d kept 1 1 = some (kn, st, kd, fg, tn, wd, hr, n, d, kA kept 50 kn st kd fg tn wd hr n d, 1, 98) := keepAll kn st kd fg tn wd hr kept n d 1 (by omega)
theorem back1 {kn st kd fg tn wd hr kept : Nat → Int32} {n d : Int32} {kn' st' kd' fg' tn' wd' hr' : Nat → Int32} {n' d' : Int32} (z1 : Zr 8 kn) (z2 : Zr 3 st) (z3 : Zr 7 kd) (z4 : Zr 7 fg) (z5 : Zr 7 tn) (z6 : Zr 7 wd) (z7 : Zr 7 hr) (y1 : Zr 8 kn') (y2 : Zr 3 st') (y3 : Zr 7 kd') (y4 : Zr 7 fg') (y5 : Zr 7 tn') (y6 : Zr 7 wd') (y7 : Zr 7 hr') (h : Sv kept 50 kn' st' kd' fg' tn' wd' hr' n' d') : f_X4_passesAll kn st kd fg tn wd hr n d kept 1 0 = some (kn', st', kd', fg', tn', wd', hr', n', d', kept, 0, 98) := backAll 1 (by omega) z1 z2 z3 z4 z5 z6 z7 y1 y2 y3 y4 y5 y6 y7 h
theorem keep2 (kn st kd fg tn wd hr kept : Nat → Int32) (n d : Int32) : f_X4_passesAll kn st kd fg tn wd hr n d kept 2 1 = some (kn, st, kd, fg, tn, wd, hr, n, d, kA kept 100 kn st kd fg tn wd hr n d, 1, 148) := keepAll kn st kd fg tn wd hr kept n d 2 (by omega)
theorem back2 {kn st kd fg tn wd hr kept : Nat → Int32} {n d : Int32} {kn' st' kd' fg' tn' wd' hr' : Nat → Int32} {n' d' : Int32} (z1 : Zr 8 kn) (z2 : Zr 3 st) (z3 : Zr 7 kd) (z4 : Zr 7 fg) (z5 : Zr 7 tn) (z6 : Zr 7 wd) (z7 : Zr 7 hr) (y1 : Zr 8 kn') (y2 : Zr 3 st') (y3 : Zr 7 kd') (y4 : Zr 7 fg') (y5 : Zr 7 tn') (y6 : Zr 7 wd') (y7 : Zr 7 hr') (h : Sv kept 100 kn' st' kd' fg' tn' wd' hr' n' d') : f_X4_passesAll kn st kd fg tn wd hr n d kept 2 0 = some (kn', st', kd', fg', tn', wd', hr', n', d', kept, 0, 148) := backAll 2 (by omega) z1 z2 z3 z4 z5 z6 z7 y1 y2 y3 y4 y5 y6 y7 h
def dI (n : Nat) (kd fg tn wd hr : Nat → Int32) (tu pa who : Int32) : Nat → DX → DX
  | 0, X => X
  | k + 1, X => dT n kd fg tn wd hr tu pa who (dI n kd fg tn wd hr tu pa who k X)
def X0 (kn : Nat → Int32) (hu dy : Int32) : DX := (kn, hu, dy, 0, 0, 0, z0, l9)
def ZX (X : DX) : Prop := Zr 8 X.1 ∧ Zr 7 X.2.2.2.2.2.2.1 ∧ Zr 7 X.2.2.2.2.2.2.2
theorem hB_in (x y : Int32) : ∃ h, h ≤ 99 ∧ f_X0_hurtBy x y = nI h := by
  unfold f_X0_hurtBy
  generalize x + y = v
  have e0 : (0 : Int32).toInt = 0 := rfl
  have e9 : (99 : Int32).toInt = 99 := rfl
  by_cases h : v < 99
  · simp only [if_pos h]
    by_cases h2 : 0 < v
    · rw [if_pos h2]
      obtain ⟨j, hj, e⟩ := nI_of (x := v) (by rw [i_lt] at h2 ⊢; omega)
      rw [e] at h ⊢
      rw [i_lt, nI_toInt hj, e9] at h
      exact ⟨j, by omega, rfl⟩
    · rw [if_neg h2]; exact ⟨0, by omega, rfl⟩
  · simp only [if_neg h]
    exact ⟨99, by omega, rfl⟩
def HR (hu : Int32) : Prop := ∃ h, h ≤ 99 ∧ hu = nI h
theorem cD_z {n : Nat} {kd fg tn wd hr : Nat → Int32} {tu pa : Int32} (hF : OkF n kd fg tn wd hr) {c : Nat} (hc : c < n) {D : DD} (h1 : Zr 8 D.1) (h2 : Zr 7 D.2.2.2.2.2.1) (h3 : Zr 7 D.2.2.2.2.2.2) (h4 : HR D.2.1) : Zr 8 (cD kd fg tn wd tu pa c D).2.1 ∧ Zr 7 (cD kd fg tn wd tu pa c D).2.2.2.2.2.2.1 ∧ Zr 7 (cD kd fg tn wd tu pa c D).2.2.2.2.2.2.2 ∧ HR (cD kd fg tn wd tu pa c D).2.2.1 := by
  obtain ⟨h7, hF⟩ := hF
  obtain ⟨k, f, t, w, h, hk, hf, ht, hw, hh, e1, e2, e3, e4, e5⟩ := hF c hc
  unfold cD
  split
  · exact ⟨h1, h2, h3, hB_in _ _⟩
  · refine ⟨?_, h2.upd (by omega), h3.upd (by omega), h4⟩
    refine h1.upd ?_
    rw [e4, nI_clamp (by omega)]
    exact hw
theorem stp_z {n : Nat} {kd fg tn wd hr : Nat → Int32} {tu pa who : Int32} (hF : OkF n kd fg tn wd hr) {c : Nat} (hc : c < n) {S : SS} (h1 : Zr 8 S.2.2.1) (h2 : Zr 7 S.2.2.2.2.2.2.2.1) (h3 : Zr 7 S.2.2.2.2.2.2.2.2) (h4 : HR S.2.2.2.1) : Zr 8 (stp kd fg tn wd hr tu pa who S c).2.2.1 ∧ Zr 7 (stp kd fg tn wd hr tu pa who S c).2.2.2.2.2.2.2.1 ∧ Zr 7 (stp kd fg tn wd hr tu pa who S c).2.2.2.2.2.2.2.2 ∧ HR (stp kd fg tn wd hr tu pa who S c).2.2.2.1 := by
  unfold stp
  split
  · exact ⟨h1, h2, h3, h4⟩
  · split
    · exact cD_z hF hc h1 h2 h3 h4
    · exact cD_z hF hc h1 h2 h3 h4
theorem fold_z {n : Nat} {kd fg tn wd hr : Nat → Int32} {tu pa who : Int32} (hF : OkF n kd fg tn wd hr) : ∀ (l : List Nat) {S : SS}, (∀ c ∈ l, c < n) → Zr 8 S.2.2.1 → Zr 7 S.2.2.2.2.2.2.2.1 → Zr 7 S.2.2.2.2.2.2.2.2 → HR S.2.2.2.1 → Zr 8 (l.foldl (stp kd fg tn wd hr tu pa who) S).2.2.1 ∧ Zr 7 (l.foldl (stp kd fg tn wd hr tu pa who) S).2.2.2.2.2.2.2.1 ∧ Zr 7 (l.foldl (stp kd fg tn wd hr tu pa who) S).2.2.2.2.2.2.2.2 ∧ HR (l.foldl (stp kd fg tn wd hr tu pa who) S).2.2.2.1
  | [], _, _, h1, h2, h3, h4 => ⟨h1, h2, h3, h4⟩
  | c :: l, S, hl, h1, h2, h3, h4 => by
    obtain ⟨g1, g2, g3, g4⟩ := stp_z (tu := tu) (pa := pa) (who := who) hF (hl c List.mem_cons_self) h1 h2 h3 h4
    exact fold_z hF l (fun d hd => hl d (List.mem_cons_of_mem _ hd)) g1 g2 g3 g4
theorem eK_z {kn : Nat → Int32} {hu : Int32} (h : Zr 8 kn) : Zr 8 (eK kn hu) := by
  unfold eK
  split
  · exact h
  · split
    · exact h
    · rename_i h2
      rcases bB_or kn (-9) with h3 | ⟨w, hw, h3⟩
      · exact absurd h3 h2
      · rw [h3, nI_clamp (by omega)]
        exact h.upd hw
theorem eH_r {hu v1 v2 : Int32} (h : HR hu) : HR (eH hu v1 v2) := by
  unfold eH
  split
  · split
    · exact hB_in _ _
    · exact h
  · exact hB_in _ _
theorem dT_z {n : Nat} {kd fg tn wd hr : Nat → Int32} {tu pa who : Int32} (hF : OkF n kd fg tn wd hr) {X : DX} (h : ZX X) (hh : HR X.2.1) : ZX (dT n kd fg tn wd hr tu pa who X) ∧ HR (dT n kd fg tn wd hr tu pa who X).2.1 := by
  obtain ⟨g1, g2, g3, g4⟩ := fold_z (tu := tu) (pa := pa) (who := who) hF (oL n hr 24) (S := (0, 0, X.1, X.2.1, X.2.2.2.1, X.2.2.2.2.1, X.2.2.2.2.2.1, X.2.2.2.2.2.2.1, X.2.2.2.2.2.2.2)) (fun c hc => oL_lt hc) h.1 h.2.1 h.2.2 hh
  exact ⟨⟨eK_z g1, g2, g3⟩, eH_r g4⟩
theorem dI_z {n : Nat} {kd fg tn wd hr : Nat → Int32} {tu pa who : Int32} (hF : OkF n kd fg tn wd hr) {X : DX} (h : ZX X) (hh : HR X.2.1) : ∀ k, ZX (dI n kd fg tn wd hr tu pa who k X) ∧ HR (dI n kd fg tn wd hr tu pa who k X).2.1
  | 0 => ⟨h, hh⟩
  | k + 1 => dT_z hF (dI_z hF h hh k).1 (dI_z hF h hh k).2
theorem X0_z {kn : Nat → Int32} {hu dy : Int32} (h : Zr 8 kn) : ZX (X0 kn hu dy) := ⟨h, z0_z 7, l9_z⟩
theorem days_c {n : Nat} {kd fg tn wd hr od : Nat → Int32} {tu pa : Int32} (hF : OkF n kd fg tn wd hr) (hO : OkO n hr od) (who : Int32) (X : DX) {k : Nat} (hk : k < 900) : f_X0_passDays (nI n) kd fg tn wd hr od X.1 tu X.2.1 pa X.2.2.1 X.2.2.2.1 X.2.2.2.2.1 X.2.2.2.2.2.1 X.2.2.2.2.2.2.1 X.2.2.2.2.2.2.2 (nI k) who = some (dI n kd fg tn wd hr tu pa who k X) := by
  unfold f_X0_passDays
  rw [lp_for (fun i => (nI i, dI n kd fg tn wd hr tu pa who i X)) k (b := dI n kd fg tn wd hr tu pa who k X) ?_ ?_ (by omega) (by rfl)]
  · rfl
  · intro i hi
    generalize hX : dI n kd fg tn wd hr tu pa who i X = Y
    show f_X0_passDays_L2 (nI k) who (nI n) kd fg tn wd hr od tu pa (nI i) Y.1 Y.2.1 Y.2.2.1 Y.2.2.2.1 Y.2.2.2.2.1 Y.2.2.2.2.2.1 Y.2.2.2.2.2.2.1 Y.2.2.2.2.2.2.2 = some (Sum.inl (nI (i + 1), dT n kd fg tn wd hr tu pa who (dI n kd fg tn wd hr tu pa who i X)))
    unfold f_X0_passDays_L2
    rw [if_neg (nI_ge hi (by omega)), day_c hF hO who Y, bi_some, nI_1, hX]
  · show f_X0_passDays_L2 (nI k) who (nI n) kd fg tn wd hr od tu pa (nI k) _ _ _ _ _ _ _ _ = _
    unfold f_X0_passDays_L2
    rw [if_pos (nI_le (Nat.le_refl k) (by omega))]
theorem goes_m {n : Nat} {kd fg tn wd hr : Nat → Int32} {tu pa : Int32} (hF : OkF n kd fg tn wd hr) (hT : OkT tu) {who aw : Int32} (hB : Bits n who aw) (kn : Nat → Int32) (hu dy : Int32) {am lw : Nat → Int32} (ha : Zr 7 am) (hl : Zr 7 lw) (c7 a7 : Int32) {k : Nat} (hk : k < 900) : ∃ f1 f2, f_X4_goes kn (st3 tu hu pa) kd fg tn wd hr (nI n) dy am lw aw c7 a7 (nI k) = some ((dI n kd fg tn wd hr tu pa who k (X0 kn hu dy)).2.2.2.1, (dI n kd fg tn wd hr tu pa who k (X0 kn hu dy)).1, st3 tu (dI n kd fg tn wd hr tu pa who k (X0 kn hu dy)).2.1 pa, (dI n kd fg tn wd hr tu pa who k (X0 kn hu dy)).2.2.1, (dI n kd fg tn wd hr tu pa who k (X0 kn hu dy)).2.2.2.2.2.2.1, (dI n kd fg tn wd hr tu pa who k (X0 kn hu dy)).2.2.2.2.2.2.2, (dI n kd fg tn wd hr tu pa who k (X0 kn hu dy)).2.2.2.1, (dI n kd fg tn wd hr tu pa who k (X0 kn hu dy)).2.2.2.2.1, (dI n kd fg tn wd hr tu pa who k (X0 kn hu dy)).2.2.2.2.2.1, f1, f2) := by
  unfold f_X4_goes
  rw [bi_s (begins_ok ha hl)]
  let FL : Nat → Int32 × Int32 := fun i => match i with
    | 0 => (c7, a7)
    | i + 1 => ((dayS n kd fg tn wd hr tu pa who (dI n kd fg tn wd hr tu pa who i (X0 kn hu dy))).1, (dayS n kd fg tn wd hr tu pa who (dI n kd fg tn wd hr tu pa who i (X0 kn hu dy))).2.1)
  let TM : DX → Int32 × Int32 → (Nat → Int32) × (Nat → Int32) × Int32 × (Nat → Int32) × (Nat → Int32) × Int32 × Int32 × Int32 × Int32 × Int32 := fun X q => (X.1, st3 tu X.2.1 pa, X.2.2.1, X.2.2.2.2.2.2.1, X.2.2.2.2.2.2.2, X.2.2.2.1, X.2.2.2.2.1, X.2.2.2.2.2.1, q.1, q.2)
  refine ⟨(FL k).1, (FL k).2, ?_⟩
  rw [lp_for (fun i => (nI i, TM (dI n kd fg tn wd hr tu pa who i (X0 kn hu dy)) (FL i))) k (b := TM (dI n kd fg tn wd hr tu pa who k (X0 kn hu dy)) (FL k)) ?_ ?_ (by omega) (by rfl)]
  · rfl
  · intro i hi
    show f_X4_goes_L6 (nI k) kd fg tn wd hr (nI n) aw (nI i) (TM (dI n kd fg tn wd hr tu pa who i (X0 kn hu dy)) (FL i)).1 (TM (dI n kd fg tn wd hr tu pa who i (X0 kn hu dy)) (FL i)).2.1 (TM (dI n kd fg tn wd hr tu pa who i (X0 kn hu dy)) (FL i)).2.2.1 (TM (dI n kd fg tn wd hr tu pa who i (X0 kn hu dy)) (FL i)).2.2.2.1 (TM (dI n kd fg tn wd hr tu pa who i (X0 kn hu dy)) (FL i)).2.2.2.2.1 (TM (dI n kd fg tn wd hr tu pa who i (X0 kn hu dy)) (FL i)).2.2.2.2.2.1 (TM (dI n kd fg tn wd hr tu pa who i (X0 kn hu dy)) (FL i)).2.2.2.2.2.2.1 (TM (dI n kd fg tn wd hr tu pa who i (X0 kn hu dy)) (FL i)).2.2.2.2.2.2.2.1 (TM (dI n kd fg tn wd hr tu pa who i (X0 kn hu dy)) (FL i)).2.2.2.2.2.2.2.2.1 (TM (dI n kd fg tn wd hr tu pa who i (X0 kn hu dy)) (FL i)).2.2.2.2.2.2.2.2.2 = _
    unfold f_X4_goes_L6
    rw [if_neg (nI_ge hi (by omega)), bi_s (day_m hF hT hB (dI n kd fg tn wd hr tu pa who i (X0 kn hu dy))), nI_1]
    rfl
  · show f_X4_goes_L6 (nI k) kd fg tn wd hr (nI n) aw (nI k) _ _ _ _ _ _ _ _ _ _ = _
    unfold f_X4_goes_L6
    rw [if_pos (nI_le (Nat.le_refl k) (by omega))]
def snF (X : DX) (sn : Nat → Int32) : Nat → Int32 := pt (upd (upd (upd sn 0 X.2.1) 1 (smS X.1 8)) 2 (bB X.1 (-9))) X.1 3 8
theorem sn_0 (X : DX) (sn : Nat → Int32) : snF X sn 0 = X.2.1 := by
  unfold snF
  rw [pt_out (by omega), pk_un (by omega), pk_un (by omega), pk_us]
theorem sn_1 (X : DX) (sn : Nat → Int32) : snF X sn 1 = smS X.1 8 := by
  unfold snF
  rw [pt_out (by omega), pk_un (by omega), pk_us]
theorem sn_2 (X : DX) (sn : Nat → Int32) : snF X sn 2 = bB X.1 (-9) := by
  unfold snF
  rw [pt_out (by omega), pk_us]
theorem sn_w (X : DX) (sn : Nat → Int32) {w : Nat} (hw : w < 8) : snF X sn (3 + w) = X.1 w := by
  unfold snF
  rw [pt_in hw]
def FZ (kd fg tn wd hr : Nat → Int32) : Prop := Zr 7 kd ∧ Zr 7 fg ∧ Zr 7 tn ∧ Zr 7 wd ∧ Zr 7 hr
theorem thinks_m {n : Nat} {kd fg tn wd hr : Nat → Int32} {tu pa : Int32} (hF : OkF n kd fg tn wd hr) (hT : OkT tu) (hZ : FZ kd fg tn wd hr) {who aw : Int32} (hB : Bits n who aw) {kn : Nat → Int32} (hk8 : Zr 8 kn) {hu : Int32} (hh : HR hu) (dy : Int32) {am lw : Nat → Int32} (ha : Zr 7 am) (hl : Zr 7 lw) (c7 a7 : Int32) (kept sn : Nat → Int32) {k : Nat} (hk : k < 900) : ∃ f1 f2, f_X4_thinks kn (st3 tu hu pa) kd fg tn wd hr (nI n) dy kept am lw aw c7 a7 sn (nI k) = some (kn, st3 tu hu pa, kd, fg, tn, wd, hr, nI n, dy, kA kept 100 kn (st3 tu hu pa) kd fg tn wd hr (nI n) dy, 0, 148, (dI n kd fg tn wd hr tu pa who k (X0 kn hu dy)).2.2.2.2.2.2.1, (dI n kd fg tn wd hr tu pa who k (X0 kn hu dy)).2.2.2.2.2.2.2, (dI n kd fg tn wd hr tu pa who k (X0 kn hu dy)).2.2.2.1, (dI n kd fg tn wd hr tu pa who k (X0 kn hu dy)).2.2.2.2.1, (dI n kd fg tn wd hr tu pa who k (X0 kn hu dy)).2.2.2.2.2.1, f1, f2, snF (dI n kd fg tn wd hr tu pa who k (X0 kn hu dy)) sn) := by
  obtain ⟨f1, f2, hg⟩ := goes_m (kd := kd) (fg := fg) (tn := tn) (wd := wd) (hr := hr) (tu := tu) (pa := pa) hF hT hB kn hu dy ha hl c7 a7 hk
  refine ⟨f1, f2, ?_⟩
  have hzX := (dI_z (tu := tu) (pa := pa) (who := who) hF (X0_z (hu := hu) (dy := dy) hk8) hh k).1
  generalize dI n kd fg tn wd hr tu pa who k (X0 kn hu dy) = X at hg hzX ⊢
  unfold f_X4_thinks
  rw [bi_s (keep2 kn (st3 tu hu pa) kd fg tn wd hr kept (nI n) dy), bi_s hg]
  dsimp only
  rw [bi_s (sum_m _), bi_s (best_m _ _), st3_1]
  have hloop : lp (fun z : Int32 × (Nat → Int32) => f_X4_thinks_L48 X.1 z.1 z.2) 1000 (0, upd (upd (upd sn (0 : Int32).toNatClampNeg X.2.1) (1 : Int32).toNatClampNeg (smS X.1 8)) (2 : Int32).toNatClampNeg (bB X.1 (-9))) = some (snF X sn) := by
    refine lp_for (fun i => (nI i, pt (upd (upd (upd sn 0 X.2.1) 1 (smS X.1 8)) 2 (bB X.1 (-9))) X.1 3 i)) 8 ?_ ?_ (by omega) (by rw [pt_0]; rfl)
    · intro i hi
      show f_X4_thinks_L48 X.1 (nI i) (pt (upd (upd (upd sn 0 X.2.1) 1 (smS X.1 8)) 2 (bB X.1 (-9))) X.1 3 i) = _
      unfold f_X4_thinks_L48
      rw [if_neg (show ¬ (8 : Int32) ≤ nI i from gL 8 hi), gu_t (inB_n hi), show (3 : Int32) + nI i = nI (3 + i) from nI_add 3 i, gu_t (inB_n (by omega)), cl_n (by omega), cl_n (by omega), pt_s, nI_1]
    · show f_X4_thinks_L48 X.1 (nI 8) (pt (upd (upd (upd sn 0 X.2.1) 1 (smS X.1 8)) 2 (bB X.1 (-9))) X.1 3 8) = _
      unfold f_X4_thinks_L48
      rw [if_pos (show (8 : Int32) ≤ nI 8 from lL 8 (Nat.le_refl 8))]
      rfl
  rw [bi_s hloop]
  obtain ⟨z3, z4, z5, z6, z7⟩ := hZ
  rw [bi_s (back2 (kn' := kn) (st' := st3 tu hu pa) (kd' := kd) (fg' := fg) (tn' := tn) (wd' := wd) (hr' := hr) (n' := nI n) (d' := dy) hzX.1 (st3_z _ _ _) z3 z4 z5 z6 z7 hk8 (st3_z _ _ _) z3 z4 z5 z6 z7 kA_in)]
theorem think_c {dkd dfg dtn dwd dhr dod dkn dti dla : Nat → Int32} {kd fg tn wd hr od kn : Nat → Int32} (nn tu hu pa dy : Int32) (hd : FZ dkd dfg dtn dwd dhr) (hd2 : Zr 7 dod) (hd3 : Zr 8 dkn) (ht : Zr 7 dti) (hl : Zr 7 dla) (hz : FZ kd fg tn wd hr) (hz2 : Zr 7 od) (hz3 : Zr 8 kn) : f_X3_think dkd dfg dtn dwd dhr dod dkn dti dla nn kd fg tn wd hr od kn tu hu pa dy = some (nn, kd, fg, tn, wd, hr, od, kn, tu, hu, pa, dy, 0, 0, 0, z0, l9) := by
  unfold f_X3_think f_X0_copyFrom
  rw [bi_s (forget_ok ht hl), copy_z hz.1 hd.1, copy_z hz.2.1 hd.2.1, copy_z hz.2.2.1 hd.2.2.1, copy_z hz.2.2.2.1 hd.2.2.2.1, copy_z hz.2.2.2.2 hd.2.2.2.2, copy_z hz2 hd2, copy_z hz3 hd3]
theorem look_c {n : Nat} {dkd dfg dtn dwd dhr dod dkn dti dla : Nat → Int32} {kd fg tn wd hr od kn : Nat → Int32} (tu hu pa dy : Int32) (hF : OkF n kd fg tn wd hr) (hO : OkO n hr od) (hd : FZ dkd dfg dtn dwd dhr) (hd2 : Zr 7 dod) (hd3 : Zr 8 dkn) (ht : Zr 7 dti) (hl : Zr 7 dla) (hz : FZ kd fg tn wd hr) (hz2 : Zr 7 od) (hz3 : Zr 8 kn) (who : Int32) {k : Nat} (hk : k < 900) : f_X3_lookAhead dkd dfg dtn dwd dhr dod dkn dti dla (nI n) kd fg tn wd hr od kn tu hu pa dy (nI k) who = some (nI n, kd, fg, tn, wd, hr, od, (dI n kd fg tn wd hr tu pa who k (X0 kn hu dy)).1, tu, (dI n kd fg tn wd hr tu pa who k (X0 kn hu dy)).2.1, pa, (dI n kd fg tn wd hr tu pa who k (X0 kn hu dy)).2.2) := by
  unfold f_X3_lookAhead
  rw [bi_s (think_c (nI n) tu hu pa dy hd hd2 hd3 ht hl hz hz2 hz3)]
  dsimp only
  rw [bi_s (show f_X0_passDays (nI n) kd fg tn wd hr od kn tu hu pa dy 0 0 0 z0 l9 (nI k) who = _ from days_c hF hO who (X0 kn hu dy) hk)]
theorem bits_all : ∀ c : Fin 7, (f_X4_has 0 (nI c.val) = 0 ↔ ¬ (((127 : Int32) >>> (nI c.val &&& 31)) &&& 1) = 0) := by decide +kernel
theorem bits_none : ∀ c : Fin 7, (f_X4_has 127 (nI c.val) = 0 ↔ ¬ (((0 : Int32) >>> (nI c.val &&& 31)) &&& 1) = 0) := by decide +kernel
theorem bits_one : ∀ c d : Fin 7, (f_X4_has (((1 : Int32) <<< (nI d.val &&& 31)) ^^^ (-1)) (nI c.val) = 0 ↔ ¬ ((((1 : Int32) <<< (nI d.val &&& 31)) >>> (nI c.val &&& 31)) &&& 1) = 0) := by decide +kernel
theorem bits_wo : ∀ a : Fin 128, ∀ c : Fin 7, (f_X4_has (nI a.val) (nI c.val) = 0 ↔ ¬ ((f_X3_without (nI a.val) >>> (nI c.val &&& 31)) &&& 1) = 0) := by decide +kernel
theorem Bits.all {n : Nat} (h : n ≤ 7) : Bits n 127 0 := fun c hc => bits_all ⟨c, by omega⟩
theorem Bits.none {n : Nat} (h : n ≤ 7) : Bits n 0 127 := fun c hc => bits_none ⟨c, by omega⟩
theorem Bits.one {n d : Nat} (h : n ≤ 7) (hd : d < n) : Bits n ((1 : Int32) <<< (nI d &&& 31)) (((1 : Int32) <<< (nI d &&& 31)) ^^^ (-1)) := fun c hc => bits_one ⟨c, by omega⟩ ⟨d, by omega⟩
theorem Bits.wo {n a : Nat} (h : n ≤ 7) (ha : a < 128) : Bits n (f_X3_without (nI a)) (nI a) := fun c hc => bits_wo ⟨a, ha⟩ ⟨c, by omega⟩
theorem shl_1 : ∀ c : Fin 7, (1 : Int32) <<< (nI c.val &&& 31) = nI (2 ^ c.val) := by decide +kernel
