theorem gL (k : Nat) {i : Nat} (h : i < k) (hk : k < 2147483648 := by decide) : ¬ nI k ≤ nI i := nI_ge h hk
theorem lL (k : Nat) {i : Nat} (h : k ≤ i) (hk : i < 2147483648 := by decide) : nI k ≤ nI i := nI_le h hk
theorem bi_some {α β : Type} {f : α → Option β} {a : α} : bi (some a) f = f a := rfl
theorem bi_s {α β : Type} {x : Option α} {f : α → Option β} {a : α} (h : x = some a) : bi x f = f a := by rw [h]; rfl
theorem gu_t {α : Type} {c : Bool} {a : Option α} (h : c = true) : gu c a = a := by rw [h]; rfl
theorem inB_n {i n : Nat} (h : i < n) (hn : n < 2147483648 := by decide) : inB (nI i) n = true := by
  refine decide_eq_true ⟨?_, ?_⟩ <;> rw [nI_toInt (by omega)] <;> omega
theorem cl_n {i : Nat} (h : i < 2147483648) : (nI i).toNatClampNeg = i := nI_clamp h
theorem lp_hoare {α β : Type} {f : α → Option (α ⊕ β)} (P : Nat → α → Prop) (Q : β → Prop) (n : Nat) (h : ∀ i a, i ≤ n → P i a → (i < n ∧ ∃ a', f a = some (.inl a') ∧ P (i + 1) a') ∨ ∃ b, f a = some (.inr b) ∧ Q b) : ∀ (fuel i : Nat) (a : α), i ≤ n → n - i < fuel → P i a → ∃ b, lp f fuel a = some b ∧ Q b := by
  intro fuel
  induction fuel with
  | zero => intro i a _ h2; omega
  | succ m ih =>
    intro i a hi hf hP
    rcases h i a hi hP with ⟨hlt, a', e, hP'⟩ | ⟨b, e, hQ⟩
    · obtain ⟨b, e2, hQ⟩ := ih (i + 1) a' hlt (by omega) hP'
      exact ⟨b, by unfold lp; rw [e]; exact e2, hQ⟩
    · exact ⟨b, by unfold lp; rw [e], hQ⟩
theorem lp_for {α β : Type} {f : α → Option (α ⊕ β)} (S : Nat → α) (n : Nat) {b : β} (hs : ∀ i, i < n → f (S i) = some (.inl (S (i + 1)))) (he : f (S n) = some (.inr b)) {fuel : Nat} {a : α} (hn : n < fuel) (h0 : a = S 0) : lp f fuel a = some b := by
  obtain ⟨b', e, hQ⟩ := lp_hoare (f := f) (fun i a => a = S i) (fun x => x = b) n (fun i a hi hP => by
    subst hP
    by_cases h : i < n
    · exact Or.inl ⟨h, _, hs i h, rfl⟩
    · have : i = n := by omega
      subst this
      exact Or.inr ⟨b, he, rfl⟩) fuel 0 a (Nat.zero_le _) (by omega) h0
  rw [e, hQ]
def Zr (n : Nat) (f : Nat → Int32) : Prop := ∀ i, n ≤ i → f i = 0
theorem at_n {n i : Nat} {f : Nat → Int32} (h : i < n) (hn : n < 2147483648 := by decide) : f_at n f (nI i) = f i := by
  unfold f_at
  rw [if_pos ⟨nI_pos' (by omega), nI_lt h (by omega)⟩, nI_clamp (by omega)]
theorem put_n {n i : Nat} {f : Nat → Int32} {v : Int32} (h : i < n) (hn : n < 2147483648 := by decide) : f_put n f (nI i) v = upd f i v := by
  unfold f_put
  rw [if_pos ⟨nI_pos' (by omega), nI_lt h (by omega)⟩, nI_clamp (by omega)]
theorem Zr.upd {n i : Nat} {f : Nat → Int32} {v : Int32} (hz : Zr n f) (h : i < n) : Zr n (upd f i v) := by
  intro j hj
  show (if j = i then v else f j) = 0
  rw [if_neg (by omega)]
  exact hz j hj
theorem Zr.ext {n : Nat} {f g : Nat → Int32} (hf : Zr n f) (hg : Zr n g) (h : ∀ i, i < n → f i = g i) : f = g := by
  funext i
  by_cases hi : i < n
  · exact h i hi
  · rw [hf i (by omega), hg i (by omega)]
theorem copy_z {n : Nat} {f g : Nat → Int32} (hf : Zr n f) (hg : Zr n g) : f_copy n f g = f := by
  funext k
  show (if 0 ≤ k ∧ k < 0 + n then f (0 + (k - 0)) else g k) = f k
  by_cases hk : k < n
  · rw [if_pos (by omega)]; congr 1; omega
  · rw [if_neg (by omega), hf k (by omega), hg k (by omega)]
def fl (n : Nat) (v : Int32) (f : Nat → Int32) : Nat → Int32 := fun i => if i < n then v else f i
theorem fl_0 (v : Int32) (f : Nat → Int32) : fl 0 v f = f := funext fun _ => if_neg (Nat.not_lt_zero _)
theorem fl_s (i : Nat) (v : Int32) (f : Nat → Int32) : upd (fl i v f) i v = fl (i + 1) v f := by
  funext k
  show (if k = i then v else if k < i then v else f k) = if k < i + 1 then v else f k
  by_cases h1 : k = i
  · rw [if_pos h1, if_pos (by omega)]
  · by_cases h2 : k < i
    · rw [if_neg h1, if_pos h2, if_pos (by omega)]
    · rw [if_neg h1, if_neg h2, if_neg (by omega)]
def z0 : Nat → Int32 := fun _ => 0
def l9 : Nat → Int32 := fun i => if i < 7 then -9 else 0
theorem z0_z (n : Nat) : Zr n z0 := fun _ _ => rfl
theorem l9_z : Zr 7 l9 := fun i h => if_neg (by omega)
theorem fl_z0 {f : Nat → Int32} (h : Zr 7 f) : fl 7 0 f = z0 := by
  funext i
  show (if i < 7 then 0 else f i) = 0
  by_cases hi : i < 7
  · rw [if_pos hi]
  · rw [if_neg hi, h i (by omega)]
theorem fl_l9 {f : Nat → Int32} (h : Zr 7 f) : fl 7 (-9) f = l9 := by
  funext i
  show (if i < 7 then -9 else f i) = if i < 7 then -9 else 0
  by_cases hi : i < 7
  · rw [if_pos hi, if_pos hi]
  · rw [if_neg hi, if_neg hi, h i (by omega)]
theorem fl_Z {n m : Nat} {v : Int32} {f : Nat → Int32} (h : Zr n f) (hm : m ≤ n) : Zr n (fl m v f) := by
  intro i hi
  show (if i < m then v else f i) = 0
  rw [if_neg (by omega)]; exact h i hi
theorem fill_ok (n : Nat) (v : Int32) (f : Nat → Int32) (hn : n < 900) : f_fill f v n = some (fl n v f) := by
  unfold f_fill
  rw [lp_for (fun i => (nI i, fl i v f)) n (b := fl n v f) ?_ ?_ (by omega) (by show ((0 : Int32), f) = (nI 0, fl 0 v f); rw [fl_0]; rfl)]
  · rfl
  · intro i hi
    show f_fill_L5 v (nI n) n (nI i) (fl i v f) = _
    unfold f_fill_L5
    rw [if_neg (nI_ge hi (by omega)), gu_t (inB_n hi (by omega)), cl_n (by omega), fl_s, nI_1]
  · show f_fill_L5 v (nI n) n (nI n) (fl n v f) = _
    unfold f_fill_L5
    rw [if_pos (nI_le (Nat.le_refl n) (by omega))]
theorem forget_ok {t l : Nat → Int32} (ht : Zr 7 t) (hl : Zr 7 l) : f_X1_forget t l = some (0, 0, 0, z0, l9) := by
  unfold f_X1_forget
  rw [bi_s (fill_ok 7 0 t (by decide)), bi_s (fill_ok 7 (-9) l (by decide)), fl_z0 ht, fl_l9 hl]
theorem begins_ok {t l : Nat → Int32} (ht : Zr 7 t) (hl : Zr 7 l) : f_X4_begins t l = some (z0, l9, 0, 0, 0) := by
  unfold f_X4_begins
  rw [lp_for (fun i => (nI i, fl i 0 t, fl i (-9) l)) 7 (b := (z0, l9)) ?_ ?_ (by decide) (by show ((0 : Int32), t, l) = (nI 0, fl 0 0 t, fl 0 (-9) l); rw [fl_0, fl_0]; rfl)]
  · rfl
  · intro i hi
    show f_X4_begins_L17 (nI i) (fl i 0 t) (fl i (-9) l) = _
    unfold f_X4_begins_L17
    rw [if_neg (show ¬ (7 : Int32) ≤ nI i from gL 7 hi), gu_t (inB_n hi), gu_t (inB_n hi), cl_n (by omega), fl_s, fl_s, nI_1]
  · show f_X4_begins_L17 (nI 7) (fl 7 0 t) (fl 7 (-9) l) = _
    unfold f_X4_begins_L17
    rw [if_pos (show (7 : Int32) ≤ nI 7 from lL 7 (Nat.le_refl 7)), fl_z0 ht, fl_l9 hl]
def pt (f g : Nat → Int32) (a n : Nat) : Nat → Int32 := fun k => if a ≤ k ∧ k < a + n then g (k - a) else f k
theorem pt_0 (f g : Nat → Int32) (a : Nat) : pt f g a 0 = f := funext fun k => if_neg (by omega)
theorem pt_in {f g : Nat → Int32} {a n k : Nat} (h : k < n) : pt f g a n (a + k) = g k := by
  show (if a ≤ a + k ∧ a + k < a + n then g (a + k - a) else f (a + k)) = g k
  rw [if_pos (by omega), Nat.add_sub_cancel_left]
theorem pt_out {f g : Nat → Int32} {a n k : Nat} (h : k < a ∨ a + n ≤ k) : pt f g a n k = f k := if_neg (by omega)
theorem pt_s (f g : Nat → Int32) (a n : Nat) : upd (pt f g a n) (a + n) (g n) = pt f g a (n + 1) := by
  funext k
  show (if k = a + n then g n else if a ≤ k ∧ k < a + n then g (k - a) else f k) = if a ≤ k ∧ k < a + (n + 1) then g (k - a) else f k
  by_cases h1 : k = a + n
  · rw [if_pos h1, if_pos (by omega), h1, Nat.add_sub_cancel_left]
  · by_cases h2 : a ≤ k ∧ k < a + n
    · rw [if_neg h1, if_pos h2, if_pos (by omega)]
    · rw [if_neg h1, if_neg h2, if_neg (by omega)]
def ff (f g : Nat → Int32) (i : Nat) : Nat → Int32 := fun k => if k < i then f k else g k
theorem ff_0 (f g : Nat → Int32) : ff f g 0 = g := funext fun k => if_neg (Nat.not_lt_zero k)
theorem ff_s (f g : Nat → Int32) (i : Nat) : upd (ff f g i) i (f i) = ff f g (i + 1) := by
  funext k
  show (if k = i then f i else if k < i then f k else g k) = if k < i + 1 then f k else g k
  by_cases h1 : k = i
  · rw [if_pos h1, if_pos (by omega), h1]
  · by_cases h2 : k < i
    · rw [if_neg h1, if_pos h2, if_pos (by omega)]
    · rw [if_neg h1, if_neg h2, if_neg (by omega)]
theorem ff_z {n : Nat} {f g h : Nat → Int32} (hg : Zr n g) (hh : Zr n h) (e : ∀ k, k < n → f k = h k) : ff f g n = h := by
  refine Zr.ext (n := n) (fun i hi => ?_) hh (fun i hi => ?_)
  · show (if i < n then f i else g i) = 0
    rw [if_neg (by omega)]; exact hg i hi
  · show (if i < n then f i else g i) = h i
    rw [if_pos hi]; exact e i hi
theorem nz1 : ¬ (1 : Int32) = 0 := by decide
theorem keep_known (v kept : Nat → Int32) (a : Nat) (ha : a + 8 ≤ 150) : f_X4_passes_known v kept 1 (nI a) = some (v, pt kept v a 8, nI (a + 8)) := by
  unfold f_X4_passes_known
  rw [lp_for (fun i => (nI i, v, pt kept v a i, nI (a + i))) 8 (b := (v, pt kept v a 8, nI (a + 8))) ?_ ?_ (by decide) (by show ((0 : Int32), v, kept, nI a) = (nI 0, v, pt kept v a 0, nI (a + 0)); rw [pt_0]; rfl)]
  · rfl
  · intro i hi
    show f_X4_passes_known_L2 1 (nI i) v (pt kept v a i) (nI (a + i)) = _
    unfold f_X4_passes_known_L2 f_X4_passes_known_J42
    rw [if_neg (show ¬ (8 : Int32) ≤ nI i from gL 8 hi), if_neg nz1, gu_t (inB_n hi), gu_t (inB_n (by omega)), cl_n (by omega), cl_n (by omega), pt_s, nI_1, nI_1]
    rfl
  · show f_X4_passes_known_L2 1 (nI 8) v (pt kept v a 8) (nI (a + 8)) = _
    unfold f_X4_passes_known_L2
    rw [if_pos (show (8 : Int32) ≤ nI 8 from lL 8 (Nat.le_refl 8))]
theorem back_known (v w kept : Nat → Int32) (a : Nat) (ha : a + 8 ≤ 150) (hv : Zr 8 v) (hw : Zr 8 w) (h : ∀ k, k < 8 → kept (a + k) = w k) : f_X4_passes_known v kept 0 (nI a) = some (w, kept, nI (a + 8)) := by
  unfold f_X4_passes_known
  rw [lp_for (fun i => (nI i, ff (fun k => kept (a + k)) v i, kept, nI (a + i))) 8 (b := (w, kept, nI (a + 8))) ?_ ?_ (by decide) (by show ((0 : Int32), v, kept, nI a) = (nI 0, ff (fun k => kept (a + k)) v 0, kept, nI (a + 0)); rw [ff_0]; rfl)]
  · rfl
  · intro i hi
    show f_X4_passes_known_L2 0 (nI i) (ff (fun k => kept (a + k)) v i) kept (nI (a + i)) = _
    unfold f_X4_passes_known_L2 f_X4_passes_known_J42
    rw [if_neg (show ¬ (8 : Int32) ≤ nI i from gL 8 hi), if_pos rfl, gu_t (inB_n (by omega)), gu_t (inB_n hi), cl_n (by omega), cl_n (by omega), ff_s (fun k => kept (a + k)) v i, nI_1, nI_1]
    rfl
  · show f_X4_passes_known_L2 0 (nI 8) (ff (fun k => kept (a + k)) v 8) kept (nI (a + 8)) = _
    unfold f_X4_passes_known_L2
    rw [if_pos (show (8 : Int32) ≤ nI 8 from lL 8 (Nat.le_refl 8)), ff_z hv hw h]
theorem keep_setting (v kept : Nat → Int32) (a : Nat) (ha : a + 3 ≤ 150) : f_X4_passes_setting v kept 1 (nI a) = some (v, pt kept v a 3, nI (a + 3)) := by
  unfold f_X4_passes_setting
  rw [lp_for (fun i => (nI i, v, pt kept v a i, nI (a + i))) 3 (b := (v, pt kept v a 3, nI (a + 3))) ?_ ?_ (by decide) (by show ((0 : Int32), v, kept, nI a) = (nI 0, v, pt kept v a 0, nI (a + 0)); rw [pt_0]; rfl)]
  · rfl
  · intro i hi
    show f_X4_passes_setting_L2 1 (nI i) v (pt kept v a i) (nI (a + i)) = _
    unfold f_X4_passes_setting_L2 f_X4_passes_setting_J42
    rw [if_neg (show ¬ (3 : Int32) ≤ nI i from gL 3 hi), if_neg nz1, gu_t (inB_n hi), gu_t (inB_n (by omega)), cl_n (by omega), cl_n (by omega), pt_s, nI_1, nI_1]
    rfl
  · show f_X4_passes_setting_L2 1 (nI 3) v (pt kept v a 3) (nI (a + 3)) = _
    unfold f_X4_passes_setting_L2
    rw [if_pos (show (3 : Int32) ≤ nI 3 from lL 3 (Nat.le_refl 3))]
theorem back_setting (v w kept : Nat → Int32) (a : Nat) (ha : a + 3 ≤ 150) (hv : Zr 3 v) (hw : Zr 3 w) (h : ∀ k, k < 3 → kept (a + k) = w k) : f_X4_passes_setting v kept 0 (nI a) = some (w, kept, nI (a + 3)) := by
  unfold f_X4_passes_setting
  rw [lp_for (fun i => (nI i, ff (fun k => kept (a + k)) v i, kept, nI (a + i))) 3 (b := (w, kept, nI (a + 3))) ?_ ?_ (by decide) (by show ((0 : Int32), v, kept, nI a) = (nI 0, ff (fun k => kept (a + k)) v 0, kept, nI (a + 0)); rw [ff_0]; rfl)]
  · rfl
  · intro i hi
    show f_X4_passes_setting_L2 0 (nI i) (ff (fun k => kept (a + k)) v i) kept (nI (a + i)) = _
    unfold f_X4_passes_setting_L2 f_X4_passes_setting_J42
    rw [if_neg (show ¬ (3 : Int32) ≤ nI i from gL 3 hi), if_pos rfl, gu_t (inB_n (by omega)), gu_t (inB_n hi), cl_n (by omega), cl_n (by omega), ff_s (fun k => kept (a + k)) v i, nI_1, nI_1]
    rfl
  · show f_X4_passes_setting_L2 0 (nI 3) (ff (fun k => kept (a + k)) v 3) kept (nI (a + 3)) = _
    unfold f_X4_passes_setting_L2
    rw [if_pos (show (3 : Int32) ≤ nI 3 from lL 3 (Nat.le_refl 3)), ff_z hv hw h]
theorem keep_kind (v kept : Nat → Int32) (a : Nat) (ha : a + 7 ≤ 150) : f_X4_passes_kind v kept 1 (nI a) = some (v, pt kept v a 7, nI (a + 7)) := by
  unfold f_X4_passes_kind
  rw [lp_for (fun i => (nI i, v, pt kept v a i, nI (a + i))) 7 (b := (v, pt kept v a 7, nI (a + 7))) ?_ ?_ (by decide) (by show ((0 : Int32), v, kept, nI a) = (nI 0, v, pt kept v a 0, nI (a + 0)); rw [pt_0]; rfl)]
  · rfl
  · intro i hi
    show f_X4_passes_kind_L2 1 (nI i) v (pt kept v a i) (nI (a + i)) = _
    unfold f_X4_passes_kind_L2 f_X4_passes_kind_J42
    rw [if_neg (show ¬ (7 : Int32) ≤ nI i from gL 7 hi), if_neg nz1, gu_t (inB_n hi), gu_t (inB_n (by omega)), cl_n (by omega), cl_n (by omega), pt_s, nI_1, nI_1]
    rfl
  · show f_X4_passes_kind_L2 1 (nI 7) v (pt kept v a 7) (nI (a + 7)) = _
    unfold f_X4_passes_kind_L2
    rw [if_pos (show (7 : Int32) ≤ nI 7 from lL 7 (Nat.le_refl 7))]
theorem back_kind (v w kept : Nat → Int32) (a : Nat) (ha : a + 7 ≤ 150) (hv : Zr 7 v) (hw : Zr 7 w) (h : ∀ k, k < 7 → kept (a + k) = w k) : f_X4_passes_kind v kept 0 (nI a) = some (w, kept, nI (a + 7)) := by
  unfold f_X4_passes_kind
  rw [lp_for (fun i => (nI i, ff (fun k => kept (a + k)) v i, kept, nI (a + i))) 7 (b := (w, kept, nI (a + 7))) ?_ ?_ (by decide) (by show ((0 : Int32), v, kept, nI a) = (nI 0, ff (fun k => kept (a + k)) v 0, kept, nI (a + 0)); rw [ff_0]; rfl)]
  · rfl
  · intro i hi
    show f_X4_passes_kind_L2 0 (nI i) (ff (fun k => kept (a + k)) v i) kept (nI (a + i)) = _
    unfold f_X4_passes_kind_L2 f_X4_passes_kind_J42
    rw [if_neg (show ¬ (7 : Int32) ≤ nI i from gL 7 hi), if_pos rfl, gu_t (inB_n (by omega)), gu_t (inB_n hi), cl_n (by omega), cl_n (by omega), ff_s (fun k => kept (a + k)) v i, nI_1, nI_1]
    rfl
  · show f_X4_passes_kind_L2 0 (nI 7) (ff (fun k => kept (a + k)) v 7) kept (nI (a + 7)) = _
    unfold f_X4_passes_kind_L2
    rw [if_pos (show (7 : Int32) ≤ nI 7 from lL 7 (Nat.le_refl 7)), ff_z hv hw h]
theorem keep_figure (v kept : Nat → Int32) (a : Nat) (ha : a + 7 ≤ 150) : f_X4_passes_figure v kept 1 (nI a) = some (v, pt kept v a 7, nI (a + 7)) := by
  unfold f_X4_passes_figure
  rw [lp_for (fun i => (nI i, v, pt kept v a i, nI (a + i))) 7 (b := (v, pt kept v a 7, nI (a + 7))) ?_ ?_ (by decide) (by show ((0 : Int32), v, kept, nI a) = (nI 0, v, pt kept v a 0, nI (a + 0)); rw [pt_0]; rfl)]
  · rfl
  · intro i hi
    show f_X4_passes_figure_L2 1 (nI i) v (pt kept v a i) (nI (a + i)) = _
    unfold f_X4_passes_figure_L2 f_X4_passes_figure_J42
    rw [if_neg (show ¬ (7 : Int32) ≤ nI i from gL 7 hi), if_neg nz1, gu_t (inB_n hi), gu_t (inB_n (by omega)), cl_n (by omega), cl_n (by omega), pt_s, nI_1, nI_1]
    rfl
  · show f_X4_passes_figure_L2 1 (nI 7) v (pt kept v a 7) (nI (a + 7)) = _
    unfold f_X4_passes_figure_L2
    rw [if_pos (show (7 : Int32) ≤ nI 7 from lL 7 (Nat.le_refl 7))]
theorem back_figure (v w kept : Nat → Int32) (a : Nat) (ha : a + 7 ≤ 150) (hv : Zr 7 v) (hw : Zr 7 w) (h : ∀ k, k < 7 → kept (a + k) = w k) : f_X4_passes_figure v kept 0 (nI a) = some (w, kept, nI (a + 7)) := by
  unfold f_X4_passes_figure
  rw [lp_for (fun i => (nI i, ff (fun k => kept (a + k)) v i, kept, nI (a + i))) 7 (b := (w, kept, nI (a + 7))) ?_ ?_ (by decide) (by show ((0 : Int32), v, kept, nI a) = (nI 0, ff (fun k => kept (a + k)) v 0, kept, nI (a + 0)); rw [ff_0]; rfl)]
  · rfl
  · intro i hi
    show f_X4_passes_figure_L2 0 (nI i) (ff (fun k => kept (a + k)) v i) kept (nI (a + i)) = _
    unfold f_X4_passes_figure_L2 f_X4_passes_figure_J42
    rw [if_neg (show ¬ (7 : Int32) ≤ nI i from gL 7 hi), if_pos rfl, gu_t (inB_n (by omega)), gu_t (inB_n hi), cl_n (by omega), cl_n (by omega), ff_s (fun k => kept (a + k)) v i, nI_1, nI_1]
    rfl
  · show f_X4_passes_figure_L2 0 (nI 7) (ff (fun k => kept (a + k)) v 7) kept (nI (a + 7)) = _
    unfold f_X4_passes_figure_L2
    rw [if_pos (show (7 : Int32) ≤ nI 7 from lL 7 (Nat.le_refl 7)), ff_z hv hw h]
theorem keep_tone (v kept : Nat → Int32) (a : Nat) (ha : a + 7 ≤ 150) : f_X4_passes_tone v kept 1 (nI a) = some (v, pt kept v a 7, nI (a + 7)) := by
  unfold f_X4_passes_tone
  rw [lp_for (fun i => (nI i, v, pt kept v a i, nI (a + i))) 7 (b := (v, pt kept v a 7, nI (a + 7))) ?_ ?_ (by decide) (by show ((0 : Int32), v, kept, nI a) = (nI 0, v, pt kept v a 0, nI (a + 0)); rw [pt_0]; rfl)]
  · rfl
  · intro i hi
    show f_X4_passes_tone_L2 1 (nI i) v (pt kept v a i) (nI (a + i)) = _
    unfold f_X4_passes_tone_L2 f_X4_passes_tone_J42
    rw [if_neg (show ¬ (7 : Int32) ≤ nI i from gL 7 hi), if_neg nz1, gu_t (inB_n hi), gu_t (inB_n (by omega)), cl_n (by omega), cl_n (by omega), pt_s, nI_1, nI_1]
    rfl
  · show f_X4_passes_tone_L2 1 (nI 7) v (pt kept v a 7) (nI (a + 7)) = _
    unfold f_X4_passes_tone_L2
    rw [if_pos (show (7 : Int32) ≤ nI 7 from lL 7 (Nat.le_refl 7))]
theorem back_tone (v w kept : Nat → Int32) (a : Nat) (ha : a + 7 ≤ 150) (hv : Zr 7 v) (hw : Zr 7 w) (h : ∀ k, k < 7 → kept (a + k) = w k) : f_X4_passes_tone v kept 0 (nI a) = some (w, kept, nI (a + 7)) := by
  unfold f_X4_passes_tone
  rw [lp_for (fun i => (nI i, ff (fun k => kept (a + k)) v i, kept, nI (a + i))) 7 (b := (w, kept, nI (a + 7))) ?_ ?_ (by decide) (by show ((0 : Int32), v, kept, nI a) = (nI 0, ff (fun k => kept (a + k)) v 0, kept, nI (a + 0)); rw [ff_0]; rfl)]
  · rfl
  · intro i hi
    show f_X4_passes_tone_L2 0 (nI i) (ff (fun k => kept (a + k)) v i) kept (nI (a + i)) = _
    unfold f_X4_passes_tone_L2 f_X4_passes_tone_J42
    rw [if_neg (show ¬ (7 : Int32) ≤ nI i from gL 7 hi), if_pos rfl, gu_t (inB_n (by omega)), gu_t (inB_n hi), cl_n (by omega), cl_n (by omega), ff_s (fun k => kept (a + k)) v i, nI_1, nI_1]
    rfl
  · show f_X4_passes_tone_L2 0 (nI 7) (ff (fun k => kept (a + k)) v 7) kept (nI (a + 7)) = _
    unfold f_X4_passes_tone_L2
    rw [if_pos (show (7 : Int32) ≤ nI 7 from lL 7 (Nat.le_refl 7)), ff_z hv hw h]
theorem keep_word (v kept : Nat → Int32) (a : Nat) (ha : a + 7 ≤ 150) : f_X4_passes_word v kept 1 (nI a) = some (v, pt kept v a 7, nI (a + 7)) := by
  unfold f_X4_passes_word
  rw [lp_for (fun i => (nI i, v, pt kept v a i, nI (a + i))) 7 (b := (v, pt kept v a 7, nI (a + 7))) ?_ ?_ (by decide) (by show ((0 : Int32), v, kept, nI a) = (nI 0, v, pt kept v a 0, nI (a + 0)); rw [pt_0]; rfl)]
  · rfl
  · intro i hi
    show f_X4_passes_word_L2 1 (nI i) v (pt kept v a i) (nI (a + i)) = _
    unfold f_X4_passes_word_L2 f_X4_passes_word_J42
    rw [if_neg (show ¬ (7 : Int32) ≤ nI i from gL 7 hi), if_neg nz1, gu_t (inB_n hi), gu_t (inB_n (by omega)), cl_n (by omega), cl_n (by omega), pt_s, nI_1, nI_1]
    rfl
  · show f_X4_passes_word_L2 1 (nI 7) v (pt kept v a 7) (nI (a + 7)) = _
    unfold f_X4_passes_word_L2
    rw [if_pos (show (7 : Int32) ≤ nI 7 from lL 7 (Nat.le_refl 7))]
theorem back_word (v w kept : Nat → Int32) (a : Nat) (ha : a + 7 ≤ 150) (hv : Zr 7 v) (hw : Zr 7 w) (h : ∀ k, k < 7 → kept (a + k) = w k) : f_X4_passes_word v kept 0 (nI a) = some (w, kept, nI (a + 7)) := by
  unfold f_X4_passes_word
  rw [lp_for (fun i => (nI i, ff (fun k => kept (a + k)) v i, kept, nI (a + i))) 7 (b := (w, kept, nI (a + 7))) ?_ ?_ (by decide) (by show ((0 : Int32), v, kept, nI a) = (nI 0, ff (fun k => kept (a + k)) v 0, kept, nI (a + 0)); rw [ff_0]; rfl)]
  · rfl
  · intro i hi
    show f_X4_passes_word_L2 0 (nI i) (ff (fun k => kept (a + k)) v i) kept (nI (a + i)) = _
    unfold f_X4_passes_word_L2 f_X4_passes_word_J42
    rw [if_neg (show ¬ (7 : Int32) ≤ nI i from gL 7 hi), if_pos rfl, gu_t (inB_n (by omega)), gu_t (inB_n hi), cl_n (by omega), cl_n (by omega), ff_s (fun k => kept (a + k)) v i, nI_1, nI_1]
    rfl
  · show f_X4_passes_word_L2 0 (nI 7) (ff (fun k => kept (a + k)) v 7) kept (nI (a + 7)) = _
    unfold f_X4_passes_word_L2
    rw [if_pos (show (7 : Int32) ≤ nI 7 from lL 7 (Nat.le_refl 7)), ff_z hv hw h]
theorem keep_hours (v kept : Nat → Int32) (a : Nat) (ha : a + 7 ≤ 150) : f_X4_passes_hours v kept 1 (nI a) = some (v, pt kept v a 7, nI (a + 7)) := by
  unfold f_X4_passes_hours
  rw [lp_for (fun i => (nI i, v, pt kept v a i, nI (a + i))) 7 (b := (v, pt kept v a 7, nI (a + 7))) ?_ ?_ (by decide) (by show ((0 : Int32), v, kept, nI a) = (nI 0, v, pt kept v a 0, nI (a + 0)); rw [pt_0]; rfl)]
  · rfl
  · intro i hi
    show f_X4_passes_hours_L2 1 (nI i) v (pt kept v a i) (nI (a + i)) = _
    unfold f_X4_passes_hours_L2 f_X4_passes_hours_J42
    rw [if_neg (show ¬ (7 : Int32) ≤ nI i from gL 7 hi), if_neg nz1, gu_t (inB_n hi), gu_t (inB_n (by omega)), cl_n (by omega), cl_n (by omega), pt_s, nI_1, nI_1]
    rfl
  · show f_X4_passes_hours_L2 1 (nI 7) v (pt kept v a 7) (nI (a + 7)) = _
    unfold f_X4_passes_hours_L2
    rw [if_pos (show (7 : Int32) ≤ nI 7 from lL 7 (Nat.le_refl 7))]
theorem back_hours (v w kept : Nat → Int32) (a : Nat) (ha : a + 7 ≤ 150) (hv : Zr 7 v) (hw : Zr 7 w) (h : ∀ k, k < 7 → kept (a + k) = w k) : f_X4_passes_hours v kept 0 (nI a) = some (w, kept, nI (a + 7)) := by
  unfold f_X4_passes_hours
  rw [lp_for (fun i => (nI i, ff (fun k => kept (a + k)) v i, kept, nI (a + i))) 7 (b := (w, kept, nI (a + 7))) ?_ ?_ (by decide) (by show ((0 : Int32), v, kept, nI a) = (nI 0, ff (fun k => kept (a + k)) v 0, kept, nI (a + 0)); rw [ff_0]; rfl)]
  · rfl
  · intro i hi
    show f_X4_passes_hours_L2 0 (nI i) (ff (fun k => kept (a + k)) v i) kept (nI (a + i)) = _
    unfold f_X4_passes_hours_L2 f_X4_passes_hours_J42
    rw [if_neg (show ¬ (7 : Int32) ≤ nI i from gL 7 hi), if_pos rfl, gu_t (inB_n (by omega)), gu_t (inB_n hi), cl_n (by omega), cl_n (by omega), ff_s (fun k => kept (a + k)) v i, nI_1, nI_1]
    rfl
  · show f_X4_passes_hours_L2 0 (nI 7) (ff (fun k => kept (a + k)) v 7) kept (nI (a + 7)) = _
    unfold f_X4_passes_hours_L2
    rw [if_pos (show (7 : Int32) ≤ nI 7 from lL 7 (Nat.le_refl 7)), ff_z hv hw h]
theorem keep_one (x : Int32) (kept : Nat → Int32) (a : Nat) (ha : a < 150) : f_X4_passOne kept 1 (nI a) x = some (x, upd kept a x, nI (a + 1)) := by
  unfold f_X4_passOne f_X4_passOne_J20 f_X4_passOne_J38
  rw [if_neg nz1, if_neg nz1, gu_t (inB_n ha), cl_n (by omega), nI_1]
theorem back_one (x y : Int32) (kept : Nat → Int32) (a : Nat) (ha : a < 150) (h : kept a = y) : f_X4_passOne kept 0 (nI a) x = some (y, kept, nI (a + 1)) := by
  unfold f_X4_passOne f_X4_passOne_J20 f_X4_passOne_J38
  rw [if_pos rfl, gu_t (inB_n ha), cl_n (by omega), if_pos rfl, nI_1, h]
/-- what is kept at the place a -/
def Sv (kept : Nat → Int32) (a : Nat) (kn st kd fg tn wd hr : Nat → Int32) (n d : Int32) : Prop :=
  (∀ k, k < 8 → kept (a + k) = kn k) ∧ (∀ k, k < 3 → kept (a + 8 + k) = st k) ∧ (∀ k, k < 7 → kept (a + 11 + k) = kd k) ∧ (∀ k, k < 7 → kept (a + 18 + k) = fg k) ∧ (∀ k, k < 7 → kept (a + 25 + k) = tn k) ∧ (∀ k, k < 7 → kept (a + 32 + k) = wd k) ∧ (∀ k, k < 7 → kept (a + 39 + k) = hr k) ∧ kept (a + 46) = n ∧ kept (a + 47) = d
theorem Sv.same {kept kept' : Nat → Int32} {a : Nat} {kn st kd fg tn wd hr : Nat → Int32} {n d : Int32} (h : Sv kept a kn st kd fg tn wd hr n d) (e : ∀ k, a ≤ k → k < a + 48 → kept' k = kept k) : Sv kept' a kn st kd fg tn wd hr n d := by
  obtain ⟨h1, h2, h3, h4, h5, h6, h7, h8, h9⟩ := h
  refine ⟨fun k hk => ?_, fun k hk => ?_, fun k hk => ?_, fun k hk => ?_, fun k hk => ?_, fun k hk => ?_, fun k hk => ?_, ?_, ?_⟩
  · rw [e _ (by omega) (by omega)]; exact h1 k hk
  · rw [e _ (by omega) (by omega)]; exact h2 k hk
  · rw [e _ (by omega) (by omega)]; exact h3 k hk
  · rw [e _ (by omega) (by omega)]; exact h4 k hk
  · rw [e _ (by omega) (by omega)]; exact h5 k hk
  · rw [e _ (by omega) (by omega)]; exact h6 k hk
  · rw [e _ (by omega) (by omega)]; exact h7 k hk
  · rw [e _ (by omega) (by omega)]; exact h8
  · rw [e _ (by omega) (by omega)]; exact h9
def kA (kept : Nat → Int32) (a : Nat) (kn st kd fg tn wd hr : Nat → Int32) (n d : Int32) : Nat → Int32 :=
  upd (upd (pt (pt (pt (pt (pt (pt (pt kept kn a 8) st (a + 8) 3) kd (a + 11) 7) fg (a + 18) 7) tn (a + 25) 7) wd (a + 32) 7) hr (a + 39) 7) (a + 46) n) (a + 47) d
theorem kA_out {kept : Nat → Int32} {a : Nat} {kn st kd fg tn wd hr : Nat → Int32} {n d : Int32} {k : Nat} (h : k < a ∨ a + 48 ≤ k) : kA kept a kn st kd fg tn wd hr n d k = kept k := by
  unfold kA
  rw [pk_un (by omega), pk_un (by omega), pt_out (by omega), pt_out (by omega), pt_out (by omega), pt_out (by omega), pt_out (by omega), pt_out (by omega), pt_out (by omega)]
theorem kA_in {kept : Nat → Int32} {a : Nat} {kn st kd fg tn wd hr : Nat → Int32} {n d : Int32} : Sv (kA kept a kn st kd fg tn wd hr n d) a kn st kd fg tn wd hr n d := by
  unfold kA
  refine ⟨fun k hk => ?_, fun k hk => ?_, fun k hk => ?_, fun k hk => ?_, fun k hk => ?_, fun k hk => ?_, fun k hk => ?_, ?_, ?_⟩
  · rw [pk_un (by omega), pk_un (by omega), pt_out (by omega), pt_out (by omega), pt_out (by omega), pt_out (by omega), pt_out (by omega), pt_out (by omega), pt_in hk]
  · rw [pk_un (by omega), pk_un (by omega), pt_out (by omega), pt_out (by omega), pt_out (by omega), pt_out (by omega), pt_out (by omega), pt_in hk]
  · rw [pk_un (by omega), pk_un (by omega), pt_out (by omega), pt_out (by omega), pt_out (by omega), pt_out (by omega), pt_in hk]
  · rw [pk_un (by omega), pk_un (by omega), pt_out (by omega), pt_out (by omega), pt_out (by omega), pt_in hk]
  · rw [pk_un (by omega), pk_un (by omega), pt_out (by omega), pt_out (by omega), pt_in hk]
  · rw [pk_un (by omega), pk_un (by omega), pt_out (by omega), pt_in hk]
  · rw [pk_un (by omega), pk_un (by omega), pt_in hk]
  · rw [pk_un (by omega), pk_us]
  · rw [pk_us]
theorem isB1 : isB 1 = true := by decide
theorem isB0 : isB 0 = true := by decide
theorem keepAll (kn st kd fg tn wd hr kept : Nat → Int32) (n d : Int32) (w : Nat) (hw : w < 3) : f_X4_passesAll kn st kd fg tn wd hr n d kept (nI w) 1 = some (kn, st, kd, fg, tn, wd, hr, n, d, kA kept (50 * w) kn st kd fg tn wd hr n d, 1, nI (50 * w + 48)) := by
  unfold f_X4_passesAll
  rw [gu_t isB1, show (50 : Int32) * nI w = nI (50 * w) from pk_mul 50 w, bi_s (keep_known _ _ _ (by omega)), bi_s (keep_setting _ _ _ (by omega)), bi_s (keep_kind _ _ _ (by omega)), bi_s (keep_figure _ _ _ (by omega)), bi_s (keep_tone _ _ _ (by omega)), bi_s (keep_word _ _ _ (by omega)), bi_s (keep_hours _ _ _ (by omega)), bi_s (keep_one _ _ _ (by omega)), bi_s (keep_one _ _ _ (by omega))]
  rfl
theorem backAll {kn st kd fg tn wd hr kept : Nat → Int32} {n d : Int32} {kn' st' kd' fg' tn' wd' hr' : Nat → Int32} {n' d' : Int32} (w : Nat) (hw : w < 3) (z1 : Zr 8 kn) (z2 : Zr 3 st) (z3 : Zr 7 kd) (z4 : Zr 7 fg) (z5 : Zr 7 tn) (z6 : Zr 7 wd) (z7 : Zr 7 hr) (y1 : Zr 8 kn') (y2 : Zr 3 st') (y3 : Zr 7 kd') (y4 : Zr 7 fg') (y5 : Zr 7 tn') (y6 : Zr 7 wd') (y7 : Zr 7 hr') (h : Sv kept (50 * w) kn' st' kd' fg' tn' wd' hr' n' d') : f_X4_passesAll kn st kd fg tn wd hr n d kept (nI w) 0 = some (kn', st', kd', fg', tn', wd', hr', n', d', kept, 0, nI (50 * w + 48)) := by
  obtain ⟨h1, h2, h3, h4, h5, h6, h7, h8, h9⟩ := h
  unfold f_X4_passesAll
  rw [gu_t isB0, show (50 : Int32) * nI w = nI (50 * w) from pk_mul 50 w, bi_s (back_known _ _ _ _ (by omega) z1 y1 h1), bi_s (back_setting _ _ _ _ (by omega) z2 y2 h2), bi_s (back_kind _ _ _ _ (by omega) z3 y3 h3), bi_s (back_figure _ _ _ _ (by omega) z4 y4 h4), bi_s (back_tone _ _ _ _ (by omega) z5 y5 h5), bi_s (back_word _ _ _ _ (by omega) z6 y6 h6), bi_s (back_hours _ _ _ _ (by omega) z7 y7 h7), bi_s (back_one _ _ _ _ (by omega) h8), bi_s (back_one _ _ _ _ (by omega) h9)]
def st3 (a b c : Int32) : Nat → Int32 := fun i => if i = 0 then a else if i = 1 then b else if i = 2 then c else 0
theorem st3_z (a b c : Int32) : Zr 3 (st3 a b c) := fun i h => by
  show (if i = 0 then a else if i = 1 then b else if i = 2 then c else 0) = 0
  rw [if_neg (by omega), if_neg (by omega), if_neg (by omega)]
theorem st3_0 (a b c : Int32) : st3 a b c (0 : Int32).toNatClampNeg = a := rfl
theorem st3_1 (a b c : Int32) : st3 a b c (1 : Int32).toNatClampNeg = b := rfl
theorem st3_2 (a b c : Int32) : st3 a b c (2 : Int32).toNatClampNeg = c := rfl
theorem st3_u (a b c x : Int32) (i : Nat) (hi : i < 3) : upd (st3 a b c) i x = st3 (if i = 0 then x else a) (if i = 1 then x else b) (if i = 2 then x else c) := by
  funext k
  show (if k = i then x else if k = 0 then a else if k = 1 then b else if k = 2 then c else 0) = if k = 0 then (if i = 0 then x else a) else if k = 1 then (if i = 1 then x else b) else if k = 2 then (if i = 2 then x else c) else 0
  have : i = 0 ∨ i = 1 ∨ i = 2 := by omega
  rcases this with rfl | rfl | rfl <;> by_cases h0 : k = 0 <;> by_cases h1 : k = 1 <;> by_cases h2 : k = 2 <;> simp_all <;> omega
theorem st3_u0 (a b c x : Int32) : upd (st3 a b c) (0 : Int32).toNatClampNeg x = st3 x b c := st3_u a b c x 0 (by decide)
theorem st3_u1 (a b c x : Int32) : upd (st3 a b c) (1 : Int32).toNatClampNeg x = st3 a x c := st3_u a b c x 1 (by decide)
theorem st3_u2 (a b c x : Int32) : upd (st3 a b c) (2 : Int32).toNatClampNeg x = st3 a b x := st3_u a b c x 2 (by decide)
