abbrev GP : Type := va_G × ClassId × (Nat → Nat) × (Nat → Nat) × (Nat → Nat)
def NF : List (String × Nat × String × String × String × String) := [(RX0, 87, "TheEchosWidow", "REACH", "[I", "TheEchosWidow"), (RX0, 118, "TheEchosWidow", "GAIN", "[I", "TheEchosWidow"), (RX0, 128, "TheEchosWidow", "HARM", "[I", "TheEchosWidow"), (RX0, 131, "TheEchosWidow", "HARM_BY_FIGURE", "[I", "TheEchosWidow"), (RX0, 97, "TheEchosWidow", "MANNER", "[I", "TheEchosWidow")]
def NM : List (String × Nat × MethodName × String) := [(RX3, 11, yX0_init, "TheEchosWidow"), (RX0, 51, yX1_init, "TheEchosWidow"), (RX3, 28, yX2_init, "TheEchosWidow"), (RX2, 19, yX3_put, "TheEchosWidow"), (RX2, 23, yX3_at, "TheEchosWidow"), (RX2, 95, yX3_rangeNo, "TheEchosWidow"), (RX0, 60, yX3_put, "TheEchosWidow"), (RX0, 73, yX3_at, "TheEchosWidow"), (RX1, 34, yX3_at, "TheEchosWidow"), (RX1, 38, yX3_put, "TheEchosWidow"), (RX0, 56, yX3_copy, "TheEchosWidow")]
def NWf (q : String × Nat × String × String × String × String) : Cond := .fieldLinkNest q.1 q.2.1 q.2.2.1 q.2.2.2.1 q.2.2.2.2.1 q.2.2.2.2.2
def NWm (q : String × Nat × MethodName × String) : Cond := .methodLinkNest q.1 q.2.1 q.2.2.1 q.2.2.2
def tn (k : Nat) : String := match k with
  | 0 => "REACH"
  | 1 => "GAIN"
  | 2 => "HARM"
  | 3 => "HARM_BY_FIGURE"
  | _ => "MANNER"
def tvL (k : Nat) : List Int32 := match k with
  | 0 => [2, 4, 2, -1, 0, 9]
  | 1 => [1, 1, 0, 0, 2, 0]
  | 2 => [0, 2, 1, 0, 0, 0]
  | 3 => [0, 0, 0, -1, 0, 1]
  | _ => [0, 0, 1, 0, 0, 2]
def tv (k j : Nat) : Int32 := (tvL k).getD j 0
def sLen : List Nat := [8, 5, 5, 3, 4, 4, 4, 0, 6]
def sByt : List (List Int32) := [[99, 75, 35, 35, 35, 35, 35, 59], [107, 35, 35, 35, 59], [104, 35, 35, 35, 59], [116, 35, 59], [117, 35, 35, 59], [112, 35, 35, 59], [100, 35, 35, 59], [], [99, 104, 116, 119, 115, 103]]
def sIx : List Nat := [34, 36, 38, 40, 42, 44, 46, 48, 53]
def sTx : List String := ["cK#####;", "k###;", "h###;", "t#;", "u##;", "p##;", "d##;", "", "chtwsg"]
def Ex (G : GP) (A : Nat → Prop) (U : State) (H : Heap) : Prop :=
  (∀ q ∈ NF, va_Nw (NWf q) U) ∧ (∀ q ∈ NM, va_Nw (NWm q) U) ∧
  (∀ k, k < 5 → va_Z "TheEchosWidow" (tn k) "[I" (.ref (G.2.2.1 k)) A U H ∧ va_T .int (G.2.2.1 k) 6 (fun j => .int (tv k j)) A U H) ∧
  va_Z "java/lang/String" "COMPACT_STRINGS" "Z" (.int 1) A U H ∧ va_Zq "jdk/internal/util/Preconditions" "SIOOBE_FORMATTER" "Ljava/util/function/BiFunction;" A U H ∧
  vk_S 9 sLen sByt G.2.2.2.1 G.2.2.2.2 A U H ∧ ∀ i, i < 9 → vk_R RX2 (sIx.getD i 0) (sTx.getD i "") (G.2.2.2.1 i) U
theorem Ex.same {G : GP} {A : Nat → Prop} {U V : State} {H : Heap} (hv : U.vm = V.vm) (h : Ex G A U H) : Ex G A V H := by
  obtain ⟨h1, h2, h3, h4, h5, h6, h7⟩ := h
  have ha : U.vm.Alike V.vm := by rw [hv]; exact Vm.Alike.refl _
  exact ⟨fun q hq => va_Nw.same rfl hv (h1 q hq), fun q hq => va_Nw.same rfl hv (h2 q hq), fun k hk => ⟨(h3 k hk).1.moved ha, (h3 k hk).2.moved ha⟩, h4.moved ha, h5.moved ha, h6.moved ha, fun i hi => vk_R.same hv.symm (h7 i hi)⟩
theorem Ex.warm {G : GP} {A : Nat → Prop} {U V : State} {H : Heap} (hW : U.WarmedH V.vm) (h : Ex G A U H) : Ex G A V H := by
  obtain ⟨h1, h2, h3, h4, h5, h6, h7⟩ := h
  have ha : U.vm.Alike V.vm := hW.alike
  exact ⟨fun q hq => va_Nw.warmF hW (h1 q hq), fun q hq => va_Nw.warmM hW (h2 q hq), fun k hk => ⟨(h3 k hk).1.moved ha, (h3 k hk).2.moved ha⟩, h4.moved ha, h5.moved ha, h6.moved ha, fun i hi => vk_R.warm hW (h7 i hi)⟩
theorem Ex.kept {G : GP} {A : Nat → Prop} {U : State} {H H1 : Heap} (h : Ex G A U H) (hq : ∀ a : Nat, a < H.size → ¬ A a → H1[a]? = H[a]?) : Ex G A U H1 := by
  obtain ⟨h1, h2, h3, h4, h5, h6, h7⟩ := h
  exact ⟨h1, h2, fun k hk => ⟨(h3 k hk).1.kept hq, (h3 k hk).2.kept hq⟩, h4.kept hq, h5.kept hq, h6.kept hq, h7⟩
theorem Ex.narrow {G : GP} {A B : Nat → Prop} {U : State} {H : Heap} (h : Ex G A U H) (hq : ∀ q, B q → A q) : Ex G B U H := by
  obtain ⟨h1, h2, h3, h4, h5, h6, h7⟩ := h
  exact ⟨h1, h2, fun k hk => ⟨(h3 k hk).1.narrow hq, (h3 k hk).2.narrow hq⟩, h4.narrow hq, h5.narrow hq, h6.narrow hq, h7⟩
def Wd (G : GP) (A : Nat → Prop) (ws : va_W) (U : State) (H : Heap) : Prop := va_K G.1 vwCl [(G.2.1, .int)] U ∧ va_P G.1 vwCl ws H ∧ va_D A ws
def Wx (G : GP) (A : Nat → Prop) (ws : va_W) (s : State) (H : Heap) (locs : List Loc) : Prop := Wd G A ws s H ∧ va_S A s.heap H locs
def PcS (G : GP) (w : va_W) (sz : Nat) (av : List Value) : Array Value → State → Prop := va_Pc av (fun U => U.heap.size = sz ∧ Wd G (fun _ => True) w U U.heap ∧ Ex G (va_A w sz) U U.heap)
def QI (G : GP) (A : Nat → Prop) (w' : va_W) (r : Int32) : Array Value → State → Outcome → State → Prop := va_Qi (fun (x : Int32) (_ : Unit) => x = r) (fun _ t => Wd G A w' t t.heap) A
def QV (G : GP) (A : Nat → Prop) (w' : va_W) : Array Value → State → Outcome → State → Prop := va_Qv (fun (_ : Unit) => True) (fun _ t => Wd G A w' t t.heap) A
def QR (G : GP) (A : Nat → Prop) (w' : va_W) (a : Nat) : Array Value → State → Outcome → State → Prop := va_Qr (fun (_ : Unit) => True) (fun _ a' t => a' = a ∧ Wd G A w' t t.heap) A
def CtI (l : Launch) (y : MethodName) (b : ByteArray) (n : Nat) (rt : Option FieldType) (rm : Room) (G : GP) (w : va_W) (av : List Value) (r : Int32) (w' : va_W) : Prop := ∀ sz : Nat, Met l y (Cond.code y b n rt :: TB) rm (PcS G w sz av) (QI G (va_A w sz) w' r) 0 0 (va_A w sz)
def CtV (l : Launch) (y : MethodName) (b : ByteArray) (n : Nat) (rm : Room) (G : GP) (w : va_W) (av : List Value) (w' : va_W) : Prop := ∀ sz : Nat, Met l y (Cond.code y b n none :: TB) rm (PcS G w sz av) (QV G (va_A w sz) w') 0 0 (va_A w sz)
def CtR (l : Launch) (y : MethodName) (b : ByteArray) (n : Nat) (rt : Option FieldType) (rm : Room) (G : GP) (w : va_W) (av : List Value) (a : Nat) (w' : va_W) : Prop := ∀ sz : Nat, Met l y (Cond.code y b n rt :: TB) rm (PcS G w sz av) (QR G (va_A w sz) w' a) 0 0 (va_A w sz)
def Cx (p : Program) (s : State) (m : MethodId) (args : Array Value) (meth : Method) (c : Code) (A : Nat → Prop) (G : GP) (cc : ByteArray) (nL : Nat) (own : String) (rt : Option FieldType) : Prop :=
  CallFix p m c cc nL s args TB own ∧ meth.sig.returnType = rt ∧ meth.locks = false ∧ (∀ q, s.heap.size ≤ q → A q) ∧ Ex G A s s.heap
theorem Wd.moved {G : GP} {A : Nat → Prop} {ws : va_W} {u U : State} {H : Heap} (hvm : u.vm.Alike U.vm) (h : Wd G A ws u H) : Wd G A ws U H := ⟨h.1.moved hvm, h.2.1, h.2.2⟩
theorem Wd.any {G : GP} {A : Nat → Prop} {ws : va_W} {u : State} {H : Heap} (h : Wd G A ws u H) : Wd G (fun _ => True) ws u H := ⟨h.1, h.2.1, h.2.2.weaken (fun _ _ _ _ => trivial)⟩
theorem PcS.blind {G : GP} {w : va_W} {sz : Nat} {av : List Value} : FrameBlind (PcS G w sz av) := by
  intro a U g mk q
  obtain ⟨q0, q1, q2, q3⟩ := q
  exact ⟨q0, q1, Wd.moved (u := U) (U := U.calling g mk a) (Vm.Alike.refl U.vm) q2, Ex.same (U := U) (V := U.calling g mk a) rfl q3⟩
theorem vaP_mem {D : va_G} {cl : List vw_C} {ws : va_W} {H : Heap} : va_P D cl ws H ↔ ∀ q ∈ ws, va_at D cl q H := by
  constructor
  · intro h q hq
    obtain ⟨k, hk⟩ := List.getElem?_of_mem hq
    exact h k q hk
  · intro h k q hk
    exact h q (List.mem_of_getElem? hk)
theorem vaD_mem {A : Nat → Prop} {ws : va_W} : va_D A ws ↔ (ws.map Prod.fst).Nodup ∧ ∀ q ∈ ws, A q.1 := by
  constructor
  · intro h
    refine ⟨?_, fun q hq => ?_⟩
    · rw [List.Nodup, List.pairwise_iff_getElem]
      intro i j hi hj hij he
      have hi' : i < ws.length := by simpa using hi
      have hj' : j < ws.length := by simpa using hj
      have := h.1 i j ws[i] ws[j] (List.getElem?_eq_getElem hi') (List.getElem?_eq_getElem hj') (by simpa using he)
      omega
    · obtain ⟨k, hk⟩ := List.getElem?_of_mem hq
      exact h.2 k q hk
  · intro h
    refine ⟨?_, fun k q hk => h.2 q (List.mem_of_getElem? hk)⟩
    intro i j p q hp hq he
    have h1 := h.1
    rw [List.Nodup, List.pairwise_iff_getElem] at h1
    obtain ⟨hi, e1⟩ := List.getElem?_eq_some_iff.mp hp
    obtain ⟨hj, e2⟩ := List.getElem?_eq_some_iff.mp hq
    have key : ∀ a b (ha : a < ws.length) (hb : b < ws.length), a < b → ws[a].1 ≠ ws[b].1 := fun a b ha hb hab => by
      have := h1 a b (by simpa using ha) (by simpa using hb) hab
      simpa using this
    rcases Nat.lt_trichotomy i j with hlt | heq | hgt
    · exact absurd (by rw [e1, e2]; exact he) (key i j hi hj hlt)
    · exact heq
    · exact absurd (by rw [e1, e2]; exact he.symm) (key j i hj hi hgt)
theorem vaA_mem {w : va_W} {sz q : Nat} : va_A w sz q ↔ q ∈ w.map Prod.fst ∨ sz ≤ q := by
  constructor
  · rintro (⟨k, e, h⟩ | h)
    · exact Or.inl (List.mem_map.mpr ⟨(q, e), List.mem_of_getElem? h, rfl⟩)
    · exact Or.inr h
  · rintro (h | h)
    · obtain ⟨⟨a, e⟩, h1, h2⟩ := List.mem_map.mp h
      obtain ⟨k, hk⟩ := List.getElem?_of_mem h1
      exact Or.inl ⟨k, e, by rw [hk]; simp only at h2; rw [h2]⟩
    · exact Or.inr h
theorem Wd.mid {G : GP} {A : Nat → Prop} {a w b : va_W} {U : State} {H : Heap} (h : Wd G A (a ++ (w ++ b)) U H) : Wd G A w U H := by
  obtain ⟨h1, h2, h3⟩ := h
  rw [vaP_mem] at h2
  rw [vaD_mem] at h3
  refine ⟨h1, vaP_mem.mpr (fun q hq => h2 q (by simp [hq])), vaD_mem.mpr ⟨?_, fun q hq => h3.2 q (by simp [hq])⟩⟩
  have := h3.1
  rw [List.map_append, List.map_append] at this
  exact ((List.nodup_append.mp ((List.nodup_append.mp this).2.1)).1)
theorem Wx.free {G : GP} {A : Nat → Prop} {a w b : va_W} {s : State} {H : Heap} {locs : List Loc} (h : Wx G A (a ++ (w ++ b)) s H locs) (hA : ∀ q, s.heap.size ≤ q → A q) : ∀ q, va_A w H.size q → A q := by
  intro q hq
  rcases vaA_mem.mp hq with h1 | h1
  · obtain ⟨x, hx, rfl⟩ := List.mem_map.mp h1
    exact (vaD_mem.mp h.1.mid.2.2).2 x hx
  · exact hA q (Nat.le_trans h.2.1 h1)
theorem Wx.back {G : GP} {A : Nat → Prop} {a w b w' : va_W} {s t : State} {H H1 : Heap} {locs locs1 : List Loc} (h : Wx G A (a ++ (w ++ b)) s H locs) (hA : ∀ q, s.heap.size ≤ q → A q) (hvm : s.vm.Alike t.vm) (hk : ∀ q : Nat, q < H.size → ¬ va_A w H.size q → H1[q]? = H[q]?) (hS : va_S A s.heap H1 locs1) (h1 : Wd G (va_A w H.size) w' t H1) : Wx G A (a ++ (w' ++ b)) s H1 locs1 := by
  have hF := h.free hA
  obtain ⟨⟨k1, k2, k3⟩, -⟩ := h
  obtain ⟨-, p2, p3⟩ := h1
  rw [vaP_mem] at k2 p2
  rw [vaD_mem] at k3 p3
  have hn : (a.map Prod.fst ++ (w.map Prod.fst ++ b.map Prod.fst)).Nodup := by have := k3.1; simpa [List.map_append] using this
  obtain ⟨n1, n2, n3⟩ := List.nodup_append.mp hn
  obtain ⟨n4, n5, n6⟩ := List.nodup_append.mp n2
  have out : ∀ q ∈ a ++ b, ¬ va_A w H.size q.1 ∧ q.1 < H.size := by
    intro q hq
    have hlt : q.1 < H.size := va_at.lt (k2 q (by
      rcases List.mem_append.mp hq with h | h
      · simp [h]
      · simp [h]))
    refine ⟨fun hc => ?_, hlt⟩
    rcases vaA_mem.mp hc with hm | hm
    · rcases List.mem_append.mp hq with h | h
      · exact n3 q.1 (List.mem_map_of_mem h) q.1 (List.mem_append_left _ hm) rfl
      · exact n6 q.1 hm q.1 (List.mem_map_of_mem h) rfl
    · omega
  refine ⟨⟨k1, vaP_mem.mpr ?_, vaD_mem.mpr ⟨?_, ?_⟩⟩, hS⟩
  · intro q hq
    rcases List.mem_append.mp hq with h | h
    · obtain ⟨g1, g2⟩ := out q (List.mem_append_left _ h)
      exact (k2 q (by simp [h])).kept (hk q.1 g2 g1)
    · rcases List.mem_append.mp h with h | h
      · exact p2 q h
      · obtain ⟨g1, g2⟩ := out q (List.mem_append_right _ h)
        exact (k2 q (by simp [h])).kept (hk q.1 g2 g1)
  · rw [List.map_append, List.map_append]
    refine List.nodup_append.mpr ⟨n1, List.nodup_append.mpr ⟨p3.1, n5, ?_⟩, ?_⟩
    · intro x hx y hy e
      subst e
      obtain ⟨z, hz, rfl⟩ := List.mem_map.mp hx
      obtain ⟨z2, hz2, e2⟩ := List.mem_map.mp hy
      exact (out z2 (List.mem_append_right _ hz2)).1 (by rw [e2]; exact p3.2 z hz)
    · intro x hx y hy e
      subst e
      obtain ⟨z2, hz2, e2⟩ := List.mem_map.mp hx
      rcases List.mem_append.mp hy with hy | hy
      · obtain ⟨z, hz, e3⟩ := List.mem_map.mp hy
        exact (out z2 (List.mem_append_left _ hz2)).1 (by rw [e2, ← e3]; exact p3.2 z hz)
      · exact n3 x hx x (List.mem_append_right _ hy) rfl
  · intro q hq
    rcases List.mem_append.mp hq with h | h
    · exact k3.2 q (by simp [h])
    · rcases List.mem_append.mp h with h | h
      · exact hF q.1 (p3.2 q h)
      · exact k3.2 q (by simp [h])
