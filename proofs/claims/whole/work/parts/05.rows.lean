/-! WHAT DOES NOT CHANGE: links within the nest, constants, the statics of the start -/
def nwF : List (String × Nat × String × String × String × String) := [("IceRegatta", 144, "IceRegatta$Course", "foot", "I", "IceRegatta"), ("IceRegatta", 147, "IceRegatta$Course", "head", "I", "IceRegatta"), ("IceRegatta$Tape", 75, "IceRegatta$Rule", "clauses", "I", "IceRegatta"), ("IceRegatta", 176, "IceRegatta$Rule", "clauses", "I", "IceRegatta"), ("IceRegatta", 104, "IceRegatta$Rule", "ice", "I", "IceRegatta"), ("IceRegatta$Tape", 93, "IceRegatta$Rule", "ice", "I", "IceRegatta"), ("IceRegatta$Tape", 97, "IceRegatta$Rule", "drops", "I", "IceRegatta"), ("IceRegatta$Tape", 100, "IceRegatta$Rule", "dropsFrom", "I", "IceRegatta"), ("IceRegatta$Boats", 36, "IceRegatta$Rule", "rights", "[I", "IceRegatta"), ("IceRegatta$Boats", 31, "IceRegatta$Rule", "rightsTold", "I", "IceRegatta"), ("IceRegatta$Tape", 103, "IceRegatta$Rule", "rightsTold", "I", "IceRegatta"), ("IceRegatta", 161, "IceRegatta$Tape", "size", "I", "IceRegatta"), ("IceRegatta", 169, "IceRegatta$Tape", "draft", "LIceRegatta$Rule;", "IceRegatta"), ("IceRegatta", 179, "IceRegatta$Tape", "faultPlace", "I", "IceRegatta"), ("IceRegatta", 182, "IceRegatta$Boats", "size", "I", "IceRegatta"), ("IceRegatta", 211, "IceRegatta$Races", "ended", "I", "IceRegatta"), ("IceRegatta", 259, "IceRegatta$Races", "finished", "I", "IceRegatta"), ("IceRegatta", 227, "IceRegatta$Races", "ranked", "[I", "IceRegatta"), ("IceRegatta", 256, "IceRegatta$Lots", "noises", "I", "IceRegatta"), ("IceRegatta", 253, "IceRegatta$Lots", "row", "[I", "IceRegatta"), ("IceRegatta", 250, "IceRegatta$Lots", "drawn", "I", "IceRegatta")]
def nwM : List (String × Nat × MethodName × String) := [("IceRegatta", 18, (⟨"IceRegatta$Course", "<init>", "()V"⟩ : MethodName), "IceRegatta"), ("IceRegatta", 25, (⟨"IceRegatta$Tape", "<init>", "()V"⟩ : MethodName), "IceRegatta"), ("IceRegatta$Tape", 21, (⟨"IceRegatta$Rule", "<init>", "()V"⟩ : MethodName), "IceRegatta"), ("IceRegatta", 32, (⟨"IceRegatta$Rule", "<init>", "()V"⟩ : MethodName), "IceRegatta"), ("IceRegatta", 39, (⟨"IceRegatta$Boats", "<init>", "()V"⟩ : MethodName), "IceRegatta"), ("IceRegatta", 46, (⟨"IceRegatta$Races", "<init>", "()V"⟩ : MethodName), "IceRegatta"), ("IceRegatta", 53, (⟨"IceRegatta$Fleets", "<init>", "()V"⟩ : MethodName), "IceRegatta"), ("IceRegatta", 60, (⟨"IceRegatta$Lots", "<init>", "()V"⟩ : MethodName), "IceRegatta"), ("IceRegatta$Lake", 43, (⟨"IceRegatta", "cellBeyond", "(III)I"⟩ : MethodName), "IceRegatta"), ("IceRegatta$Lake", 35, (⟨"IceRegatta", "isCell", "(I)Z"⟩ : MethodName), "IceRegatta"), ("IceRegatta$Course", 28, (⟨"IceRegatta", "cellBeyond", "(III)I"⟩ : MethodName), "IceRegatta"), ("IceRegatta$Races", 63, (⟨"IceRegatta", "isBoatNumber", "(I)Z"⟩ : MethodName), "IceRegatta"), ("IceRegatta$Lots", 31, (⟨"IceRegatta", "isBoatNumber", "(I)Z"⟩ : MethodName), "IceRegatta"), ("IceRegatta$Boats", 62, (⟨"IceRegatta", "stepX", "(I)I"⟩ : MethodName), "IceRegatta"), ("IceRegatta$Boats", 66, (⟨"IceRegatta", "stepY", "(I)I"⟩ : MethodName), "IceRegatta"), ("IceRegatta$Fleets", 22, (⟨"IceRegatta", "isBoatNumber", "(I)Z"⟩ : MethodName), "IceRegatta")]
def strL : List (String × Nat × String × Nat) := [("IceRegatta$Tape", 61, "ice", 20), ("IceRegatta$Tape", 67, "drop", 21), ("IceRegatta$Tape", 69, "way", 22), ("IceRegatta$Tape", 95, "from", 23), ("IceRegatta$Tape", 117, "starboard", 24), ("IceRegatta$Tape", 119, "leeward", 25), ("IceRegatta$Tape", 121, "ahead", 26), ("IceRegattaModel", 174, "starboard", 24), ("IceRegattaModel", 176, "leeward", 25), ("IceRegattaModel", 178, "ahead", 26), ("IceRegattaModel", 186, "ice", 20), ("IceRegattaModel", 197, "drop", 21), ("IceRegattaModel", 202, "from", 23), ("IceRegattaModel", 207, "way", 22), ("IceRegatta", 83, "no such row", 60), ("IceRegatta", 123, "ice tells 0, 1 or 2", 61), ("IceRegatta", 136, "the least length is not 1 to 11", 62), ("IceRegatta", 142, "a mark is 0 or 1", 63), ("IceRegatta", 164, "the tape has no so many bytes", 64), ("IceRegatta", 185, "there are 16 boats", 65), ("IceRegatta", 214, "no such race", 66), ("IceRegatta", 266, "no such cell", 67), ("IceRegatta", 268, "a sounding is not 0 to 5,000", 68), ("IceRegatta", 270, "degrees are not -40 to 20", 69), ("IceRegatta", 275, "no such way", 70), ("IceRegatta", 277, "a point is not 0 to 1,000", 71), ("IceRegatta", 279, "the number is not 0 to 16", 72), ("IceRegatta", 281, "no such boat", 73)]
def xwC : List (String × String) := [("java/lang/IndexOutOfBoundsException", "java/lang/IndexOutOfBoundsException"), ("java/lang/IllegalArgumentException", "java/lang/IllegalArgumentException"), ("java/lang/IllegalStateException", "java/lang/IllegalStateException")]
def xwD : List MethodName := [⟨"java/lang/RuntimeException", "<init>", "(Ljava/lang/String;)V"⟩, ⟨"java/lang/Exception", "<init>", "(Ljava/lang/String;)V"⟩, ⟨"java/lang/Throwable", "<init>", "(Ljava/lang/String;)V"⟩]
def xwN : List (String × String) := [("java/lang/IllegalArgumentException", "java/lang/IndexOutOfBoundsException")]
def stX : List Int32 := [0, 1, 1, 1, 0, -1, -1, -1]
def stY : List Int32 := [-1, -1, 0, 1, 1, 1, 0, -1]
def wLen : List Nat := [3, 4, 3, 4, 9, 7, 5]
def wByt : List (List Int32) := [[105, 99, 101], [100, 114, 111, 112], [119, 97, 121], [102, 114, 111, 109], [115, 116, 97, 114, 98, 111, 97, 114, 100], [108, 101, 101, 119, 97, 114, 100], [97, 104, 101, 97, 100]]
def ST1 (G : GG) (U : State) : Prop :=
  (∀ q ∈ nwF, va_Nw (.fieldLinkNest q.1 q.2.1 q.2.2.1 q.2.2.2.1 q.2.2.2.2.1 q.2.2.2.2.2) U) ∧ (∀ q ∈ nwM, va_Nw (.methodLinkNest q.1 q.2.1 q.2.2.1 q.2.2.2) U) ∧ (∀ q ∈ strL, vk_R q.1 q.2.1 q.2.2.1 (G.2.2 q.2.2.2) U) ∧
  (∀ q ∈ xwC, va_Nw (.castable q.1 q.2) U) ∧ (∀ q ∈ xwD, va_Nw (.declares q) U) ∧ (∀ q ∈ xwN, va_Nc q.1 q.2 U)
def ST2 (G : GG) (A : Nat → Prop) (U : State) (H : Heap) : Prop :=
  va_Z "IceRegatta" "STEP_X" "[I" (.ref (G.2.2 4)) A U H ∧ va_T .int (G.2.2 4) 8 (fun j => .int (stX.getD j 0)) A U H ∧
  va_Z "IceRegatta" "STEP_Y" "[I" (.ref (G.2.2 5)) A U H ∧ va_T .int (G.2.2 5) 8 (fun j => .int (stY.getD j 0)) A U H ∧
  va_Z "java/lang/String" "COMPACT_STRINGS" "Z" (.int 1) A U H ∧ va_Zq "jdk/internal/util/Preconditions" "SIOOBE_FORMATTER" "Ljava/util/function/BiFunction;" A U H ∧
  vk_S 7 wLen wByt (fun i => G.2.2 (20 + i)) (fun i => G.2.2 (40 + i)) A U H ∧
  vx_Zq Bundle.tN "UNASSIGNED_STACK" Bundle.steD A U H ∧ vx_Zq Bundle.tN "SUPPRESSED_SENTINEL" Bundle.listD A U H
def ST (G : GG) (A : Nat → Prop) (U : State) (H : Heap) : Prop := ST1 G U ∧ ST2 G A U H
theorem ST.warm {G : GG} {A : Nat → Prop} {s U : State} {H : Heap} (hW : s.WarmedH U.vm) (h : ST G A s H) : ST G A U H := by
  obtain ⟨⟨a1, a2, a3, a4, a5, a6⟩, b1, b2, b3, b4, b5, b6, b7, b8, b9⟩ := h
  have w := hW.alike
  exact ⟨⟨fun q hq => (a1 q hq).warmF hW, fun q hq => (a2 q hq).warmM hW, fun q hq => (a3 q hq).warm hW, fun q hq => (a4 q hq).warmC hW, fun q hq => (a5 q hq).warmD hW, fun q hq => (a6 q hq).moved w⟩,
    b1.moved w, b2.moved w, b3.moved w, b4.moved w, b5.moved w, b6.moved w, b7.moved w, b8.moved w, b9.moved w⟩
theorem ST.kept {G : GG} {A : Nat → Prop} {U : State} {H H1 : Heap} (h : ST G A U H) (hq : ∀ a : Nat, a < H.size → ¬ A a → H1[a]? = H[a]?) : ST G A U H1 := by
  obtain ⟨a1, b1, b2, b3, b4, b5, b6, b7, b8, b9⟩ := h
  exact ⟨a1, b1.kept hq, b2.kept hq, b3.kept hq, b4.kept hq, b5.kept hq, b6.kept hq, b7.kept hq, b8.kept hq, b9.kept hq⟩
theorem ST.narrow {G : GG} {A B : Nat → Prop} {U : State} {H : Heap} (h : ST G A U H) (hAB : ∀ q, B q → A q) : ST G B U H := by
  obtain ⟨a1, b1, b2, b3, b4, b5, b6, b7, b8, b9⟩ := h
  exact ⟨a1, b1.narrow hAB, b2.narrow hAB, b3.narrow hAB, b4.narrow hAB, b5.narrow hAB, b6.narrow hAB, b7.narrow hAB, b8.narrow hAB, b9.narrow hAB⟩
/-! CONTRACTS -/
/-- the cells of the world, and all that come -/
def AD (G : GG) (sz : Nat) : Nat → Prop := fun q => (∃ k : Nat, k < 48 ∧ q = G.2.1 k) ∨ sz ≤ q
def APART (G : GG) : Prop := ∀ i j : Nat, i < 48 → j < 48 → G.2.1 i = G.2.1 j → i = j
def PRE (G : GG) (σ : St) (sz : Nat) (U : State) : Prop := U.heap.size = sz ∧ va_P G.1 vwCl (WW G σ) U.heap ∧ va_K G.1 vwCl (TYS G) U ∧ APART G ∧ ST G (AD G sz) U U.heap
def POST (G : GG) (σ : St) (t : State) : Prop := va_P G.1 vwCl (WW G σ) t.heap
def CTi (l : Launch) (y : MethodName) (ws : List Cond) (rm : Room) (av : List Value) (G : GG) (σ : St) (sz : Nat) (Q : Int32 → St → Prop) : Prop :=
  Met l y ws rm (va_Pc av (PRE G σ sz)) (va_Qi Q (POST G) (AD G sz)) 0 0 (AD G sz)
def CTv (l : Launch) (y : MethodName) (ws : List Cond) (rm : Room) (av : List Value) (G : GG) (σ : St) (sz : Nat) (Q : St → Prop) : Prop :=
  Met l y ws rm (va_Pc av (PRE G σ sz)) (va_Qv Q (POST G) (AD G sz)) 0 0 (AD G sz)
def EXN (k : Nat) : String := if k = 1 then "java/lang/IndexOutOfBoundsException" else if k = 2 then "java/lang/IllegalArgumentException" else "java/lang/IllegalStateException"
def XX (G : GG) (X : Nat → St → Prop) (A : Nat → Prop) : String → State → State → Prop := vx_X (fun u : Nat × St => X u.1 u.2) (fun E u t => E = EXN u.1 ∧ POST G u.2 t) A
def CXi (l : Launch) (y : MethodName) (ws : List Cond) (rm : Room) (av : List Value) (G : GG) (σ : St) (sz : Nat) (Q : Int32 → St → Prop) (X : Nat → St → Prop) : Prop :=
  vx_Met l y ws rm (va_Pc av (PRE G σ sz)) (va_Qi Q (POST G) (AD G sz)) (XX G X (AD G sz)) 1 6 (AD G sz)
def CXv (l : Launch) (y : MethodName) (ws : List Cond) (rm : Room) (av : List Value) (G : GG) (σ : St) (sz : Nat) (Q : St → Prop) (X : Nat → St → Prop) : Prop :=
  vx_Met l y ws rm (va_Pc av (PRE G σ sz)) (va_Qv Q (POST G) (AD G sz)) (XX G X (AD G sz)) 1 6 (AD G sz)
theorem PRE.blind (av : List Value) (G : GG) (σ : St) (sz : Nat) : FrameBlind (va_Pc av (PRE G σ sz)) := by
  intro a U g mk h
  obtain ⟨h0, h1, h2, h3, h4, h5⟩ := h
  exact ⟨h0, h1, h2, va_K.moved (u := U) (U := U.calling g mk a) (Vm.Alike.refl U.vm) h3, h4, ST.warm (s := U) (U := U.calling g mk a) (State.WarmedH.refl U) h5⟩
theorem WW_len (G : GG) (σ : St) : (WW G σ).length = 48 := rfl
theorem WW_fst (G : GG) (σ : St) {k : Nat} {q : Nat × va_E} (h : (WW G σ)[k]? = some q) : k < 48 ∧ q.1 = G.2.1 k := by
  have hk : k < 48 := by
    have := (List.getElem?_eq_some_iff.mp h).1
    rw [WW_len] at this
    exact this
  refine ⟨hk, ?_⟩
  have h1 : ((WW G σ)[k]?).map (fun e => e.1) = some (G.2.1 k) := by
    rw [← List.getElem?_map]
    have : (WW G σ).map (fun e => e.1) = (List.range 48).map G.2.1 := rfl
    rw [this, List.getElem?_map, List.getElem?_range hk]
    rfl
  rw [h] at h1
  exact Option.some.inj h1
theorem WW_D {G : GG} {A : Nat → Prop} (h : APART G) (hA : ∀ k : Nat, k < 48 → A (G.2.1 k)) (σ : St) : va_D A (WW G σ) := by
  refine ⟨fun i j p q hp hq e => ?_, fun k q hq => ?_⟩
  · obtain ⟨h1, e1⟩ := WW_fst G σ hp
    obtain ⟨h2, e2⟩ := WW_fst G σ hq
    exact h i j h1 h2 (by rw [← e1, ← e2]; exact e)
  · obtain ⟨h1, e1⟩ := WW_fst G σ hq
    rw [e1]
    exact hA k h1
def EV (p : Program) (s : State) (m : MethodId) (args : Array Value) (c : Code) (cc : ByteArray) (nL : Nat) (Ts : List Cond) (own : String) (G : GG) (A : Nat → Prop) : Prop :=
  CallFix p m c cc nL s args Ts own ∧ va_K G.1 vwCl (TYS G) s ∧ (APART G ∧ ∀ k : Nat, k < 48 → A (G.2.1 k)) ∧ ST G A s s.heap ∧ ∀ q : Nat, s.heap.size ≤ q → A q
def HH (G : GG) (A : Nat → Prop) (s : State) (σ : St) (H : Heap) (locs : List Loc) : Prop := va_P G.1 vwCl (WW G σ) H ∧ va_S A s.heap H locs
/-- what a body begins with -/
theorem EV.ofPre {p : Program} {s : State} {m : MethodId} {args : Array Value} {c : Code} {cc : ByteArray} {nL sz : Nat} {Ts : List Cond} {own : String} {G : GG} {σ : St} (f : CallFix p m c cc nL s args Ts own) (h : PRE G σ sz s) : EV p s m args c cc nL Ts own G (AD G s.heap.size) ∧ HH G (AD G s.heap.size) s σ s.heap [] := by
  obtain ⟨rfl, h1, h2, h3, h4⟩ := h
  exact ⟨⟨f, h2, ⟨h3, fun k hk => Or.inl ⟨k, hk, rfl⟩⟩, h4, fun q hq => Or.inr hq⟩, h1, va_S.rf⟩
section QQ
variable {p : Program} {l : Launch} {e : Env} {R : Room} {s : State} {m : MethodId} {args : Array Value} {below : List Frame} {meth : Method} {c : Code} {H : Heap} {locs : List Loc} {cells slots : Nat} {Q : State → Prop}
variable {cc : ByteArray} {nL pc : Nat} {Ts : List Cond} {own : String} {G : GG} {A : Nat → Prop} {ls : Array Slot} {rest st0 : List Value} {σ : St} {a : Nat}
theorem EV.sub (E : EV p s m args c cc nL Ts own G A) (h : HH G A s σ H locs) {q : Nat} (hq : AD G H.size q) : A q := by
  rcases hq with ⟨k, hk, rfl⟩ | hq
  · exact E.2.2.1.2 k hk
  · exact E.2.2.2.2 q (Nat.le_trans h.2.1 hq)
theorem EV.pre (E : EV p s m args c cc nL Ts own G A) (h : HH G A s σ H locs) {U : State} (hU : U.heap = H) (hW : s.WarmedH U.vm) : PRE G σ H.size U := by
  subst hU
  exact ⟨rfl, h.1, va_K.moved hW.alike E.2.1, E.2.2.1.1, ((E.2.2.2.1.kept h.2.2.1).narrow (fun q hq => E.sub h hq)).warm hW⟩
theorem q_get (E : EV p s m args c cc nL Ts own G A) (h : HH G A s σ H locs) {ref C : String} {T : u_T} {N ci index : Nat} (hin : ∀ w ∈ u_ws C T N, w ∈ Ts) (q0 : Nat) {fs : List Value} (he : (WW G σ)[q0]? = some (a, .inr (ci, fs))) (hc : vwCl[ci]? = some (C, T, N)) (k : Nat) (hk : k < N)
    (hl : Cond.fieldLink own index ref (T k).2.1 (T k).2.2.1 ∈ Ts) (hs : (T k).1 = ref) {v : Value} (hv : fs[k]? = some v) (hdg : decode cc pc = .ok (.getfield index, 3))
    (kk : W p l e R s m args below meth c H locs cells slots Q (F0 m (pc + 3) ls (v :: rest))) : W p l e R s m args below meth c H locs cells slots Q (F0 m pc ls (.ref a :: rest)) :=
  va_get E.1.1 E.1.2.1 E.1.2.2.2.2 hin E.1.2.2.2.1 E.2.1 h.1 q0 he hc k hk (E.1.2.2.2.2 _ hl) (fun _ h9 => by rw [← hs]; exact h9) hv hdg kk
theorem q_getN (E : EV p s m args c cc nL Ts own G A) (h : HH G A s σ H locs) {ref C host : String} {T : u_T} {N ci index : Nat} (hin : ∀ w ∈ u_ws C T N, w ∈ Ts) (q0 : Nat) {fs : List Value} (he : (WW G σ)[q0]? = some (a, .inr (ci, fs))) (hc : vwCl[ci]? = some (C, T, N)) (k : Nat) (hk : k < N)
    (hl : (own, index, ref, (T k).2.1, (T k).2.2.1, host) ∈ nwF) (hs : (T k).1 = ref) {v : Value} (hv : fs[k]? = some v) (hdg : decode cc pc = .ok (.getfield index, 3))
    (kk : W p l e R s m args below meth c H locs cells slots Q (F0 m (pc + 3) ls (v :: rest))) : W p l e R s m args below meth c H locs cells slots Q (F0 m pc ls (.ref a :: rest)) :=
  va_getN E.1.1 E.1.2.1 E.1.2.2.2.2 hin E.1.2.2.2.1 E.2.1 h.1 q0 he hc k hk (va_Nw.use rfl (E.2.2.2.1.1.1 _ hl)) (fun _ h9 => by rw [← hs]; exact h9) hv hdg kk
theorem q_put (E : EV p s m args c cc nL Ts own G A) (h : HH G A s σ H locs) {ref C : String} {T : u_T} {N ci index : Nat} (hin : ∀ w ∈ u_ws C T N, w ∈ Ts) (ty0 : Nat → FieldType) (hty : ∀ k, k < N → parseFieldDescriptor (T k).2.2.1 = some (ty0 k)) (hnm : ∀ a, a < N → ∀ b, b < N → a ≠ b → (T a).2.1 ≠ (T b).2.1) (q0 : Nat) {fs : List Value} (he : (WW G σ)[q0]? = some (a, .inr (ci, fs))) (hc : vwCl[ci]? = some (C, T, N)) (k : Nat) (hk : k < N)
    (hl : Cond.fieldLink own index ref (T k).2.1 (T k).2.2.1 ∈ Ts) (hs : (T k).1 = ref) (hfin : (T k).2.2.2 = false) {x : Int32} (hd : parseFieldDescriptor (T k).2.2.1 = some .int) (hl2 : k < fs.length) (hdg : decode cc pc = .ok (.putfield index, 3)) {σ' : St} (hset : (WW G σ).set q0 (a, .inr (ci, fs.set k (.int x))) = WW G σ')
    (kk : ∀ (H1 : Heap) (locs1 : List Loc), HH G A s σ' H1 locs1 → W p l e R s m args below meth c H1 locs1 cells slots Q (F0 m (pc + 3) ls rest)) : W p l e R s m args below meth c H locs cells slots Q (F0 m pc ls (.int x :: .ref a :: rest)) :=
  va_put E.1.1 E.1.2.1 E.1.2.2.2.2 hin ty0 hty hnm E.1.2.2.2.1 E.2.1 h.1 (WW_D E.2.2.1.1 E.2.2.1.2 σ) h.2 q0 he hc k hk (E.1.2.2.2.2 _ hl) (fun _ h9 => by rw [← hs]; exact h9) hfin hd rfl rfl hl2 hdg (fun H1 locs1 hP _ hS => kk H1 locs1 ⟨hset ▸ hP, hS⟩)
theorem q_putN (E : EV p s m args c cc nL Ts own G A) (h : HH G A s σ H locs) {ref C host : String} {T : u_T} {N ci index : Nat} (hin : ∀ w ∈ u_ws C T N, w ∈ Ts) (ty0 : Nat → FieldType) (hty : ∀ k, k < N → parseFieldDescriptor (T k).2.2.1 = some (ty0 k)) (hnm : ∀ a, a < N → ∀ b, b < N → a ≠ b → (T a).2.1 ≠ (T b).2.1) (q0 : Nat) {fs : List Value} (he : (WW G σ)[q0]? = some (a, .inr (ci, fs))) (hc : vwCl[ci]? = some (C, T, N)) (k : Nat) (hk : k < N)
    (hl : (own, index, ref, (T k).2.1, (T k).2.2.1, host) ∈ nwF) (hs : (T k).1 = ref) (hfin : (T k).2.2.2 = false) {x : Int32} (hd : parseFieldDescriptor (T k).2.2.1 = some .int) (hl2 : k < fs.length) (hdg : decode cc pc = .ok (.putfield index, 3)) {σ' : St} (hset : (WW G σ).set q0 (a, .inr (ci, fs.set k (.int x))) = WW G σ')
    (kk : ∀ (H1 : Heap) (locs1 : List Loc), HH G A s σ' H1 locs1 → W p l e R s m args below meth c H1 locs1 cells slots Q (F0 m (pc + 3) ls rest)) : W p l e R s m args below meth c H locs cells slots Q (F0 m pc ls (.int x :: .ref a :: rest)) :=
  va_putN E.1.1 E.1.2.1 E.1.2.2.2.2 hin ty0 hty hnm E.1.2.2.2.1 E.2.1 h.1 (WW_D E.2.2.1.1 E.2.2.1.2 σ) h.2 q0 he hc k hk (va_Nw.use rfl (E.2.2.2.1.1.1 _ hl)) (fun _ h9 => by rw [← hs]; exact h9) hfin hd rfl rfl hl2 hdg (fun H1 locs1 hP _ hS => kk H1 locs1 ⟨hset ▸ hP, hS⟩)
theorem q_iald (E : EV p s m args c cc nL Ts own G A) (h : HH G A s σ H locs) (q0 : Nat) {n : Nat} {f : Nat → Int32} (ha : (WW G σ)[q0]? = some (a, .inl (G.2.2 0, n, .inl f))) {i : Int32} (hin : vp_in i n) (hdg : decode cc pc = .ok (.iaload, 1))
    (kk : W p l e R s m args below meth c H locs cells slots Q (F0 m (pc + 1) ls (.int (f i.toNatClampNeg) :: rest))) : W p l e R s m args below meth c H locs cells slots Q (F0 m pc ls (.int i :: .ref a :: rest)) :=
  va_iald E.1.1 E.1.2.1 E.2.1 h.1 q0 0 ha rfl hin hdg kk
theorem q_zald (E : EV p s m args c cc nL Ts own G A) (h : HH G A s σ H locs) (q0 : Nat) {n : Nat} {f : Nat → Int32} (ha : (WW G σ)[q0]? = some (a, .inl (G.2.2 1, n, .inl f))) {i : Int32} (hin : vp_in i n) (hdg : decode cc pc = .ok (.baload, 1))
    (kk : W p l e R s m args below meth c H locs cells slots Q (F0 m (pc + 1) ls (.int (f i.toNatClampNeg) :: rest))) : W p l e R s m args below meth c H locs cells slots Q (F0 m pc ls (.int i :: .ref a :: rest)) :=
  va_zald E.1.1 E.1.2.1 E.2.1 h.1 q0 1 ha rfl hin hdg kk
theorem q_bald (E : EV p s m args c cc nL Ts own G A) (h : HH G A s σ H locs) (q0 : Nat) {n : Nat} {f : Nat → Int32} (ha : (WW G σ)[q0]? = some (a, .inl (G.2.2 2, n, .inl f))) {i : Int32} (hin : vp_in i n) (hdg : decode cc pc = .ok (.baload, 1))
    (kk : W p l e R s m args below meth c H locs cells slots Q (F0 m (pc + 1) ls (.int (f i.toNatClampNeg) :: rest))) : W p l e R s m args below meth c H locs cells slots Q (F0 m pc ls (.int i :: .ref a :: rest)) :=
  va_bald E.1.1 E.1.2.1 E.2.1 h.1 q0 2 ha rfl hin hdg kk
theorem q_lald (E : EV p s m args c cc nL Ts own G A) (h : HH G A s σ H locs) (q0 : Nat) {n : Nat} {f : Nat → Int64} (ha : (WW G σ)[q0]? = some (a, .inl (G.2.2 3, n, .inr (.inl f)))) {i : Int32} (hin : vp_in i n) (hdg : decode cc pc = .ok (.laload, 1))
    (kk : W p l e R s m args below meth c H locs cells slots Q (F0 m (pc + 1) ls (.long (f i.toNatClampNeg) :: rest))) : W p l e R s m args below meth c H locs cells slots Q (F0 m pc ls (.int i :: .ref a :: rest)) :=
  va_lald E.1.1 E.1.2.1 E.2.1 h.1 q0 3 ha rfl hin hdg kk
theorem q_iast (E : EV p s m args c cc nL Ts own G A) (h : HH G A s σ H locs) (q0 : Nat) {n : Nat} {f : Nat → Int32} (ha : (WW G σ)[q0]? = some (a, .inl (G.2.2 0, n, .inl f))) {i x : Int32} (hin : vp_in i n) (hdg : decode cc pc = .ok (.iastore, 1)) {σ' : St} (hset : (WW G σ).set q0 (a, .inl (G.2.2 0, n, .inl (upd f i.toNatClampNeg x))) = WW G σ')
    (kk : ∀ (H1 : Heap) (locs1 : List Loc), HH G A s σ' H1 locs1 → W p l e R s m args below meth c H1 locs1 cells slots Q (F0 m (pc + 1) ls rest)) : W p l e R s m args below meth c H locs cells slots Q (F0 m pc ls (.int x :: .int i :: .ref a :: rest)) :=
  va_iast E.1.1 E.1.2.1 E.2.1 h.1 (WW_D E.2.2.1.1 E.2.2.1.2 σ) h.2 q0 0 ha rfl hin hdg (fun H1 locs1 hP _ hS => kk H1 locs1 ⟨hset ▸ hP, hS⟩)
theorem q_zast (E : EV p s m args c cc nL Ts own G A) (h : HH G A s σ H locs) (q0 : Nat) {n : Nat} {f : Nat → Int32} (ha : (WW G σ)[q0]? = some (a, .inl (G.2.2 1, n, .inl f))) {i x : Int32} (hin : vp_in i n) (hdg : decode cc pc = .ok (.bastore, 1)) {σ' : St} (hset : (WW G σ).set q0 (a, .inl (G.2.2 1, n, .inl (upd f i.toNatClampNeg (vp_nar .boolean x)))) = WW G σ')
    (kk : ∀ (H1 : Heap) (locs1 : List Loc), HH G A s σ' H1 locs1 → W p l e R s m args below meth c H1 locs1 cells slots Q (F0 m (pc + 1) ls rest)) : W p l e R s m args below meth c H locs cells slots Q (F0 m pc ls (.int x :: .int i :: .ref a :: rest)) :=
  va_zast E.1.1 E.1.2.1 E.2.1 h.1 (WW_D E.2.2.1.1 E.2.2.1.2 σ) h.2 q0 1 ha rfl hin hdg (fun H1 locs1 hP _ hS => kk H1 locs1 ⟨hset ▸ hP, hS⟩)
theorem q_bast (E : EV p s m args c cc nL Ts own G A) (h : HH G A s σ H locs) (q0 : Nat) {n : Nat} {f : Nat → Int32} (ha : (WW G σ)[q0]? = some (a, .inl (G.2.2 2, n, .inl f))) {i x : Int32} (hin : vp_in i n) (hdg : decode cc pc = .ok (.bastore, 1)) {σ' : St} (hset : (WW G σ).set q0 (a, .inl (G.2.2 2, n, .inl (upd f i.toNatClampNeg (vp_nar .byte x)))) = WW G σ')
    (kk : ∀ (H1 : Heap) (locs1 : List Loc), HH G A s σ' H1 locs1 → W p l e R s m args below meth c H1 locs1 cells slots Q (F0 m (pc + 1) ls rest)) : W p l e R s m args below meth c H locs cells slots Q (F0 m pc ls (.int x :: .int i :: .ref a :: rest)) :=
  va_bast E.1.1 E.1.2.1 E.2.1 h.1 (WW_D E.2.2.1.1 E.2.2.1.2 σ) h.2 q0 2 ha rfl hin hdg (fun H1 locs1 hP _ hS => kk H1 locs1 ⟨hset ▸ hP, hS⟩)
theorem q_last (E : EV p s m args c cc nL Ts own G A) (h : HH G A s σ H locs) (q0 : Nat) {n : Nat} {f : Nat → Int64} (ha : (WW G σ)[q0]? = some (a, .inl (G.2.2 3, n, .inr (.inl f)))) {i : Int32} {x : Int64} (hin : vp_in i n) (hdg : decode cc pc = .ok (.lastore, 1)) {σ' : St} (hset : (WW G σ).set q0 (a, .inl (G.2.2 3, n, .inr (.inl (vp_updL f i.toNatClampNeg x)))) = WW G σ')
    (kk : ∀ (H1 : Heap) (locs1 : List Loc), HH G A s σ' H1 locs1 → W p l e R s m args below meth c H1 locs1 cells slots Q (F0 m (pc + 1) ls rest)) : W p l e R s m args below meth c H locs cells slots Q (F0 m pc ls (.long x :: .int i :: .ref a :: rest)) :=
  va_last E.1.1 E.1.2.1 E.2.1 h.1 (WW_D E.2.2.1.1 E.2.2.1.2 σ) h.2 q0 3 ha rfl hin hdg (fun H1 locs1 hP _ hS => kk H1 locs1 ⟨hset ▸ hP, hS⟩)
theorem q_alen (E : EV p s m args c cc nL Ts own G A) (h : HH G A s σ H locs) (q0 t0 : Nat) {cA : ClassId} {x : vp_A} (ha : (WW G σ)[q0]? = some (a, .inl (cA, x))) {ty : FieldType} (ht : (TYS G)[t0]? = some (cA, ty)) {v : Int32} (hv : Int32.ofNat x.1 = v) (hdg : decode cc pc = .ok (.arraylength, 1))
    (kk : W p l e R s m args below meth c H locs cells slots Q (F0 m (pc + 1) ls (.int v :: rest))) : W p l e R s m args below meth c H locs cells slots Q (F0 m pc ls (.ref a :: rest)) :=
  va_alen E.1.1 E.1.2.1 E.2.1 h.1 q0 t0 ha ht hv hdg kk
/-- a call: the callee's contract, the words, then the road behind it -/
theorem q_Vi (E : EV p s m args c cc nL Ts own G A) (h : HH G A s σ H locs) {y : MethodName} {ws : List Cond} {rm : Room} {b : Nat} {As : List Value} {post : Int32 → St → Prop} (hM : CTi l y ws rm (.ref b :: As) G σ H.size post) {C : String} {index maxL n : Nat} {bytes : ByteArray} {ret : Option FieldType} (cw : CallW R s args own C index y bytes maxL ret ws rm 0 0 n)
    (hrec : ∃ cell : Cell, H[b]? = some cell ∧ cell.vm.isStatics = false ∧ s.vm.findClass C = some cell.cls) (hn : As.length = n) (hsz : ls.size = nL) (hst : st0 = As.reverse ++ .ref b :: rest) (hW : (rest.map fun v => v.category).sum ≤ 8) (hdg : decode cc pc = .ok (.invokevirtual index, 3)) (hcs : cells ≤ R.cells ∧ slots ≤ R.slots)
    (kk : ∀ (r : Int32) (σ' : St) (H1 : Heap) (locs1 : List Loc), post r σ' → HH G A s σ' H1 locs1 → W p l e R s m args below meth c H1 locs1 cells slots Q (F0 m (pc + 3) ls (.int r :: rest))) : W p l e R s m args below meth c H locs cells slots Q (F0 m pc ls st0) := by
  refine va_calli (mc := 0) (ms := 0) (va_runV E.1 hM cw ⟨PRE.blind _ _ _ _, hrec, fun U hU hW => ⟨rfl, E.pre h hU hW⟩⟩ rfl hn hsz hst (lv_room hW) hdg hcs) h.2 (fun q _ hq => E.sub h hq) (fun q hq => E.sub h hq) (fun r u t H1 locs1 ht _ hw hB _ _ hS => ?_)
  exact kk r u H1 locs1 hw ⟨by rw [← ht]; exact hB, hS⟩
theorem q_Vv (E : EV p s m args c cc nL Ts own G A) (h : HH G A s σ H locs) {y : MethodName} {ws : List Cond} {rm : Room} {b : Nat} {As : List Value} {post : St → Prop} (hM : CTv l y ws rm (.ref b :: As) G σ H.size post) {C : String} {index maxL n : Nat} {bytes : ByteArray} {ret : Option FieldType} (cw : CallW R s args own C index y bytes maxL ret ws rm 0 0 n)
    (hrec : ∃ cell : Cell, H[b]? = some cell ∧ cell.vm.isStatics = false ∧ s.vm.findClass C = some cell.cls) (hn : As.length = n) (hsz : ls.size = nL) (hst : st0 = As.reverse ++ .ref b :: rest) (hW : (rest.map fun v => v.category).sum ≤ 8) (hdg : decode cc pc = .ok (.invokevirtual index, 3)) (hcs : cells ≤ R.cells ∧ slots ≤ R.slots)
    (kk : ∀ (σ' : St) (H1 : Heap) (locs1 : List Loc), post σ' → HH G A s σ' H1 locs1 → W p l e R s m args below meth c H1 locs1 cells slots Q (F0 m (pc + 3) ls rest)) : W p l e R s m args below meth c H locs cells slots Q (F0 m pc ls st0) := by
  refine va_callv (mc := 0) (ms := 0) (va_runV E.1 hM cw ⟨PRE.blind _ _ _ _, hrec, fun U hU hW => ⟨rfl, E.pre h hU hW⟩⟩ rfl hn hsz hst (lv_room hW) hdg hcs) h.2 (fun q _ hq => E.sub h hq) (fun q hq => E.sub h hq) (fun u t H1 locs1 ht _ hw hB _ _ hS => ?_)
  exact kk u H1 locs1 hw ⟨by rw [← ht]; exact hB, hS⟩
theorem q_Si (E : EV p s m args c cc nL Ts own G A) (h : HH G A s σ H locs) {y : MethodName} {ws : List Cond} {rm : Room} {As : List Value} {post : Int32 → St → Prop} (hM : CTi l y ws rm As G σ H.size post) {index maxL n : Nat} {bytes : ByteArray} {ret : Option FieldType} (cw : CallB R s args own index y bytes maxL ret ws rm 0 0 n ∧ (Cond.static y).before args s = true)
    (hn : As.length = n) (hsz : ls.size = nL) (hst : st0 = As.reverse ++ rest) (hW : (rest.map fun v => v.category).sum ≤ 8) (hdg : decode cc pc = .ok (.invokestatic index, 3)) (hcs : cells ≤ R.cells ∧ slots ≤ R.slots)
    (kk : ∀ (r : Int32) (σ' : St) (H1 : Heap) (locs1 : List Loc), post r σ' → HH G A s σ' H1 locs1 → W p l e R s m args below meth c H1 locs1 cells slots Q (F0 m (pc + 3) ls (.int r :: rest))) : W p l e R s m args below meth c H locs cells slots Q (F0 m pc ls st0) := by
  refine va_calli (mc := 0) (ms := 0) (va_runS E.1 hM cw ⟨PRE.blind _ _ _ _, fun U hU hW => ⟨rfl, E.pre h hU hW⟩⟩ rfl hn hsz hst (lv_room hW) hdg hcs) h.2 (fun q _ hq => E.sub h hq) (fun q hq => E.sub h hq) (fun r u t H1 locs1 ht _ hw hB _ _ hS => ?_)
  exact kk r u H1 locs1 hw ⟨by rw [← ht]; exact hB, hS⟩
theorem q_Sv (E : EV p s m args c cc nL Ts own G A) (h : HH G A s σ H locs) {y : MethodName} {ws : List Cond} {rm : Room} {As : List Value} {post : St → Prop} (hM : CTv l y ws rm As G σ H.size post) {index maxL n : Nat} {bytes : ByteArray} {ret : Option FieldType} (cw : CallB R s args own index y bytes maxL ret ws rm 0 0 n ∧ (Cond.static y).before args s = true)
    (hn : As.length = n) (hsz : ls.size = nL) (hst : st0 = As.reverse ++ rest) (hW : (rest.map fun v => v.category).sum ≤ 8) (hdg : decode cc pc = .ok (.invokestatic index, 3)) (hcs : cells ≤ R.cells ∧ slots ≤ R.slots)
    (kk : ∀ (σ' : St) (H1 : Heap) (locs1 : List Loc), post σ' → HH G A s σ' H1 locs1 → W p l e R s m args below meth c H1 locs1 cells slots Q (F0 m (pc + 3) ls rest)) : W p l e R s m args below meth c H locs cells slots Q (F0 m pc ls st0) := by
  refine va_callv (mc := 0) (ms := 0) (va_runS E.1 hM cw ⟨PRE.blind _ _ _ _, fun U hU hW => ⟨rfl, E.pre h hU hW⟩⟩ rfl hn hsz hst (lv_room hW) hdg hcs) h.2 (fun q _ hq => E.sub h hq) (fun q hq => E.sub h hq) (fun u t H1 locs1 ht _ hw hB _ _ hS => ?_)
  exact kk u H1 locs1 hw ⟨by rw [← ht]; exact hB, hS⟩
theorem q_Ni (E : EV p s m args c cc nL Ts own G A) (h : HH G A s σ H locs) {y : MethodName} {ws : List Cond} {rm : Room} {As : List Value} {post : Int32 → St → Prop} (hM : CTi l y ws rm As G σ H.size post) {host : String} {index maxL n : Nat} {bytes : ByteArray} {ret : Option FieldType} (cw : va_CN R s args own index y host bytes maxL ret ws rm 0 0 n) (hst2 : Cond.static y ∈ Ts)
    (hn : As.length = n) (hsz : ls.size = nL) (hst : st0 = As.reverse ++ rest) (hW : (rest.map fun v => v.category).sum ≤ 8) (hdg : decode cc pc = .ok (.invokestatic index, 3)) (hcs : cells ≤ R.cells ∧ slots ≤ R.slots)
    (kk : ∀ (r : Int32) (σ' : St) (H1 : Heap) (locs1 : List Loc), post r σ' → HH G A s σ' H1 locs1 → W p l e R s m args below meth c H1 locs1 cells slots Q (F0 m (pc + 3) ls (.int r :: rest))) : W p l e R s m args below meth c H locs cells slots Q (F0 m pc ls st0) := by
  refine va_calli (mc := 0) (ms := 0) (va_runSN E.1 hM ⟨cw, E.1.2.2.2.2 _ hst2, trivial⟩ ⟨PRE.blind _ _ _ _, fun U hU hW => ⟨rfl, E.pre h hU hW⟩⟩ rfl hn hsz hst (lv_room hW) hdg hcs) h.2 (fun q _ hq => E.sub h hq) (fun q hq => E.sub h hq) (fun r u t H1 locs1 ht _ hw hB _ _ hS => ?_)
  exact kk r u H1 locs1 hw ⟨by rw [← ht]; exact hB, hS⟩
/-- returns -/
def zok (ty : FieldType) (v : Int32) : Prop := narrow ty (.int v) = .int v
abbrev MQi (below : List Frame) (G : GG) (args : Array Value) (s : State) (Q : Int32 → St → Prop) : State → Prop := MQ below (va_Qi Q (POST G) (AD G s.heap.size)) args s 0 0 (AD G s.heap.size)
abbrev MQv (below : List Frame) (G : GG) (args : Array Value) (s : State) (Q : St → Prop) : State → Prop := MQ below (va_Qv Q (POST G) (AD G s.heap.size)) args s 0 0 (AD G s.heap.size)
theorem q_iret (E : EV p s m args c cc nL Ts own G (AD G s.heap.size)) (h : HH G (AD G s.heap.size) s σ H locs) {Qp : Int32 → St → Prop} {v : Int32} (hr : meth.sig.returnType = some .int) (hlocks : meth.locks = false) (hq : Qp v σ) (hdg : decode cc pc = .ok (.ireturn, 1)) :
    W p l e R s m args below meth c H locs 0 0 (MQi below G args s Qp) (F0 m pc ls [.int v]) :=
  W.iret (v := v) E.1.1 E.1.2.1 hr (fun t ht _ => ⟨⟨v, σ, rfl, hq, by rw [POST, ht]; exact h.1⟩, h.2.F ht⟩) h.2.2.2 hdg
theorem q_zret (E : EV p s m args c cc nL Ts own G (AD G s.heap.size)) (h : HH G (AD G s.heap.size) s σ H locs) {Qp : Int32 → St → Prop} {v : Int32} {ty : FieldType} (hr : meth.sig.returnType = some ty) (hlocks : meth.locks = false) (hz : zok ty v) (hq : Qp v σ) (hdg : decode cc pc = .ok (.ireturn, 1)) :
    W p l e R s m args below meth c H locs 0 0 (MQi below G args s Qp) (F0 m pc ls [.int v]) :=
  W.zret (v := v) (ty := ty) E.1.1 E.1.2.1 hr hz (fun t ht _ => ⟨⟨v, σ, rfl, hq, by rw [POST, ht]; exact h.1⟩, h.2.F ht⟩) h.2.2.2 hdg
theorem q_vret (E : EV p s m args c cc nL Ts own G (AD G s.heap.size)) (h : HH G (AD G s.heap.size) s σ H locs) {Qp : St → Prop} (hr : meth.sig.returnType = none) (hlocks : meth.locks = false) (hq : Qp σ) (hdg : decode cc pc = .ok (.return_, 1)) :
    W p l e R s m args below meth c H locs 0 0 (MQv below G args s Qp) (F0 m pc ls []) :=
  W.vret E.1.1 E.1.2.1 hr (fun t ht _ => ⟨⟨σ, rfl, hq, by rw [POST, ht]; exact h.1⟩, h.2.F ht⟩) h.2.2.2 hdg
end QQ
