/-! MY FRAME: a method's frame over a world of cells as one judgement nz_V; its rows; contracts nz_M; calls. Written by wip/whole/gen/frame.py. -/
abbrev nz_G : Type := va_G × (ClassId × ClassId × ClassId × ClassId) × (Nat → Nat) × (Nat → Nat) × Nat
abbrev nz_D (g : nz_G) : va_G := g.1
abbrev nz_cI (g : nz_G) : ClassId := g.2.1.1
abbrev nz_cZ (g : nz_G) : ClassId := g.2.1.2.1
abbrev nz_cR (g : nz_G) : ClassId := g.2.1.2.2.1
abbrev nz_cA (g : nz_G) : ClassId := g.2.1.2.2.2
abbrev nz_aK (g : nz_G) : Nat → Nat := g.2.2.1
abbrev nz_aV (g : nz_G) : Nat → Nat := g.2.2.2.1
abbrev nz_aT (g : nz_G) : Nat := g.2.2.2.2
def nz_T (g : nz_G) : List (ClassId × FieldType) := [(nz_cI g, .int), (nz_cZ g, .boolean), (nz_cR g, .object "NightStones$Road"), (nz_cA g, .array .int)]
def nz_nest : List Cond := [.methodLinkNest RX7 9 yX6_init RX7, .methodLinkNest RX7 18 yX4_init RX7, .methodLinkNest RX4 17 yX5_init RX7, .fieldLinkNest RX4 51 "NightStones$Road" "isThere" "Z" RX7, .fieldLinkNest RX7 137 "NightStones$Road" "isThere" "Z" RX7, .fieldLinkNest RX3 32 "NightStones$Road" "length" "I" RX7, .fieldLinkNest RX4 86 "NightStones$Road" "length" "I" RX7, .fieldLinkNest RX4 89 "NightStones$Road" "fee" "I" RX7, .fieldLinkNest RX7 183 "NightStones$Road" "fee" "I" RX7, .fieldLinkNest RX4 92 "NightStones$Road" "seen" "I" RX7, .fieldLinkNest RX2 69 "NightStones$Road" "seen" "I" RX7, .fieldLinkNest RX4 95 "NightStones$Road" "fine" "I" RX7, .fieldLinkNest RX2 72 "NightStones$Road" "fine" "I" RX7, .fieldLinkNest RX2 29 "NightStones$Road" "nights" "I" RX7, .fieldLinkNest RX0 31 "NightStones$Road" "nights" "I" RX7, .fieldLinkNest RX4 55 "NightStones$Road" "nights" "I" RX7, .fieldLinkNest RX7 142 "NightStones$Road" "nights" "I" RX7, .fieldLinkNest RX3 24 "NightStones$Road" "stones" "I" RX7, .fieldLinkNest RX2 42 "NightStones$Road" "stones" "I" RX7, .fieldLinkNest RX0 33 "NightStones$Road" "stones" "I" RX7, .fieldLinkNest RX7 134 "NightStones$Road" "stones" "I" RX7, .fieldLinkNest RX4 101 "NightStones$Road" "stones" "I" RX7, .fieldLinkNest RX2 58 "NightStones$Road" "movers" "I" RX7, .fieldLinkNest RX4 113 "NightStones$Road" "movers" "I" RX7, .fieldLinkNest RX7 276 "NightStones$Road" "movers" "I" RX7, .fieldLinkNest RX3 35 "NightStones$Road" "heard" "I" RX7, .fieldLinkNest RX4 58 "NightStones$Road" "heard" "I" RX7, .fieldLinkNest RX7 201 "NightStones$Road" "heard" "I" RX7, .fieldLinkNest RX2 45 "NightStones$Road" "says" "[I" RX7, .fieldLinkNest RX4 110 "NightStones$Road" "says" "[I" RX7, .fieldLinkNest RX7 180 "NightStones$Road" "says" "[I" RX7, .fieldLinkNest RX2 20 "NightStones$Road" "at" "[I" RX7, .fieldLinkNest RX0 28 "NightStones$Road" "at" "[I" RX7, .fieldLinkNest RX4 61 "NightStones$Road" "at" "[I" RX7, .fieldLinkNest RX7 148 "NightStones$Road" "at" "[I" RX7, .fieldLinkNest RX1 62 "NightStones$Road" "at" "[I" RX7, .fieldLinkNest RX4 64 "NightStones$Road" "home" "[I" RX7, .fieldLinkNest RX2 65 "NightStones$Road" "home" "[I" RX7, .fieldLinkNest RX7 163 "NightStones$Road" "home" "[I" RX7, .fieldLinkNest RX1 27 "NightStones$Road" "kinds" "[I" RX7, .fieldLinkNest RX4 118 "NightStones$Road" "kinds" "[I" RX7, .fieldLinkNest RX7 257 "NightStones$Road" "kinds" "[I" RX7, .fieldLinkNest RX4 125 "NightStones$Road" "pushed" "[I" RX7, .fieldLinkNest RX1 65 "NightStones$Road" "pushed" "[I" RX7, .fieldLinkNest RX4 128 "NightStones$Road" "ways" "[I" RX7, .fieldLinkNest RX1 56 "NightStones$Road" "reach" "[I" RX7, .fieldLinkNest RX4 131 "NightStones$Road" "reach" "[I" RX7, .fieldLinkNest RX3 38 "NightStones$Road" "heardOf" "[I" RX7, .fieldLinkNest RX7 279 "NightStones$Reader" "bytes" "I" RX7, .methodLinkNest RX7 25 yX5_init RX7, .methodLinkNest RX7 36 yX0_init RX7, .fieldLinkNest RX7 174 "NightStones$Acts" "kept" "I" RX7, .methodLinkNest RX7 43 yX3_init RX7, .methodLinkNest RX7 50 yX2_init RX7, .methodLinkNest RX7 57 yX1_init RX7, .methodLinkNest RX7 62 yX6_isRow RX7, .methodLinkNest RX7 75 yX6_make RX7, .methodLinkNest RX7 82 yX6_findingAt RX7, .methodLinkNest RX7 86 yX6_put RX7, .methodLinkNest RX7 89 yX6_findingBetween RX7, .methodLinkNest RX7 93 yX6_carryOver RX7, .methodLinkNest RX7 97 yX6_isMissing RX7, .methodLinkNest RX7 100 yX6_remove RX7, .methodLinkNest RX7 103 yX4_hasRoomFor RX7, .methodLinkNest RX7 107 yX4_append RX7, .methodLinkNest RX7 111 yX4_read RX7, .methodLinkNest RX7 120 yX4_place RX7, .methodLinkNest RX7 123 yX4_roadRead RX7, .methodLinkNest RX7 127 yX5_become RX7, .methodLinkNest RX7 131 yX0_clear RX7, .methodLinkNest RX7 145 yX0_keep RX7, .methodLinkNest RX7 152 yX5_pass RX7, .methodLinkNest RX7 156 yX0_displacedByLatest RX7, .methodLinkNest RX7 160 yX5_isStone RX7, .methodLinkNest RX7 171 yX5_isWayHomeFree RX7, .methodLinkNest RX7 177 yX0_takeBack RX7, .methodLinkNest RX7 186 yX5_isTime RX7, .methodLinkNest RX5 79 yX7_isAmong RX7, .methodLinkNest RX7 190 yX5_hasRoomForTimes RX7, .methodLinkNest RX7 193 yX5_hear RX7, .methodLinkNest RX7 197 yX6_item RX7, .methodLinkNest RX7 204 yX5_isPair RX7, .methodLinkNest RX7 208 yX3_fit RX7, .methodLinkNest RX7 213 yX3_least RX7, .methodLinkNest RX7 216 yX3_most RX7, .methodLinkNest RX7 219 yX3_widestPair RX7, .methodLinkNest RX7 222 yX2_nightsToRest RX7, .methodLinkNest RX2 33 yX5_pass RX7, .methodLinkNest RX2 37 yX5_standAlike RX7, .methodLinkNest RX7 225 yX2_leastSetMoved RX7, .methodLinkNest RX7 233 yX2_setsThatFit RX7, .methodLinkNest RX7 237 yX2_leastSetThatFits RX7, .methodLinkNest RX7 240 yX2_meanInMillionths RX7, .methodLinkNest RX7 245 yX2_sharedDivisor RX7, .methodLinkNest RX7 248 yX2_bestDare RX7, .methodLinkNest RX7 251 yX2_fairFee RX7, .methodLinkNest RX7 254 yX5_isMover RX7, .methodLinkNest RX7 260 yX1_isOne RX7, .methodLinkNest RX1 18 yX7_isAmong RX7, .methodLinkNest RX7 263 yX1_clear RX7, .methodLinkNest RX7 264 yX1_sizeOf RX7, .methodLinkNest RX7 267 yX1_markOf RX7, .methodLinkNest RX7 270 yX1_begun RX7, .methodLinkNest RX7 273 yX6_present RX7]
def nz_isN (w : Cond) : Bool := match w with
  | .fieldLinkNest _ _ _ _ _ _ => true
  | .methodLinkNest _ _ _ _ => true
  | _ => false
theorem nz_nest_is : nz_nest.all nz_isN = true := by decide +kernel
def nz_len : List Nat := [3, 5, 5, 3, 6, 6, 5, 6]
def nz_byt : List (List Int32) := [[108, 97, 119], [115, 116, 111, 110, 101], [109, 111, 118, 101, 114], [105, 110, 110], [99, 97, 114, 116, 101, 114], [112, 97, 114, 105, 115, 104], [116, 104, 105, 101, 102], [112, 114, 105, 101, 115, 116]]
def nz_txt : List (Nat × String) := [(76, "law"), (104, "stone"), (116, "mover"), (137, "inn"), (139, "carter"), (141, "parish"), (143, "thief"), (145, "priest")]
def nz_are : List Int32 := [1, 3, 7, 11, 17, 49]
/-- what nobody writes: the texts, ARE, two statics of the JDK -/
def nz_S (g : nz_G) (A : Nat → Prop) (U : State) (H : Heap) : Prop :=
  vk_S 8 nz_len nz_byt (nz_aK g) (nz_aV g) A U H ∧ va_Z RX1 "ARE" "[I" (.ref (nz_aT g)) A U H ∧ va_T .int (nz_aT g) 6 (fun j => .int (nz_are.getD j 0)) A U H ∧ va_Z "java/lang/String" "COMPACT_STRINGS" "Z" (.int 1) A U H ∧ va_Zq "jdk/internal/util/Preconditions" "SIOOBE_FORMATTER" "Ljava/util/function/BiFunction;" A U H
def nz_N (g : nz_G) (U : State) : Prop := (∀ w ∈ nz_nest, va_Nw w U) ∧ ∀ (i : Nat) (q : Nat × String), nz_txt[i]? = some q → vk_R RX4 q.1 q.2 (nz_aK g i) U
def nz_E (g : nz_G) (A : Nat → Prop) (U : State) : Prop := nz_N g U ∧ nz_S g A U U.heap
theorem nz_N.warm {g : nz_G} {s U : State} (hW : s.WarmedH U.vm) (h : nz_N g s) : nz_N g U := by
  refine ⟨fun w hw => ?_, fun i q hq => vk_R.warm hW (h.2 i q hq)⟩
  have h1 := h.1 w hw
  have h2 := List.all_eq_true.mp nz_nest_is w hw
  match w, h1, h2 with
  | .fieldLinkNest a i b n d hh, h1, _ => exact va_Nw.warmF hW h1
  | .methodLinkNest a i x hh, h1, _ => exact va_Nw.warmM hW h1
theorem nz_N.same {g : nz_G} {s U : State} (hv : s.vm = U.vm) (h : nz_N g s) : nz_N g U := by
  refine ⟨fun w hw => ?_, fun i q hq => vk_R.same hv.symm (h.2 i q hq)⟩
  have h1 := h.1 w hw
  have h2 := List.all_eq_true.mp nz_nest_is w hw
  match w, h1, h2 with
  | .fieldLinkNest a i b n d hh, h1, _ => exact va_Nw.same rfl hv h1
  | .methodLinkNest a i x hh, h1, _ => exact va_Nw.same rfl hv h1
theorem nz_S.moved {g : nz_G} {A : Nat → Prop} {u U : State} {H : Heap} (hvm : u.vm.Alike U.vm) (h : nz_S g A u H) : nz_S g A U H := ⟨h.1.moved hvm, h.2.1.moved hvm, h.2.2.1.moved hvm, h.2.2.2.1.moved hvm, h.2.2.2.2.moved hvm⟩
theorem nz_S.kept {g : nz_G} {A : Nat → Prop} {U : State} {H H1 : Heap} (h : nz_S g A U H) (hq : ∀ a : Nat, a < H.size → ¬ A a → H1[a]? = H[a]?) : nz_S g A U H1 := ⟨h.1.kept hq, h.2.1.kept hq, h.2.2.1.kept hq, h.2.2.2.1.kept hq, h.2.2.2.2.kept hq⟩
theorem nz_S.narrow {g : nz_G} {A B : Nat → Prop} {U : State} {H : Heap} (h : nz_S g A U H) (hAB : ∀ q, B q → A q) : nz_S g B U H := ⟨h.1.narrow hAB, h.2.1.narrow hAB, h.2.2.1.narrow hAB, h.2.2.2.1.narrow hAB, h.2.2.2.2.narrow hAB⟩
theorem nz_E.call {g : nz_G} {A A1 : Nat → Prop} {s U : State} {H : Heap} {locs : List Loc} (h : nz_E g A s) (hW : s.WarmedH U.vm) (hU : U.heap = H) (hS : va_S A s.heap H locs) (hA : ∀ q, A1 q → A q) : nz_E g A1 U :=
  ⟨h.1.warm hW, by rw [hU]; exact ((h.2.kept hS.2.1).moved hW.alike).narrow hA⟩
theorem nz_E.blind {g : nz_G} {A : Nat → Prop} {U : State} {f : JFrame} {mk : MethodId} {a : Array Value} (h : nz_E g A U) : nz_E g A (U.calling f mk a) :=
  ⟨nz_N.same (s := U) (U := U.calling f mk a) rfl h.1, h.2.moved (U := U.calling f mk a) (Vm.Alike.refl U.vm)⟩
/-- the frame: program, launch, env, room, start, method, arguments, below, method, code, goal, own cells, locals -/
abbrev nz_Y : Type := Program × Launch × Env × Room × State × MethodId × Array Value × List Frame × Method × Code × (State → Prop) × (Nat → Prop) × Nat
abbrev yz_p (y : nz_Y) : Program := y.1
abbrev yz_l (y : nz_Y) : Launch := y.2.1
abbrev yz_e (y : nz_Y) : Env := y.2.2.1
abbrev yz_R (y : nz_Y) : Room := y.2.2.2.1
abbrev yz_s (y : nz_Y) : State := y.2.2.2.2.1
abbrev yz_m (y : nz_Y) : MethodId := y.2.2.2.2.2.1
abbrev yz_a (y : nz_Y) : Array Value := y.2.2.2.2.2.2.1
abbrev yz_b (y : nz_Y) : List Frame := y.2.2.2.2.2.2.2.1
abbrev yz_M (y : nz_Y) : Method := y.2.2.2.2.2.2.2.2.1
abbrev yz_c (y : nz_Y) : Code := y.2.2.2.2.2.2.2.2.2.1
abbrev yz_Q (y : nz_Y) : State → Prop := y.2.2.2.2.2.2.2.2.2.2.1
abbrev yz_A (y : nz_Y) : Nat → Prop := y.2.2.2.2.2.2.2.2.2.2.2.1
abbrev yz_n (y : nz_Y) : Nat := y.2.2.2.2.2.2.2.2.2.2.2.2
def nz_V (y : nz_Y) (g : nz_G) (k n : Nat) (ws : va_W) (pc : Nat) (ls : List (Nat × Value)) (st : List Value) : Prop :=
  ∀ (H : Heap) (locs : List Loc) (la : Array Slot), va_P (nz_D g) vwCl ws H → va_D (yz_A y) ws → va_S (yz_A y) (yz_s y).heap H locs → lv_has la (yz_n y) ls → W (yz_p y) (yz_l y) (yz_e y) (yz_R y) (yz_s y) (yz_m y) (yz_a y) (yz_b y) (yz_M y) (yz_c y) H locs k n (yz_Q y) (F0 (yz_m y) pc la st)
def nz_F (y : nz_Y) (g : nz_G) (cc : ByteArray) (nL : Nat) (Ts : List Cond) (own : String) (ret : Option FieldType) (rm : Room) : Prop :=
  (yz_p y).tables.exec = Jvm.exec ∧ (yz_c y).code = cc ∧ (yz_c y).maxLocals = yz_n y ∧ yz_n y = nL ∧ (yz_s y).vm.findClass own = some (yz_m y).cls ∧ (∀ w ∈ Ts, w.before (yz_a y) (yz_s y) = true) ∧ (yz_M y).sig.returnType = ret ∧ (yz_M y).locks = false ∧ (∀ q : Nat, (yz_s y).heap.size ≤ q → yz_A y q) ∧ va_K (nz_D g) vwCl (nz_T g) (yz_s y) ∧ nz_E g (yz_A y) (yz_s y) ∧ yz_R y = rm
/-- a method's start, its end -/
def nz_P (g : nz_G) (ws : va_W) (sz : Nat) (U : State) : Prop := U.heap.size = sz ∧ va_P (nz_D g) vwCl ws U.heap ∧ va_K (nz_D g) vwCl (nz_T g) U ∧ va_D (fun _ => True) ws ∧ nz_E g (va_A ws sz) U
def nz_B {S : Type} (g : nz_G) (A : Nat → Prop) (w1 : S → va_W) (u : S) (t : State) : Prop := va_P (nz_D g) vwCl (w1 u) t.heap ∧ va_K (nz_D g) vwCl (nz_T g) t ∧ va_D A (w1 u)
def nz_M (l : Launch) (yy : MethodName) (Ts : List Cond) (rm : Room) (g : nz_G) (av : List Value) (wc : va_W) (Qc : Nat → Array Value → State → Outcome → State → Prop) : Prop := ∀ sz : Nat, Met l yy Ts rm (va_Pc av (nz_P g wc sz)) (Qc sz) 0 0 (va_A wc sz)
abbrev nz_Qi (g : nz_G) (wc : va_W) {S : Type} (post : Int32 → S → Prop) (w1 : S → va_W) : Nat → Array Value → State → Outcome → State → Prop := fun sz => va_Qi post (nz_B g (va_A wc sz) w1) (va_A wc sz)
abbrev nz_Ql (g : nz_G) (wc : va_W) {S : Type} (post : Int64 → S → Prop) (w1 : S → va_W) : Nat → Array Value → State → Outcome → State → Prop := fun sz => va_Ql post (nz_B g (va_A wc sz) w1) (va_A wc sz)
abbrev nz_Qv (g : nz_G) (wc : va_W) {S : Type} (post : S → Prop) (w1 : S → va_W) : Nat → Array Value → State → Outcome → State → Prop := fun sz => va_Qv post (nz_B g (va_A wc sz) w1) (va_A wc sz)
theorem nz_M.of {l : Launch} {yy : MethodName} {Ts ws' : List Cond} {rm : Room} {g : nz_G} {av : List Value} {wc : va_W} {Qc : Nat → Array Value → State → Outcome → State → Prop} {bytes : ByteArray} {nL : Nat} {ret : Option FieldType} {own : String}
    (hy : plainName yy.cls = true) (hcls : yy.cls = own) (hw : Ts = Cond.code yy bytes nL ret :: ws') (hc : rm.cells = 0 ∧ rm.slots = 0) (hl : Nat.ble (lg_sl av).length nL = true)
    (body : ∀ y : nz_Y, nz_F y g bytes nL Ts own ret rm → yz_l y = l → (∃ sz : Nat, yz_A y = va_A wc sz ∧ yz_Q y = MQ (yz_b y) (Qc sz) (yz_a y) (yz_s y) 0 0 (va_A wc sz)) → nz_V y g 0 0 wc 0 (lv_args 0 av) []) : nz_M l yy Ts rm g av wc Qc := by
  intro sz
  refine Met.ofW (cc := bytes) (maxL := nL) (ret := ret) hy hw ?_
  intro p e s m args below meth c s₁ B hml hv
  obtain ⟨rfl, hsz, hP, hK, hD0, hE⟩ := hv
  subst hsz
  have hD := hD0.self (sz := s.heap.size)
  have hl' := lv_entry av (n := nL) (Nat.le_of_ble_eq_true hl)
  rw [lg_entry_eq]
  have hown : s.vm.findClass own = some m.cls := by rw [← hcls]; exact findClass_of_methodNamed B.named
  exact body (p, l, e, (headSpec Ts rm).room, s, m, av.toArray, below, meth, c, MQ below (Qc s.heap.size) av.toArray s 0 0 (va_A wc s.heap.size), va_A wc s.heap.size, nL)
    ⟨B.exec, B.bytes, hml, rfl, hown, atoms_spec (ws := Ts) B.pre, B.returns, B.notSynchronized, fun q h => Or.inr h, hK, hE, rfl⟩ rfl ⟨s.heap.size, rfl, rfl⟩ s.heap [] _ hP hD va_S.rf hl'
theorem nz_fm {α β : Type} (f : α → Option β) : ∀ (l : List α) (m : List β), l.map f = m.map some → l.filterMap f = m
  | [], [], _ => rfl
  | [], b :: m, h => by simp at h
  | a :: l, [], h => by simp at h
  | a :: l, b :: m, h => by
    simp only [List.map_cons, List.cons.injEq] at h
    rw [List.filterMap_cons, h.1]
    simp only [nz_fm f l m h.2]
/-- the callee's cells put in the caller's world -/
def nz_mrg : va_W → List Nat → va_W → va_W
  | ws, [], _ => ws
  | ws, _ :: _, [] => ws
  | ws, i :: is, q :: qs => nz_mrg (ws.set i q) is qs
theorem nz_mrg_at : ∀ (is : List Nat) (ws w1 : va_W) (k : Nat) (q : Nat × va_E), is.length = w1.length → (nz_mrg ws is w1)[k]? = some q → (∃ j : Nat, is[j]? = some k ∧ w1[j]? = some q) ∨ (k ∉ is ∧ ws[k]? = some q)
  | [], ws, w1, k, q, _, h => Or.inr ⟨List.not_mem_nil, by rw [nz_mrg] at h; exact h⟩
  | i :: is, ws, [], k, q, hl, h => by simp at hl
  | i :: is, ws, q0 :: qs, k, q, hl, h => by
    rcases nz_mrg_at is (ws.set i q0) qs k q (by simpa using hl) h with ⟨j, h1, h2⟩ | ⟨h1, h2⟩
    · exact Or.inl ⟨j + 1, h1, h2⟩
    · by_cases hk : k = i
      · subst hk
        have hlt : k < ws.length := by
          have := (List.getElem?_eq_some_iff.mp h2).1
          simpa using this
        rw [List.getElem?_set_self hlt] at h2
        exact Or.inl ⟨0, rfl, h2⟩
      · rw [List.getElem?_set_ne (Ne.symm hk)] at h2
        exact Or.inr ⟨by simp only [List.mem_cons, not_or]; exact ⟨hk, h1⟩, h2⟩
theorem nz_merge {A0 : Nat → Prop} {D : va_G} {cl : List vw_C} {ws wc w1 : va_W} {H H1 : Heap} (hP : va_P D cl ws H) (hD : va_D A0 ws) (isC : List Nat) (hC : isC.map (fun i => ws[i]?) = wc.map some) (ha : w1.map Prod.fst = wc.map Prod.fst)
    (hk : ∀ q : Nat, q < H.size → ¬ va_A wc H.size q → H1[q]? = H[q]?) (hP1 : va_P D cl w1 H1) : va_P D cl (nz_mrg ws isC w1) H1 ∧ va_D A0 (nz_mrg ws isC w1) := by
  have hlen : isC.length = w1.length := by
    have h1 := congrArg List.length hC
    have h2 := congrArg List.length ha
    simp only [List.length_map] at h1 h2
    omega
  have at' : ∀ (k : Nat) (q : Nat × va_E), wc[k]? = some q → ∃ i, isC[k]? = some i ∧ ws[i]? = some q := by
    intro k q hq
    have h1 : (isC.map (fun i => ws[i]?))[k]? = some (some q) := by rw [hC, List.getElem?_map, hq]; rfl
    rw [List.getElem?_map] at h1
    cases hi : isC[k]? with
    | none => rw [hi] at h1; cases h1
    | some i => rw [hi] at h1; exact ⟨i, rfl, Option.some.inj h1⟩
  have adr : ∀ (k : Nat) (q : Nat × va_E), (nz_mrg ws isC w1)[k]? = some q → ∃ q0, ws[k]? = some q0 ∧ q0.1 = q.1 := by
    intro k q hq
    rcases nz_mrg_at isC ws w1 k q hlen hq with ⟨j, h1, h2⟩ | ⟨-, h2⟩
    · have h3 : (w1.map Prod.fst)[j]? = some q.1 := by rw [List.getElem?_map, h2]; rfl
      rw [ha, List.getElem?_map] at h3
      cases hj : wc[j]? with
      | none => rw [hj] at h3; cases h3
      | some q0 =>
        rw [hj] at h3
        obtain ⟨i, h4, h5⟩ := at' j q0 hj
        rw [h1] at h4
        cases h4
        exact ⟨q0, h5, Option.some.inj h3⟩
    · exact ⟨q, h2, rfl⟩
  refine ⟨fun k q hq => ?_, fun i j x z hi hj hxz => ?_, fun k q hq => ?_⟩
  · rcases nz_mrg_at isC ws w1 k q hlen hq with ⟨j, h1, h2⟩ | ⟨h1, h2⟩
    · exact hP1 j q h2
    · have hl := (hP k q h2).lt
      refine (hP k q h2).kept (hk q.1 hl (fun h => ?_))
      rcases h with ⟨k2, e, h⟩ | h
      · obtain ⟨i, h3, h4⟩ := at' k2 (q.1, e) h
        have hij := hD.1 k i q (q.1, e) h2 h4 rfl
        subst hij
        exact h1 (List.mem_of_getElem? h3)
      · omega
  · obtain ⟨x0, h1, h2⟩ := adr i x hi
    obtain ⟨z0, h3, h4⟩ := adr j z hj
    exact hD.1 i j x0 z0 h1 h3 (h2.trans (hxz.trans h4.symm))
  · obtain ⟨q0, h1, h2⟩ := adr k q hq
    rw [← h2]
    exact hD.2 k q0 h1
section NZV
variable {y : nz_Y} {g : nz_G} {k n : Nat} {ws ws' : va_W} {pc : Nat} {ls lv' : List (Nat × Value)} {st rest : List Value} {cc : ByteArray} {nL : Nat} {Ts : List Cond} {own : String} {ret : Option FieldType} {rm : Room}
theorem nz_ws (ws' : va_W) (hw : ws = ws') (h : nz_V y g k n ws' pc ls st) : nz_V y g k n ws pc ls st := hw ▸ h
theorem nz_ls (js : List Nat) (hl : lv_pick ls js = lv') (h : nz_V y g k n ws pc lv' st) : nz_V y g k n ws pc ls st := fun H locs la hP hD hS hL => h H locs la hP hD hS (lv_sub hL js hl)
theorem nz_ent {av : List Value} (hl : lv_args 0 av = lv') (h : nz_V y g k n ws pc lv' st) : nz_V y g k n ws pc (lv_args 0 av) st := hl ▸ h
theorem nz_topi {x : Int32} (h : ∀ z : Int32, z = x → nz_V y g k n ws pc ls (.int z :: st)) : nz_V y g k n ws pc ls (.int x :: st) := h x rfl
theorem nz_vi {x z : Int32} (e : x = z) (h : nz_V y g k n ws pc ls (.int z :: st)) : nz_V y g k n ws pc ls (.int x :: st) := e ▸ h
theorem nz_iconst (F : nz_F y g cc nL Ts own ret rm) {z : Int} {v : Int32} (d : decode cc pc = .ok (.iconst z, 1)) (hv : Int32.ofInt z = v) (h : nz_V y g k n ws (pc + 1) ls (.int v :: st)) : nz_V y g k n ws pc ls (st) := fun H locs la hP hD hS hL => lv_iconst F.1 F.2.1 d hv (h H locs la hP hD hS hL)
theorem nz_bipush (F : nz_F y g cc nL Ts own ret rm) {z : Int} {v : Int32} (d : decode cc pc = .ok (.bipush z, 2)) (hv : (Int8.ofInt z).toInt32 = v) (h : nz_V y g k n ws (pc + 2) ls (.int v :: st)) : nz_V y g k n ws pc ls (st) := fun H locs la hP hD hS hL => lv_bipush F.1 F.2.1 d hv (h H locs la hP hD hS hL)
theorem nz_sipush (F : nz_F y g cc nL Ts own ret rm) {z : Int} {v : Int32} (d : decode cc pc = .ok (.sipush z, 3)) (hv : (Int16.ofInt z).toInt32 = v) (h : nz_V y g k n ws (pc + 3) ls (.int v :: st)) : nz_V y g k n ws pc ls (st) := fun H locs la hP hD hS hL => lv_sipush F.1 F.2.1 d hv (h H locs la hP hD hS hL)
theorem nz_lconst (F : nz_F y g cc nL Ts own ret rm) {z : Fin 2} {v : Int64} (d : decode cc pc = .ok (.lconst z, 1)) (hv : Int64.ofNat (z : Nat) = v) (h : nz_V y g k n ws (pc + 1) ls (.long v :: st)) : nz_V y g k n ws pc ls (st) := fun H locs la hP hD hS hL => lv_lconst F.1 F.2.1 d hv (h H locs la hP hD hS hL)
theorem nz_iload_n (F : nz_F y g cc nL Ts own ret rm) {kk : Fin 4} {i : Nat} {x : Int32} (d : decode cc pc = .ok (.iload_n kk, 1)) (hi : (kk : Nat) = i) (j : Nat) (hl : ls[j]? = some (i, .int x)) (h : nz_V y g k n ws (pc + 1) ls (.int x :: st)) : nz_V y g k n ws pc ls st := fun H locs la hP hD hS hL => lv_iload_n F.1 F.2.1 d hi (lv_at hL j hl) (h H locs la hP hD hS hL)
theorem nz_iload (F : nz_F y g cc nL Ts own ret rm) {i : Nat} {x : Int32} (d : decode cc pc = .ok (.iload i, 2)) (j : Nat) (hl : ls[j]? = some (i, .int x)) (h : nz_V y g k n ws (pc + 2) ls (.int x :: st)) : nz_V y g k n ws pc ls st := fun H locs la hP hD hS hL => lv_iload F.1 F.2.1 d (lv_at hL j hl) (h H locs la hP hD hS hL)
theorem nz_istore_n (F : nz_F y g cc nL Ts own ret rm) {kk : Fin 4} {i : Nat} {x : Int32} (d : decode cc pc = .ok (.istore_n kk, 1)) (hi : (kk : Nat) = i) (hn : i < nL) (hl : (i, Value.int x) :: ls.filter (fun q => !(q.1 == i) && !(q.1 + 1 == i && q.2.category == 2)) = lv') (h : nz_V y g k n ws (pc + 1) lv' st) : nz_V y g k n ws pc ls (.int x :: st) := fun H locs la hP hD hS hL => lv_istore_n F.1 F.2.1 d hi hL (F.2.2.2.1 ▸ hn) hl (fun la hL => h H locs la hP hD hS hL)
theorem nz_istore (F : nz_F y g cc nL Ts own ret rm) {i : Nat} {x : Int32} (d : decode cc pc = .ok (.istore i, 2)) (hn : i < nL) (hl : (i, Value.int x) :: ls.filter (fun q => !(q.1 == i) && !(q.1 + 1 == i && q.2.category == 2)) = lv') (h : nz_V y g k n ws (pc + 2) lv' st) : nz_V y g k n ws pc ls (.int x :: st) := fun H locs la hP hD hS hL => lv_istore F.1 F.2.1 d hL (F.2.2.2.1 ▸ hn) hl (fun la hL => h H locs la hP hD hS hL)
theorem nz_lload_n (F : nz_F y g cc nL Ts own ret rm) {kk : Fin 4} {i : Nat} {x : Int64} (d : decode cc pc = .ok (.lload_n kk, 1)) (hi : (kk : Nat) = i) (j : Nat) (hl : ls[j]? = some (i, .long x)) (h : nz_V y g k n ws (pc + 1) ls (.long x :: st)) : nz_V y g k n ws pc ls st := fun H locs la hP hD hS hL => lv_lload_n F.1 F.2.1 d hi (lv_at hL j hl) (h H locs la hP hD hS hL)
theorem nz_lload (F : nz_F y g cc nL Ts own ret rm) {i : Nat} {x : Int64} (d : decode cc pc = .ok (.lload i, 2)) (j : Nat) (hl : ls[j]? = some (i, .long x)) (h : nz_V y g k n ws (pc + 2) ls (.long x :: st)) : nz_V y g k n ws pc ls st := fun H locs la hP hD hS hL => lv_lload F.1 F.2.1 d (lv_at hL j hl) (h H locs la hP hD hS hL)
theorem nz_lstore_n (F : nz_F y g cc nL Ts own ret rm) {kk : Fin 4} {i : Nat} {x : Int64} (d : decode cc pc = .ok (.lstore_n kk, 1)) (hi : (kk : Nat) = i) (hn : i + 1 < nL) (hl : (i, Value.long x) :: ls.filter (fun q => !(q.1 == i) && (!(q.1 == i + 1) && !(q.1 + 1 == i && q.2.category == 2))) = lv') (h : nz_V y g k n ws (pc + 1) lv' st) : nz_V y g k n ws pc ls (.long x :: st) := fun H locs la hP hD hS hL => lv_lstore_n F.1 F.2.1 d hi hL (F.2.2.2.1 ▸ hn) hl (fun la hL => h H locs la hP hD hS hL)
theorem nz_lstore (F : nz_F y g cc nL Ts own ret rm) {i : Nat} {x : Int64} (d : decode cc pc = .ok (.lstore i, 2)) (hn : i + 1 < nL) (hl : (i, Value.long x) :: ls.filter (fun q => !(q.1 == i) && (!(q.1 == i + 1) && !(q.1 + 1 == i && q.2.category == 2))) = lv') (h : nz_V y g k n ws (pc + 2) lv' st) : nz_V y g k n ws pc ls (.long x :: st) := fun H locs la hP hD hS hL => lv_lstore F.1 F.2.1 d hL (F.2.2.2.1 ▸ hn) hl (fun la hL => h H locs la hP hD hS hL)
theorem nz_aload_n (F : nz_F y g cc nL Ts own ret rm) {kk : Fin 4} {i : Nat} {x : Nat} (d : decode cc pc = .ok (.aload_n kk, 1)) (hi : (kk : Nat) = i) (j : Nat) (hl : ls[j]? = some (i, .ref x)) (h : nz_V y g k n ws (pc + 1) ls (.ref x :: st)) : nz_V y g k n ws pc ls st := fun H locs la hP hD hS hL => lv_aload_n F.1 F.2.1 d hi (lv_at hL j hl) (h H locs la hP hD hS hL)
theorem nz_aload (F : nz_F y g cc nL Ts own ret rm) {i : Nat} {x : Nat} (d : decode cc pc = .ok (.aload i, 2)) (j : Nat) (hl : ls[j]? = some (i, .ref x)) (h : nz_V y g k n ws (pc + 2) ls (.ref x :: st)) : nz_V y g k n ws pc ls st := fun H locs la hP hD hS hL => lv_aload F.1 F.2.1 d (lv_at hL j hl) (h H locs la hP hD hS hL)
theorem nz_astore_n (F : nz_F y g cc nL Ts own ret rm) {kk : Fin 4} {i : Nat} {x : Nat} (d : decode cc pc = .ok (.astore_n kk, 1)) (hi : (kk : Nat) = i) (hn : i < nL) (hl : (i, Value.ref x) :: ls.filter (fun q => !(q.1 == i) && !(q.1 + 1 == i && q.2.category == 2)) = lv') (h : nz_V y g k n ws (pc + 1) lv' st) : nz_V y g k n ws pc ls (.ref x :: st) := fun H locs la hP hD hS hL => lv_astore_n F.1 F.2.1 d hi hL (F.2.2.2.1 ▸ hn) hl (fun la hL => h H locs la hP hD hS hL)
theorem nz_astore (F : nz_F y g cc nL Ts own ret rm) {i : Nat} {x : Nat} (d : decode cc pc = .ok (.astore i, 2)) (hn : i < nL) (hl : (i, Value.ref x) :: ls.filter (fun q => !(q.1 == i) && !(q.1 + 1 == i && q.2.category == 2)) = lv') (h : nz_V y g k n ws (pc + 2) lv' st) : nz_V y g k n ws pc ls (.ref x :: st) := fun H locs la hP hD hS hL => lv_astore F.1 F.2.1 d hL (F.2.2.2.1 ▸ hn) hl (fun la hL => h H locs la hP hD hS hL)
theorem nz_iinc (F : nz_F y g cc nL Ts own ret rm) {i j : Nat} {z : Int} {x v : Int32} (d : decode cc pc = .ok (.iinc i z, 3)) (hj : ls[j]? = some (i, .int x)) (hv : x + Int32.ofInt z = v) (hn : i < nL) (hl : (i, Value.int v) :: ls.filter (fun q => !(q.1 == i) && !(q.1 + 1 == i && q.2.category == 2)) = lv') (h : nz_V y g k n ws (pc + 3) lv' st) : nz_V y g k n ws pc ls st := fun H locs la hP hD hS hL => lv_iinc F.1 F.2.1 d hL hj hv (F.2.2.2.1 ▸ hn) hl (fun la hL => h H locs la hP hD hS hL)
theorem nz_iadd (F : nz_F y g cc nL Ts own ret rm) {x z : Int32} (d : decode cc pc = .ok (.iadd, 1)) (h : nz_V y g k n ws (pc + 1) ls (.int (x + z) :: st)) : nz_V y g k n ws pc ls (.int z :: .int x :: st) := fun H locs la hP hD hS hL => lv_iadd F.1 F.2.1 d (h H locs la hP hD hS hL)
theorem nz_isub (F : nz_F y g cc nL Ts own ret rm) {x z : Int32} (d : decode cc pc = .ok (.isub, 1)) (h : nz_V y g k n ws (pc + 1) ls (.int (x - z) :: st)) : nz_V y g k n ws pc ls (.int z :: .int x :: st) := fun H locs la hP hD hS hL => lv_isub F.1 F.2.1 d (h H locs la hP hD hS hL)
theorem nz_imul (F : nz_F y g cc nL Ts own ret rm) {x z : Int32} (d : decode cc pc = .ok (.imul, 1)) (h : nz_V y g k n ws (pc + 1) ls (.int (x * z) :: st)) : nz_V y g k n ws pc ls (.int z :: .int x :: st) := fun H locs la hP hD hS hL => lv_imul F.1 F.2.1 d (h H locs la hP hD hS hL)
theorem nz_iand (F : nz_F y g cc nL Ts own ret rm) {x z : Int32} (d : decode cc pc = .ok (.iand, 1)) (h : nz_V y g k n ws (pc + 1) ls (.int (x &&& z) :: st)) : nz_V y g k n ws pc ls (.int z :: .int x :: st) := fun H locs la hP hD hS hL => lv_iand F.1 F.2.1 d (h H locs la hP hD hS hL)
theorem nz_ior (F : nz_F y g cc nL Ts own ret rm) {x z : Int32} (d : decode cc pc = .ok (.ior, 1)) (h : nz_V y g k n ws (pc + 1) ls (.int (x ||| z) :: st)) : nz_V y g k n ws pc ls (.int z :: .int x :: st) := fun H locs la hP hD hS hL => lv_ior F.1 F.2.1 d (h H locs la hP hD hS hL)
theorem nz_ixor (F : nz_F y g cc nL Ts own ret rm) {x z : Int32} (d : decode cc pc = .ok (.ixor, 1)) (h : nz_V y g k n ws (pc + 1) ls (.int (x ^^^ z) :: st)) : nz_V y g k n ws pc ls (.int z :: .int x :: st) := fun H locs la hP hD hS hL => lv_ixor F.1 F.2.1 d (h H locs la hP hD hS hL)
theorem nz_ishl (F : nz_F y g cc nL Ts own ret rm) {x z : Int32} (d : decode cc pc = .ok (.ishl, 1)) (h : nz_V y g k n ws (pc + 1) ls (.int (x <<< (z &&& 31)) :: st)) : nz_V y g k n ws pc ls (.int z :: .int x :: st) := fun H locs la hP hD hS hL => lv_ishl F.1 F.2.1 d (h H locs la hP hD hS hL)
theorem nz_ishr (F : nz_F y g cc nL Ts own ret rm) {x z : Int32} (d : decode cc pc = .ok (.ishr, 1)) (h : nz_V y g k n ws (pc + 1) ls (.int (x >>> (z &&& 31)) :: st)) : nz_V y g k n ws pc ls (.int z :: .int x :: st) := fun H locs la hP hD hS hL => lv_ishr F.1 F.2.1 d (h H locs la hP hD hS hL)
theorem nz_iushr (F : nz_F y g cc nL Ts own ret rm) {x z v : Int32} (d : decode cc pc = .ok (.iushr, 1)) (hv : (x.toUInt32 >>> (z.toUInt32 &&& Int32.toUInt32 31)).toInt32 = v) (h : nz_V y g k n ws (pc + 1) ls (.int v :: st)) : nz_V y g k n ws pc ls (.int z :: .int x :: st) := fun H locs la hP hD hS hL => lv_iushr F.1 F.2.1 d hv (h H locs la hP hD hS hL)
theorem nz_idiv (F : nz_F y g cc nL Ts own ret rm) {x z : Int32} (d : decode cc pc = .ok (.idiv, 1)) (hne : ¬ z = 0) (h : nz_V y g k n ws (pc + 1) ls (.int (x / z) :: st)) : nz_V y g k n ws pc ls (.int z :: .int x :: st) := fun H locs la hP hD hS hL => lv_idiv F.1 F.2.1 d hne (h H locs la hP hD hS hL)
theorem nz_irem (F : nz_F y g cc nL Ts own ret rm) {x z : Int32} (d : decode cc pc = .ok (.irem, 1)) (hne : ¬ z = 0) (h : nz_V y g k n ws (pc + 1) ls (.int (x - x / z * z) :: st)) : nz_V y g k n ws pc ls (.int z :: .int x :: st) := fun H locs la hP hD hS hL => lv_irem F.1 F.2.1 d hne (h H locs la hP hD hS hL)
theorem nz_ineg (F : nz_F y g cc nL Ts own ret rm) {x : Int32} (d : decode cc pc = .ok (.ineg, 1)) (h : nz_V y g k n ws (pc + 1) ls (.int (-x) :: st)) : nz_V y g k n ws pc ls (.int x :: st) := fun H locs la hP hD hS hL => lv_ineg F.1 F.2.1 d (h H locs la hP hD hS hL)
theorem nz_ladd (F : nz_F y g cc nL Ts own ret rm) {x z : Int64} (d : decode cc pc = .ok (.ladd, 1)) (h : nz_V y g k n ws (pc + 1) ls (.long (x + z) :: st)) : nz_V y g k n ws pc ls (.long z :: .long x :: st) := fun H locs la hP hD hS hL => lv_ladd F.1 F.2.1 d (h H locs la hP hD hS hL)
theorem nz_lsub (F : nz_F y g cc nL Ts own ret rm) {x z : Int64} (d : decode cc pc = .ok (.lsub, 1)) (h : nz_V y g k n ws (pc + 1) ls (.long (x - z) :: st)) : nz_V y g k n ws pc ls (.long z :: .long x :: st) := fun H locs la hP hD hS hL => lv_lsub F.1 F.2.1 d (h H locs la hP hD hS hL)
theorem nz_land (F : nz_F y g cc nL Ts own ret rm) {x z : Int64} (d : decode cc pc = .ok (.land, 1)) (h : nz_V y g k n ws (pc + 1) ls (.long (x &&& z) :: st)) : nz_V y g k n ws pc ls (.long z :: .long x :: st) := fun H locs la hP hD hS hL => lv_land F.1 F.2.1 d (h H locs la hP hD hS hL)
theorem nz_lor (F : nz_F y g cc nL Ts own ret rm) {x z : Int64} (d : decode cc pc = .ok (.lor, 1)) (h : nz_V y g k n ws (pc + 1) ls (.long (x ||| z) :: st)) : nz_V y g k n ws pc ls (.long z :: .long x :: st) := fun H locs la hP hD hS hL => lv_lor F.1 F.2.1 d (h H locs la hP hD hS hL)
theorem nz_lshl (F : nz_F y g cc nL Ts own ret rm) {x v : Int64} {z : Int32} (d : decode cc pc = .ok (.lshl, 1)) (hv : x <<< (z.toInt64 &&& 63) = v) (h : nz_V y g k n ws (pc + 1) ls (.long v :: st)) : nz_V y g k n ws pc ls (.int z :: .long x :: st) := fun H locs la hP hD hS hL => lv_lshl F.1 F.2.1 d hv (h H locs la hP hD hS hL)
theorem nz_lshr (F : nz_F y g cc nL Ts own ret rm) {x v : Int64} {z : Int32} (d : decode cc pc = .ok (.lshr, 1)) (hv : x >>> (z.toInt64 &&& 63) = v) (h : nz_V y g k n ws (pc + 1) ls (.long v :: st)) : nz_V y g k n ws pc ls (.int z :: .long x :: st) := fun H locs la hP hD hS hL => lv_lshr F.1 F.2.1 d hv (h H locs la hP hD hS hL)
theorem nz_i2l (F : nz_F y g cc nL Ts own ret rm) {x : Int32} {v : Int64} (d : decode cc pc = .ok (.i2l, 1)) (hv : x.toInt64 = v) (h : nz_V y g k n ws (pc + 1) ls (.long v :: st)) : nz_V y g k n ws pc ls (.int x :: st) := fun H locs la hP hD hS hL => lv_i2l F.1 F.2.1 d hv (h H locs la hP hD hS hL)
theorem nz_l2i (F : nz_F y g cc nL Ts own ret rm) {x : Int64} {v : Int32} (d : decode cc pc = .ok (.l2i, 1)) (hv : x.toInt32 = v) (h : nz_V y g k n ws (pc + 1) ls (.int v :: st)) : nz_V y g k n ws pc ls (.long x :: st) := fun H locs la hP hD hS hL => lv_l2i F.1 F.2.1 d hv (h H locs la hP hD hS hL)
theorem nz_i2b (F : nz_F y g cc nL Ts own ret rm) {x v : Int32} (d : decode cc pc = .ok (.i2b, 1)) (hv : x.toInt8.toInt32 = v) (h : nz_V y g k n ws (pc + 1) ls (.int v :: st)) : nz_V y g k n ws pc ls (.int x :: st) := fun H locs la hP hD hS hL => lv_i2b F.1 F.2.1 d hv (h H locs la hP hD hS hL)
theorem nz_i2s (F : nz_F y g cc nL Ts own ret rm) {x v : Int32} (d : decode cc pc = .ok (.i2s, 1)) (hv : x.toInt16.toInt32 = v) (h : nz_V y g k n ws (pc + 1) ls (.int v :: st)) : nz_V y g k n ws pc ls (.int x :: st) := fun H locs la hP hD hS hL => lv_i2s F.1 F.2.1 d hv (h H locs la hP hD hS hL)
theorem nz_i2c (F : nz_F y g cc nL Ts own ret rm) {x v : Int32} (d : decode cc pc = .ok (.i2c, 1)) (hv : (x.toUInt32 % 65536).toInt32 = v) (h : nz_V y g k n ws (pc + 1) ls (.int v :: st)) : nz_V y g k n ws pc ls (.int x :: st) := fun H locs la hP hD hS hL => lv_i2c F.1 F.2.1 d hv (h H locs la hP hD hS hL)
theorem nz_lcmp (F : nz_F y g cc nL Ts own ret rm) {x z : Int64} (d : decode cc pc = .ok (.lcmp, 1)) (h : nz_V y g k n ws (pc + 1) ls (.int (lg_cmp x z) :: st)) : nz_V y g k n ws pc ls (.long z :: .long x :: st) := fun H locs la hP hD hS hL => W.lcmp F.1 F.2.1 d (h H locs la hP hD hS hL)
theorem nz_dup (F : nz_F y g cc nL Ts own ret rm) {va : Value} (d : decode cc pc = .ok (.dup, 1)) (hva : va.category = 1) (h : nz_V y g k n ws (pc + 1) ls (va :: va :: st)) : nz_V y g k n ws pc ls (va :: st) := fun H locs la hP hD hS hL => lv_dup F.1 F.2.1 d hva (h H locs la hP hD hS hL)
theorem nz_pop (F : nz_F y g cc nL Ts own ret rm) {va : Value} (d : decode cc pc = .ok (.pop, 1)) (hva : va.category = 1) (h : nz_V y g k n ws (pc + 1) ls (st)) : nz_V y g k n ws pc ls (va :: st) := fun H locs la hP hD hS hL => lv_pop F.1 F.2.1 d hva (h H locs la hP hD hS hL)
theorem nz_dup2_11 (F : nz_F y g cc nL Ts own ret rm) {va vb : Value} (d : decode cc pc = .ok (.dup2, 1)) (hva : va.category = 1) (hvb : vb.category = 1) (h : nz_V y g k n ws (pc + 1) ls (va :: vb :: va :: vb :: st)) : nz_V y g k n ws pc ls (va :: vb :: st) := fun H locs la hP hD hS hL => lv_dup2_11 F.1 F.2.1 d hva hvb (h H locs la hP hD hS hL)
theorem nz_goto (F : nz_F y g cc nL Ts own ret rm) {off : Int} {tgt : Nat} (d : decode cc pc = .ok (.goto off, 3)) (ht : (pc : Int) + off = (tgt : Int)) (h : nz_V y g k n ws tgt ls st) : nz_V y g k n ws pc ls st := fun H locs la hP hD hS hL => lv_goto F.1 F.2.1 d ht (h H locs la hP hD hS hL)
theorem nz_icmp_eq (F : nz_F y g cc nL Ts own ret rm) {x z : Int32} {off : Int} {tgt : Nat} (d : decode cc pc = .ok (.if_icmp .eq off, 3)) (ht : (pc : Int) + off = (tgt : Int)) (h1 : x = z → nz_V y g k n ws tgt ls st) (h2 : ¬ (x = z) → nz_V y g k n ws (pc + 3) ls st) : nz_V y g k n ws pc ls (.int z :: .int x :: st) := fun H locs la hP hD hS hL => lv_icmp_eq F.1 F.2.1 d ht (fun q => h1 q H locs la hP hD hS hL) (fun q => h2 q H locs la hP hD hS hL)
theorem nz_if_eq (F : nz_F y g cc nL Ts own ret rm) {x : Int32} {off : Int} {tgt : Nat} (d : decode cc pc = .ok (.ifCond .eq off, 3)) (ht : (pc : Int) + off = (tgt : Int)) (h1 : x = 0 → nz_V y g k n ws tgt ls st) (h2 : ¬ (x = 0) → nz_V y g k n ws (pc + 3) ls st) : nz_V y g k n ws pc ls (.int x :: st) := fun H locs la hP hD hS hL => lv_if_eq F.1 F.2.1 d ht (fun q => h1 q H locs la hP hD hS hL) (fun q => h2 q H locs la hP hD hS hL)
theorem nz_icmp_ne (F : nz_F y g cc nL Ts own ret rm) {x z : Int32} {off : Int} {tgt : Nat} (d : decode cc pc = .ok (.if_icmp .ne off, 3)) (ht : (pc : Int) + off = (tgt : Int)) (h1 : ¬ x = z → nz_V y g k n ws tgt ls st) (h2 : x = z → nz_V y g k n ws (pc + 3) ls st) : nz_V y g k n ws pc ls (.int z :: .int x :: st) := fun H locs la hP hD hS hL => lv_icmp_ne F.1 F.2.1 d ht (fun q => h1 q H locs la hP hD hS hL) (fun q => h2 q H locs la hP hD hS hL)
theorem nz_if_ne (F : nz_F y g cc nL Ts own ret rm) {x : Int32} {off : Int} {tgt : Nat} (d : decode cc pc = .ok (.ifCond .ne off, 3)) (ht : (pc : Int) + off = (tgt : Int)) (h1 : ¬ x = 0 → nz_V y g k n ws tgt ls st) (h2 : x = 0 → nz_V y g k n ws (pc + 3) ls st) : nz_V y g k n ws pc ls (.int x :: st) := fun H locs la hP hD hS hL => lv_if_ne F.1 F.2.1 d ht (fun q => h1 q H locs la hP hD hS hL) (fun q => h2 q H locs la hP hD hS hL)
theorem nz_icmp_lt (F : nz_F y g cc nL Ts own ret rm) {x z : Int32} {off : Int} {tgt : Nat} (d : decode cc pc = .ok (.if_icmp .lt off, 3)) (ht : (pc : Int) + off = (tgt : Int)) (h1 : x < z → nz_V y g k n ws tgt ls st) (h2 : ¬ (x < z) → nz_V y g k n ws (pc + 3) ls st) : nz_V y g k n ws pc ls (.int z :: .int x :: st) := fun H locs la hP hD hS hL => lv_icmp_lt F.1 F.2.1 d ht (fun q => h1 q H locs la hP hD hS hL) (fun q => h2 q H locs la hP hD hS hL)
theorem nz_if_lt (F : nz_F y g cc nL Ts own ret rm) {x : Int32} {off : Int} {tgt : Nat} (d : decode cc pc = .ok (.ifCond .lt off, 3)) (ht : (pc : Int) + off = (tgt : Int)) (h1 : x < 0 → nz_V y g k n ws tgt ls st) (h2 : ¬ (x < 0) → nz_V y g k n ws (pc + 3) ls st) : nz_V y g k n ws pc ls (.int x :: st) := fun H locs la hP hD hS hL => lv_if_lt F.1 F.2.1 d ht (fun q => h1 q H locs la hP hD hS hL) (fun q => h2 q H locs la hP hD hS hL)
theorem nz_icmp_ge (F : nz_F y g cc nL Ts own ret rm) {x z : Int32} {off : Int} {tgt : Nat} (d : decode cc pc = .ok (.if_icmp .ge off, 3)) (ht : (pc : Int) + off = (tgt : Int)) (h1 : z ≤ x → nz_V y g k n ws tgt ls st) (h2 : ¬ (z ≤ x) → nz_V y g k n ws (pc + 3) ls st) : nz_V y g k n ws pc ls (.int z :: .int x :: st) := fun H locs la hP hD hS hL => lv_icmp_ge F.1 F.2.1 d ht (fun q => h1 q H locs la hP hD hS hL) (fun q => h2 q H locs la hP hD hS hL)
theorem nz_if_ge (F : nz_F y g cc nL Ts own ret rm) {x : Int32} {off : Int} {tgt : Nat} (d : decode cc pc = .ok (.ifCond .ge off, 3)) (ht : (pc : Int) + off = (tgt : Int)) (h1 : 0 ≤ x → nz_V y g k n ws tgt ls st) (h2 : ¬ (0 ≤ x) → nz_V y g k n ws (pc + 3) ls st) : nz_V y g k n ws pc ls (.int x :: st) := fun H locs la hP hD hS hL => lv_if_ge F.1 F.2.1 d ht (fun q => h1 q H locs la hP hD hS hL) (fun q => h2 q H locs la hP hD hS hL)
theorem nz_icmp_gt (F : nz_F y g cc nL Ts own ret rm) {x z : Int32} {off : Int} {tgt : Nat} (d : decode cc pc = .ok (.if_icmp .gt off, 3)) (ht : (pc : Int) + off = (tgt : Int)) (h1 : z < x → nz_V y g k n ws tgt ls st) (h2 : ¬ (z < x) → nz_V y g k n ws (pc + 3) ls st) : nz_V y g k n ws pc ls (.int z :: .int x :: st) := fun H locs la hP hD hS hL => lv_icmp_gt F.1 F.2.1 d ht (fun q => h1 q H locs la hP hD hS hL) (fun q => h2 q H locs la hP hD hS hL)
theorem nz_if_gt (F : nz_F y g cc nL Ts own ret rm) {x : Int32} {off : Int} {tgt : Nat} (d : decode cc pc = .ok (.ifCond .gt off, 3)) (ht : (pc : Int) + off = (tgt : Int)) (h1 : 0 < x → nz_V y g k n ws tgt ls st) (h2 : ¬ (0 < x) → nz_V y g k n ws (pc + 3) ls st) : nz_V y g k n ws pc ls (.int x :: st) := fun H locs la hP hD hS hL => lv_if_gt F.1 F.2.1 d ht (fun q => h1 q H locs la hP hD hS hL) (fun q => h2 q H locs la hP hD hS hL)
theorem nz_icmp_le (F : nz_F y g cc nL Ts own ret rm) {x z : Int32} {off : Int} {tgt : Nat} (d : decode cc pc = .ok (.if_icmp .le off, 3)) (ht : (pc : Int) + off = (tgt : Int)) (h1 : x ≤ z → nz_V y g k n ws tgt ls st) (h2 : ¬ (x ≤ z) → nz_V y g k n ws (pc + 3) ls st) : nz_V y g k n ws pc ls (.int z :: .int x :: st) := fun H locs la hP hD hS hL => lv_icmp_le F.1 F.2.1 d ht (fun q => h1 q H locs la hP hD hS hL) (fun q => h2 q H locs la hP hD hS hL)
theorem nz_if_le (F : nz_F y g cc nL Ts own ret rm) {x : Int32} {off : Int} {tgt : Nat} (d : decode cc pc = .ok (.ifCond .le off, 3)) (ht : (pc : Int) + off = (tgt : Int)) (h1 : x ≤ 0 → nz_V y g k n ws tgt ls st) (h2 : ¬ (x ≤ 0) → nz_V y g k n ws (pc + 3) ls st) : nz_V y g k n ws pc ls (.int x :: st) := fun H locs la hP hD hS hL => lv_if_le F.1 F.2.1 d ht (fun q => h1 q H locs la hP hD hS hL) (fun q => h2 q H locs la hP hD hS hL)
theorem nz_ldc (F : nz_F y g cc nL Ts own ret rm) {idx : Nat} {v : Int32} (hc : Cond.constant own idx v ∈ Ts) (d : decode cc pc = .ok (.ldc idx, 2)) (h : nz_V y g k n ws (pc + 2) ls (.int v :: st)) : nz_V y g k n ws pc ls st := fun H locs la hP hD hS hL => lv_ldc F.1 F.2.1 F.2.2.2.2.1 (F.2.2.2.2.2.1 _ hc) d (h H locs la hP hD hS hL)
theorem nz_ldcw (F : nz_F y g cc nL Ts own ret rm) {idx : Nat} {v : Int32} (hc : Cond.constant own idx v ∈ Ts) (d : decode cc pc = .ok (.ldc_w idx, 3)) (h : nz_V y g k n ws (pc + 3) ls (.int v :: st)) : nz_V y g k n ws pc ls st := fun H locs la hP hD hS hL => lv_ldcw F.1 F.2.1 F.2.2.2.2.1 (F.2.2.2.2.2.1 _ hc) d (h H locs la hP hD hS hL)
theorem nz_ldc2 (F : nz_F y g cc nL Ts own ret rm) {idx : Nat} {v : Int64} (hc : Cond.constantLong own idx v ∈ Ts) (d : decode cc pc = .ok (.ldc2_w idx, 3)) (h : nz_V y g k n ws (pc + 3) ls (.long v :: st)) : nz_V y g k n ws pc ls st := fun H locs la hP hD hS hL => lv_ldc2 F.1 F.2.1 F.2.2.2.2.1 (F.2.2.2.2.2.1 _ hc) d (h H locs la hP hD hS hL)
theorem nz_tin (F : nz_F y g cc nL Ts own ret rm) {dflt lo hi : Int} {offs : Array Int} {len : Nat} {x : Int32} {off : Int} {tgt : Nat} (d : decode cc pc = .ok (.tableswitch dflt lo hi offs, len)) (h1 : ¬ x.toInt < lo) (h2 : ¬ hi < x.toInt) (ho : offs[(x.toInt - lo).toNat]? = some off) (ht : (pc : Int) + off = (tgt : Int)) (h : nz_V y g k n ws tgt ls st) : nz_V y g k n ws pc ls (.int x :: st) := fun H locs la hP hD hS hL => lv_tableIn F.1 F.2.1 d h1 h2 ho ht (h H locs la hP hD hS hL)
theorem nz_tout (F : nz_F y g cc nL Ts own ret rm) {dflt lo hi : Int} {offs : Array Int} {len : Nat} {x : Int32} {tgt : Nat} (d : decode cc pc = .ok (.tableswitch dflt lo hi offs, len)) (hh : x.toInt < lo ∨ hi < x.toInt) (ht : (pc : Int) + dflt = (tgt : Int)) (h : nz_V y g k n ws tgt ls st) : nz_V y g k n ws pc ls (.int x :: st) := fun H locs la hP hD hS hL => lv_tableOut F.1 F.2.1 d hh ht (h H locs la hP hD hS hL)
theorem nz_get (F : nz_F y g cc nL Ts own ret rm) {nm ds C : String} {X : u_T} {N ci idx : Nat} {a : Nat} (hin : ∀ w ∈ u_ws C X N, w ∈ Ts) (q0 : Nat) {fs : List Value} (he : ws[q0]? = some (a, .inr (ci, fs))) (hc : vwCl[ci]? = some (C, X, N)) (j : Nat) (hj : j < N) (hX : X j = (C, nm, ds, (X j).2.2.2)) (hk : Cond.fieldLink own idx C nm ds ∈ Ts) {v : Value} (hv : fs[j]? = some v) (d : decode cc pc = .ok (.getfield idx, 3)) (h : nz_V y g k n ws (pc + 3) ls (v :: st)) : nz_V y g k n ws pc ls (.ref a :: st) := fun H locs la hP hD hS hL =>
  va_get (ref := C) (own := own) F.1 F.2.1 F.2.2.2.2.2.1 hin F.2.2.2.2.1 F.2.2.2.2.2.2.2.2.2.1 hP q0 he hc j hj (by rw [hX]; exact F.2.2.2.2.2.1 _ hk) (by rw [hX]; exact fun _ q => q) hv d (h H locs la hP hD hS hL)
theorem nz_getN (F : nz_F y g cc nL Ts own ret rm) {nm ds C host : String} {X : u_T} {N ci idx : Nat} {a : Nat} (hin : ∀ w ∈ u_ws C X N, w ∈ Ts) (q0 : Nat) {fs : List Value} (he : ws[q0]? = some (a, .inr (ci, fs))) (hc : vwCl[ci]? = some (C, X, N)) (j : Nat) (hj : j < N) (hX : X j = (C, nm, ds, (X j).2.2.2)) (hk : Cond.fieldLinkNest own idx C nm ds host ∈ nz_nest) {v : Value} (hv : fs[j]? = some v) (d : decode cc pc = .ok (.getfield idx, 3)) (h : nz_V y g k n ws (pc + 3) ls (v :: st)) : nz_V y g k n ws pc ls (.ref a :: st) := fun H locs la hP hD hS hL =>
  va_getN (ref := C) (own := own) (host := host) F.1 F.2.1 F.2.2.2.2.2.1 hin F.2.2.2.2.1 F.2.2.2.2.2.2.2.2.2.1 hP q0 he hc j hj (by rw [hX]; exact va_Nw.use rfl (F.2.2.2.2.2.2.2.2.2.2.1.1.1 _ hk)) (by rw [hX]; exact fun _ q => q) hv d (h H locs la hP hD hS hL)
theorem nz_put (F : nz_F y g cc nL Ts own ret rm) {nm ds C : String} {X : u_T} {N ci idx : Nat} {a : Nat} (hin : ∀ w ∈ u_ws C X N, w ∈ Ts) (ty0 : Nat → FieldType) (hty : ∀ j, j < N → parseFieldDescriptor (X j).2.2.1 = some (ty0 j)) (hnm : ∀ a, a < N → ∀ b, b < N → a ≠ b → (X a).2.1 ≠ (X b).2.1) (q0 : Nat) {fs : List Value} (he : ws[q0]? = some (a, .inr (ci, fs))) (hc : vwCl[ci]? = some (C, X, N)) (j : Nat) (hj : j < N) (hX : X j = (C, nm, ds, false)) (hk : Cond.fieldLink own idx C nm ds ∈ Ts) {v : Value} (hn : narrow (ty0 j) v = v) (hf : fits (ty0 j) v = true) (hl : j < fs.length) (d : decode cc pc = .ok (.putfield idx, 3)) (hw : ws.set q0 (a, .inr (ci, fs.set j v)) = ws') (h : nz_V y g k n ws' (pc + 3) ls st) : nz_V y g k n ws pc ls (v :: .ref a :: st) := fun H locs la hP hD hS hL =>
  va_put (ref := C) (own := own) (ty := ty0 j) F.1 F.2.1 F.2.2.2.2.2.1 hin ty0 hty hnm F.2.2.2.2.1 F.2.2.2.2.2.2.2.2.2.1 hP hD hS q0 he hc j hj (by rw [hX]; exact F.2.2.2.2.2.1 _ hk) (by rw [hX]; exact fun _ q => q) (by rw [hX]) (hty j hj) hn hf hl d (fun H1 locs1 hP1 hD1 hS1 => h H1 locs1 la (hw ▸ hP1) (hw ▸ hD1) hS1 hL)
theorem nz_putN (F : nz_F y g cc nL Ts own ret rm) {nm ds C host : String} {X : u_T} {N ci idx : Nat} {a : Nat} (hin : ∀ w ∈ u_ws C X N, w ∈ Ts) (ty0 : Nat → FieldType) (hty : ∀ j, j < N → parseFieldDescriptor (X j).2.2.1 = some (ty0 j)) (hnm : ∀ a, a < N → ∀ b, b < N → a ≠ b → (X a).2.1 ≠ (X b).2.1) (q0 : Nat) {fs : List Value} (he : ws[q0]? = some (a, .inr (ci, fs))) (hc : vwCl[ci]? = some (C, X, N)) (j : Nat) (hj : j < N) (hX : X j = (C, nm, ds, false)) (hk : Cond.fieldLinkNest own idx C nm ds host ∈ nz_nest) {v : Value} (hn : narrow (ty0 j) v = v) (hf : fits (ty0 j) v = true) (hl : j < fs.length) (d : decode cc pc = .ok (.putfield idx, 3)) (hw : ws.set q0 (a, .inr (ci, fs.set j v)) = ws') (h : nz_V y g k n ws' (pc + 3) ls st) : nz_V y g k n ws pc ls (v :: .ref a :: st) := fun H locs la hP hD hS hL =>
  va_putN (ref := C) (own := own) (host := host) (ty := ty0 j) F.1 F.2.1 F.2.2.2.2.2.1 hin ty0 hty hnm F.2.2.2.2.1 F.2.2.2.2.2.2.2.2.2.1 hP hD hS q0 he hc j hj (by rw [hX]; exact va_Nw.use rfl (F.2.2.2.2.2.2.2.2.2.2.1.1.1 _ hk)) (by rw [hX]; exact fun _ q => q) (by rw [hX]) (hty j hj) hn hf hl d (fun H1 locs1 hP1 hD1 hS1 => h H1 locs1 la (hw ▸ hP1) (hw ▸ hD1) hS1 hL)
theorem nz_iald (F : nz_F y g cc nL Ts own ret rm) (q0 : Nat) {a len : Nat} {f : Nat → Int32} {i : Int32} (ha : ws[q0]? = some (a, .inl (nz_cI g, len, .inl f))) (hin : vp_in i len) (d : decode cc pc = .ok (.iaload, 1)) (h : nz_V y g k n ws (pc + 1) ls (.int (f i.toNatClampNeg) :: st)) : nz_V y g k n ws pc ls (.int i :: .ref a :: st) := fun H locs la hP hD hS hL => va_iald F.1 F.2.1 F.2.2.2.2.2.2.2.2.2.1 hP q0 0 ha rfl hin d (h H locs la hP hD hS hL)
theorem nz_zald (F : nz_F y g cc nL Ts own ret rm) (q0 : Nat) {a len : Nat} {f : Nat → Int32} {i : Int32} (ha : ws[q0]? = some (a, .inl (nz_cZ g, len, .inl f))) (hin : vp_in i len) (d : decode cc pc = .ok (.baload, 1)) (h : nz_V y g k n ws (pc + 1) ls (.int (f i.toNatClampNeg) :: st)) : nz_V y g k n ws pc ls (.int i :: .ref a :: st) := fun H locs la hP hD hS hL => va_zald F.1 F.2.1 F.2.2.2.2.2.2.2.2.2.1 hP q0 1 ha rfl hin d (h H locs la hP hD hS hL)
theorem nz_aald (F : nz_F y g cc nL Ts own ret rm) (q0 : Nat) {a len : Nat} {f : Nat → Option Nat} {i : Int32} {b : Nat} (ha : ws[q0]? = some (a, .inl (nz_cR g, len, .inr (.inr (.inr (.inr f)))))) (hin : vp_in i len) (hb : f i.toNatClampNeg = some b) (d : decode cc pc = .ok (.aaload, 1)) (h : nz_V y g k n ws (pc + 1) ls (.ref b :: st)) : nz_V y g k n ws pc ls (.int i :: .ref a :: st) := fun H locs la hP hD hS hL => va_aldq F.1 F.2.1 F.2.2.2.2.2.2.2.2.2.1 hP q0 2 ha rfl hin d (by rw [hb]; exact h H locs la hP hD hS hL)
theorem nz_iast (F : nz_F y g cc nL Ts own ret rm) (q0 : Nat) {a len : Nat} {f : Nat → Int32} {i x : Int32} (ha : ws[q0]? = some (a, .inl (nz_cI g, len, .inl f))) (hin : vp_in i len) (d : decode cc pc = .ok (.iastore, 1)) (hw : ws.set q0 (a, .inl (nz_cI g, len, .inl (upd f i.toNatClampNeg x))) = ws') (h : nz_V y g k n ws' (pc + 1) ls st) : nz_V y g k n ws pc ls (.int x :: .int i :: .ref a :: st) := fun H locs la hP hD hS hL => va_iast F.1 F.2.1 F.2.2.2.2.2.2.2.2.2.1 hP hD hS q0 0 ha rfl hin d (fun H1 locs1 hP1 hD1 hS1 => h H1 locs1 la (hw ▸ hP1) (hw ▸ hD1) hS1 hL)
theorem nz_zast (F : nz_F y g cc nL Ts own ret rm) (q0 : Nat) {a len : Nat} {f : Nat → Int32} {i x : Int32} (ha : ws[q0]? = some (a, .inl (nz_cZ g, len, .inl f))) (hin : vp_in i len) (hx : vp_nar .boolean x = x) (d : decode cc pc = .ok (.bastore, 1)) (hw : ws.set q0 (a, .inl (nz_cZ g, len, .inl (upd f i.toNatClampNeg x))) = ws') (h : nz_V y g k n ws' (pc + 1) ls st) : nz_V y g k n ws pc ls (.int x :: .int i :: .ref a :: st) := fun H locs la hP hD hS hL => va_zast F.1 F.2.1 F.2.2.2.2.2.2.2.2.2.1 hP hD hS q0 1 ha rfl hin d (fun H1 locs1 hP1 hD1 hS1 => h H1 locs1 la (hw ▸ (hx ▸ hP1)) (hw ▸ (hx ▸ hD1)) hS1 hL)
theorem nz_alen (F : nz_F y g cc nL Ts own ret rm) (q0 t0 : Nat) {a : Nat} {cA : ClassId} {x : vp_A} {ty : FieldType} {v : Int32} (ha : ws[q0]? = some (a, .inl (cA, x))) (ht : (nz_T g)[t0]? = some (cA, ty)) (hv : Int32.ofNat x.1 = v) (d : decode cc pc = .ok (.arraylength, 1)) (h : nz_V y g k n ws (pc + 1) ls (.int v :: st)) : nz_V y g k n ws pc ls (.ref a :: st) := fun H locs la hP hD hS hL => va_alen F.1 F.2.1 F.2.2.2.2.2.2.2.2.2.1 hP q0 t0 ha ht hv d (h H locs la hP hD hS hL)
theorem nz_copy (F : nz_F y g cc nL Ts own ret rm) {idx : Nat} (hl1 : Cond.methodLink own idx arraycopyName ∈ Ts) (hl2 : Cond.native arraycopyName ∈ Ts) (hl3 : Cond.static arraycopyName ∈ Ts) (hl4 : Cond.initialized "java/lang/System" ∈ Ts) (q0 q1 : Nat) {a0 a1 n0 n1 : Nat} {f f1 : Nat → Int32} (ha0 : ws[q0]? = some (a0, .inl (nz_cI g, n0, .inl f))) (ha1 : ws[q1]? = some (a1, .inl (nz_cI g, n1, .inl f1))) {sp dp z : Int32} (h1 : ¬ sp < 0) (h2 : ¬ dp < 0) (h3 : ¬ z < 0) (h4 : sp.toNatClampNeg + z.toNatClampNeg ≤ n0) (h5 : dp.toNatClampNeg + z.toNatClampNeg ≤ n1) (hfr : Nat.ble 1 rm.frames = true) (hlo : (rest.map fun v => v.category).sum + (nativeFrameWords "java/lang/System" "arraycopy" 5 + 11) ≤ rm.locals) (d : decode cc pc = .ok (.invokestatic idx, 3)) (hw : ws.set q1 (a1, .inl (nz_cI g, n1, .inl (va_cpy f f1 sp.toNatClampNeg dp.toNatClampNeg z.toNatClampNeg))) = ws') (h : nz_V y g k n ws' (pc + 3) ls rest) : nz_V y g k n ws pc ls (.int z :: .int dp :: .ref a1 :: .int sp :: .ref a0 :: rest) := fun H locs la hP hD hS hL =>
  va_copyi F.1 F.2.1 (F.2.2.1.trans hL.1.symm) F.2.2.2.2.1 (F.2.2.2.2.2.1 _ hl1) (F.2.2.2.2.2.1 _ hl2) (F.2.2.2.2.2.1 _ hl3) (F.2.2.2.2.2.1 _ hl4) F.2.2.2.2.2.2.2.2.2.1 hP hD hS q0 q1 0 0 (ty := .int) ha0 ha1 rfl rfl rfl h1 h2 h3 h4 h5 (fun _ _ => rfl) (by rw [F.2.2.2.2.2.2.2.2.2.2.2]; exact Nat.le_of_ble_eq_true hfr) (by rw [F.2.2.2.2.2.2.2.2.2.2.2]; exact hlo) d (fun H1 locs1 hP1 hD1 hS1 => h H1 locs1 la (hw ▸ hP1) (hw ▸ hD1) hS1 hL)
theorem nz_mmax (F : nz_F y g cc nL Ts own ret rm) {idx : Nat} (hl1 : Cond.methodLink own idx Lib.Math.max.name ∈ Ts) (hl2 : Cond.static Lib.Math.max.name ∈ Ts) (hl3 : Cond.initialized "java/lang/Math" ∈ Ts) (hl4 : Cond.code Lib.Math.max.name Lib.Math.max.code 2 (some .int) ∈ Ts) (hfr : Nat.ble 1 rm.frames = true) (hlo : (rest.map fun v => v.category).sum + 13 ≤ rm.locals) (hkn : k ≤ rm.cells ∧ n ≤ rm.slots) {x z : Int32} (d : decode cc pc = .ok (.invokestatic idx, 3)) (h : nz_V y g k n ws (pc + 3) ls (.int (if x < z then z else x) :: rest)) : nz_V y g k n ws pc ls (.int z :: .int x :: rest) := fun H locs la hP hD hS hL =>
  va_mmax F.1 F.2.1 (F.2.2.1.trans hL.1.symm) F.2.2.2.2.1 (F.2.2.2.2.2.1 _ hl1) (F.2.2.2.2.2.1 _ hl2) (F.2.2.2.2.2.1 _ hl3) (F.2.2.2.2.2.1 _ hl4) (by rw [F.2.2.2.2.2.2.2.2.2.2.2]; exact Nat.le_of_ble_eq_true hfr) (by rw [F.2.2.2.2.2.2.2.2.2.2.2]; exact hlo) (by rw [F.2.2.2.2.2.2.2.2.2.2.2]; exact hkn.1) (by rw [F.2.2.2.2.2.2.2.2.2.2.2]; exact hkn.2) d (h H locs la hP hD hS hL)
theorem nz_mmin (F : nz_F y g cc nL Ts own ret rm) {idx : Nat} (hl1 : Cond.methodLink own idx Lib.Math.min.name ∈ Ts) (hl2 : Cond.static Lib.Math.min.name ∈ Ts) (hl3 : Cond.initialized "java/lang/Math" ∈ Ts) (hl4 : Cond.code Lib.Math.min.name Lib.Math.min.code 2 (some .int) ∈ Ts) (hfr : Nat.ble 1 rm.frames = true) (hlo : (rest.map fun v => v.category).sum + 13 ≤ rm.locals) (hkn : k ≤ rm.cells ∧ n ≤ rm.slots) {x z : Int32} (d : decode cc pc = .ok (.invokestatic idx, 3)) (h : nz_V y g k n ws (pc + 3) ls (.int (if z < x then z else x) :: rest)) : nz_V y g k n ws pc ls (.int z :: .int x :: rest) := fun H locs la hP hD hS hL =>
  va_mmin F.1 F.2.1 (F.2.2.1.trans hL.1.symm) F.2.2.2.2.1 (F.2.2.2.2.2.1 _ hl1) (F.2.2.2.2.2.1 _ hl2) (F.2.2.2.2.2.1 _ hl3) (F.2.2.2.2.2.1 _ hl4) (by rw [F.2.2.2.2.2.2.2.2.2.2.2]; exact Nat.le_of_ble_eq_true hfr) (by rw [F.2.2.2.2.2.2.2.2.2.2.2]; exact hlo) (by rw [F.2.2.2.2.2.2.2.2.2.2.2]; exact hkn.1) (by rw [F.2.2.2.2.2.2.2.2.2.2.2]; exact hkn.2) d (h H locs la hP hD hS hL)
theorem nz_mabs (F : nz_F y g cc nL Ts own ret rm) {idx : Nat} (hl1 : Cond.methodLink own idx Lib.Math.abs.name ∈ Ts) (hl2 : Cond.static Lib.Math.abs.name ∈ Ts) (hl3 : Cond.initialized "java/lang/Math" ∈ Ts) (hl4 : Cond.code Lib.Math.abs.name Lib.Math.abs.code 1 (some .int) ∈ Ts) (hfr : Nat.ble 1 rm.frames = true) (hlo : (rest.map fun v => v.category).sum + 13 ≤ rm.locals) (hkn : k ≤ rm.cells ∧ n ≤ rm.slots) {x : Int32} (d : decode cc pc = .ok (.invokestatic idx, 3)) (h : nz_V y g k n ws (pc + 3) ls (.int (if 0 ≤ x then x else 0 - x) :: rest)) : nz_V y g k n ws pc ls (.int x :: rest) := fun H locs la hP hD hS hL =>
  va_mabs F.1 F.2.1 (F.2.2.1.trans hL.1.symm) F.2.2.2.2.1 (F.2.2.2.2.2.1 _ hl1) (F.2.2.2.2.2.1 _ hl2) (F.2.2.2.2.2.1 _ hl3) (F.2.2.2.2.2.1 _ hl4) (by rw [F.2.2.2.2.2.2.2.2.2.2.2]; exact Nat.le_of_ble_eq_true hfr) (by rw [F.2.2.2.2.2.2.2.2.2.2.2]; exact hlo) (by rw [F.2.2.2.2.2.2.2.2.2.2.2]; exact hkn.1) (by rw [F.2.2.2.2.2.2.2.2.2.2.2]; exact hkn.2) d (h H locs la hP hD hS hL)
theorem nz_iret {S : Type} {wc : va_W} {post : Int32 → S → Prop} {w1 : S → va_W} {sz : Nat} (F : nz_F y g cc nL Ts own (some .int) rm) (hQ : yz_A y = va_A wc sz ∧ yz_Q y = MQ (yz_b y) (nz_Qi g wc post w1 sz) (yz_a y) (yz_s y) k n (va_A wc sz)) {v : Int32} (u : S) (hp : post v u) (hw : ws = w1 u) (d : decode cc pc = .ok (.ireturn, 1)) : nz_V y g k n ws pc ls [.int v] := by
  intro H locs la hP hD hS hL
  obtain ⟨hA, hQ⟩ := hQ
  rw [hA] at hD hS
  rw [hQ]
  subst hw
  exact W.iret F.1 F.2.1 F.2.2.2.2.2.2.1 (fun t ht hW => ⟨⟨v, u, rfl, hp, by rw [ht]; exact hP, va_K.moved hW.alike F.2.2.2.2.2.2.2.2.2.1, hD⟩, hS.F ht⟩) hS.2.2 d F.2.2.2.2.2.2.2.1
theorem nz_lret {S : Type} {wc : va_W} {post : Int64 → S → Prop} {w1 : S → va_W} {sz : Nat} (F : nz_F y g cc nL Ts own (some .long) rm) (hQ : yz_A y = va_A wc sz ∧ yz_Q y = MQ (yz_b y) (nz_Ql g wc post w1 sz) (yz_a y) (yz_s y) k n (va_A wc sz)) {v : Int64} (u : S) (hp : post v u) (hw : ws = w1 u) (d : decode cc pc = .ok (.lreturn, 1)) : nz_V y g k n ws pc ls [.long v] := by
  intro H locs la hP hD hS hL
  obtain ⟨hA, hQ⟩ := hQ
  rw [hA] at hD hS
  rw [hQ]
  subst hw
  exact W.lret F.1 F.2.1 F.2.2.2.2.2.2.1 (fun t ht hW => ⟨⟨v, u, rfl, hp, by rw [ht]; exact hP, va_K.moved hW.alike F.2.2.2.2.2.2.2.2.2.1, hD⟩, hS.F ht⟩) hS.2.2 d F.2.2.2.2.2.2.2.1
theorem nz_vret {S : Type} {wc : va_W} {post : S → Prop} {w1 : S → va_W} {sz : Nat} (F : nz_F y g cc nL Ts own none rm) (hQ : yz_A y = va_A wc sz ∧ yz_Q y = MQ (yz_b y) (nz_Qv g wc post w1 sz) (yz_a y) (yz_s y) k n (va_A wc sz)) (u : S) (hp : post u) (hw : ws = w1 u) (d : decode cc pc = .ok (.return_, 1)) : nz_V y g k n ws pc ls [] := by
  intro H locs la hP hD hS hL
  obtain ⟨hA, hQ⟩ := hQ
  rw [hA] at hD hS
  rw [hQ]
  subst hw
  exact W.vret F.1 F.2.1 F.2.2.2.2.2.2.1 (fun t ht hW => ⟨⟨u, rfl, hp, by rw [ht]; exact hP, va_K.moved hW.alike F.2.2.2.2.2.2.2.2.2.1, hD⟩, hS.F ht⟩) hS.2.2 d F.2.2.2.2.2.2.2.1
theorem nz_zret {ty : FieldType} {S : Type} {wc : va_W} {post : Int32 → S → Prop} {w1 : S → va_W} {sz : Nat} (F : nz_F y g cc nL Ts own (some ty) rm) (hQ : yz_A y = va_A wc sz ∧ yz_Q y = MQ (yz_b y) (nz_Qi g wc post w1 sz) (yz_a y) (yz_s y) k n (va_A wc sz)) {v : Int32} (u : S) (hp : post v u) (hw : ws = w1 u) (hnar : narrow ty (.int v) = .int v) (d : decode cc pc = .ok (.ireturn, 1)) : nz_V y g k n ws pc ls [.int v] := by
  intro H locs la hP hD hS hL
  obtain ⟨hA, hQ⟩ := hQ
  rw [hA] at hD hS
  rw [hQ]
  subst hw
  exact W.zret F.1 F.2.1 F.2.2.2.2.2.2.1 hnar (fun t ht hW => ⟨⟨v, u, rfl, hp, by rw [ht]; exact hP, va_K.moved hW.alike F.2.2.2.2.2.2.2.2.2.1, hD⟩, hS.F ht⟩) hS.2.2 d F.2.2.2.2.2.2.2.1
/-- a call under way: where the callee's cells lie in the caller's world, and its run -/
def nz_C (y : nz_Y) (g : nz_G) (k n : Nat) (ws : va_W) (pc : Nat) (ls : List (Nat × Value)) (st rest : List Value) (wc : va_W) (Qc : Nat → Array Value → State → Outcome → State → Prop) (av : Array Value) (isC : List Nat) : Prop :=
  isC.map (fun i => ws[i]?) = wc.map some ∧ (∀ q : Nat, (yz_s y).heap.size ≤ q → yz_A y q) ∧ ∀ (H : Heap) (locs : List Loc) (la : Array Slot), va_P (nz_D g) vwCl ws H → va_D (yz_A y) ws → va_S (yz_A y) (yz_s y).heap H locs → lv_has la (yz_n y) ls → va_Run (yz_p y) (yz_l y) (yz_e y) (yz_R y) (yz_s y) (yz_m y) (yz_a y) (yz_b y) (yz_M y) (yz_c y) H locs k n 0 0 (F0 (yz_m y) pc la st) rest (Qc H.size av) (va_A wc H.size)
/-- what a callee is given of its caller's state -/
theorem nz_giv (F : nz_F y g cc nL Ts own ret rm) {H : Heap} {locs : List Loc} {wc : va_W} {isC : List Nat} (hP : va_P (nz_D g) vwCl ws H) (hD : va_D (yz_A y) ws) (hS : va_S (yz_A y) (yz_s y).heap H locs) (hC : isC.map (fun i => ws[i]?) = wc.map some) (hnd : va_nd isC = true) {U : State} (hU : U.heap = H) (hW : (yz_s y).WarmedH U.vm) : nz_P g wc H.size U :=
  ⟨by rw [hU], by rw [hU]; exact hP.sub isC (nz_fm _ _ _ hC), va_K.moved hW.alike F.2.2.2.2.2.2.2.2.2.1, (hD.sub isC hnd hC).weaken (fun _ _ _ _ => trivial), F.2.2.2.2.2.2.2.2.2.2.1.call hW hU hS (va_free hD hS F.2.2.2.2.2.2.2.2.1 isC hC)⟩
theorem nz_bld {wc : va_W} {sz : Nat} {av : List Value} : FrameBlind (va_Pc av (nz_P g wc sz)) := fun a U f mk q => by
  obtain ⟨q0, q1, q2, q3, q4, q5⟩ := q
  exact ⟨q0, q1, q2, va_K.moved (u := U) (U := U.calling f mk a) (Vm.Alike.refl U.vm) q3, q4, q5.blind⟩
theorem nz_runV (F : nz_F y g cc nL Ts own ret rm) {yy : MethodName} {bytes : ByteArray} {maxL nn idx : Nat} {ret1 : Option FieldType} {wsy ws1 : List Cond} {rmy : Room} {As : List Value} {wc : va_W} {Qc : Nat → Array Value → State → Outcome → State → Prop} {C : String} {b : Nat} (hG : GoodIn Ts (wsV own idx C yy wsy)) (hw : wsy = Cond.code yy bytes maxL ret1 :: ws1)
    (hd : yy.cls = C ∧ yy.cls ≠ "java/lang/invoke/MethodHandle" ∧ yy.cls ≠ "java/lang/invoke/VarHandle" ∧ (parseMethodDescriptor yy.desc).map (fun d => d.parameters.length) = some nn) (hR : (Nat.ble (rmy.frames + 1) rm.frames && Nat.ble (8 + (maxL + 11) + rmy.locals) rm.locals && Nat.beq rmy.cells 0 && Nat.beq rmy.slots 0 && Nat.ble k rm.cells && Nat.ble n rm.slots) = true) (hM : nz_M (yz_l y) yy wsy rmy g (.ref b :: As) wc Qc) (d : decode cc pc = .ok (.invokevirtual idx, 3)) (isC : List Nat) (hC : isC.map (fun i => ws[i]?) = wc.map some) (hnd : va_nd isC = true)
    (q0 : Nat) {ci : Nat} {fs : List Value} (he : ws[q0]? = some (b, .inr (ci, fs))) {X : u_T} {N : Nat} (hcl : vwCl[ci]? = some (C, X, N)) (hn : As.length = nn) (hcat : (rest.map fun v => v.category).sum ≤ 8) (hst : st = As.reverse ++ .ref b :: rest) : nz_C y g k n ws pc ls st rest wc Qc (Value.ref b :: As).toArray isC := by
  simp only [Bool.and_eq_true] at hR
  obtain ⟨⟨⟨⟨⟨r1, r2⟩, r3⟩, r4⟩, r5⟩, r6⟩ := hR
  have r1 := Nat.le_of_ble_eq_true r1
  have r2 := Nat.le_of_ble_eq_true r2
  have r3 := Nat.eq_of_beq_eq_true r3
  have r4 := Nat.eq_of_beq_eq_true r4
  have r5 := Nat.le_of_ble_eq_true r5
  have r6 := Nat.le_of_ble_eq_true r6
  refine ⟨hC, F.2.2.2.2.2.2.2.2.1, fun H locs la hP hD hS hL => ?_⟩
  have hM1 := hM H.size
  obtain ⟨f1, f2, f3, f4, f5, f6, f7, f8, f9, f10, f11, f12⟩ := F
  have F : nz_F y g cc nL Ts own ret rm := ⟨f1, f2, f3, f4, f5, f6, f7, f8, f9, f10, f11, f12⟩
  subst f12
  subst hst
  exact va_runV (As := As) (rest := rest) (C := C) ⟨f1, f2, f3.trans f4, f5, f6⟩ hM1 (cwV nn f6 hG hw r3 r4 hd ⟨r1, r2⟩) ⟨nz_bld, va_recv f10 hP hcl he, fun U hU hW => ⟨rfl, nz_giv F hP hD hS hC hnd hU hW⟩⟩ rfl hn (hL.1.trans f4) rfl (lv_room hcat) d ⟨r5, r6⟩
theorem nz_runVN (F : nz_F y g cc nL Ts own ret rm) {yy : MethodName} {bytes : ByteArray} {maxL nn idx : Nat} {ret1 : Option FieldType} {wsy ws1 : List Cond} {rmy : Room} {As : List Value} {wc : va_W} {Qc : Nat → Array Value → State → Outcome → State → Prop} {C host : String} {b : Nat} (hG : GoodIn Ts wsy) (hw : wsy = Cond.code yy bytes maxL ret1 :: ws1) (hl : Cond.methodLinkNest own idx yy host ∈ nz_nest) (hini : Cond.initialized yy.cls ∈ Ts) (hx1 : Cond.instanceMethod yy ∈ Ts) (hx2 : Cond.selects C yy yy ∈ Ts)
    (hd : yy.cls = C ∧ yy.cls ≠ "java/lang/invoke/MethodHandle" ∧ yy.cls ≠ "java/lang/invoke/VarHandle" ∧ (parseMethodDescriptor yy.desc).map (fun d => d.parameters.length) = some nn) (hR : (Nat.ble (rmy.frames + 1) rm.frames && Nat.ble (8 + (maxL + 11) + rmy.locals) rm.locals && Nat.beq rmy.cells 0 && Nat.beq rmy.slots 0 && Nat.ble k rm.cells && Nat.ble n rm.slots) = true) (hM : nz_M (yz_l y) yy wsy rmy g (.ref b :: As) wc Qc) (d : decode cc pc = .ok (.invokevirtual idx, 3)) (isC : List Nat) (hC : isC.map (fun i => ws[i]?) = wc.map some) (hnd : va_nd isC = true)
    (q0 : Nat) {ci : Nat} {fs : List Value} (he : ws[q0]? = some (b, .inr (ci, fs))) {X : u_T} {N : Nat} (hcl : vwCl[ci]? = some (C, X, N)) (hn : As.length = nn) (hcat : (rest.map fun v => v.category).sum ≤ 8) (hst : st = As.reverse ++ .ref b :: rest) : nz_C y g k n ws pc ls st rest wc Qc (Value.ref b :: As).toArray isC := by
  simp only [Bool.and_eq_true] at hR
  obtain ⟨⟨⟨⟨⟨r1, r2⟩, r3⟩, r4⟩, r5⟩, r6⟩ := hR
  have r1 := Nat.le_of_ble_eq_true r1
  have r2 := Nat.le_of_ble_eq_true r2
  have r3 := Nat.eq_of_beq_eq_true r3
  have r4 := Nat.eq_of_beq_eq_true r4
  have r5 := Nat.le_of_ble_eq_true r5
  have r6 := Nat.le_of_ble_eq_true r6
  refine ⟨hC, F.2.2.2.2.2.2.2.2.1, fun H locs la hP hD hS hL => ?_⟩
  have hM1 := hM H.size
  obtain ⟨f1, f2, f3, f4, f5, f6, f7, f8, f9, f10, f11, f12⟩ := F
  have F : nz_F y g cc nL Ts own ret rm := ⟨f1, f2, f3, f4, f5, f6, f7, f8, f9, f10, f11, f12⟩
  subst f12
  subst hst
  exact va_runVN (As := As) (rest := rest) (C := C) ⟨f1, f2, f3.trans f4, f5, f6⟩ hM1 ⟨va_cnB nn f6 hG hw r3 r4 (f11.1.1 _ hl) (f6 _ hini) hd.2 ⟨r1, r2⟩, f6 _ hx1, f6 _ hx2⟩ ⟨nz_bld, va_recv f10 hP hcl he, fun U hU hW => ⟨rfl, nz_giv F hP hD hS hC hnd hU hW⟩⟩ rfl hn (hL.1.trans f4) rfl (lv_room hcat) d ⟨r5, r6⟩
theorem nz_runS (F : nz_F y g cc nL Ts own ret rm) {yy : MethodName} {bytes : ByteArray} {maxL nn idx : Nat} {ret1 : Option FieldType} {wsy ws1 : List Cond} {rmy : Room} {As : List Value} {wc : va_W} {Qc : Nat → Array Value → State → Outcome → State → Prop} (hG : GoodIn Ts (va_wsS own idx yy wsy)) (hw : wsy = Cond.code yy bytes maxL ret1 :: ws1)
    (hd : yy.cls ≠ "java/lang/invoke/MethodHandle" ∧ yy.cls ≠ "java/lang/invoke/VarHandle" ∧ (parseMethodDescriptor yy.desc).map (fun d => d.parameters.length) = some nn) (hR : (Nat.ble (rmy.frames + 1) rm.frames && Nat.ble (8 + (maxL + 11) + rmy.locals) rm.locals && Nat.beq rmy.cells 0 && Nat.beq rmy.slots 0 && Nat.ble k rm.cells && Nat.ble n rm.slots) = true) (hM : nz_M (yz_l y) yy wsy rmy g As wc Qc) (d : decode cc pc = .ok (.invokestatic idx, 3)) (isC : List Nat) (hC : isC.map (fun i => ws[i]?) = wc.map some) (hnd : va_nd isC = true) (hn : As.length = nn) (hcat : (rest.map fun v => v.category).sum ≤ 8) (hst : st = As.reverse ++ rest) : nz_C y g k n ws pc ls st rest wc Qc As.toArray isC := by
  simp only [Bool.and_eq_true] at hR
  obtain ⟨⟨⟨⟨⟨r1, r2⟩, r3⟩, r4⟩, r5⟩, r6⟩ := hR
  have r1 := Nat.le_of_ble_eq_true r1
  have r2 := Nat.le_of_ble_eq_true r2
  have r3 := Nat.eq_of_beq_eq_true r3
  have r4 := Nat.eq_of_beq_eq_true r4
  have r5 := Nat.le_of_ble_eq_true r5
  have r6 := Nat.le_of_ble_eq_true r6
  refine ⟨hC, F.2.2.2.2.2.2.2.2.1, fun H locs la hP hD hS hL => ?_⟩
  have hM1 := hM H.size
  obtain ⟨f1, f2, f3, f4, f5, f6, f7, f8, f9, f10, f11, f12⟩ := F
  have F : nz_F y g cc nL Ts own ret rm := ⟨f1, f2, f3, f4, f5, f6, f7, f8, f9, f10, f11, f12⟩
  subst f12
  subst hst
  exact va_runS (As := As) (rest := rest) ⟨f1, f2, f3.trans f4, f5, f6⟩ hM1 (va_cwS nn f6 hG hw r3 r4 hd ⟨r1, r2⟩) ⟨nz_bld, fun U hU hW => ⟨rfl, nz_giv F hP hD hS hC hnd hU hW⟩⟩ rfl hn (hL.1.trans f4) rfl (lv_room hcat) d ⟨r5, r6⟩
theorem nz_runSN (F : nz_F y g cc nL Ts own ret rm) {yy : MethodName} {bytes : ByteArray} {maxL nn idx : Nat} {ret1 : Option FieldType} {wsy ws1 : List Cond} {rmy : Room} {As : List Value} {wc : va_W} {Qc : Nat → Array Value → State → Outcome → State → Prop} {host : String} (hG : GoodIn Ts wsy) (hw : wsy = Cond.code yy bytes maxL ret1 :: ws1) (hl : Cond.methodLinkNest own idx yy host ∈ nz_nest) (hini : Cond.initialized yy.cls ∈ Ts) (hx1 : Cond.static yy ∈ Ts)
    (hd : yy.cls ≠ "java/lang/invoke/MethodHandle" ∧ yy.cls ≠ "java/lang/invoke/VarHandle" ∧ (parseMethodDescriptor yy.desc).map (fun d => d.parameters.length) = some nn) (hR : (Nat.ble (rmy.frames + 1) rm.frames && Nat.ble (8 + (maxL + 11) + rmy.locals) rm.locals && Nat.beq rmy.cells 0 && Nat.beq rmy.slots 0 && Nat.ble k rm.cells && Nat.ble n rm.slots) = true) (hM : nz_M (yz_l y) yy wsy rmy g As wc Qc) (d : decode cc pc = .ok (.invokestatic idx, 3)) (isC : List Nat) (hC : isC.map (fun i => ws[i]?) = wc.map some) (hnd : va_nd isC = true) (hn : As.length = nn) (hcat : (rest.map fun v => v.category).sum ≤ 8) (hst : st = As.reverse ++ rest) : nz_C y g k n ws pc ls st rest wc Qc As.toArray isC := by
  simp only [Bool.and_eq_true] at hR
  obtain ⟨⟨⟨⟨⟨r1, r2⟩, r3⟩, r4⟩, r5⟩, r6⟩ := hR
  have r1 := Nat.le_of_ble_eq_true r1
  have r2 := Nat.le_of_ble_eq_true r2
  have r3 := Nat.eq_of_beq_eq_true r3
  have r4 := Nat.eq_of_beq_eq_true r4
  have r5 := Nat.le_of_ble_eq_true r5
  have r6 := Nat.le_of_ble_eq_true r6
  refine ⟨hC, F.2.2.2.2.2.2.2.2.1, fun H locs la hP hD hS hL => ?_⟩
  have hM1 := hM H.size
  obtain ⟨f1, f2, f3, f4, f5, f6, f7, f8, f9, f10, f11, f12⟩ := F
  have F : nz_F y g cc nL Ts own ret rm := ⟨f1, f2, f3, f4, f5, f6, f7, f8, f9, f10, f11, f12⟩
  subst f12
  subst hst
  exact va_runSN (As := As) (rest := rest) ⟨f1, f2, f3.trans f4, f5, f6⟩ hM1 ⟨va_cnB nn f6 hG hw r3 r4 (f11.1.1 _ hl) (f6 _ hini) hd ⟨r1, r2⟩, f6 _ hx1, trivial⟩ ⟨nz_bld, fun U hU hW => ⟨rfl, nz_giv F hP hD hS hC hnd hU hW⟩⟩ rfl hn (hL.1.trans f4) rfl (lv_room hcat) d ⟨r5, r6⟩
theorem nz_ci {S : Type} {wc : va_W} {post : Int32 → S → Prop} {w1 ws' : S → va_W} {av : Array Value} {isC : List Nat} (hc : nz_C y g k n ws pc ls st rest wc (nz_Qi g wc post w1) av isC) (ha : ∀ u, (w1 u).map Prod.fst = wc.map Prod.fst) (hm : ∀ u, nz_mrg ws isC (w1 u) = ws' u)
    (kk : ∀ (r : Int32) (u : S), post r u → nz_V y g k n (ws' u) (pc + 3) ls (.int r :: rest)) : nz_V y g k n ws pc ls st := by
  intro H locs la hP hD hS hL
  obtain ⟨hC, hA, hrun⟩ := hc
  have hFc := va_free hD hS hA isC hC
  refine va_calli (hrun H locs la hP hD hS hL) hS (fun q _ h => hFc q h) hFc (fun r u t H1 locs1 ht hvm hw hB hz1 hk1 hS1 => ?_)
  obtain ⟨hP1, hK1, hD1⟩ := hB
  rw [ht] at hP1
  obtain ⟨hP2, hD2⟩ := nz_merge hP hD isC hC (ha u) hk1 hP1
  rw [hm u] at hP2 hD2
  exact kk r u hw H1 locs1 la hP2 hD2 hS1 hL
theorem nz_cl {S : Type} {wc : va_W} {post : Int64 → S → Prop} {w1 ws' : S → va_W} {av : Array Value} {isC : List Nat} (hc : nz_C y g k n ws pc ls st rest wc (nz_Ql g wc post w1) av isC) (ha : ∀ u, (w1 u).map Prod.fst = wc.map Prod.fst) (hm : ∀ u, nz_mrg ws isC (w1 u) = ws' u)
    (kk : ∀ (r : Int64) (u : S), post r u → nz_V y g k n (ws' u) (pc + 3) ls (.long r :: rest)) : nz_V y g k n ws pc ls st := by
  intro H locs la hP hD hS hL
  obtain ⟨hC, hA, hrun⟩ := hc
  have hFc := va_free hD hS hA isC hC
  refine va_calll (hrun H locs la hP hD hS hL) hS (fun q _ h => hFc q h) hFc (fun r u t H1 locs1 ht hvm hw hB hz1 hk1 hS1 => ?_)
  obtain ⟨hP1, hK1, hD1⟩ := hB
  rw [ht] at hP1
  obtain ⟨hP2, hD2⟩ := nz_merge hP hD isC hC (ha u) hk1 hP1
  rw [hm u] at hP2 hD2
  exact kk r u hw H1 locs1 la hP2 hD2 hS1 hL
theorem nz_cv {S : Type} {wc : va_W} {post : S → Prop} {w1 ws' : S → va_W} {av : Array Value} {isC : List Nat} (hc : nz_C y g k n ws pc ls st rest wc (nz_Qv g wc post w1) av isC) (ha : ∀ u, (w1 u).map Prod.fst = wc.map Prod.fst) (hm : ∀ u, nz_mrg ws isC (w1 u) = ws' u)
    (kk : ∀ u : S, post u → nz_V y g k n (ws' u) (pc + 3) ls (rest)) : nz_V y g k n ws pc ls st := by
  intro H locs la hP hD hS hL
  obtain ⟨hC, hA, hrun⟩ := hc
  have hFc := va_free hD hS hA isC hC
  refine va_callv (hrun H locs la hP hD hS hL) hS (fun q _ h => hFc q h) hFc (fun  u t H1 locs1 ht hvm hw hB hz1 hk1 hS1 => ?_)
  obtain ⟨hP1, hK1, hD1⟩ := hB
  rw [ht] at hP1
  obtain ⟨hP2, hD2⟩ := nz_merge hP hD isC hC (ha u) hk1 hP1
  rw [hm u] at hP2 hD2
  exact kk  u hw H1 locs1 la hP2 hD2 hS1 hL
end NZV
