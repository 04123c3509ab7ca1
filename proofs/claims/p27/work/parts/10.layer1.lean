/-! the layer: ints as numbers, a heap as a function of addresses, one judgement gX with the locals as a list -/
def zI (z : Int) : Int32 := Int32.ofInt z
theorem zI_add (a b : Int) : zI a + zI b = zI (a + b) := by first | exact (Int32.ofInt_add a b).symm | (unfold zI; rw [Int32.ofInt_add])
theorem zI_sub (a b : Int) : zI a - zI b = zI (a - b) := by first | exact (Int32.ofInt_sub a b).symm | (unfold zI; rw [Int32.ofInt_sub])
theorem zI_mul (a b : Int) : zI a * zI b = zI (a * b) := by first | exact (Int32.ofInt_mul a b).symm | (unfold zI; rw [Int32.ofInt_mul])
theorem zI_neg (a : Int) : -zI a = zI (-a) := by first | exact (Int32.ofInt_neg a).symm | (unfold zI; rw [Int32.ofInt_neg])
theorem zI_of (x : Int32) : zI x.toInt = x := Int32.ofInt_toInt x
theorem zI_nat (n : Nat) : zI (n : Int) = nI n := by first | rfl | exact Int32.ofInt_eq_ofNat | simp [zI, nI]
theorem zI_toInt {z : Int} (h1 : -2147483648 ≤ z) (h2 : z ≤ 2147483647) : (zI z).toInt = z := Int32.toInt_ofInt_of_le (by omega) (by omega)
theorem zI_lt {a b : Int} (h1 : -2147483648 ≤ a) (h2 : a ≤ 2147483647) (h3 : -2147483648 ≤ b) (h4 : b ≤ 2147483647) : zI a < zI b ↔ a < b := by
  rw [Int32.lt_iff_toInt_lt, zI_toInt h1 h2, zI_toInt h3 h4]
theorem zI_le {a b : Int} (h1 : -2147483648 ≤ a) (h2 : a ≤ 2147483647) (h3 : -2147483648 ≤ b) (h4 : b ≤ 2147483647) : zI a ≤ zI b ↔ a ≤ b := by
  rw [Int32.le_iff_toInt_le, zI_toInt h1 h2, zI_toInt h3 h4]
theorem zI_eq {a b : Int} (h1 : -2147483648 ≤ a) (h2 : a ≤ 2147483647) (h3 : -2147483648 ≤ b) (h4 : b ≤ 2147483647) : zI a = zI b ↔ a = b := by
  rw [← Int32.toInt_inj, zI_toInt h1 h2, zI_toInt h3 h4]
theorem zI_0 : zI 0 = 0 := by decide +kernel
theorem zI_ix {i : Int} {n : Nat} (h1 : 0 ≤ i) (h2 : i < n) (hn : n < 2147483648) : vp_in (zI i) n ∧ (zI i).toNatClampNeg = i.toNat := by
  have e : (zI i).toInt = i := zI_toInt (by omega) (by omega)
  refine ⟨vp_in_iff.mpr ⟨by rw [e]; exact h1, by rw [e]; exact h2⟩, ?_⟩
  show (zI i).toInt.toNat = i.toNat
  rw [e]
abbrev iv (z : Int) : Value := .int (zI z)
abbrev rv (a : Nat) : Value := .ref a
def bAnd (a b : Int) : Int := (zI a &&& zI b).toInt
def bOr (a b : Int) : Int := (zI a ||| zI b).toInt
def bXor (a b : Int) : Int := (zI a ^^^ zI b).toInt
def bShl (a b : Int) : Int := (zI a <<< (zI b &&& 31)).toInt
def bShr (a b : Int) : Int := (zI a >>> (zI b &&& 31)).toInt
def bDiv (a b : Int) : Int := (zI a / zI b).toInt
def bB (a : Int) : Int := (zI a).toInt8.toInt32.toInt
/-- the world: what stands at an address -/
abbrev wd : Type := Nat → Option va_E
def ws1 (w : wd) (a : Nat) (e : va_E) : wd := fun q => if q = a then some e else w q
theorem ws1_s {w : wd} {a : Nat} {e : va_E} : ws1 w a e a = some e := if_pos rfl
theorem ws1_n {w : wd} {a q : Nat} {e : va_E} (h : q ≠ a) : ws1 w a e q = w q := if_neg h
theorem ws1_2 {w : wd} {a : Nat} {e e2 : va_E} : ws1 (ws1 w a e) a e2 = ws1 w a e2 := by
  funext q
  by_cases h : q = a
  · subst h; rw [ws1_s, ws1_s]
  · rw [ws1_n h, ws1_n h, ws1_n h]
theorem ws1_id {w : wd} {a : Nat} {e : va_E} (h : w a = some e) : ws1 w a e = w := by
  funext q
  by_cases hq : q = a
  · subst hq; rw [ws1_s, h]
  · rw [ws1_n hq]
theorem ws1_c {w : wd} {a b : Nat} {e e2 : va_E} (h : a ≠ b) : ws1 (ws1 w a e) b e2 = ws1 (ws1 w b e2) a e := by
  funext q
  by_cases h1 : q = a
  · subst h1; rw [ws1_n h, ws1_s, ws1_s]
  · by_cases h2 : q = b
    · subst h2; rw [ws1_s, ws1_n h1, ws1_s]
    · rw [ws1_n h2, ws1_n h1, ws1_n h1, ws1_n h2]
theorem wne {w : wd} {a b : Nat} {e e2 : va_E} (h1 : w a = some e) (h2 : w b = some e2) (h : e ≠ e2) : a ≠ b := fun z => h (by subst z; exact Option.some.inj (h1.symm.trans h2))
/-- the classes' and arrays' numbers: objects, byte[], int[], boolean[], Text[], int[][] -/
abbrev gK : Type := va_G × ClassId × ClassId × ClassId × ClassId × ClassId
abbrev gTys (G : gK) : List (ClassId × FieldType) := [(G.2.1, .byte), (G.2.2.1, .int), (G.2.2.2.1, .boolean), (G.2.2.2.2.1, .object RX1), (G.2.2.2.2.2, .array .int)]
def eA (c : ClassId) (n : Nat) (F : Int → Int) : va_E := .inl (c, n, .inl (fun k => zI (F (k : Int))))
def eB (G : gK) (n : Nat) (F : Int → Int) : va_E := eA G.2.1 n F
def eI (G : gK) (n : Nat) (F : Int → Int) : va_E := eA G.2.2.1 n F
def eZ (G : gK) (n : Nat) (F : Int → Int) : va_E := eA G.2.2.2.1 n F
def eQ (c : ClassId) (n : Nat) (f : Int → Option Nat) : va_E := .inl (c, n, .inr (.inr (.inr (.inr (fun k => f (k : Int))))))
def eT (G : gK) (n : Nat) (f : Int → Option Nat) : va_E := eQ G.2.2.2.2.1 n f
def eR (G : gK) (n : Nat) (f : Int → Option Nat) : va_E := eQ G.2.2.2.2.2 n f
def eO (ci : Nat) (fs : List Value) : va_E := .inr (ci, fs)
def uF (F : Int → Int) (i x : Int) : Int → Int := fun j => if j = i then x else F j
def uQ (f : Int → Option Nat) (i : Int) (x : Option Nat) : Int → Option Nat := fun j => if j = i then x else f j
theorem uF_s {F : Int → Int} {i x : Int} : uF F i x i = x := if_pos rfl
theorem uF_n {F : Int → Int} {i x j : Int} (h : j ≠ i) : uF F i x j = F j := if_neg h
theorem uQ_s {f : Int → Option Nat} {i : Int} {x : Option Nat} : uQ f i x i = x := if_pos rfl
theorem uQ_n {f : Int → Option Nat} {i j : Int} {x : Option Nat} (h : j ≠ i) : uQ f i x j = f j := if_neg h
/-- the heap holds the world; all of it lies from the base on -/
def gRep (D : va_G) (base : Nat) (w : wd) (H : Heap) : Prop := ∀ (a : Nat) (e : va_E), w a = some e → base ≤ a ∧ va_at D vwCl (a, e) H
abbrev gA (s0 : State) : Nat → Prop := fun q => s0.heap.size ≤ q
theorem gRep.set {D : va_G} {base : Nat} {w : wd} {H H1 : Heap} {a : Nat} {e0 e : va_E} (h : gRep D base w H) (ha : w a = some e0) (he : va_at D vwCl (a, e) H1) (oq : ∀ q : Nat, q ≠ a → H1[q]? = H[q]?) : gRep D base (ws1 w a e) H1 := by
  intro q x hx
  by_cases hq : q = a
  · subst hq
    rw [ws1_s] at hx
    cases hx
    exact ⟨(h _ _ ha).1, he⟩
  · rw [ws1_n hq] at hx
    exact ⟨(h _ _ hx).1, (h _ _ hx).2.kept (oq q hq)⟩
theorem gRep.push {D : va_G} {base : Nat} {w : wd} {H H1 : Heap} {e : va_E} (h : gRep D base w H) (hb : base ≤ H.size) (he : va_at D vwCl (H.size, e) H1) (oq : ∀ q : Nat, q < H.size → H1[q]? = H[q]?) : gRep D base (ws1 w H.size e) H1 ∧ w H.size = none := by
  have hn : w H.size = none := by
    cases hx : w H.size with
    | none => rfl
    | some x => exact absurd ((h _ _ hx).2.lt) (Nat.lt_irrefl _)
  refine ⟨fun q x hx => ?_, hn⟩
  by_cases hq : q = H.size
  · subst hq
    rw [ws1_s] at hx
    cases hx
    exact ⟨hb, he⟩
  · rw [ws1_n hq] at hx
    exact ⟨(h _ _ hx).1, (h _ _ hx).2.kept (oq q (h _ _ hx).2.lt)⟩
theorem gRep.keep {D : va_G} {base : Nat} {w : wd} {H H1 : Heap} (h : gRep D base w H) (oq : ∀ q : Nat, q < H.size → H1[q]? = H[q]?) : gRep D base w H1 := fun q x hx => ⟨(h _ _ hx).1, (h _ _ hx).2.kept (oq q (h _ _ hx).2.lt)⟩
/-- a start of the law: what the Statement gives there -/
def gS0 (s0 : State) : Prop := ∃ args : Array Value, (∀ w ∈ lw_tbl, w.before args s0 = true) ∧ (Jvm.Cond.and given_1 narrow_1).before args s0 = true
/-- a state behind that start: what lay below the base is as it was -/
def gEnv (s0 : State) (G : gK) (U : State) : Prop := s0.WarmedH U.vm ∧ s0.heap.size ≤ U.heap.size ∧ (∀ a : Nat, a < s0.heap.size → U.heap[a]? = s0.heap[a]?) ∧ va_K G.1 vwCl (gTys G) U
def gPc (s0 : State) (G : gK) (as : List Value) (w : wd) : Array Value → State → Prop := fun v U => v = as.toArray ∧ gEnv s0 G U ∧ gRep G.1 s0.heap.size w U.heap
def gQc (s0 : State) (G : gK) (Rt : Option Value → wd → Prop) : Array Value → State → Outcome → State → Prop := fun _ st oc t => (∃ (v : Option Value) (w' : wd), oc = .returned v ∧ Rt v w' ∧ gRep G.1 s0.heap.size w' t.heap) ∧ va_F (gA s0) st t
def gXc (s0 : State) (G : gK) (Xt : String → wd → Prop) : String → State → State → Prop := fun E st t => (∃ w' : wd, Xt E w' ∧ gRep G.1 s0.heap.size w' t.heap) ∧ va_F (gA s0) st t
/-- a contract: of a call of y with the arguments as over the world w -/
def gM (l : Launch) (s0 : State) (G : gK) (y : MethodName) (ws : List Cond) (rm : Room) (as : List Value) (w : wd) (Rt : Option Value → wd → Prop) (Xt : String → wd → Prop) : Prop := vx_Met l y ws rm (gPc s0 G as w) (gQc s0 G Rt) (gXc s0 G Xt) rm.cells rm.slots (gA s0)
abbrev noX : String → wd → Prop := fun _ _ => False
/-! a body under way -/
abbrev gBt : Type := Program × Launch × Env × Room × State × MethodId × Array Value × List Frame × Method × Code × (State → Prop)
def bp (b : gBt) : Program := b.1
def bl (b : gBt) : Launch := b.2.1
def be (b : gBt) : Env := b.2.2.1
def bR (b : gBt) : Room := b.2.2.2.1
def bs (b : gBt) : State := b.2.2.2.2.1
def bm (b : gBt) : MethodId := b.2.2.2.2.2.1
def ba (b : gBt) : Array Value := b.2.2.2.2.2.2.1
def bw (b : gBt) : List Frame := b.2.2.2.2.2.2.2.1
def bh (b : gBt) : Method := b.2.2.2.2.2.2.2.2.1
def bc (b : gBt) : Code := b.2.2.2.2.2.2.2.2.2.1
def bq (b : gBt) : State → Prop := b.2.2.2.2.2.2.2.2.2.2
def gX (b : gBt) (s0 : State) (G : gK) (k n pc : Nat) (L : List (Nat × Value)) (st : List Value) (w : wd) : Prop :=
  ∀ (H : Heap) (locs : List Loc) (ls : Array Slot), gRep G.1 s0.heap.size w H → va_S (gA s0) (bs b).heap H locs → lv_has ls (bc b).maxLocals L →
    W (bp b) (bl b) (be b) (bR b) (bs b) (bm b) (ba b) (bw b) (bh b) (bc b) H locs k n (bq b) (F0 (bm b) pc ls st)
/-- an exception on its way at pc -/
def gE (b : gBt) (s0 : State) (G : gK) (k n pc : Nat) (L : List (Nat × Value)) (st : List Value) (w : wd) (E : String) : Prop :=
  ∀ (H : Heap) (locs : List Loc) (ls : Array Slot) (ce : Cell) (q : Nat), gRep G.1 s0.heap.size w H → va_S (gA s0) (bs b).heap H locs → lv_has ls (bc b).maxLocals L → H[q]? = some ce → ce.vm = .none → (bs b).vm.findClass E = some ce.cls →
    vx_W (bp b) (bl b) (be b) (bR b) (bs b) (bm b) (ba b) (bw b) (bh b) (bc b) H locs k n (bq b) (F0 (bm b) pc ls st) q
/-- what a body knows of where it stands -/
def gAm (b : gBt) (l : Launch) (s0 : State) (G : gK) (cc : ByteArray) (own : String) (nL : Nat) (rm : Room) : Prop :=
  (bp b).tables.exec = Jvm.exec ∧ (bc b).code = cc ∧ (bs b).vm.findClass own = some (bm b).cls ∧ gS0 s0 ∧ gEnv s0 G (bs b) ∧ (bh b).locks = false ∧ (bl b).stackTraces = false ∧ (bc b).maxLocals = nL ∧ bR b = rm ∧ bl b = l
/-- .. and of its end -/
def gQm (b : gBt) (s0 : State) (G : gK) (ret : Option FieldType) (rm : Room) (nm : String) (tb : List ExceptionTableEntry) (Rt : Option Value → wd → Prop) (Xt : String → wd → Prop) : Prop :=
  (bh b).sig.returnType = ret ∧ (bc b).exceptionTable.toList = tb ∧ bq b = vx_MQ (bw b) (gQc s0 G Rt) (gXc s0 G Xt) (ba b) (bs b) rm.cells rm.slots (gA s0) ∧ (bh b).name = nm
theorem gRep.one {D : va_G} {base : Nat} {w : wd} {H : Heap} (h : gRep D base w H) {a : Nat} {e : va_E} (ha : w a = some e) : va_P D vwCl [(a, e)] H := by
  intro k q hk
  have hz : k < 1 := (List.getElem?_eq_some_iff.mp hk).1
  rw [show k = 0 by omega] at hk
  cases hk
  exact (h a e ha).2
/-- a word of the tables that lasts -/
def gw2 (w : Cond) : Bool := match w with
  | .castable _ _ => true
  | .methodLinkNest _ _ _ _ => true
  | .fieldLinkNest _ _ _ _ _ _ => true
  | .declares _ => true
  | w => goodWord w
def gT : List Cond := lw_tbl.filter gw2
theorem gt_of {w : Cond} (i : Nat) (h : lw_tbl[i]? = some w) (g : gw2 w = true) : w ∈ gT := List.mem_filter.mpr ⟨List.mem_of_getElem? h, g⟩
theorem g_lasts {s0 s : State} {args : Array Value} {w : Cond} (h0 : gS0 s0) (hW : s0.WarmedH s.vm) (hw : w ∈ gT) : w.before args s = true := by
  obtain ⟨a0, h1, -⟩ := h0
  obtain ⟨hm, hg⟩ := List.mem_filter.mp hw
  have hb := h1 w hm
  unfold gw2 at hg
  split at hg
  · exact va_tabs rfl rfl (va_Nw.warmC hW (va_tabs rfl rfl hb))
  · exact va_tabs rfl rfl (va_Nw.warmM hW (va_tabs rfl rfl hb))
  · exact va_tabs rfl rfl (va_Nw.warmF hW (va_tabs rfl rfl hb))
  · exact va_tabs rfl rfl (va_Nw.warmD hW (va_tabs rfl rfl hb))
  · exact word_at hW (good_of_word hg) hb
/-! locals -/
def gl (L : List (Nat × Value)) (i : Nat) : Option Value := match L with
  | [] => none
  | (j, v) :: r => match Nat.beq j i with
    | true => some v
    | false => gl r i
theorem gl_mem {i : Nat} {v : Value} : ∀ (L : List (Nat × Value)), gl L i = some v → (i, v) ∈ L
  | [], h => by cases h
  | (j, u) :: r, h => by
    unfold gl at h
    cases hb : Nat.beq j i with
    | true =>
      rw [hb] at h
      have e := Nat.eq_of_beq_eq_true hb
      subst e
      cases h
      exact List.mem_cons_self
    | false =>
      rw [hb] at h
      exact List.mem_cons_of_mem _ (gl_mem r h)
theorem gl_at {ls : Array Slot} {nL : Nat} {L : List (Nat × Value)} {i : Nat} {v : Value} (h : lv_has ls nL L) (hl : gl L i = some v) : ls[i]? = some (.val v) := h.2.2 (i, v) (gl_mem L hl)
abbrev lset (L : List (Nat × Value)) (i : Nat) (v : Value) : List (Nat × Value) := (i, v) :: L.filter (fun q => !(q.1 == i) && !(q.1 + 1 == i && q.2.category == 2))
abbrev lset2 (L : List (Nat × Value)) (i : Nat) (v : Value) : List (Nat × Value) := (i, v) :: L.filter (fun q => !(q.1 == i) && (!(q.1 == i + 1) && !(q.1 + 1 == i && q.2.category == 2)))
theorem zI_bAnd (a b : Int) : zI (bAnd a b) = zI a &&& zI b := zI_of _
theorem zI_bOr (a b : Int) : zI (bOr a b) = zI a ||| zI b := zI_of _
theorem zI_bXor (a b : Int) : zI (bXor a b) = zI a ^^^ zI b := zI_of _
theorem zI_bShl (a b : Int) : zI (bShl a b) = zI a <<< (zI b &&& 31) := zI_of _
theorem zI_bShr (a b : Int) : zI (bShr a b) = zI a >>> (zI b &&& 31) := zI_of _
theorem zI_bDiv (a b : Int) : zI (bDiv a b) = zI a / zI b := zI_of _
theorem zI_bB (a : Int) : zI (bB a) = (zI a).toInt8.toInt32 := zI_of _
def b2 (q : Bool) : Int := match q with
  | true => 1
  | false => 0
abbrev inr (z : Int) : Prop := -2147483648 ≤ z ∧ z ≤ 2147483647
section GR
variable {b : gBt} {l : Launch} {s0 : State} {G : gK} {cc : ByteArray} {own : String} {nL : Nat} {rm : Room} {k n pc : Nat} {L : List (Nat × Value)} {st : List Value} {w : wd}
theorem gAm.word (Z : gAm b l s0 G cc own nL rm) {q : Cond} (hq : q ∈ gT) : q.before (ba b) (bs b) = true := by
  obtain ⟨-, -, -, h0, hE, -⟩ := Z
  exact g_lasts h0 hE.1 hq
theorem x_sub (ks : List Nat) {L' : List (Nat × Value)} (h : lv_pick L ks = L') (kk : gX b s0 G k n pc L' st w) : gX b s0 G k n pc L st w :=
  fun H locs ls hP hS hl => kk H locs ls hP hS (lv_sub hl ks h)
theorem x_wd {k' n' : Nat} (h1 : k ≤ k') (h2 : n ≤ n') (kk : gX b s0 G k' n' pc L st w) : gX b s0 G k n pc L st w :=
  fun H locs ls hP hS hl => W.widen h1 h2 (kk H locs ls hP hS hl)
theorem x_ew {w' : wd} (h : w = w') (kk : gX b s0 G k n pc L st w') : gX b s0 G k n pc L st w := h ▸ kk
theorem x_es {st' : List Value} (h : st = st') (kk : gX b s0 G k n pc L st' w) : gX b s0 G k n pc L st w := h ▸ kk
theorem x_el {L' : List (Nat × Value)} (h : L = L') (kk : gX b s0 G k n pc L' st w) : gX b s0 G k n pc L st w := h ▸ kk
/-- the top of the stack under another name -/
theorem x_tp {x y : Int} (h : x = y) (kk : gX b s0 G k n pc L (iv y :: st) w) : gX b s0 G k n pc L (iv x :: st) w := h ▸ kk
theorem x_iconst (Z : gAm b l s0 G cc own nL rm) {z : Int} (d : decode cc pc = .ok (.iconst z, 1)) (kk : gX b s0 G k n (pc + 1) L (iv z :: st) w) : gX b s0 G k n pc L st w := by
  obtain ⟨hx, hb, -⟩ := Z
  exact fun H locs ls hP hS hl => lv_iconst hx hb d rfl (kk H locs ls hP hS hl)
theorem x_bipush (Z : gAm b l s0 G cc own nL rm) {z : Int} (d : decode cc pc = .ok (.bipush z, 2)) (hz : (Int8.ofInt z).toInt32 = zI z) (kk : gX b s0 G k n (pc + 2) L (iv z :: st) w) : gX b s0 G k n pc L st w := by
  obtain ⟨hx, hb, -⟩ := Z
  exact fun H locs ls hP hS hl => lv_bipush hx hb d hz (kk H locs ls hP hS hl)
theorem x_sipush (Z : gAm b l s0 G cc own nL rm) {z : Int} (d : decode cc pc = .ok (.sipush z, 3)) (hz : (Int16.ofInt z).toInt32 = zI z) (kk : gX b s0 G k n (pc + 3) L (iv z :: st) w) : gX b s0 G k n pc L st w := by
  obtain ⟨hx, hb, -⟩ := Z
  exact fun H locs ls hP hS hl => lv_sipush hx hb d hz (kk H locs ls hP hS hl)
theorem x_ldc (Z : gAm b l s0 G cc own nL rm) {i : Nat} {v : Int32} {z : Int} (hc : Cond.constant own i v ∈ gT) (hz : v = zI z) (d : decode cc pc = .ok (.ldc i, 2)) (kk : gX b s0 G k n (pc + 2) L (iv z :: st) w) : gX b s0 G k n pc L st w := by
  have hc' := Z.word hc
  obtain ⟨hx, hb, ho, -⟩ := Z
  subst hz
  exact fun H locs ls hP hS hl => lv_ldc hx hb ho hc' d (kk H locs ls hP hS hl)
theorem x_iload_n (Z : gAm b l s0 G cc own nL rm) {q : Fin 4} {i : Nat} {x : Int32} (d : decode cc pc = .ok (.iload_n q, 1)) (hi : (q : Nat) = i) (hL : gl L i = some (.int x)) (kk : gX b s0 G k n (pc + 1) L (.int x :: st) w) : gX b s0 G k n pc L st w := by
  obtain ⟨hx, hb, -⟩ := Z
  exact fun H locs ls hP hS hl => lv_iload_n hx hb d hi (gl_at hl hL) (kk H locs ls hP hS hl)
theorem x_iload (Z : gAm b l s0 G cc own nL rm) {i : Nat} {x : Int32} (d : decode cc pc = .ok (.iload i, 2)) (hL : gl L i = some (.int x)) (kk : gX b s0 G k n (pc + 2) L (.int x :: st) w) : gX b s0 G k n pc L st w := by
  obtain ⟨hx, hb, -⟩ := Z
  exact fun H locs ls hP hS hl => lv_iload hx hb d (gl_at hl hL) (kk H locs ls hP hS hl)
theorem x_aload_n (Z : gAm b l s0 G cc own nL rm) {q : Fin 4} {i : Nat} {x : Nat} (d : decode cc pc = .ok (.aload_n q, 1)) (hi : (q : Nat) = i) (hL : gl L i = some (.ref x)) (kk : gX b s0 G k n (pc + 1) L (.ref x :: st) w) : gX b s0 G k n pc L st w := by
  obtain ⟨hx, hb, -⟩ := Z
  exact fun H locs ls hP hS hl => lv_aload_n hx hb d hi (gl_at hl hL) (kk H locs ls hP hS hl)
theorem x_aload (Z : gAm b l s0 G cc own nL rm) {i : Nat} {x : Nat} (d : decode cc pc = .ok (.aload i, 2)) (hL : gl L i = some (.ref x)) (kk : gX b s0 G k n (pc + 2) L (.ref x :: st) w) : gX b s0 G k n pc L st w := by
  obtain ⟨hx, hb, -⟩ := Z
  exact fun H locs ls hP hS hl => lv_aload hx hb d (gl_at hl hL) (kk H locs ls hP hS hl)
theorem x_lload_n (Z : gAm b l s0 G cc own nL rm) {q : Fin 4} {i : Nat} {x : Int64} (d : decode cc pc = .ok (.lload_n q, 1)) (hi : (q : Nat) = i) (hL : gl L i = some (.long x)) (kk : gX b s0 G k n (pc + 1) L (.long x :: st) w) : gX b s0 G k n pc L st w := by
  obtain ⟨hx, hb, -⟩ := Z
  exact fun H locs ls hP hS hl => lv_lload_n hx hb d hi (gl_at hl hL) (kk H locs ls hP hS hl)
theorem x_istore_n (Z : gAm b l s0 G cc own nL rm) {q : Fin 4} {i : Nat} {x : Int32} {L' : List (Nat × Value)} (d : decode cc pc = .ok (.istore_n q, 1)) (hi : (q : Nat) = i) (hn : i < nL) (hL : lset L i (.int x) = L') (kk : gX b s0 G k n (pc + 1) L' st w) : gX b s0 G k n pc L (.int x :: st) w := by
  obtain ⟨hx, hb, -, -, -, -, -, hml, -⟩ := Z
  exact fun H locs ls hP hS hl => lv_istore_n hx hb d hi hl (by rw [hml]; exact hn) hL (fun ls' hl' => kk H locs ls' hP hS hl')
theorem x_istore (Z : gAm b l s0 G cc own nL rm) {i : Nat} {x : Int32} {L' : List (Nat × Value)} (d : decode cc pc = .ok (.istore i, 2)) (hn : i < nL) (hL : lset L i (.int x) = L') (kk : gX b s0 G k n (pc + 2) L' st w) : gX b s0 G k n pc L (.int x :: st) w := by
  obtain ⟨hx, hb, -, -, -, -, -, hml, -⟩ := Z
  exact fun H locs ls hP hS hl => lv_istore hx hb d hl (by rw [hml]; exact hn) hL (fun ls' hl' => kk H locs ls' hP hS hl')
theorem x_astore_n (Z : gAm b l s0 G cc own nL rm) {q : Fin 4} {i : Nat} {x : Nat} {L' : List (Nat × Value)} (d : decode cc pc = .ok (.astore_n q, 1)) (hi : (q : Nat) = i) (hn : i < nL) (hL : lset L i (.ref x) = L') (kk : gX b s0 G k n (pc + 1) L' st w) : gX b s0 G k n pc L (.ref x :: st) w := by
  obtain ⟨hx, hb, -, -, -, -, -, hml, -⟩ := Z
  exact fun H locs ls hP hS hl => lv_astore_n hx hb d hi hl (by rw [hml]; exact hn) hL (fun ls' hl' => kk H locs ls' hP hS hl')
theorem x_astore (Z : gAm b l s0 G cc own nL rm) {i : Nat} {x : Nat} {L' : List (Nat × Value)} (d : decode cc pc = .ok (.astore i, 2)) (hn : i < nL) (hL : lset L i (.ref x) = L') (kk : gX b s0 G k n (pc + 2) L' st w) : gX b s0 G k n pc L (.ref x :: st) w := by
  obtain ⟨hx, hb, -, -, -, -, -, hml, -⟩ := Z
  exact fun H locs ls hP hS hl => lv_astore hx hb d hl (by rw [hml]; exact hn) hL (fun ls' hl' => kk H locs ls' hP hS hl')
theorem x_lstore_n (Z : gAm b l s0 G cc own nL rm) {q : Fin 4} {i : Nat} {x : Int64} {L' : List (Nat × Value)} (d : decode cc pc = .ok (.lstore_n q, 1)) (hi : (q : Nat) = i) (hn : i + 1 < nL) (hL : lset2 L i (.long x) = L') (kk : gX b s0 G k n (pc + 1) L' st w) : gX b s0 G k n pc L (.long x :: st) w := by
  obtain ⟨hx, hb, -, -, -, -, -, hml, -⟩ := Z
  exact fun H locs ls hP hS hl => lv_lstore_n hx hb d hi hl (by rw [hml]; exact hn) hL (fun ls' hl' => kk H locs ls' hP hS hl')
theorem x_iinc (Z : gAm b l s0 G cc own nL rm) {i : Nat} {z c : Int} {L' : List (Nat × Value)} (d : decode cc pc = .ok (.iinc i c, 3)) (hl0 : gl L i = some (iv z)) (hn : i < nL) (hL : lset L i (iv (z + c)) = L') (kk : gX b s0 G k n (pc + 3) L' st w) : gX b s0 G k n pc L st w := by
  obtain ⟨hx, hb, -, -, -, -, -, hml, -⟩ := Z
  obtain ⟨j, hj⟩ := List.getElem?_of_mem (gl_mem L hl0)
  exact fun H locs ls hP hS hl => lv_iinc hx hb d hl hj (zI_add z c) (by rw [hml]; exact hn) hL (fun ls' hl' => kk H locs ls' hP hS hl')
theorem x_iadd (Z : gAm b l s0 G cc own nL rm) {x y : Int} (d : decode cc pc = .ok (.iadd, 1)) (kk : gX b s0 G k n (pc + 1) L (iv (x + y) :: st) w) : gX b s0 G k n pc L (iv y :: iv x :: st) w := by
  obtain ⟨hx, hb, -⟩ := Z
  exact fun H locs ls hP hS hl => lv_iadd hx hb d (by rw [zI_add]; exact kk H locs ls hP hS hl)
theorem x_isub (Z : gAm b l s0 G cc own nL rm) {x y : Int} (d : decode cc pc = .ok (.isub, 1)) (kk : gX b s0 G k n (pc + 1) L (iv (x - y) :: st) w) : gX b s0 G k n pc L (iv y :: iv x :: st) w := by
  obtain ⟨hx, hb, -⟩ := Z
  exact fun H locs ls hP hS hl => lv_isub hx hb d (by rw [zI_sub]; exact kk H locs ls hP hS hl)
theorem x_imul (Z : gAm b l s0 G cc own nL rm) {x y : Int} (d : decode cc pc = .ok (.imul, 1)) (kk : gX b s0 G k n (pc + 1) L (iv (x * y) :: st) w) : gX b s0 G k n pc L (iv y :: iv x :: st) w := by
  obtain ⟨hx, hb, -⟩ := Z
  exact fun H locs ls hP hS hl => lv_imul hx hb d (by rw [zI_mul]; exact kk H locs ls hP hS hl)
theorem x_iand (Z : gAm b l s0 G cc own nL rm) {x y : Int} (d : decode cc pc = .ok (.iand, 1)) (kk : gX b s0 G k n (pc + 1) L (iv (bAnd x y) :: st) w) : gX b s0 G k n pc L (iv y :: iv x :: st) w := by
  obtain ⟨hx, hb, -⟩ := Z
  exact fun H locs ls hP hS hl => lv_iand hx hb d (by rw [← zI_bAnd]; exact kk H locs ls hP hS hl)
theorem x_ior (Z : gAm b l s0 G cc own nL rm) {x y : Int} (d : decode cc pc = .ok (.ior, 1)) (kk : gX b s0 G k n (pc + 1) L (iv (bOr x y) :: st) w) : gX b s0 G k n pc L (iv y :: iv x :: st) w := by
  obtain ⟨hx, hb, -⟩ := Z
  exact fun H locs ls hP hS hl => lv_ior hx hb d (by rw [← zI_bOr]; exact kk H locs ls hP hS hl)
theorem x_ixor (Z : gAm b l s0 G cc own nL rm) {x y : Int} (d : decode cc pc = .ok (.ixor, 1)) (kk : gX b s0 G k n (pc + 1) L (iv (bXor x y) :: st) w) : gX b s0 G k n pc L (iv y :: iv x :: st) w := by
  obtain ⟨hx, hb, -⟩ := Z
  exact fun H locs ls hP hS hl => lv_ixor hx hb d (by rw [← zI_bXor]; exact kk H locs ls hP hS hl)
theorem x_ishl (Z : gAm b l s0 G cc own nL rm) {x y : Int} (d : decode cc pc = .ok (.ishl, 1)) (kk : gX b s0 G k n (pc + 1) L (iv (bShl x y) :: st) w) : gX b s0 G k n pc L (iv y :: iv x :: st) w := by
  obtain ⟨hx, hb, -⟩ := Z
  exact fun H locs ls hP hS hl => lv_ishl hx hb d (by rw [← zI_bShl]; exact kk H locs ls hP hS hl)
theorem x_ishr (Z : gAm b l s0 G cc own nL rm) {x y : Int} (d : decode cc pc = .ok (.ishr, 1)) (kk : gX b s0 G k n (pc + 1) L (iv (bShr x y) :: st) w) : gX b s0 G k n pc L (iv y :: iv x :: st) w := by
  obtain ⟨hx, hb, -⟩ := Z
  exact fun H locs ls hP hS hl => lv_ishr hx hb d (by rw [← zI_bShr]; exact kk H locs ls hP hS hl)
theorem x_idiv (Z : gAm b l s0 G cc own nL rm) {x y : Int} (d : decode cc pc = .ok (.idiv, 1)) (hr : inr y) (hy : y ≠ 0) (kk : gX b s0 G k n (pc + 1) L (iv (bDiv x y) :: st) w) : gX b s0 G k n pc L (iv y :: iv x :: st) w := by
  obtain ⟨hx, hb, -⟩ := Z
  exact fun H locs ls hP hS hl => lv_idiv hx hb d (fun q => hy ((zI_eq hr.1 hr.2 (by omega) (by omega)).mp (q.trans zI_0.symm))) (by rw [← zI_bDiv]; exact kk H locs ls hP hS hl)
theorem x_i2b (Z : gAm b l s0 G cc own nL rm) {x : Int} (d : decode cc pc = .ok (.i2b, 1)) (kk : gX b s0 G k n (pc + 1) L (iv (bB x) :: st) w) : gX b s0 G k n pc L (iv x :: st) w := by
  obtain ⟨hx, hb, -⟩ := Z
  exact fun H locs ls hP hS hl => lv_i2b hx hb d (zI_bB x).symm (kk H locs ls hP hS hl)
theorem x_i2l (Z : gAm b l s0 G cc own nL rm) {x : Int32} (d : decode cc pc = .ok (.i2l, 1)) (kk : gX b s0 G k n (pc + 1) L (.long x.toInt64 :: st) w) : gX b s0 G k n pc L (.int x :: st) w := by
  obtain ⟨hx, hb, -⟩ := Z
  exact fun H locs ls hP hS hl => lv_i2l hx hb d rfl (kk H locs ls hP hS hl)
theorem x_ladd (Z : gAm b l s0 G cc own nL rm) {x y : Int64} (d : decode cc pc = .ok (.ladd, 1)) (kk : gX b s0 G k n (pc + 1) L (.long (x + y) :: st) w) : gX b s0 G k n pc L (.long y :: .long x :: st) w := by
  obtain ⟨hx, hb, -⟩ := Z
  exact fun H locs ls hP hS hl => lv_ladd hx hb d (kk H locs ls hP hS hl)
theorem x_lmul (Z : gAm b l s0 G cc own nL rm) {x y : Int64} (d : decode cc pc = .ok (.lmul, 1)) (kk : gX b s0 G k n (pc + 1) L (.long (x * y) :: st) w) : gX b s0 G k n pc L (.long y :: .long x :: st) w := by
  obtain ⟨hx, hb, -⟩ := Z
  exact fun H locs ls hP hS hl => lv_lmul hx hb d (kk H locs ls hP hS hl)
theorem x_lconst (Z : gAm b l s0 G cc own nL rm) {q : Fin 2} (d : decode cc pc = .ok (.lconst q, 1)) (kk : gX b s0 G k n (pc + 1) L (.long (Int64.ofNat (q : Nat)) :: st) w) : gX b s0 G k n pc L st w := by
  obtain ⟨hx, hb, -⟩ := Z
  exact fun H locs ls hP hS hl => lv_lconst hx hb d rfl (kk H locs ls hP hS hl)
theorem x_ldc2 (Z : gAm b l s0 G cc own nL rm) {i : Nat} {v : Int64} (hc : Cond.constantLong own i v ∈ gT) (d : decode cc pc = .ok (.ldc2_w i, 3)) (kk : gX b s0 G k n (pc + 3) L (.long v :: st) w) : gX b s0 G k n pc L st w := by
  have hc' := Z.word hc
  obtain ⟨hx, hb, ho, -⟩ := Z
  exact fun H locs ls hP hS hl => lv_ldc2 hx hb ho hc' d (kk H locs ls hP hS hl)
theorem x_dup (Z : gAm b l s0 G cc own nL rm) {v : Value} (d : decode cc pc = .ok (.dup, 1)) (hv : v.category = 1) (kk : gX b s0 G k n (pc + 1) L (v :: v :: st) w) : gX b s0 G k n pc L (v :: st) w := by
  obtain ⟨hx, hb, -⟩ := Z
  exact fun H locs ls hP hS hl => lv_dup hx hb d hv (kk H locs ls hP hS hl)
theorem x_pop (Z : gAm b l s0 G cc own nL rm) {v : Value} (d : decode cc pc = .ok (.pop, 1)) (hv : v.category = 1) (kk : gX b s0 G k n (pc + 1) L st w) : gX b s0 G k n pc L (v :: st) w := by
  obtain ⟨hx, hb, -⟩ := Z
  exact fun H locs ls hP hS hl => lv_pop hx hb d hv (kk H locs ls hP hS hl)
theorem x_pop2_2 (Z : gAm b l s0 G cc own nL rm) {v : Value} (d : decode cc pc = .ok (.pop2, 1)) (hv : v.category = 2) (kk : gX b s0 G k n (pc + 1) L st w) : gX b s0 G k n pc L (v :: st) w := by
  obtain ⟨hx, hb, -⟩ := Z
  exact fun H locs ls hP hS hl => lv_pop2_2 hx hb d hv (kk H locs ls hP hS hl)
theorem x_dup_x1 (Z : gAm b l s0 G cc own nL rm) {v u : Value} (d : decode cc pc = .ok (.dup_x1, 1)) (hv : v.category = 1) (hu : u.category = 1) (kk : gX b s0 G k n (pc + 1) L (v :: u :: v :: st) w) : gX b s0 G k n pc L (v :: u :: st) w := by
  obtain ⟨hx, hb, -⟩ := Z
  exact fun H locs ls hP hS hl => lv_dup_x1 hx hb d hv hu (kk H locs ls hP hS hl)
theorem x_dup2 (Z : gAm b l s0 G cc own nL rm) {v u : Value} (d : decode cc pc = .ok (.dup2, 1)) (hv : v.category = 1) (hu : u.category = 1) (kk : gX b s0 G k n (pc + 1) L (v :: u :: v :: u :: st) w) : gX b s0 G k n pc L (v :: u :: st) w := by
  obtain ⟨hx, hb, -⟩ := Z
  exact fun H locs ls hP hS hl => lv_dup2_11 hx hb d hv hu (kk H locs ls hP hS hl)
theorem x_goto (Z : gAm b l s0 G cc own nL rm) {off : Int} (t : Nat) (d : decode cc pc = .ok (.goto off, 3)) (ht : (pc : Int) + off = (t : Int)) (kk : gX b s0 G k n t L st w) : gX b s0 G k n pc L st w := by
  obtain ⟨hx, hb, -⟩ := Z
  exact fun H locs ls hP hS hl => lv_goto hx hb d ht (kk H locs ls hP hS hl)
theorem x_icmp_eq (Z : gAm b l s0 G cc own nL rm) {x y off : Int} (t : Nat) (d : decode cc pc = .ok (.if_icmp .eq off, 3)) (ht : (pc : Int) + off = (t : Int)) (rx : inr x) (ry : inr y) (kt : x = y → gX b s0 G k n t L st w) (kf : x ≠ y → gX b s0 G k n (pc + 3) L st w) : gX b s0 G k n pc L (iv y :: iv x :: st) w := by
  obtain ⟨hx, hb, -⟩ := Z
  have e := zI_eq rx.1 rx.2 ry.1 ry.2
  exact fun H locs ls hP hS hl => lv_icmp_eq hx hb d ht (fun h => kt (e.mp h) H locs ls hP hS hl) (fun h => kf (fun q => h (e.mpr q)) H locs ls hP hS hl)
theorem x_if_eq (Z : gAm b l s0 G cc own nL rm) {x off : Int} (t : Nat) (d : decode cc pc = .ok (.ifCond .eq off, 3)) (ht : (pc : Int) + off = (t : Int)) (rx : inr x) (kt : x = 0 → gX b s0 G k n t L st w) (kf : x ≠ 0 → gX b s0 G k n (pc + 3) L st w) : gX b s0 G k n pc L (iv x :: st) w := by
  obtain ⟨hx, hb, -⟩ := Z
  have r0 : inr 0 := ⟨by omega, by omega⟩
  have e : zI x = 0 ↔ x = 0 := by rw [← zI_0]; exact zI_eq rx.1 rx.2 r0.1 r0.2
  exact fun H locs ls hP hS hl => lv_if_eq hx hb d ht (fun h => kt (e.mp h) H locs ls hP hS hl) (fun h => kf (fun q => h (e.mpr q)) H locs ls hP hS hl)
theorem x_icmp_ne (Z : gAm b l s0 G cc own nL rm) {x y off : Int} (t : Nat) (d : decode cc pc = .ok (.if_icmp .ne off, 3)) (ht : (pc : Int) + off = (t : Int)) (rx : inr x) (ry : inr y) (kt : x ≠ y → gX b s0 G k n t L st w) (kf : x = y → gX b s0 G k n (pc + 3) L st w) : gX b s0 G k n pc L (iv y :: iv x :: st) w := by
  obtain ⟨hx, hb, -⟩ := Z
  have e := zI_eq rx.1 rx.2 ry.1 ry.2
  exact fun H locs ls hP hS hl => lv_icmp_ne hx hb d ht (fun h => kt (fun q => h (e.mpr q)) H locs ls hP hS hl) (fun h => kf (e.mp h) H locs ls hP hS hl)
theorem x_if_ne (Z : gAm b l s0 G cc own nL rm) {x off : Int} (t : Nat) (d : decode cc pc = .ok (.ifCond .ne off, 3)) (ht : (pc : Int) + off = (t : Int)) (rx : inr x) (kt : x ≠ 0 → gX b s0 G k n t L st w) (kf : x = 0 → gX b s0 G k n (pc + 3) L st w) : gX b s0 G k n pc L (iv x :: st) w := by
  obtain ⟨hx, hb, -⟩ := Z
  have r0 : inr 0 := ⟨by omega, by omega⟩
  have e : zI x = 0 ↔ x = 0 := by rw [← zI_0]; exact zI_eq rx.1 rx.2 r0.1 r0.2
  exact fun H locs ls hP hS hl => lv_if_ne hx hb d ht (fun h => kt (fun q => h (e.mpr q)) H locs ls hP hS hl) (fun h => kf (e.mp h) H locs ls hP hS hl)
theorem x_icmp_lt (Z : gAm b l s0 G cc own nL rm) {x y off : Int} (t : Nat) (d : decode cc pc = .ok (.if_icmp .lt off, 3)) (ht : (pc : Int) + off = (t : Int)) (rx : inr x) (ry : inr y) (kt : x < y → gX b s0 G k n t L st w) (kf : y ≤ x → gX b s0 G k n (pc + 3) L st w) : gX b s0 G k n pc L (iv y :: iv x :: st) w := by
  obtain ⟨hx, hb, -⟩ := Z
  have e := zI_lt rx.1 rx.2 ry.1 ry.2
  exact fun H locs ls hP hS hl => lv_icmp_lt hx hb d ht (fun h => kt (e.mp h) H locs ls hP hS hl) (fun h => kf (Int.not_lt.mp (fun q => h (e.mpr q))) H locs ls hP hS hl)
theorem x_if_lt (Z : gAm b l s0 G cc own nL rm) {x off : Int} (t : Nat) (d : decode cc pc = .ok (.ifCond .lt off, 3)) (ht : (pc : Int) + off = (t : Int)) (rx : inr x) (kt : x < 0 → gX b s0 G k n t L st w) (kf : 0 ≤ x → gX b s0 G k n (pc + 3) L st w) : gX b s0 G k n pc L (iv x :: st) w := by
  obtain ⟨hx, hb, -⟩ := Z
  have r0 : inr 0 := ⟨by omega, by omega⟩
  have e : zI x < 0 ↔ x < 0 := by rw [← zI_0]; exact zI_lt rx.1 rx.2 r0.1 r0.2
  exact fun H locs ls hP hS hl => lv_if_lt hx hb d ht (fun h => kt (e.mp h) H locs ls hP hS hl) (fun h => kf (Int.not_lt.mp (fun q => h (e.mpr q))) H locs ls hP hS hl)
theorem x_icmp_ge (Z : gAm b l s0 G cc own nL rm) {x y off : Int} (t : Nat) (d : decode cc pc = .ok (.if_icmp .ge off, 3)) (ht : (pc : Int) + off = (t : Int)) (rx : inr x) (ry : inr y) (kt : y ≤ x → gX b s0 G k n t L st w) (kf : x < y → gX b s0 G k n (pc + 3) L st w) : gX b s0 G k n pc L (iv y :: iv x :: st) w := by
  obtain ⟨hx, hb, -⟩ := Z
  have e := zI_le ry.1 ry.2 rx.1 rx.2
  exact fun H locs ls hP hS hl => lv_icmp_ge hx hb d ht (fun h => kt (e.mp h) H locs ls hP hS hl) (fun h => kf (Int.not_le.mp (fun q => h (e.mpr q))) H locs ls hP hS hl)
theorem x_if_ge (Z : gAm b l s0 G cc own nL rm) {x off : Int} (t : Nat) (d : decode cc pc = .ok (.ifCond .ge off, 3)) (ht : (pc : Int) + off = (t : Int)) (rx : inr x) (kt : 0 ≤ x → gX b s0 G k n t L st w) (kf : x < 0 → gX b s0 G k n (pc + 3) L st w) : gX b s0 G k n pc L (iv x :: st) w := by
  obtain ⟨hx, hb, -⟩ := Z
  have r0 : inr 0 := ⟨by omega, by omega⟩
  have e : 0 ≤ zI x ↔ 0 ≤ x := by rw [← zI_0]; exact zI_le r0.1 r0.2 rx.1 rx.2
  exact fun H locs ls hP hS hl => lv_if_ge hx hb d ht (fun h => kt (e.mp h) H locs ls hP hS hl) (fun h => kf (Int.not_le.mp (fun q => h (e.mpr q))) H locs ls hP hS hl)
theorem x_icmp_gt (Z : gAm b l s0 G cc own nL rm) {x y off : Int} (t : Nat) (d : decode cc pc = .ok (.if_icmp .gt off, 3)) (ht : (pc : Int) + off = (t : Int)) (rx : inr x) (ry : inr y) (kt : y < x → gX b s0 G k n t L st w) (kf : x ≤ y → gX b s0 G k n (pc + 3) L st w) : gX b s0 G k n pc L (iv y :: iv x :: st) w := by
  obtain ⟨hx, hb, -⟩ := Z
  have e := zI_lt ry.1 ry.2 rx.1 rx.2
  exact fun H locs ls hP hS hl => lv_icmp_gt hx hb d ht (fun h => kt (e.mp h) H locs ls hP hS hl) (fun h => kf (Int.not_lt.mp (fun q => h (e.mpr q))) H locs ls hP hS hl)
theorem x_if_gt (Z : gAm b l s0 G cc own nL rm) {x off : Int} (t : Nat) (d : decode cc pc = .ok (.ifCond .gt off, 3)) (ht : (pc : Int) + off = (t : Int)) (rx : inr x) (kt : 0 < x → gX b s0 G k n t L st w) (kf : x ≤ 0 → gX b s0 G k n (pc + 3) L st w) : gX b s0 G k n pc L (iv x :: st) w := by
  obtain ⟨hx, hb, -⟩ := Z
  have r0 : inr 0 := ⟨by omega, by omega⟩
  have e : 0 < zI x ↔ 0 < x := by rw [← zI_0]; exact zI_lt r0.1 r0.2 rx.1 rx.2
  exact fun H locs ls hP hS hl => lv_if_gt hx hb d ht (fun h => kt (e.mp h) H locs ls hP hS hl) (fun h => kf (Int.not_lt.mp (fun q => h (e.mpr q))) H locs ls hP hS hl)
theorem x_icmp_le (Z : gAm b l s0 G cc own nL rm) {x y off : Int} (t : Nat) (d : decode cc pc = .ok (.if_icmp .le off, 3)) (ht : (pc : Int) + off = (t : Int)) (rx : inr x) (ry : inr y) (kt : x ≤ y → gX b s0 G k n t L st w) (kf : y < x → gX b s0 G k n (pc + 3) L st w) : gX b s0 G k n pc L (iv y :: iv x :: st) w := by
  obtain ⟨hx, hb, -⟩ := Z
  have e := zI_le rx.1 rx.2 ry.1 ry.2
  exact fun H locs ls hP hS hl => lv_icmp_le hx hb d ht (fun h => kt (e.mp h) H locs ls hP hS hl) (fun h => kf (Int.not_le.mp (fun q => h (e.mpr q))) H locs ls hP hS hl)
theorem x_if_le (Z : gAm b l s0 G cc own nL rm) {x off : Int} (t : Nat) (d : decode cc pc = .ok (.ifCond .le off, 3)) (ht : (pc : Int) + off = (t : Int)) (rx : inr x) (kt : x ≤ 0 → gX b s0 G k n t L st w) (kf : 0 < x → gX b s0 G k n (pc + 3) L st w) : gX b s0 G k n pc L (iv x :: st) w := by
  obtain ⟨hx, hb, -⟩ := Z
  have r0 : inr 0 := ⟨by omega, by omega⟩
  have e : zI x ≤ 0 ↔ x ≤ 0 := by rw [← zI_0]; exact zI_le rx.1 rx.2 r0.1 r0.2
  exact fun H locs ls hP hS hl => lv_if_le hx hb d ht (fun h => kt (e.mp h) H locs ls hP hS hl) (fun h => kf (Int.not_le.mp (fun q => h (e.mpr q))) H locs ls hP hS hl)
theorem b2_in (q : Bool) : inr (b2 q) := by cases q <;> exact ⟨by decide, by decide⟩
theorem b2_0 {q : Bool} (h : b2 q = 0) : q = false := by cases q with
  | true => exact absurd h (by decide)
  | false => rfl
theorem b2_1 {q : Bool} (h : b2 q ≠ 0) : q = true := by cases q with
  | true => rfl
  | false => exact absurd rfl h
theorem x_ifb_eq (Z : gAm b l s0 G cc own nL rm) {q : Bool} {off : Int} (t : Nat) (d : decode cc pc = .ok (.ifCond .eq off, 3)) (ht : (pc : Int) + off = (t : Int)) (kt : q = false → gX b s0 G k n t L st w) (kf : q = true → gX b s0 G k n (pc + 3) L st w) : gX b s0 G k n pc L (iv (b2 q) :: st) w :=
  x_if_eq Z t d ht (b2_in q) (fun h => kt (b2_0 h)) (fun h => kf (b2_1 h))
theorem x_ifb_ne (Z : gAm b l s0 G cc own nL rm) {q : Bool} {off : Int} (t : Nat) (d : decode cc pc = .ok (.ifCond .ne off, 3)) (ht : (pc : Int) + off = (t : Int)) (kt : q = true → gX b s0 G k n t L st w) (kf : q = false → gX b s0 G k n (pc + 3) L st w) : gX b s0 G k n pc L (iv (b2 q) :: st) w :=
  x_if_ne Z t d ht (b2_in q) (fun h => kt (b2_1 h)) (fun h => kf (b2_0 h))
theorem x_icmpb_ne (Z : gAm b l s0 G cc own nL rm) {p q : Bool} {off : Int} (t : Nat) (d : decode cc pc = .ok (.if_icmp .ne off, 3)) (ht : (pc : Int) + off = (t : Int)) (kt : p ≠ q → gX b s0 G k n t L st w) (kf : p = q → gX b s0 G k n (pc + 3) L st w) : gX b s0 G k n pc L (iv (b2 q) :: iv (b2 p) :: st) w :=
  x_icmp_ne Z t d ht (b2_in p) (b2_in q) (fun h => kt (fun e => h (by rw [e]))) (fun h => kf (by cases p <;> cases q <;> first | rfl | exact absurd h (by decide)))
theorem x_icmpb_eq (Z : gAm b l s0 G cc own nL rm) {p q : Bool} {off : Int} (t : Nat) (d : decode cc pc = .ok (.if_icmp .eq off, 3)) (ht : (pc : Int) + off = (t : Int)) (kt : p = q → gX b s0 G k n t L st w) (kf : p ≠ q → gX b s0 G k n (pc + 3) L st w) : gX b s0 G k n pc L (iv (b2 q) :: iv (b2 p) :: st) w :=
  x_icmp_eq Z t d ht (b2_in p) (b2_in q) (fun h => kt (by cases p <;> cases q <;> first | rfl | exact absurd h (by decide))) (fun h => kf (fun e => h (by rw [e])))
theorem x_tabIn (Z : gAm b l s0 G cc own nL rm) {dflt lo hi : Int} {offs : Array Int} {len : Nat} {x off : Int} (t : Nat) (d : decode cc pc = .ok (.tableswitch dflt lo hi offs, len)) (rx : inr x) (h1 : lo ≤ x) (h2 : x ≤ hi) (ho : offs[(x - lo).toNat]? = some off) (ht : (pc : Int) + off = (t : Int)) (kk : gX b s0 G k n t L st w) : gX b s0 G k n pc L (iv x :: st) w := by
  obtain ⟨hx, hb, -⟩ := Z
  have e := zI_toInt rx.1 rx.2
  exact fun H locs ls hP hS hl => lv_tableIn hx hb d (by rw [e]; omega) (by rw [e]; omega) (by rw [e]; exact ho) ht (kk H locs ls hP hS hl)
theorem x_tabOut (Z : gAm b l s0 G cc own nL rm) {dflt lo hi : Int} {offs : Array Int} {len : Nat} {x : Int} (t : Nat) (d : decode cc pc = .ok (.tableswitch dflt lo hi offs, len)) (rx : inr x) (h : x < lo ∨ hi < x) (ht : (pc : Int) + dflt = (t : Int)) (kk : gX b s0 G k n t L st w) : gX b s0 G k n pc L (iv x :: st) w := by
  obtain ⟨hx, hb, -⟩ := Z
  have e := zI_toInt rx.1 rx.2
  exact fun H locs ls hP hS hl => lv_tableOut hx hb d (by rw [e]; exact h) ht (kk H locs ls hP hS hl)
theorem x_look (Z : gAm b l s0 G cc own nL rm) {dflt : Int} {ps : Array (Int × Int)} {len : Nat} {x off : Int} (t : Nat) (d : decode cc pc = .ok (.lookupswitch dflt ps, len)) (rx : inr x) (hp : (ps.toList.zip (ps.toList.drop 1)).all (fun (a, next) => a.1 < next.1) = true) (ho : Op.lookupswitch.offset ps.toList dflt x = off) (ht : (pc : Int) + off = (t : Int)) (kk : gX b s0 G k n t L st w) : gX b s0 G k n pc L (iv x :: st) w := by
  obtain ⟨hx, hb, -⟩ := Z
  have e := zI_toInt rx.1 rx.2
  exact fun H locs ls hP hS hl => lv_lookup hx hb d hp (by rw [e]; exact ho) ht (kk H locs ls hP hS hl)
/-! fields -/
theorem x_getf (Z : gAm b l s0 G cc own nL rm) {ref C : String} {T : u_T} {N ci j index a : Nat} {fs : List Value} {v : Value} (hin : ∀ q ∈ u_ws C T N, q ∈ gT) (hc : vwCl[ci]? = some (C, T, N)) (hj : j < N) (hlk : Cond.fieldLink own index ref (T j).2.1 (T j).2.2.1 ∈ gT) (href : (T j).1 = ref) (d : decode cc pc = .ok (.getfield index, 3)) (hw : w a = some (eO ci fs)) (hv : fs[j]? = some v) (kk : gX b s0 G k n (pc + 3) L (v :: st) w) : gX b s0 G k n pc L (rv a :: st) w := by
  have hts : ∀ q ∈ gT, q.before (ba b) (bs b) = true := fun q h => Z.word h
  obtain ⟨hx, hb, ho, -, hE, -⟩ := Z
  exact fun H locs ls hP hS hl => va_get hx hb hts hin ho hE.2.2.2 (hP.one hw) 0 rfl hc j hj (hts _ hlk) (by intro x h; rw [← href]; exact h) hv d (kk H locs ls hP hS hl)
theorem x_getfN (Z : gAm b l s0 G cc own nL rm) {ref C host : String} {T : u_T} {N ci j index a : Nat} {fs : List Value} {v : Value} (hin : ∀ q ∈ u_ws C T N, q ∈ gT) (hc : vwCl[ci]? = some (C, T, N)) (hj : j < N) (hlk : Cond.fieldLinkNest own index ref (T j).2.1 (T j).2.2.1 host ∈ gT) (href : (T j).1 = ref) (d : decode cc pc = .ok (.getfield index, 3)) (hw : w a = some (eO ci fs)) (hv : fs[j]? = some v) (kk : gX b s0 G k n (pc + 3) L (v :: st) w) : gX b s0 G k n pc L (rv a :: st) w := by
  have hts : ∀ q ∈ gT, q.before (ba b) (bs b) = true := fun q h => Z.word h
  obtain ⟨hx, hb, ho, -, hE, -⟩ := Z
  exact fun H locs ls hP hS hl => va_getN hx hb hts hin ho hE.2.2.2 (hP.one hw) 0 rfl hc j hj (hts _ hlk) (by intro x h; rw [← href]; exact h) hv d (kk H locs ls hP hS hl)
theorem g_obj {D : va_G} {base : Nat} {H : Heap} {a ci : Nat} {fs : List Value} {C : String} {T : u_T} {N : Nat} (hP : gRep D base w H) (hw : w a = some (eO ci fs)) (hc : vwCl[ci]? = some (C, T, N)) : t_OB a (D.1 ci) N (D.2 ci) H (vp_V fs) := by
  obtain ⟨r, h1, h2⟩ := (hP a _ hw).2
  cases h1.symm.trans hc
  exact h2
theorem x_putf (Z : gAm b l s0 G cc own nL rm) {ref C : String} {T : u_T} {N ci j index a : Nat} {fs fs' : List Value} {v : Value} {ty : FieldType} (ty0 : Nat → FieldType) (hty : ∀ k, k < N → parseFieldDescriptor (T k).2.2.1 = some (ty0 k)) (hnm : ∀ a, a < N → ∀ b, b < N → a ≠ b → (T a).2.1 ≠ (T b).2.1) (hin : ∀ q ∈ u_ws C T N, q ∈ gT) (hc : vwCl[ci]? = some (C, T, N)) (hj : j < N) (hlk : Cond.fieldLink own index ref (T j).2.1 (T j).2.2.1 ∈ gT) (href : (T j).1 = ref) (hfin : (T j).2.2.2 = false) (htj : ty0 j = ty) (hn : narrow ty v = v) (hfit : fits ty v = true) (d : decode cc pc = .ok (.putfield index, 3)) (hw : w a = some (eO ci fs)) (hl : j < fs.length) (hfs : fs.set j v = fs') (kk : gX b s0 G k n (pc + 3) L st (ws1 w a (eO ci fs'))) : gX b s0 G k n pc L (v :: rv a :: st) w := by
  have hts : ∀ q ∈ gT, q.before (ba b) (bs b) = true := fun q h => Z.word h
  obtain ⟨hx, hb, ho, -, hE, -⟩ := Z
  subst hfs
  subst href
  have hK := hE.2.2.2
  have hap := va_apart (own := own) hts hin ty0 hty hnm hK hc
  have hd := hty j hj
  rw [htj] at hd
  intro H locs ls hP hS hll
  obtain ⟨cell, q1, q2, q3, q4⟩ := g_obj hP hw hc
  obtain ⟨hSl, hfc, kC, hkC, hkind⟩ := hK.1 ci _ hc
  obtain ⟨cf, kf, fi, f, hi, hsl⟩ := hSl j hj
  have hlay := hts _ (hin _ (u_in_lay hj))
  unfold u_lay at hlay
  rw [if_neg (by rw [hfin]; decide)] at hlay
  have hst := (u_facts hfc hkC (u_lays hts hin hj) hi).1
  have h6 := u_store hfc hkC hkind hlay hi hd hn hfit
  refine W.putK hx hb (f := f) ⟨ho, hts _ hlk, ⟨_, _, _, hi⟩, hst⟩ (by rw [q2]; exact h6) q1 q3 (by rw [hsl]; exact k2_hasslot (q4 j hj)) rfl rfl d fun H' e1 e2 e3 => ?_
  rw [hsl] at e1 ⊢
  exact kk H' _ ls (hP.set hw ⟨_, hc, t_OB.to (V := updV (vp_V fs) j v) ⟨_, e1, q2, q3, t_set q4 hap hj v⟩ (fun i _ => vp_updV_set hl v i)⟩ e3) (hS.put e2 e3 (hP a _ hw).1) hll
theorem x_putfN (Z : gAm b l s0 G cc own nL rm) {ref C host : String} {T : u_T} {N ci j index a : Nat} {fs fs' : List Value} {v : Value} {ty : FieldType} (ty0 : Nat → FieldType) (hty : ∀ k, k < N → parseFieldDescriptor (T k).2.2.1 = some (ty0 k)) (hnm : ∀ a, a < N → ∀ b, b < N → a ≠ b → (T a).2.1 ≠ (T b).2.1) (hin : ∀ q ∈ u_ws C T N, q ∈ gT) (hc : vwCl[ci]? = some (C, T, N)) (hj : j < N) (hlk : Cond.fieldLinkNest own index ref (T j).2.1 (T j).2.2.1 host ∈ gT) (href : (T j).1 = ref) (hfin : (T j).2.2.2 = false) (htj : ty0 j = ty) (hn : narrow ty v = v) (hfit : fits ty v = true) (d : decode cc pc = .ok (.putfield index, 3)) (hw : w a = some (eO ci fs)) (hl : j < fs.length) (hfs : fs.set j v = fs') (kk : gX b s0 G k n (pc + 3) L st (ws1 w a (eO ci fs'))) : gX b s0 G k n pc L (v :: rv a :: st) w := by
  have hts : ∀ q ∈ gT, q.before (ba b) (bs b) = true := fun q h => Z.word h
  obtain ⟨hx, hb, ho, -, hE, -⟩ := Z
  subst hfs
  subst href
  have hK := hE.2.2.2
  have hap := va_apart (own := own) hts hin ty0 hty hnm hK hc
  have hd := hty j hj
  rw [htj] at hd
  intro H locs ls hP hS hll
  obtain ⟨cell, q1, q2, q3, q4⟩ := g_obj hP hw hc
  obtain ⟨hSl, hfc, kC, hkC, hkind⟩ := hK.1 ci _ hc
  obtain ⟨cf, kf, fi, f, hi, hsl⟩ := hSl j hj
  have hlay := hts _ (hin _ (u_in_lay hj))
  unfold u_lay at hlay
  rw [if_neg (by rw [hfin]; decide)] at hlay
  have hst := (u_facts hfc hkC (u_lays hts hin hj) hi).1
  have h6 := u_store hfc hkC hkind hlay hi hd hn hfit
  refine va_WputK hx hb ho (hts _ hlk) hi hst (by rw [q2]; exact h6) q1 q3 (by rw [hsl]; exact k2_hasslot (q4 j hj)) rfl rfl d fun H' e1 e2 e3 => ?_
  rw [hsl] at e1 ⊢
  exact kk H' _ ls (hP.set hw ⟨_, hc, t_OB.to (V := updV (vp_V fs) j v) ⟨_, e1, q2, q3, t_set q4 hap hj v⟩ (fun i _ => vp_updV_set hl v i)⟩ e3) (hS.put e2 e3 (hP a _ hw).1) hll
end GR
section GC
variable {b : gBt} {l : Launch} {s0 : State} {G : gK} {cc : ByteArray} {own : String} {nL : Nat} {rm : Room} {k n pc : Nat} {L : List (Nat × Value)} {st rest : List Value} {w : wd}
theorem x_putfF (Z : gAm b l s0 G cc own nL rm) {ref C : String} {T : u_T} {N ci j index a : Nat} {fs fs' : List Value} {v : Value} {ty : FieldType} (ty0 : Nat → FieldType) (hty : ∀ k, k < N → parseFieldDescriptor (T k).2.2.1 = some (ty0 k)) (hnm : ∀ a, a < N → ∀ b, b < N → a ≠ b → (T a).2.1 ≠ (T b).2.1) (hin : ∀ q ∈ u_ws C T N, q ∈ gT) (hc : vwCl[ci]? = some (C, T, N)) (hj : j < N) (hlk : Cond.fieldLink own index ref (T j).2.1 (T j).2.2.1 ∈ gT) (href : (T j).1 = ref) (hfin : (T j).2.2.2 = true) (hnm0 : (bh b).name = "<init>") (hdecl : (T j).1 = own) (htj : ty0 j = ty) (hn : narrow ty v = v) (hfit : fits ty v = true) (d : decode cc pc = .ok (.putfield index, 3)) (hw : w a = some (eO ci fs)) (hl : j < fs.length) (hfs : fs.set j v = fs') (kk : gX b s0 G k n (pc + 3) L st (ws1 w a (eO ci fs'))) : gX b s0 G k n pc L (v :: rv a :: st) w := by
  have hts : ∀ q ∈ gT, q.before (ba b) (bs b) = true := fun q h => Z.word h
  obtain ⟨hx, hb, ho, -, hE, -⟩ := Z
  subst hfs
  subst href
  have hK := hE.2.2.2
  have hap := va_apart (own := own) hts hin ty0 hty hnm hK hc
  have hd := hty j hj
  rw [htj] at hd
  intro H locs ls hP hS hll
  obtain ⟨cell, q1, q2, q3, q4⟩ := g_obj hP hw hc
  obtain ⟨hSl, hfc, kC, hkC, hkind⟩ := hK.1 ci _ hc
  obtain ⟨cf, kf, fi, f, hi, hsl⟩ := hSl j hj
  have hlay := hts _ (hin _ (u_in_lay hj))
  unfold u_lay at hlay
  rw [if_pos hfin] at hlay
  have hst := (u_facts hfc hkC (u_lays hts hin hj) hi).1
  have hcf : (bm b).cls = cf := by
    obtain ⟨_, _, c', _, _, _, -, -, hf', -, -, -, hown2, -⟩ := Cond.laysFinal_spec hlay
    have e1 : c' = cf := by have := hi.symm.trans hf'; simp at this; exact this.1.symm
    rw [hdecl] at hown2
    rw [← e1]; exact Option.some.inj (ho.symm.trans hown2)
  have h6 := u_fits hfc hkC hkind (Or.inr hlay) hi hd hn hfit
  refine W.putFinK hx hb ho (hts _ hlk) hi hst hcf hnm0 (by rw [q2]; exact h6) q1 q3 (by rw [hsl]; exact k2_hasslot (q4 j hj)) rfl rfl d fun H' e1 e2 e3 => ?_
  rw [hsl] at e1 ⊢
  exact kk H' _ ls (hP.set hw ⟨_, hc, t_OB.to (V := updV (vp_V fs) j v) ⟨_, e1, q2, q3, t_set q4 hap hj v⟩ (fun i _ => vp_updV_set hl v i)⟩ e3) (hS.put e2 e3 (hP a _ hw).1) hll
/-! statics -/
theorem x_gets (Z : gAm b l s0 G cc own nL rm) {C nm d0 ref : String} {v : Value} {index : Nat} (hZ : va_Z C nm d0 v (gA s0) (bs b) (bs b).heap) (hlk : Cond.fieldLink own index ref nm d0 ∈ gT) (href : C = ref) (d : decode cc pc = .ok (.getstatic index, 3)) (kk : gX b s0 G k n (pc + 3) L (v :: st) w) : gX b s0 G k n pc L st w := by
  have hlk' := Z.word hlk
  obtain ⟨hx, hb, ho, -⟩ := Z
  subst href
  exact fun H locs ls hP hS hl => va_gets hx hb hZ hS ho hlk' (fun _ h => h) d (kk H locs ls hP hS hl)
theorem x_tb (Z : gAm b l s0 G cc own nL rm) {t N : Nat} {F : Int → Int} {i : Int} (hT : va_T .byte t N (fun j => iv (F (j : Int))) (gA s0) (bs b) (bs b).heap) (hN : N < 2147483648) (h1 : 0 ≤ i) (h2 : i < N) (d : decode cc pc = .ok (.baload, 1)) (kk : gX b s0 G k n (pc + 1) L (iv (F i) :: st) w) : gX b s0 G k n pc L (iv i :: rv t :: st) w := by
  obtain ⟨hx, hb, -⟩ := Z
  have e := zI_ix h1 h2 hN
  exact fun H locs ls hP hS hl => va_tb hx hb hT hS e.1 (v := iv (F i)) (by show iv (F (((zI i).toNatClampNeg : Nat) : Int)) = _; rw [e.2, Int.toNat_of_nonneg h1]) d (kk H locs ls hP hS hl)
theorem x_ti (Z : gAm b l s0 G cc own nL rm) {t N : Nat} {F : Int → Int} {i : Int} (hT : va_T .int t N (fun j => iv (F (j : Int))) (gA s0) (bs b) (bs b).heap) (hN : N < 2147483648) (h1 : 0 ≤ i) (h2 : i < N) (d : decode cc pc = .ok (.iaload, 1)) (kk : gX b s0 G k n (pc + 1) L (iv (F i) :: st) w) : gX b s0 G k n pc L (iv i :: rv t :: st) w := by
  obtain ⟨hx, hb, -⟩ := Z
  have e := zI_ix h1 h2 hN
  exact fun H locs ls hP hS hl => va_ti hx hb hT hS e.1 (v := iv (F i)) (by show iv (F (((zI i).toNatClampNeg : Nat) : Int)) = _; rw [e.2, Int.toNat_of_nonneg h1]) d (kk H locs ls hP hS hl)
/-! arrays -/
theorem g_arr {D : va_G} {base : Nat} {H : Heap} {a len : Nat} {c : ClassId} {F : Int → Int} (hP : gRep D base w H) (hw : w a = some (eA c len F)) : H[a]? = some (arrV c len (fun j => iv (F (j : Int)))) := (hP a _ hw).2
theorem g_arq {D : va_G} {base : Nat} {H : Heap} {a len : Nat} {c : ClassId} {f : Int → Option Nat} (hP : gRep D base w H) (hw : w a = some (eQ c len f)) : H[a]? = some (arrV c len (fun j => va_rf (f (j : Int)))) := (hP a _ hw).2
theorem g_rd {c : ClassId} {len : Nat} {F : Int → Value} {i : Int} (h1 : 0 ≤ i) (h2 : i < len) (hN : len < 2147483648) : ¬ (zI i < 0 ∨ (arrV c len (fun j => F (j : Int))).slots.size ≤ (zI i).toNatClampNeg) ∧ (arrV c len (fun j => F (j : Int))).slots[(zI i).toNatClampNeg]? = some (F i) := by
  have e := zI_ix h1 h2 hN
  have hlt : (zI i).toNatClampNeg < len := by rw [e.2]; omega
  refine ⟨by rw [arrV_size]; exact e.1, ?_⟩
  rw [arrV_read _ _ hlt]
  show some (F (((zI i).toNatClampNeg : Nat) : Int)) = _
  rw [e.2, Int.toNat_of_nonneg h1]
theorem g_wr {c : ClassId} {len : Nat} {F : Int → Value} {i : Int} {v : Value} (h1 : 0 ≤ i) (h2 : i < len) (hN : len < 2147483648) : (arrV c len (fun j => F (j : Int))).setSlot (zI i).toNatClampNeg v = arrV c len (fun j => (fun q : Int => if q = i then v else F q) (j : Int)) := by
  have e := zI_ix h1 h2 hN
  rw [arrV_store, e.2]
  congr 1
  funext j
  show updV (fun j : Nat => F (j : Int)) i.toNat v j = if (j : Int) = i then v else F (j : Int)
  unfold updV
  by_cases h : j = i.toNat
  · rw [if_pos h, if_pos (by omega)]
  · rw [if_neg h, if_neg (by omega)]
theorem g_uF {F : Int → Int} {i x : Int} : (fun j : Nat => (fun q : Int => if q = i then iv x else iv (F q)) (j : Int)) = (fun j : Nat => iv (uF F i x (j : Int))) := by
  funext j
  show (if (j : Int) = i then iv x else iv (F (j : Int))) = iv (if (j : Int) = i then x else F (j : Int))
  split <;> rfl
theorem g_uQ {f : Int → Option Nat} {i : Int} {x : Option Nat} : (fun j : Nat => (fun q : Int => if q = i then va_rf x else va_rf (f q)) (j : Int)) = (fun j : Nat => va_rf (uQ f i x (j : Int))) := by
  funext j
  show (if (j : Int) = i then va_rf x else va_rf (f (j : Int))) = va_rf (if (j : Int) = i then x else f (j : Int))
  split <;> rfl
theorem x_iald (Z : gAm b l s0 G cc own nL rm) {a len : Nat} {F : Int → Int} {i : Int} (d : decode cc pc = .ok (.iaload, 1)) (hw : w a = some (eI G len F)) (hN : len < 2147483648) (h1 : 0 ≤ i) (h2 : i < len) (kk : gX b s0 G k n (pc + 1) L (iv (F i) :: st) w) : gX b s0 G k n pc L (iv i :: rv a :: st) w := by
  obtain ⟨hx, hb, -, -, hE, -⟩ := Z
  have e := g_rd (c := G.2.2.1) (F := fun q => iv (F q)) h1 h2 hN
  exact fun H locs ls hP hS hl => W.iald hx hb (g_arr hP hw) ((hE.2.2.2.2 1 _ rfl).1 len (fun j => iv (F (j : Int)))) (fun q => by cases q) e.1 e.2 rfl rfl d (kk H locs ls hP hS hl)
theorem x_bald (Z : gAm b l s0 G cc own nL rm) {a len : Nat} {F : Int → Int} {i : Int} (d : decode cc pc = .ok (.baload, 1)) (hw : w a = some (eB G len F)) (hN : len < 2147483648) (h1 : 0 ≤ i) (h2 : i < len) (kk : gX b s0 G k n (pc + 1) L (iv (F i) :: st) w) : gX b s0 G k n pc L (iv i :: rv a :: st) w := by
  obtain ⟨hx, hb, -, -, hE, -⟩ := Z
  have e := g_rd (c := G.2.1) (F := fun q => iv (F q)) h1 h2 hN
  exact fun H locs ls hP hS hl => W.bald hx hb (g_arr hP hw) ((hE.2.2.2.2 0 _ rfl).1 len (fun j => iv (F (j : Int)))) (fun q => by cases q) e.1 e.2 rfl rfl d (kk H locs ls hP hS hl)
theorem x_zald (Z : gAm b l s0 G cc own nL rm) {a len : Nat} {F : Int → Int} {i : Int} (d : decode cc pc = .ok (.baload, 1)) (hw : w a = some (eZ G len F)) (hN : len < 2147483648) (h1 : 0 ≤ i) (h2 : i < len) (kk : gX b s0 G k n (pc + 1) L (iv (F i) :: st) w) : gX b s0 G k n pc L (iv i :: rv a :: st) w := by
  obtain ⟨hx, hb, -, -, hE, -⟩ := Z
  have e := g_rd (c := G.2.2.2.1) (F := fun q => iv (F q)) h1 h2 hN
  exact fun H locs ls hP hS hl => W.zald hx hb (g_arr hP hw) ((hE.2.2.2.2 2 _ rfl).1 len (fun j => iv (F (j : Int)))) (fun q => by cases q) e.1 e.2 rfl rfl d (kk H locs ls hP hS hl)
theorem x_aaldT (Z : gAm b l s0 G cc own nL rm) {a len q : Nat} {f : Int → Option Nat} {i : Int} (d : decode cc pc = .ok (.aaload, 1)) (hw : w a = some (eT G len f)) (hN : len < 2147483648) (h1 : 0 ≤ i) (h2 : i < len) (hq : f i = some q) (kk : gX b s0 G k n (pc + 1) L (rv q :: st) w) : gX b s0 G k n pc L (iv i :: rv a :: st) w := by
  obtain ⟨hx, hb, -, -, hE, -⟩ := Z
  have e := g_rd (c := G.2.2.2.2.1) (F := fun q => va_rf (f q)) h1 h2 hN
  rw [show va_rf (f i) = rv q by rw [hq]; rfl] at e
  exact fun H locs ls hP hS hl => W.aald (ty := .object RX1) hx hb (g_arq hP hw) ((hE.2.2.2.2 3 _ rfl).1 len (fun j => va_rf (f (j : Int)))) rfl (fun q => by cases q) e.1 e.2 rfl rfl d (kk H locs ls hP hS hl)
theorem x_aaldR (Z : gAm b l s0 G cc own nL rm) {a len q : Nat} {f : Int → Option Nat} {i : Int} (d : decode cc pc = .ok (.aaload, 1)) (hw : w a = some (eR G len f)) (hN : len < 2147483648) (h1 : 0 ≤ i) (h2 : i < len) (hq : f i = some q) (kk : gX b s0 G k n (pc + 1) L (rv q :: st) w) : gX b s0 G k n pc L (iv i :: rv a :: st) w := by
  obtain ⟨hx, hb, -, -, hE, -⟩ := Z
  have e := g_rd (c := G.2.2.2.2.2) (F := fun q => va_rf (f q)) h1 h2 hN
  rw [show va_rf (f i) = rv q by rw [hq]; rfl] at e
  exact fun H locs ls hP hS hl => W.aald (ty := .array .int) hx hb (g_arq hP hw) ((hE.2.2.2.2 4 _ rfl).1 len (fun j => va_rf (f (j : Int)))) rfl (fun q => by cases q) e.1 e.2 rfl rfl d (kk H locs ls hP hS hl)
theorem x_iast (Z : gAm b l s0 G cc own nL rm) {a len : Nat} {F : Int → Int} {i x : Int} (d : decode cc pc = .ok (.iastore, 1)) (hw : w a = some (eI G len F)) (hN : len < 2147483648) (h1 : 0 ≤ i) (h2 : i < len) (kk : gX b s0 G k n (pc + 1) L st (ws1 w a (eI G len (uF F i x)))) : gX b s0 G k n pc L (iv x :: iv i :: rv a :: st) w := by
  obtain ⟨hx, hb, -, -, hE, -⟩ := Z
  have e := g_rd (c := G.2.2.1) (F := fun q => iv (F q)) h1 h2 hN
  intro H locs ls hP hS hl
  refine W.iast hx hb (g_arr hP hw) ((hE.2.2.2.2 1 _ rfl).1 len (fun j => iv (F (j : Int)))) (fun q => by cases q) e.1 rfl rfl d fun H1 e1 z oq => ?_
  refine kk H1 _ ls (hP.set hw ?_ oq) (hS.put z oq (hP a _ hw).1) hl
  rw [g_wr (F := fun q => iv (F q)) h1 h2 hN, g_uF] at e1
  exact e1
theorem g_nb {x : Int} : narrow .byte (iv x) = iv (bB x) := by
  show narrow .byte (.int (zI x)) = .int (zI (bB x))
  rw [zI_bB]
  first | rfl | simp [narrow]
theorem g_nz {q : Bool} : narrow .boolean (iv (b2 q)) = iv (b2 q) := by
  cases q <;> (first | rfl | decide +kernel | simp [narrow])
theorem x_bast (Z : gAm b l s0 G cc own nL rm) {a len : Nat} {F : Int → Int} {i x : Int} (d : decode cc pc = .ok (.bastore, 1)) (hw : w a = some (eB G len F)) (hN : len < 2147483648) (h1 : 0 ≤ i) (h2 : i < len) (kk : gX b s0 G k n (pc + 1) L st (ws1 w a (eB G len (uF F i (bB x))))) : gX b s0 G k n pc L (iv x :: iv i :: rv a :: st) w := by
  obtain ⟨hx, hb, -, -, hE, -⟩ := Z
  have e := g_rd (c := G.2.1) (F := fun q => iv (F q)) h1 h2 hN
  intro H locs ls hP hS hl
  refine W.bast hx hb (g_arr hP hw) ((hE.2.2.2.2 0 _ rfl).1 len (fun j => iv (F (j : Int)))) (fun q => by cases q) e.1 rfl rfl d fun H1 e1 z oq => ?_
  refine kk H1 _ ls (hP.set hw ?_ oq) (hS.put z oq (hP a _ hw).1) hl
  rw [show narrow .byte (.int (zI x)) = iv (bB x) from g_nb, g_wr (F := fun q => iv (F q)) h1 h2 hN, g_uF] at e1
  exact e1
theorem x_zast (Z : gAm b l s0 G cc own nL rm) {a len : Nat} {F : Int → Int} {i : Int} {q : Bool} (d : decode cc pc = .ok (.bastore, 1)) (hw : w a = some (eZ G len F)) (hN : len < 2147483648) (h1 : 0 ≤ i) (h2 : i < len) (kk : gX b s0 G k n (pc + 1) L st (ws1 w a (eZ G len (uF F i (b2 q))))) : gX b s0 G k n pc L (iv (b2 q) :: iv i :: rv a :: st) w := by
  obtain ⟨hx, hb, -, -, hE, -⟩ := Z
  have e := g_rd (c := G.2.2.2.1) (F := fun q => iv (F q)) h1 h2 hN
  intro H locs ls hP hS hl
  refine W.zast hx hb (g_arr hP hw) ((hE.2.2.2.2 2 _ rfl).1 len (fun j => iv (F (j : Int)))) (fun q => by cases q) e.1 rfl rfl d fun H1 e1 z oq => ?_
  refine kk H1 _ ls (hP.set hw ?_ oq) (hS.put z oq (hP a _ hw).1) hl
  rw [show narrow .boolean (.int (zI (b2 q))) = iv (b2 q) from g_nz, g_wr (F := fun q => iv (F q)) h1 h2 hN, g_uF] at e1
  exact e1
theorem x_aastT (Z : gAm b l s0 G cc own nL rm) {a len v : Nat} {vs : List Value} {f : Int → Option Nat} {i : Int} (d : decode cc pc = .ok (.aastore, 1)) (hw : w a = some (eT G len f)) (hv : w v = some (eO 2 vs)) (hN : len < 2147483648) (h1 : 0 ≤ i) (h2 : i < len) (kk : gX b s0 G k n (pc + 1) L st (ws1 w a (eT G len (uQ f i (some v))))) : gX b s0 G k n pc L (rv v :: iv i :: rv a :: st) w := by
  obtain ⟨hx, hb, -, -, hE, -⟩ := Z
  have hK := hE.2.2.2
  have e := g_rd (c := G.2.2.2.2.1) (F := fun q => va_rf (f q)) h1 h2 hN
  intro H locs ls hP hS hl
  obtain ⟨cellV, q1, q2, q3, -⟩ := g_obj hP hv (C := RX1) (T := TX1) (N := 3) rfl
  have hcls := (hK.1 2 (RX1, TX1, 3) rfl).2
  obtain ⟨kA, comp, k1, k2, k3, -⟩ := (hK.2 3 _ rfl).2
  have hcomp : comp = G.1.1 2 := Option.some.inj (k3.symm.trans hcls.1)
  subst hcomp
  obtain ⟨kC, hkC, -⟩ := hcls.2
  refine W.aast hx hb (g_arq hP hw) (fun q h => by cases h) (fun h => by cases h) k1 k2 rfl hkC ⟨fun q => e.1 (Or.inl q), Nat.not_le.mp fun q => e.1 (Or.inr q)⟩ q1 (fun q h => by rw [q3] at h; cases h) (by rw [q2]; exact hkC) (by rw [q2]; exact va_assign hcls) rfl rfl d fun H1 e1 z oq => ?_
  refine kk H1 _ ls (hP.set hw ?_ oq) (hS.put z oq (hP a _ hw).1) hl
  rw [show (Value.ref v) = va_rf (some v) from rfl, g_wr (F := fun q => va_rf (f q)) h1 h2 hN, g_uQ] at e1
  exact e1
theorem x_alenI (Z : gAm b l s0 G cc own nL rm) {a len : Nat} {F : Int → Int} (d : decode cc pc = .ok (.arraylength, 1)) (hw : w a = some (eI G len F)) (kk : gX b s0 G k n (pc + 1) L (iv (len : Int) :: st) w) : gX b s0 G k n pc L (rv a :: st) w := by
  obtain ⟨hx, hb, -, -, hE, -⟩ := Z
  exact fun H locs ls hP hS hl => W.alen (n := zI (len : Int)) hx hb (g_arr hP hw) ((hE.2.2.2.2 1 _ rfl).1 len (fun j => iv (F (j : Int)))) (by rw [arrV_size, zI_nat]; rfl) rfl rfl d (kk H locs ls hP hS hl)
end GC
section GD
variable {b : gBt} {l : Launch} {s0 : State} {G : gK} {cc : ByteArray} {own : String} {nL : Nat} {rm : Room} {k n pc : Nat} {L : List (Nat × Value)} {st rest : List Value} {w : wd}
/-! new cells -/
theorem va_S.new {A : Nat → Prop} {H0 H H1 : Heap} {locs : List Loc} (h : va_S A H0 H locs) (z : H1.size = H.size + 1) (oq : ∀ q : Nat, q < H.size → H1[q]? = H[q]?) : va_S A H0 H1 locs :=
  ⟨Nat.le_trans h.1 (by omega), fun x h1 h2 => (oq x (Nat.lt_of_lt_of_le h1 h.1)).trans (h.2.1 x h1 h2), h.2.2⟩
theorem g_base {H : Heap} {locs : List Loc} (hE : gEnv s0 G (bs b)) (hS : va_S (gA s0) (bs b).heap H locs) : s0.heap.size ≤ H.size := Nat.le_trans hE.2.1 hS.1
theorem x_new (Z : gAm b l s0 G cc own nL rm) {C : String} {T : u_T} {N ci index : Nat} {fs : List Value} (ty : Nat → FieldType) (hty : ∀ k, k < N → parseFieldDescriptor (T k).2.2.1 = some (ty k)) (hin : ∀ q ∈ u_ws C T N, q ∈ gT) (hc : vwCl[ci]? = some (C, T, N)) (hcl : Cond.classLink own index C ∈ gT) (hinst : Cond.instantiable C N ∈ gT) (hini : Cond.initialized C ∈ gT) (hfs : ∀ j, j < N → defaultValue (ty j) = vp_V fs j) (hk : k + 1 ≤ rm.cells) (hn : n + N ≤ rm.slots) (d : decode cc pc = .ok (.new index, 3)) (kk : ∀ q : Nat, w q = none → gX b s0 G (k + 1) (n + N) (pc + 3) L (rv q :: st) (ws1 w q (eO ci fs))) : gX b s0 G k n pc L st w := by
  have hts : ∀ q ∈ gT, q.before (ba b) (bs b) = true := fun q h => Z.word h
  obtain ⟨hx, hb, ho, -, hE, -, -, -, hR, -⟩ := Z
  intro H locs ls hP hS hl
  have hKn := hE.2.2.2.1 ci _ hc
  refine W.newcK hx hb ho (hts _ hcl) (hts _ hinst) (hts _ hini) rfl d (by rw [hR]; exact hk) (by rw [hR]; exact hn) hKn.2.1 rfl fun H1 kC hkC e1 z1 o1 => ?_
  obtain ⟨p1, p2⟩ := hP.push (e := eO ci fs) (g_base hE hS) ⟨_, hc, (u_born ty hts hin hKn hkC e1 hty).to hfs⟩ o1
  exact kk H.size p2 H1 locs ls p1 (hS.new z1 o1) hl
theorem g_newcls {s : State} {k0 : Nat} {cA cB : ClassId} {ty : FieldType} (hK : va_RA s cB ty) (ht : ∀ C, ty ≠ .object C) (h : s.vm.findClass ("[" ++ ty.toString) = some cA) : cA = cB := by
  unfold va_RA at hK
  split at hK
  · exact absurd rfl (ht _)
  · exact Option.some.inj (h.symm.trans hK)
theorem x_newI (Z : gAm b l s0 G cc own nL rm) {x : Int} (N : Nat) (harr : Cond.arrayClass .int ∈ gT) (hx0 : x = (N : Int)) (hN : N < 100000000) (hk : k + 1 ≤ rm.cells) (hn : n + N ≤ rm.slots) (d : decode cc pc = .ok (.newarray .int, 2)) (kk : ∀ q : Nat, w q = none → gX b s0 G (k + 1) (n + N) (pc + 2) L (rv q :: st) (ws1 w q (eI G N (fun _ => 0)))) : gX b s0 G k n pc L (iv x :: st) w := by
  have ha := Z.word harr
  obtain ⟨hx, hb, ho, -, hE, -, -, -, hR, -⟩ := Z
  subst hx0
  have et : (zI (N : Int)).toInt = (N : Int) := zI_toInt (by omega) (by omega)
  intro H locs ls hP hS hl
  refine va_newaK (atype := .int) hx hb ha rfl d rfl (by rw [Int32.lt_iff_toInt_lt, et, Int32.toInt_zero]; omega) (N := N) (by show (zI (N : Int)).toInt.toNat = N; rw [et]; rfl) (by show N * 4 ≤ 536870912; omega) (by rw [hR]; exact hk) (by rw [hR]; exact hn) rfl fun H1 cA e1 z1 o1 _ hNm => ?_
  have hcA : cA = G.2.2.1 := g_newcls (k0 := 0) (hE.2.2.2.2 1 _ rfl).2 (by intro C h; cases h) hNm
  subst hcA
  obtain ⟨p1, p2⟩ := hP.push (e := eI G N (fun _ => 0)) (g_base hE hS) (e1.trans (by show some (arrV G.2.2.1 N fun _ => Value.int 0) = some (arrV G.2.2.1 N fun _ => Value.int (zI 0)); rw [zI_0])) o1
  exact kk H.size p2 H1 locs ls p1 (hS.new z1 o1) hl
theorem x_newB (Z : gAm b l s0 G cc own nL rm) {x : Int} (N : Nat) (harr : Cond.arrayClass .byte ∈ gT) (hx0 : x = (N : Int)) (hN : N < 100000000) (hk : k + 1 ≤ rm.cells) (hn : n + N ≤ rm.slots) (d : decode cc pc = .ok (.newarray .byte, 2)) (kk : ∀ q : Nat, w q = none → gX b s0 G (k + 1) (n + N) (pc + 2) L (rv q :: st) (ws1 w q (eB G N (fun _ => 0)))) : gX b s0 G k n pc L (iv x :: st) w := by
  have ha := Z.word harr
  obtain ⟨hx, hb, ho, -, hE, -, -, -, hR, -⟩ := Z
  subst hx0
  have et : (zI (N : Int)).toInt = (N : Int) := zI_toInt (by omega) (by omega)
  intro H locs ls hP hS hl
  refine va_newaK (atype := .byte) hx hb ha rfl d rfl (by rw [Int32.lt_iff_toInt_lt, et, Int32.toInt_zero]; omega) (N := N) (by show (zI (N : Int)).toInt.toNat = N; rw [et]; rfl) (by show N * 1 ≤ 536870912; omega) (by rw [hR]; exact hk) (by rw [hR]; exact hn) rfl fun H1 cA e1 z1 o1 _ hNm => ?_
  have hcA : cA = G.2.1 := g_newcls (k0 := 0) (hE.2.2.2.2 0 _ rfl).2 (by intro C h; cases h) hNm
  subst hcA
  obtain ⟨p1, p2⟩ := hP.push (e := eB G N (fun _ => 0)) (g_base hE hS) (e1.trans (by show some (arrV G.2.1 N fun _ => Value.int 0) = some (arrV G.2.1 N fun _ => Value.int (zI 0)); rw [zI_0])) o1
  exact kk H.size p2 H1 locs ls p1 (hS.new z1 o1) hl
theorem x_newZ (Z : gAm b l s0 G cc own nL rm) {x : Int} (N : Nat) (harr : Cond.arrayClass .boolean ∈ gT) (hx0 : x = (N : Int)) (hN : N < 100000000) (hk : k + 1 ≤ rm.cells) (hn : n + N ≤ rm.slots) (d : decode cc pc = .ok (.newarray .boolean, 2)) (kk : ∀ q : Nat, w q = none → gX b s0 G (k + 1) (n + N) (pc + 2) L (rv q :: st) (ws1 w q (eZ G N (fun _ => 0)))) : gX b s0 G k n pc L (iv x :: st) w := by
  have ha := Z.word harr
  obtain ⟨hx, hb, ho, -, hE, -, -, -, hR, -⟩ := Z
  subst hx0
  have et : (zI (N : Int)).toInt = (N : Int) := zI_toInt (by omega) (by omega)
  intro H locs ls hP hS hl
  refine va_newaK (atype := .boolean) hx hb ha rfl d rfl (by rw [Int32.lt_iff_toInt_lt, et, Int32.toInt_zero]; omega) (N := N) (by show (zI (N : Int)).toInt.toNat = N; rw [et]; rfl) (by show N * 1 ≤ 536870912; omega) (by rw [hR]; exact hk) (by rw [hR]; exact hn) rfl fun H1 cA e1 z1 o1 _ hNm => ?_
  have hcA : cA = G.2.2.2.1 := g_newcls (k0 := 0) (hE.2.2.2.2 2 _ rfl).2 (by intro C h; cases h) hNm
  subst hcA
  obtain ⟨p1, p2⟩ := hP.push (e := eZ G N (fun _ => 0)) (g_base hE hS) (e1.trans (by show some (arrV G.2.2.2.1 N fun _ => Value.int 0) = some (arrV G.2.2.2.1 N fun _ => Value.int (zI 0)); rw [zI_0])) o1
  exact kk H.size p2 H1 locs ls p1 (hS.new z1 o1) hl
/-! ends -/
theorem gEnv.F {s t : State} {H : Heap} {locs : List Loc} (hS : va_S (gA s0) s.heap H locs) (ht : t.heap = H) : va_F (gA s0) s t := hS.F ht
theorem x_iret (Z : gAm b l s0 G cc own nL rm) {nm : String} {tb : List ExceptionTableEntry} {Rt : Option Value → wd → Prop} {Xt : String → wd → Prop} (E : gQm b s0 G (some .int) rm nm tb Rt Xt) {x : Int} (hR : Rt (some (iv x)) w) (d : decode cc pc = .ok (.ireturn, 1)) (hk : k ≤ rm.cells) (hn : n ≤ rm.slots) : gX b s0 G k n pc L [iv x] w := by
  obtain ⟨hx, hb, ho, -, hE, hlk, -⟩ := Z
  obtain ⟨hr, -, hq, -⟩ := E
  intro H locs ls hP hS hl
  rw [hq]
  exact W.widen hk hn (vx_ret (W.iret hx hb hr (fun t ht hW => ⟨⟨_, w, rfl, hR, by rw [ht]; exact hP⟩, hS.F ht⟩) hS.2.2 d hlk))
theorem x_zret (Z : gAm b l s0 G cc own nL rm) {nm : String} {tb : List ExceptionTableEntry} {Rt : Option Value → wd → Prop} {Xt : String → wd → Prop} (E : gQm b s0 G (some .boolean) rm nm tb Rt Xt) {q : Bool} (hR : Rt (some (iv (b2 q))) w) (d : decode cc pc = .ok (.ireturn, 1)) (hk : k ≤ rm.cells) (hn : n ≤ rm.slots) : gX b s0 G k n pc L [iv (b2 q)] w := by
  obtain ⟨hx, hb, ho, -, hE, hlk, -⟩ := Z
  obtain ⟨hr, -, hq, -⟩ := E
  intro H locs ls hP hS hl
  rw [hq]
  exact W.widen hk hn (vx_ret (W.zret hx hb hr g_nz (fun t ht hW => ⟨⟨_, w, rfl, hR, by rw [ht]; exact hP⟩, hS.F ht⟩) hS.2.2 d hlk))
theorem x_lret (Z : gAm b l s0 G cc own nL rm) {nm : String} {tb : List ExceptionTableEntry} {Rt : Option Value → wd → Prop} {Xt : String → wd → Prop} (E : gQm b s0 G (some .long) rm nm tb Rt Xt) {x : Int64} (hR : Rt (some (.long x)) w) (d : decode cc pc = .ok (.lreturn, 1)) (hk : k ≤ rm.cells) (hn : n ≤ rm.slots) : gX b s0 G k n pc L [.long x] w := by
  obtain ⟨hx, hb, ho, -, hE, hlk, -⟩ := Z
  obtain ⟨hr, -, hq, -⟩ := E
  intro H locs ls hP hS hl
  rw [hq]
  exact W.widen hk hn (vx_ret (W.lret hx hb hr (fun t ht hW => ⟨⟨_, w, rfl, hR, by rw [ht]; exact hP⟩, hS.F ht⟩) hS.2.2 d hlk))
theorem x_vret (Z : gAm b l s0 G cc own nL rm) {nm : String} {tb : List ExceptionTableEntry} {Rt : Option Value → wd → Prop} {Xt : String → wd → Prop} (E : gQm b s0 G none rm nm tb Rt Xt) (hR : Rt none w) (d : decode cc pc = .ok (.return_, 1)) (hk : k ≤ rm.cells) (hn : n ≤ rm.slots) : gX b s0 G k n pc L [] w := by
  obtain ⟨hx, hb, ho, -, hE, hlk, -⟩ := Z
  obtain ⟨hr, -, hq, -⟩ := E
  intro H locs ls hP hS hl
  rw [hq]
  exact W.widen hk hn (vx_ret (W.vret hx hb hr (fun t ht hW => ⟨⟨_, w, rfl, hR, by rw [ht]; exact hP⟩, hS.F ht⟩) hS.2.2 d hlk))
theorem x_aret (Z : gAm b l s0 G cc own nL rm) {C nm : String} {tb : List ExceptionTableEntry} {Rt : Option Value → wd → Prop} {Xt : String → wd → Prop} (E : gQm b s0 G (some (.object C)) rm nm tb Rt Xt) {x : Nat} (hR : Rt (some (rv x)) w) (d : decode cc pc = .ok (.areturn, 1)) (hk : k ≤ rm.cells) (hn : n ≤ rm.slots) : gX b s0 G k n pc L [rv x] w := by
  obtain ⟨hx, hb, ho, -, hE, hlk, -⟩ := Z
  obtain ⟨hr, -, hq, -⟩ := E
  intro H locs ls hP hS hl
  rw [hq]
  exact W.widen hk hn (vx_ret (W.aret hx hb hr (Or.inl ⟨C, rfl⟩) (Or.inr ⟨x, rfl⟩) (fun t ht hW => ⟨⟨_, w, rfl, hR, by rw [ht]; exact hP⟩, hS.F ht⟩) hS.2.2 d hlk))
/-- an exception that this method doesn't catch -/
theorem x_out (Z : gAm b l s0 G cc own nL rm) {nm : String} {ret : Option FieldType} {Rt : Option Value → wd → Prop} {Xt : String → wd → Prop} (E : gQm b s0 G ret rm nm [] Rt Xt) {X : String} (hX : Xt X w) (hk : k ≤ rm.cells) (hn : n ≤ rm.slots) : gE b s0 G k n pc L st w X := by
  obtain ⟨hx, hb, ho, -, hE, hlk, -⟩ := Z
  obtain ⟨hr, ht, hq, -⟩ := E
  intro H locs ls ce q hP hS hl hce hcv hcl
  rw [hq]
  exact vx_out (by rw [ht]; intro x h; cases h) hlk hce hcv hcl (fun t ht _ => ⟨⟨w, hX, by rw [ht]; exact hP⟩, hS.F ht⟩) hS.2.2 hk hn
/-! calls -/
theorem MetFree.mono {l : Launch} {x : MethodName} {S : Spec} {P : Array Value → State → Prop} {K : Program → Env → List Frame → State → Array Value → Prop} {Q Q' : Array Value → State → Outcome → State → Prop} (h : MetFree l x S P K Q) (hQ : ∀ a s o t, Q a s o t → Q' a s o t) : MetFree l x S P K Q' := by
  intro p e a1 a2 a3 s m args below hf hap hP hK
  obtain ⟨n, o, h1, h2, h3, h4⟩ := h p e a1 a2 a3 s m args below hf hap hP hK
  exact ⟨n, o, h1, h2, h3, hQ _ _ _ _ h4⟩
theorem g_met {y : MethodName} {ws : List Cond} {rm' : Room} {as : List Value} {w : wd} {Rt : Option Value → wd → Prop} (h : gM l s0 G y ws rm' as w Rt noX) : Met l y ws rm' (gPc s0 G as w) (gQc s0 G Rt) rm'.cells rm'.slots (gA s0) := by
  refine MetFree.mono h ?_
  intro a s o t hq
  rcases hq with hq | ⟨q, -, E, ce, L, ⟨⟨w', hx, -⟩, -⟩, -⟩
  · exact hq
  · exact hx.elim
theorem g_blind {as : List Value} : FrameBlind (gPc s0 G as w) := by
  intro a U g mk hp
  obtain ⟨h1, ⟨h2, h3, h4, h5⟩, h6⟩ := hp
  exact ⟨h1, ⟨h2, h3, h4, va_K.moved (u := U) (U := U.calling g mk a) (Vm.Alike.refl U.vm) h5⟩, h6⟩
theorem g_pc {H : Heap} {locs : List Loc} {as : List Value} (hE : gEnv s0 G (bs b)) (hP : gRep G.1 s0.heap.size w H) (hS : va_S (gA s0) (bs b).heap H locs) : ∀ U : State, U.heap = H → (bs b).WarmedH U.vm → gPc s0 G as w as.toArray U := by
  intro U hU hW
  obtain ⟨h2, h3, h4, h5⟩ := hE
  refine ⟨rfl, ⟨State.WarmedH.trans h2 hW, by rw [hU]; exact Nat.le_trans h3 hS.1, fun a ha => ?_, va_K.moved hW.alike h5⟩, by rw [hU]; exact hP⟩
  rw [hU, hS.2.1 a (Nat.lt_of_lt_of_le ha h3) (Nat.not_le.mpr ha)]
  exact h4 a ha
/-- behind a call that returns -/
theorem g_beh {H : Heap} {locs : List Loc} {ls : Array Slot} {mc ms : Nat} {Rt : Option Value → wd → Prop} {a : Array Value} {st0 : List Value} (hr : va_Run (bp b) (bl b) (be b) (bR b) (bs b) (bm b) (ba b) (bw b) (bh b) (bc b) H locs k n mc ms (F0 (bm b) pc ls st0) rest (gQc s0 G Rt a) (gA s0)) (hS : va_S (gA s0) (bs b).heap H locs) (hl : lv_has ls (bc b).maxLocals L)
    (kk : ∀ (v : Option Value) (w' : wd), Rt v w' → gX b s0 G (k + mc) (n + ms) (pc + 3) L (v.toList ++ rest) w') : W (bp b) (bl b) (be b) (bR b) (bs b) (bm b) (ba b) (bw b) (bh b) (bc b) H locs k n (bq b) (F0 (bm b) pc ls st0) := by
  intro T hT X
  obtain ⟨v, st₀, t, T', L', h0, X', hL', e1, e2, ⟨⟨v', w', hv, hRt, hP'⟩, hF⟩, st⟩ := hr T hT X
  cases hv
  have hS' := (vx_keep h0 e1 hS (fun _ _ h => h) (fun _ h => h) hL' hF).2.2
  obtain ⟨t2, a1, b1⟩ := kk v w' hRt T'.heap (locs ++ L') ls (by rw [e1]; exact hP') hS' hl T' rfl X'
  exact ⟨t2, st t2 a1, b1⟩
/-- behind a call that returns or throws -/
theorem g_behX {H : Heap} {locs : List Loc} {ls : Array Slot} {mc ms : Nat} {Rt : Option Value → wd → Prop} {Xt : String → wd → Prop} {a : Array Value} {st0 : List Value} (hr : vx_Run (bp b) (bl b) (be b) (bR b) (bs b) (bm b) (ba b) (bw b) (bh b) (bc b) H locs k n mc ms (F0 (bm b) pc ls st0) rest (gQc s0 G Rt a) (gXc s0 G Xt) (gA s0)) (hS : va_S (gA s0) (bs b).heap H locs) (hl : lv_has ls (bc b).maxLocals L)
    (kx : ∀ (X : String) (w' : wd), Xt X w' → gE b s0 G (k + mc) (n + ms) pc L rest w' X) (kk : ∀ (v : Option Value) (w' : wd), Rt v w' → gX b s0 G (k + mc) (n + ms) (pc + 3) L (v.toList ++ rest) w') : W (bp b) (bl b) (be b) (bR b) (bs b) (bm b) (ba b) (bw b) (bh b) (bc b) H locs k n (bq b) (F0 (bm b) pc ls st0) := by
  intro T hT X
  rcases hr T hT X with ⟨v, st₀, t, T', L', h0, X', hL', e1, e2, ⟨⟨v', w', hv, hRt, hP'⟩, hF⟩, st⟩ | ⟨q, st₀, t, T', L', E, ce, h0, X', hL', e1, e2, ⟨⟨w', hX, hP'⟩, hF⟩, hce, hcv, hcl, st⟩
  · cases hv
    have hS' := (vx_keep h0 e1 hS (fun _ _ h => h) (fun _ h => h) hL' hF).2.2
    obtain ⟨t2, a1, b1⟩ := kk v w' hRt T'.heap (locs ++ L') ls (by rw [e1]; exact hP') hS' hl T' rfl X'
    exact ⟨t2, st t2 a1, b1⟩
  · have hS' := (vx_keep h0 e1 hS (fun _ _ h => h) (fun _ h => h) hL' hF).2.2
    obtain ⟨t2, a1, b1⟩ := kx E w' hX T'.heap (locs ++ L') ls ce q (by rw [e1]; exact hP') hS' hl (by rw [e1]; exact hce) hcv hcl T' rfl X'
    exact ⟨t2, st.trans a1, b1⟩
/-- what stands of a method in the tables: its code, its class, how many arguments -/
def gOk (y : MethodName) (bytes : ByteArray) (maxL : Nat) (ret : Option FieldType) (na : Nat) : Prop :=
  Cond.code y bytes maxL ret ∈ gT ∧ Cond.initialized y.cls ∈ gT ∧ (y.cls ≠ "java/lang/invoke/MethodHandle" ∧ y.cls ≠ "java/lang/invoke/VarHandle") ∧ (parseMethodDescriptor y.desc).map (fun d => d.parameters.length) = some na
def rmIn (rm' rm : Room) (maxL k n : Nat) : Prop := rm'.frames + 1 ≤ rm.frames ∧ 8 + (maxL + 11) + rm'.locals ≤ rm.locals ∧ k + rm'.cells ≤ rm.cells ∧ n + rm'.slots ≤ rm.slots
theorem g_ws {y : MethodName} {bytes : ByteArray} {maxL : Nat} {ret : Option FieldType} {s : State} {args : Array Value} (h : (Cond.code y bytes maxL ret).before args s = true) : ∀ q ∈ [Cond.code y bytes maxL ret], ∀ (a' : Array Value) (U : State), s.WarmedH U.vm → q.before a' U = true := by
  intro q hq a' U hW
  rcases List.mem_singleton.mp hq with rfl
  exact word_at hW (Or.inl rfl) h
theorem g_par {y : MethodName} {na : Nat} (h : (parseMethodDescriptor y.desc).map (fun d => d.parameters.length) = some na) : ∀ sig, parseMethodDescriptor y.desc = some sig → na = sig.parameters.length := by
  intro sig hs
  rw [hs] at h
  exact (Option.some.inj h).symm
theorem g_callB (Z : gAm b l s0 G cc own nL rm) {y : MethodName} {bytes : ByteArray} {maxL index na : Nat} {ret : Option FieldType} {rm' : Room} (hok : gOk y bytes maxL ret na) (hlk : Cond.methodLink own index y ∈ gT) (hroom : rmIn rm' rm maxL k n) : CallB (bR b) (bs b) (ba b) own index y bytes maxL ret [Cond.code y bytes maxL ret] rm' rm'.cells rm'.slots na := by
  have h1 := Z.word hok.1
  have h2 := Z.word hok.2.1
  have h3 := Z.word hlk
  obtain ⟨-, -, -, -, -, -, -, -, hR, -⟩ := Z
  exact ⟨rfl, rfl, by rw [hR]; exact hroom.1, by rw [hR]; exact hroom.2.1, g_ws h1, List.mem_singleton.mpr rfl, h1, h2, hok.2.2.1, g_par hok.2.2.2, h3⟩
theorem g_callN (Z : gAm b l s0 G cc own nL rm) {y : MethodName} {host : String} {bytes : ByteArray} {maxL index na : Nat} {ret : Option FieldType} {rm' : Room} (hok : gOk y bytes maxL ret na) (hlk : Cond.methodLinkNest own index y host ∈ gT) (hroom : rmIn rm' rm maxL k n) : va_CN (bR b) (bs b) (ba b) own index y host bytes maxL ret [Cond.code y bytes maxL ret] rm' rm'.cells rm'.slots na := by
  have h1 := Z.word hok.1
  have h2 := Z.word hok.2.1
  have h3 := Z.word hlk
  obtain ⟨-, -, -, -, -, -, -, -, hR, -⟩ := Z
  exact ⟨⟨rfl, rfl, by rw [hR]; exact hroom.1, by rw [hR]; exact hroom.2.1, g_ws h1, List.mem_singleton.mpr rfl⟩, h1, h2, hok.2.2.1, g_par hok.2.2.2, h3⟩
theorem g_fix (Z : gAm b l s0 G cc own nL rm) : CallFix (bp b) (bm b) (bc b) cc nL (bs b) (ba b) [] own := by
  obtain ⟨hx, hb, ho, -, -, -, -, hml, -⟩ := Z
  exact ⟨hx, hb, hml, ho, fun q h => by cases h⟩
theorem g_rcv {H : Heap} {a ci : Nat} {fs : List Value} {C : String} {T : u_T} {N : Nat} (hE : gEnv s0 G (bs b)) (hP : gRep G.1 s0.heap.size w H) (hw : w a = some (eO ci fs)) (hc : vwCl[ci]? = some (C, T, N)) : ∃ cellB : Cell, H[a]? = some cellB ∧ cellB.vm.isStatics = false ∧ (bs b).vm.findClass C = some cellB.cls := by
  obtain ⟨cell, q1, q2, q3, -⟩ := g_obj hP hw hc
  exact ⟨cell, q1, by rw [q3]; rfl, by rw [q2]; exact (hE.2.2.2.1 ci _ hc).2.1⟩
theorem x_callV (Z : gAm b l s0 G cc own nL rm) {y : MethodName} {bytes : ByteArray} {maxL index na a ci N : Nat} {C : String} {T : u_T} {fs : List Value} {ret : Option FieldType} {rm' : Room} {As : List Value} {Rt : Option Value → wd → Prop} (hok : gOk y bytes maxL ret na) (hlk : Cond.methodLink own index y ∈ gT) (hi : Cond.instanceMethod y ∈ gT) (hs : Cond.selects C y y ∈ gT) (hc : vwCl[ci]? = some (C, T, N)) (d : decode cc pc = .ok (.invokevirtual index, 3)) (hM : gM l s0 G y [Cond.code y bytes maxL ret] rm' (rv a :: As) w Rt noX) (hw : w a = some (eO ci fs)) (hroom : rmIn rm' rm maxL k n) (hna : As.length = na) (hst : st = As.reverse ++ rv a :: rest) (hcat : (rest.map fun v => v.category).sum ≤ 8)
    (kk : ∀ (v : Option Value) (w' : wd), Rt v w' → gX b s0 G (k + rm'.cells) (n + rm'.slots) (pc + 3) L (v.toList ++ rest) w') : gX b s0 G k n pc L st w := by
  have hcb := g_callB Z hok hlk hroom
  have h1 := Z.word hi
  have h2 := Z.word hs
  have hfx := g_fix Z
  obtain ⟨-, -, -, -, hE, -, -, hml, hR, hbl⟩ := Z
  subst hst
  rw [← hbl] at hM
  exact fun H locs ls hP hS hl => g_beh (va_runV hfx (g_met hM) ⟨hcb, h1, h2⟩ ⟨g_blind, g_rcv hE hP hw hc, g_pc hE hP hS⟩ rfl hna (hl.1.trans hml) rfl (lv_room hcat) d ⟨by rw [hR]; exact hroom.2.2.1, by rw [hR]; exact hroom.2.2.2⟩) hS hl kk
theorem x_callS (Z : gAm b l s0 G cc own nL rm) {y : MethodName} {bytes : ByteArray} {maxL index na : Nat} {ret : Option FieldType} {rm' : Room} {As : List Value} {Rt : Option Value → wd → Prop} (hok : gOk y bytes maxL ret na) (hlk : Cond.methodLink own index y ∈ gT) (hi : Cond.static y ∈ gT) (d : decode cc pc = .ok (.invokestatic index, 3)) (hM : gM l s0 G y [Cond.code y bytes maxL ret] rm' As w Rt noX) (hroom : rmIn rm' rm maxL k n) (hna : As.length = na) (hst : st = As.reverse ++ rest) (hcat : (rest.map fun v => v.category).sum ≤ 8)
    (kk : ∀ (v : Option Value) (w' : wd), Rt v w' → gX b s0 G (k + rm'.cells) (n + rm'.slots) (pc + 3) L (v.toList ++ rest) w') : gX b s0 G k n pc L st w := by
  have hcb := g_callB Z hok hlk hroom
  have h1 := Z.word hi
  have hfx := g_fix Z
  obtain ⟨-, -, -, -, hE, -, -, hml, hR, hbl⟩ := Z
  subst hst
  rw [← hbl] at hM
  exact fun H locs ls hP hS hl => g_beh (va_runS hfx (g_met hM) ⟨hcb, h1⟩ ⟨g_blind, g_pc hE hP hS⟩ rfl hna (hl.1.trans hml) rfl (lv_room hcat) d ⟨by rw [hR]; exact hroom.2.2.1, by rw [hR]; exact hroom.2.2.2⟩) hS hl kk
theorem x_callI (Z : gAm b l s0 G cc own nL rm) {y : MethodName} {bytes : ByteArray} {maxL index na a : Nat} {rm' : Room} {As : List Value} {Rt : Option Value → wd → Prop} (hok : gOk y bytes maxL none na) (hlk : Cond.methodLink own index y ∈ gT) (hi : Cond.instanceMethod y ∈ gT) (hy1 : y.name = "<init>") (d : decode cc pc = .ok (.invokespecial index, 3)) (hM : gM l s0 G y [Cond.code y bytes maxL none] rm' (rv a :: As) w Rt noX) (hroom : rmIn rm' rm maxL k n) (hna : As.length = na) (hst : st = As.reverse ++ rv a :: rest) (hcat : (rest.map fun v => v.category).sum ≤ 8)
    (kk : ∀ (v : Option Value) (w' : wd), Rt v w' → gX b s0 G (k + rm'.cells) (n + rm'.slots) (pc + 3) L (v.toList ++ rest) w') : gX b s0 G k n pc L st w := by
  have hcb := g_callB Z hok hlk hroom
  have h1 := Z.word hi
  have hfx := g_fix Z
  obtain ⟨-, -, -, -, hE, -, -, hml, hR, hbl⟩ := Z
  subst hst
  rw [← hbl] at hM
  exact fun H locs ls hP hS hl => g_beh (va_runI hfx (g_met hM) ⟨hcb, hy1, h1⟩ ⟨g_blind, g_pc hE hP hS⟩ rfl hna (hl.1.trans hml) rfl (lv_room hcat) d ⟨by rw [hR]; exact hroom.2.2.1, by rw [hR]; exact hroom.2.2.2⟩) hS hl kk
theorem x_callSN (Z : gAm b l s0 G cc own nL rm) {y : MethodName} {host : String} {bytes : ByteArray} {maxL index na : Nat} {ret : Option FieldType} {rm' : Room} {As : List Value} {Rt : Option Value → wd → Prop} (hok : gOk y bytes maxL ret na) (hlk : Cond.methodLinkNest own index y host ∈ gT) (hi : Cond.static y ∈ gT) (d : decode cc pc = .ok (.invokestatic index, 3)) (hM : gM l s0 G y [Cond.code y bytes maxL ret] rm' As w Rt noX) (hroom : rmIn rm' rm maxL k n) (hna : As.length = na) (hst : st = As.reverse ++ rest) (hcat : (rest.map fun v => v.category).sum ≤ 8)
    (kk : ∀ (v : Option Value) (w' : wd), Rt v w' → gX b s0 G (k + rm'.cells) (n + rm'.slots) (pc + 3) L (v.toList ++ rest) w') : gX b s0 G k n pc L st w := by
  have hcb := g_callN Z hok hlk hroom
  have h1 := Z.word hi
  have hfx := g_fix Z
  obtain ⟨-, -, -, -, hE, -, -, hml, hR, hbl⟩ := Z
  subst hst
  rw [← hbl] at hM
  exact fun H locs ls hP hS hl => g_beh (va_runSN hfx (g_met hM) ⟨hcb, h1, trivial⟩ ⟨g_blind, g_pc hE hP hS⟩ rfl hna (hl.1.trans hml) rfl (lv_room hcat) d ⟨by rw [hR]; exact hroom.2.2.1, by rw [hR]; exact hroom.2.2.2⟩) hS hl kk
theorem x_callIN (Z : gAm b l s0 G cc own nL rm) {y : MethodName} {host : String} {bytes : ByteArray} {maxL index na a : Nat} {rm' : Room} {As : List Value} {Rt : Option Value → wd → Prop} (hok : gOk y bytes maxL none na) (hlk : Cond.methodLinkNest own index y host ∈ gT) (hi : Cond.instanceMethod y ∈ gT) (hy1 : y.name = "<init>") (d : decode cc pc = .ok (.invokespecial index, 3)) (hM : gM l s0 G y [Cond.code y bytes maxL none] rm' (rv a :: As) w Rt noX) (hroom : rmIn rm' rm maxL k n) (hna : As.length = na) (hst : st = As.reverse ++ rv a :: rest) (hcat : (rest.map fun v => v.category).sum ≤ 8)
    (kk : ∀ (v : Option Value) (w' : wd), Rt v w' → gX b s0 G (k + rm'.cells) (n + rm'.slots) (pc + 3) L (v.toList ++ rest) w') : gX b s0 G k n pc L st w := by
  have hcb := g_callN Z hok hlk hroom
  have h1 := Z.word hi
  have hfx := g_fix Z
  obtain ⟨-, -, -, -, hE, -, -, hml, hR, hbl⟩ := Z
  subst hst
  rw [← hbl] at hM
  exact fun H locs ls hP hS hl => g_beh (va_runIN hfx (g_met hM) ⟨hcb, hy1, h1⟩ ⟨g_blind, g_pc hE hP hS⟩ rfl hna (hl.1.trans hml) rfl (lv_room hcat) d ⟨by rw [hR]; exact hroom.2.2.1, by rw [hR]; exact hroom.2.2.2⟩) hS hl kk
/-! calls that may throw -/
theorem x_callVx (Z : gAm b l s0 G cc own nL rm) {y : MethodName} {bytes : ByteArray} {maxL index na a ci N : Nat} {C : String} {T : u_T} {fs : List Value} {ret : Option FieldType} {rm' : Room} {As : List Value} {Rt : Option Value → wd → Prop} {Xt : String → wd → Prop} (hok : gOk y bytes maxL ret na) (hlk : Cond.methodLink own index y ∈ gT) (hi : Cond.instanceMethod y ∈ gT) (hs : Cond.selects C y y ∈ gT) (hc : vwCl[ci]? = some (C, T, N)) (d : decode cc pc = .ok (.invokevirtual index, 3)) (hM : gM l s0 G y [Cond.code y bytes maxL ret] rm' (rv a :: As) w Rt Xt) (hw : w a = some (eO ci fs)) (hroom : rmIn rm' rm maxL k n) (hna : As.length = na) (hst : st = As.reverse ++ rv a :: rest) (hcat : (rest.map fun v => v.category).sum ≤ 8)
    (kx : ∀ (X : String) (w' : wd), Xt X w' → gE b s0 G (k + rm'.cells) (n + rm'.slots) pc L rest w' X) (kk : ∀ (v : Option Value) (w' : wd), Rt v w' → gX b s0 G (k + rm'.cells) (n + rm'.slots) (pc + 3) L (v.toList ++ rest) w') : gX b s0 G k n pc L st w := by
  have hcb := g_callB Z hok hlk hroom
  have h1 := Z.word hi
  have h2 := Z.word hs
  have hfx := g_fix Z
  obtain ⟨-, -, -, -, hE, -, -, hml, hR, hbl⟩ := Z
  subst hst
  rw [← hbl] at hM
  exact fun H locs ls hP hS hl => g_behX (vx_runV hfx hM ⟨hcb, h1, h2⟩ ⟨g_blind, g_rcv hE hP hw hc, g_pc hE hP hS⟩ rfl hna (hl.1.trans hml) rfl (lv_room hcat) d ⟨by rw [hR]; exact hroom.2.2.1, by rw [hR]; exact hroom.2.2.2⟩) hS hl kx kk
theorem x_callSx (Z : gAm b l s0 G cc own nL rm) {y : MethodName} {bytes : ByteArray} {maxL index na : Nat} {ret : Option FieldType} {rm' : Room} {As : List Value} {Rt : Option Value → wd → Prop} {Xt : String → wd → Prop} (hok : gOk y bytes maxL ret na) (hlk : Cond.methodLink own index y ∈ gT) (hi : Cond.static y ∈ gT) (d : decode cc pc = .ok (.invokestatic index, 3)) (hM : gM l s0 G y [Cond.code y bytes maxL ret] rm' As w Rt Xt) (hroom : rmIn rm' rm maxL k n) (hna : As.length = na) (hst : st = As.reverse ++ rest) (hcat : (rest.map fun v => v.category).sum ≤ 8)
    (kx : ∀ (X : String) (w' : wd), Xt X w' → gE b s0 G (k + rm'.cells) (n + rm'.slots) pc L rest w' X) (kk : ∀ (v : Option Value) (w' : wd), Rt v w' → gX b s0 G (k + rm'.cells) (n + rm'.slots) (pc + 3) L (v.toList ++ rest) w') : gX b s0 G k n pc L st w := by
  have hcb := g_callB Z hok hlk hroom
  have h1 := Z.word hi
  have hfx := g_fix Z
  obtain ⟨-, -, -, -, hE, -, -, hml, hR, hbl⟩ := Z
  subst hst
  rw [← hbl] at hM
  exact fun H locs ls hP hS hl => g_behX (vx_runS hfx hM ⟨hcb, h1⟩ ⟨g_blind, g_pc hE hP hS⟩ rfl hna (hl.1.trans hml) rfl (lv_room hcat) d ⟨by rw [hR]; exact hroom.2.2.1, by rw [hR]; exact hroom.2.2.2⟩) hS hl kx kk
/-! a method's contract out of its body -/
theorem g_of {y : MethodName} {ret : Option FieldType} {as : List Value} {Rt : Option Value → wd → Prop} {Xt : String → wd → Prop} (h0 : gS0 s0) (htr : l.stackTraces = false) (hy : plainName y.cls = true) (hlen : (lg_sl as).length ≤ nL)
    (body : ∀ b : gBt, gAm b l s0 G cc y.cls nL rm → gQm b s0 G ret rm y.name [] Rt Xt → gX b s0 G 0 0 0 (lv_args 0 as) [] w) : gM l s0 G y [Cond.code y cc nL ret] rm as w Rt Xt := by
  refine vx_ofW hy rfl ?_
  intro p e s m args below meth c s₁ B hml ht hv
  obtain ⟨rfl, hE, hP⟩ := hv
  have hown : s.vm.findClass y.cls = some m.cls := findClass_of_methodNamed B.named
  have htb : c.exceptionTable.toList = [] := List.eq_nil_iff_forall_not_mem.mpr ht
  have hl := lv_entry as hlen
  have K := body (p, l, e, rm, s, m, as.toArray, below, meth, c, vx_MQ below (gQc s0 G Rt) (gXc s0 G Xt) as.toArray s rm.cells rm.slots (gA s0)) ⟨B.exec, B.bytes, hown, h0, hE, B.notSynchronized, htr, hml, rfl, rfl⟩ ⟨B.returns, htb, rfl, (name_of_methodNamed B.named B.method).1⟩ s.heap [] _ hP va_S.rf (by show lv_has _ c.maxLocals _; rw [hml]; exact hl)
  rw [lg_entry_eq]
  exact K
end GD
section GH
variable {b : gBt} {l : Launch} {s0 : State} {G : gK} {cc : ByteArray} {own : String} {nL : Nat} {rm : Room} {k n pc : Nat} {L : List (Nat × Value)} {st rest : List Value} {w : wd}
abbrev exN : List String := ["java/lang/RuntimeException", "java/lang/Exception"]
theorem g_una {s : State} (h0 : gS0 s0) (hE : gEnv s0 G s) : vx_Zq Bundle.tN "UNASSIGNED_STACK" Bundle.steD (gA s0) s s.heap := by
  obtain ⟨a0, h1, h2⟩ := h0
  refine vx_Zq.moved hE.1.alike (vx_Zq.kept (vx_Zqof (h1 _ (by decide +kernel)) (h1 _ (by decide +kernel)) (flat_of_before _ h2 _ (by decide +kernel)) (fun a h => Nat.not_le.mpr h)) (fun a h _ => hE.2.2.1 a h))
theorem g_sup {s : State} (h0 : gS0 s0) (hE : gEnv s0 G s) : vx_Zq Bundle.tN "SUPPRESSED_SENTINEL" Bundle.listD (gA s0) s s.heap := by
  obtain ⟨a0, h1, h2⟩ := h0
  refine vx_Zq.moved hE.1.alike (vx_Zq.kept (vx_Zqof (h1 _ (by decide +kernel)) (h1 _ (by decide +kernel)) (flat_of_before _ h2 _ (by decide +kernel)) (fun a h => Nat.not_le.mpr h)) (fun a h _ => hE.2.2.1 a h))
theorem x_thr (Z : gAm b l s0 G cc own nL rm) {ret : Option FieldType} {nm : String} {Rt : Option Value → wd → Prop} {Xt : String → wd → Prop} (E : gQm b s0 G ret rm nm [] Rt Xt) {cls : String} {ik ic : Nat} (hcls : Bundle.fit cls = true) (hws : ∀ q ∈ Cond.classLink own ik cls :: Cond.initialized cls :: vx_at0 own ic cls exN, q ∈ gT ∧ vx_ot q = true) (d0 : decode cc pc = .ok (.new ik, 3)) (d3 : decode cc (pc + 3) = .ok (.dup, 1)) (d4 : decode cc (pc + 4) = .ok (.invokespecial ic, 3)) (d7 : decode cc (pc + 7) = .ok (.athrow, 1)) (hr1 : 6 ≤ rm.frames) (hr2 : (st.map fun v => v.category).sum + 81 ≤ rm.locals) (hr3 : k + 1 ≤ rm.cells) (hr4 : n + 6 ≤ rm.slots) (hX : Xt cls w) : gX b s0 G k n pc L st w := by
  have hat : ∀ q ∈ Cond.classLink own ik cls :: Cond.initialized cls :: vx_at0 own ic cls exN, q.before (ba b) (bs b) = true := fun q h => Z.word (hws q h).1
  obtain ⟨hx, hb, ho, h0, hE, hlk, htr, hml, hR, hbl⟩ := Z
  obtain ⟨hr, ht, hq, -⟩ := E
  intro H locs ls hP hS hl
  rw [hq]
  exact vx_throw0 (names := exN) (A := gA s0) hx hb htr ho hcls (by decide +kernel) (hat _ List.mem_cons_self) (hat _ (List.mem_cons_of_mem _ List.mem_cons_self)) (fun q h => hat q (List.mem_cons_of_mem _ (List.mem_cons_of_mem _ h))) (fun q h => (hws q h).2) (g_una h0 hE) (g_sup h0 hE) hS hl.1 d0 d3 d4 d7 (by rw [ht]; intro x h; cases h)
    (by rw [hR]; show 2 + 3 < rm.frames; omega) (by rw [hR]; exact hr2) (by rw [hR]; exact hr3) (by rw [hR]; exact hr4) hlk
    (fun t hal hz hk => ⟨⟨w, hX, hP.keep hk⟩, ⟨Nat.le_trans hS.1 hz, fun q h1 h2 => (hk q (Nat.lt_of_lt_of_le h1 hS.1)).trans (hS.2.1 q h1 h2)⟩⟩) hS.2.2 hr3 hr4
theorem x_catch (Z : gAm b l s0 G cc own nL rm) {ret : Option FieldType} {nm : String} {tb : List ExceptionTableEntry} {Rt : Option Value → wd → Prop} {Xt : String → wd → Prop} (E : gQm b s0 G ret rm nm tb Rt Xt) (pre : List ExceptionTableEntry) (x : ExceptionTableEntry) (suf : List ExceptionTableEntry) (hsplit : tb = pre ++ x :: suf) {name X : String}
    (hpass : ∀ z ∈ pre, covers z pc = false ∨ (z.catchType ≠ 0 ∧ ∃ nm : String, Cond.classLink own z.catchType nm ∈ gT ∧ va_Nc X nm (bs b))) (hx : covers x pc = true) (hx0 : x.catchType ≠ 0) (hlink : Cond.classLink own x.catchType name ∈ gT) (hcast : Cond.castable X name ∈ gT) (kk : ∀ q : Nat, gX b s0 G k n x.handlerPc L [rv q] w) : gE b s0 G k n pc L st w X := by
  have h1 := Z.word hlink
  have h2 := Z.word hcast
  have hp : ∀ z ∈ pre, covers z pc = false ∨ (z.catchType ≠ 0 ∧ ∃ nm : String, (Cond.classLink own z.catchType nm).before (ba b) (bs b) = true ∧ va_Nc X nm (bs b)) := fun z hz => (hpass z hz).imp id (fun ⟨a, nm, c, d⟩ => ⟨a, nm, Z.word c, d⟩)
  obtain ⟨hx', hb, ho, h0, hE, hlk, htr, hml, hR, hbl⟩ := Z
  obtain ⟨hr, ht, hq, -⟩ := E
  exact fun H locs ls ce q hP hS hl hce hcv hcl => vx_catch ho pre x suf (ht.trans hsplit) hp hx hx0 h1 h2 hce hcv hcl (kk q H locs ls hP hS hl)
theorem g_nc {s : State} {X Y : String} (h0 : gS0 s0) (hE : gEnv s0 G s) (h : ∀ a0 : Array Value, (Jvm.Cond.and given_1 narrow_1).before a0 s0 = true → va_Nc X Y s0) : va_Nc X Y s := by
  obtain ⟨a0, h1, h2⟩ := h0
  exact va_Nc.moved hE.1.alike (h a0 h2)
/-- a contract of a method with a table of handlers -/
theorem g_ofH {y : MethodName} {ret : Option FieldType} {as : List Value} {hh : List (Nat × Nat × Nat × Nat)} {Rt : Option Value → wd → Prop} {Xt : String → wd → Prop} (h0 : gS0 s0) (htr : l.stackTraces = false) (hy : plainName y.cls = true) (hlen : (lg_sl as).length ≤ nL)
    (body : ∀ b : gBt, gAm b l s0 G cc y.cls nL rm → gQm b s0 G ret rm y.name (tableOf hh) Rt Xt → gX b s0 G 0 0 0 (lv_args 0 as) [] w) : gM l s0 G y [Cond.codeWith y cc nL ret hh] rm as w Rt Xt := by
  refine vx_ofWH hy rfl ?_
  intro p e s m args below meth c s₁ B hml hv
  obtain ⟨rfl, hE, hP⟩ := hv
  have hown : s.vm.findClass y.cls = some m.cls := findClass_of_methodNamed B.named
  have htb : c.exceptionTable.toList = tableOf hh := vx_table (x := y) B (atoms_spec (ws := [Cond.codeWith y cc nL ret hh]) B.pre _ (List.mem_singleton.mpr rfl))
  have hl := lv_entry as hlen
  have K := body (p, l, e, rm, s, m, as.toArray, below, meth, c, vx_MQ below (gQc s0 G Rt) (gXc s0 G Xt) as.toArray s rm.cells rm.slots (gA s0)) ⟨B.exec, B.bytes, hown, h0, hE, B.notSynchronized, htr, hml, rfl, rfl⟩ ⟨B.returns, htb, rfl, (name_of_methodNamed B.named B.method).1⟩ s.heap [] _ hP va_S.rf (by show lv_has _ c.maxLocals _; rw [hml]; exact hl)
  rw [lg_entry_eq]
  exact K
def gOkH (y : MethodName) (bytes : ByteArray) (maxL : Nat) (ret : Option FieldType) (hh : List (Nat × Nat × Nat × Nat)) (na : Nat) : Prop :=
  Cond.codeWith y bytes maxL ret hh ∈ gT ∧ Cond.initialized y.cls ∈ gT ∧ (y.cls ≠ "java/lang/invoke/MethodHandle" ∧ y.cls ≠ "java/lang/invoke/VarHandle") ∧ (parseMethodDescriptor y.desc).map (fun d => d.parameters.length) = some na
theorem x_callSH (Z : gAm b l s0 G cc own nL rm) {y : MethodName} {bytes : ByteArray} {maxL index na : Nat} {ret : Option FieldType} {hh : List (Nat × Nat × Nat × Nat)} {rm' : Room} {As : List Value} {Rt : Option Value → wd → Prop} (hok : gOkH y bytes maxL ret hh na) (hlk : Cond.methodLink own index y ∈ gT) (hi : Cond.static y ∈ gT) (d : decode cc pc = .ok (.invokestatic index, 3)) (hM : gM l s0 G y [Cond.codeWith y bytes maxL ret hh] rm' As w Rt noX) (hroom : rmIn rm' rm maxL k n) (hna : As.length = na) (hst : st = As.reverse ++ rest) (hcat : (rest.map fun v => v.category).sum ≤ 8)
    (kk : ∀ (v : Option Value) (w' : wd), Rt v w' → gX b s0 G (k + rm'.cells) (n + rm'.slots) (pc + 3) L (v.toList ++ rest) w') : gX b s0 G k n pc L st w := by
  have h1 := Z.word hi
  have h2 := Z.word hlk
  have h3 := Z.word hok.1
  have h4 := Z.word hok.2.1
  have hfx := g_fix Z
  obtain ⟨-, -, -, -, hE, -, -, hml, hR, hbl⟩ := Z
  subst hst
  rw [← hbl] at hM
  exact fun H locs ls hP hS hl => g_beh (vx_runSW (hh := hh) hfx (g_met hM) ⟨⟨rfl, rfl, by rw [hR]; exact hroom.1, by rw [hR]; exact hroom.2.1, (fun q hq a' U hW => by rcases List.mem_singleton.mp hq with rfl; exact word_at hW (Or.inl rfl) h3), List.mem_singleton.mpr rfl⟩, h3, h4, hok.2.2.1, g_par hok.2.2.2, h2, h1⟩ ⟨g_blind, g_pc hE hP hS⟩ rfl hna (hl.1.trans hml) rfl (lv_room hcat) d ⟨by rw [hR]; exact hroom.2.2.1, by rw [hR]; exact hroom.2.2.2⟩) hS hl kk
end GH
