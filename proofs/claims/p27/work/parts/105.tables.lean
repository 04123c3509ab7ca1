section
/-! a word of one of the lists of which the tables are made lasts -/
/-- the leaves of a condition, ahead of a list -/
def flA : Jvm.Cond → List Jvm.Cond → List Jvm.Cond
  | .and a b, t => flA a (flA b t)
  | c, t => c :: t
theorem flA_eq (c : Jvm.Cond) : ∀ t : List Jvm.Cond, flA c t = flatC c ++ t := by
  induction c with
  | and a b iha ihb =>
    intro t
    show flA a (flA b t) = (flatC a ++ flatC b) ++ t
    rw [ihb, iha, List.append_assoc]
  | _ =>
    intro t
    rfl
theorem fl_eq (c : Jvm.Cond) : flatC c = flA c [] := by rw [flA_eq, List.append_nil]
theorem fl_in {c w : Jvm.Cond} (h : w ∈ flA c []) : w ∈ flatC c := by rw [fl_eq]; exact h
theorem gt_s {w : Cond} (i : Nat) (h : (k2_sels lw_privs)[i]? = some w) (g : gw2 w = true) : w ∈ gT := List.mem_filter.mpr ⟨(show w ∈ k2_sels lw_privs ++ tables_1 from List.mem_append_left _ (List.mem_of_getElem? h)), g⟩
theorem lt_1 {w : Cond} (i : Nat) (h : tables_1_1[i]? = some w) : w ∈ lw_tbl := show w ∈ k2_sels lw_privs ++ tables_1 from List.mem_append_right _ (tb_1 i h)
theorem gt_1 {w : Cond} (i : Nat) (h : tables_1_1[i]? = some w) (g : gw2 w = true) : w ∈ gT := List.mem_filter.mpr ⟨lt_1 i h, g⟩
theorem lt_2 {w : Cond} (i : Nat) (h : tables_1_2[i]? = some w) : w ∈ lw_tbl := show w ∈ k2_sels lw_privs ++ tables_1 from List.mem_append_right _ (tb_2 i h)
theorem gt_2 {w : Cond} (i : Nat) (h : tables_1_2[i]? = some w) (g : gw2 w = true) : w ∈ gT := List.mem_filter.mpr ⟨lt_2 i h, g⟩
theorem lt_3 {w : Cond} (i : Nat) (h : tables_1_3[i]? = some w) : w ∈ lw_tbl := show w ∈ k2_sels lw_privs ++ tables_1 from List.mem_append_right _ (tb_3 i h)
theorem gt_3 {w : Cond} (i : Nat) (h : tables_1_3[i]? = some w) (g : gw2 w = true) : w ∈ gT := List.mem_filter.mpr ⟨lt_3 i h, g⟩
theorem lt_4 {w : Cond} (i : Nat) (h : tables_1_4[i]? = some w) : w ∈ lw_tbl := show w ∈ k2_sels lw_privs ++ tables_1 from List.mem_append_right _ (tb_4 i h)
theorem gt_4 {w : Cond} (i : Nat) (h : tables_1_4[i]? = some w) (g : gw2 w = true) : w ∈ gT := List.mem_filter.mpr ⟨lt_4 i h, g⟩
theorem lt_5 {w : Cond} (i : Nat) (h : tables_1_5[i]? = some w) : w ∈ lw_tbl := show w ∈ k2_sels lw_privs ++ tables_1 from List.mem_append_right _ (tb_5 i h)
theorem gt_5 {w : Cond} (i : Nat) (h : tables_1_5[i]? = some w) (g : gw2 w = true) : w ∈ gT := List.mem_filter.mpr ⟨lt_5 i h, g⟩
theorem lt_6 {w : Cond} (i : Nat) (h : tables_1_6[i]? = some w) : w ∈ lw_tbl := show w ∈ k2_sels lw_privs ++ tables_1 from List.mem_append_right _ (tb_6 i h)
theorem gt_6 {w : Cond} (i : Nat) (h : tables_1_6[i]? = some w) (g : gw2 w = true) : w ∈ gT := List.mem_filter.mpr ⟨lt_6 i h, g⟩
end
section
/-! object init, statics, pure words, the state of a text -/
section GI
variable {b : gBt} {l : Launch} {s0 : State} {G : gK} {cc : ByteArray} {own : String} {nL : Nat} {rm : Room} {k n pc : Nat} {L : List (Nat × Value)} {st rest : List Value} {w : wd}
theorem obj_i : Cond.instanceMethod objectInit ∈ gT := by decide +kernel
theorem obj_c : Cond.code objectInit ⟨#[0xb1]⟩ 1 none ∈ gT := by decide +kernel
theorem x_objI (Z : gAm b l s0 G cc own nL rm) {idx a : Nat} (hlk : Cond.methodLink own idx objectInit ∈ gT) (d : decode cc pc = .ok (.invokespecial idx, 3)) (h1 : 1 ≤ rm.frames) (h2 : (st.map fun v => v.category).sum ≤ 8) (h3 : 20 ≤ rm.locals) (kk : gX b s0 G k n (pc + 3) L st w) : gX b s0 G k n pc L (rv a :: st) w := by
  have w1 := Z.word hlk
  have w2 := Z.word obj_i
  have w3 := Z.word obj_c
  obtain ⟨hx, hb, ho, -, -, -, -, hml, hR, -⟩ := Z
  exact fun H locs ls hP hS hl => W.objInit hx hb ho w1 w2 w3 rfl hl.1 rfl d (by rw [hR]; exact h1) (by rw [hR]; have := lv_room (pc := pc) (ls := ls) (rest := rv a :: st) (m := bm b) h2; omega) (kk H locs ls hP hS hl)
theorem st_tab0 {C nm d0 : String} {ty : FieldType} {N : Nat} {F : Int → Int} (h0 : gS0 s0) (hN : N < 2147483648) (hl : Cond.laysStatic C nm d0 ∈ lw_tbl) (hini : Cond.initialized C ∈ lw_tbl) (harr : Cond.arrayOf (.static C nm d0) ty ∈ flatC (Jvm.Cond.and given_1 narrow_1)) (hlen : Cond.eq (.length (.static C nm d0)) (.int (Int32.ofNat N)) ∈ flatC (Jvm.Cond.and given_1 narrow_1)) (hel : ∀ j, j < N → Cond.eq (.elem (.static C nm d0) (.int (Int32.ofNat j))) (.int (zI (F (j : Int)))) ∈ flatC (Jvm.Cond.and given_1 narrow_1)) : ∃ t : Nat, va_Z C nm d0 (.ref t) (gA s0) s0 s0.heap ∧ va_T ty t N (fun j => iv (F (j : Int))) (gA s0) s0 s0.heap := by
  obtain ⟨a0, h1, h2⟩ := h0
  have hf := flat_of_before _ h2
  have hA : ∀ a : Nat, a < s0.heap.size → ¬ gA s0 a := fun a h => Nat.not_le.mpr h
  obtain ⟨t, e1, e2⟩ := va_Tof (args := a0) (f := fun j => iv (F (j : Int))) (A := gA s0) (show N < 2 ^ 31 by omega) (hf _ harr) (va_eqt (hf _ hlen)) (fun j hj => va_eqt (hf _ (hel j hj))) hA
  exact ⟨t, va_Zref (h1 _ hl) (h1 _ hini) e1 hA, e2⟩
theorem st_mv {s : State} {C nm d0 : String} {v : Value} (hE : gEnv s0 G s) (h : va_Z C nm d0 v (gA s0) s0 s0.heap) : va_Z C nm d0 v (gA s0) s s.heap := va_Z.moved hE.1.alike (va_Z.kept h (fun a ha _ => hE.2.2.1 a ha))
theorem st_mvT {s : State} {ty : FieldType} {t N : Nat} {f : Nat → Value} (hE : gEnv s0 G s) (h : va_T ty t N f (gA s0) s0 s0.heap) : va_T ty t N f (gA s0) s s.heap := va_T.moved hE.1.alike (va_T.kept h (fun a ha _ => hE.2.2.1 a ha))
def kinL : List Int := [15, 15, 15, 15, 15, 15, 15, 15, 15, 15, 15, 15, 15, 15, 15, 15, 15, 15, 15, 15, 15, 15, 15, 15, 15, 15, 15, 15, 15, 15, 15, 15, 12, 24, 24, 24, 26, 24, 24, 24, 21, 22, 24, 25, 24, 20, 24, 24, 9, 9, 9, 9, 9, 9, 9, 9, 9, 9, 24, 24, 25, 25, 25, 24, 24, 1, 1, 1, 1, 1, 1, 1, 1, 1, 1, 1, 1, 1, 1, 1, 1, 1, 1, 1, 1, 1, 1, 1, 1, 1, 1, 21, 24, 22, 27, 23, 27, 2, 2, 2, 2, 2, 2, 2, 2, 2, 2, 2, 2, 2, 2, 2, 2, 2, 2, 2, 2, 2, 2, 2, 2, 2, 2, 21, 25, 22, 25, 15, 15, 15, 15, 15, 15, 15, 15, 15, 15, 15, 15, 15, 15, 15, 15, 15, 15, 15, 15, 15, 15, 15, 15, 15, 15, 15, 15, 15, 15, 15, 15, 15, 12, 24, 26, 26, 26, 26, 28, 24, 27, 28, 5, 29, 25, 16, 28, 27, 28, 25, 11, 11, 27, 2, 24, 24, 27, 11, 5, 30, 11, 11, 11, 24, 1, 1, 1, 1, 1, 1, 1, 1, 1, 1, 1, 1, 1, 1, 1, 1, 1, 1, 1, 1, 1, 1, 1, 25, 1, 1, 1, 1, 1, 1, 1, 2, 2, 2, 2, 2, 2, 2, 2, 2, 2, 2, 2, 2, 2, 2, 2, 2, 2, 2, 2, 2, 2, 2, 2, 25, 2, 2, 2, 2, 2, 2, 2, 2]
def kqL : List Int := [2147483647, 38, 512, 550, 2, 36, 0, 0, 4096, 32768, 1616904192, 75497510, 75596326, 98304, 33554432]
def fsL : List Int := [11, 2, 7, 14]
def osL : List Int := [12, 2, 7, 14, 6]
def kin (c : Int) : Int := kinL.getD c.toNat 0
def kq (q : Int) : Int := kqL.getD q.toNat 0
def fs4 (s : Int) : Int := fsL.getD s.toNat 0
def os5 (s : Int) : Int := osL.getD s.toNat 0
set_option maxRecDepth 100000 in
theorem sl_K : (List.range 256).map (fun j : Nat => Cond.eq (.elem (.static "Kindcutter$Signs" "KINDS" "[B") (.int (Int32.ofNat j))) (.int (zI (kin (j : Int))))) = ((flatC (Jvm.Cond.and given_1 narrow_1)).drop 7).take 256 := by (rw [fl_eq]; decide +kernel)
theorem sq_K : ∀ j, j < 256 → (fun j : Nat => Cond.eq (.elem (.static "Kindcutter$Signs" "KINDS" "[B") (.int (Int32.ofNat j))) (.int (zI (kin (j : Int))))) j ∈ flatC (Jvm.Cond.and given_1 narrow_1) := fun j hj => List.mem_of_mem_drop (i := 7) (List.mem_of_mem_take (i := 256) (by rw [← sl_K]; exact List.mem_map.mpr ⟨j, List.mem_range.mpr hj, rfl⟩))
set_option maxRecDepth 100000 in
theorem st_KINDS (h0 : gS0 s0) (Z : gAm b l s0 G cc own nL rm) : ∃ t : Nat, va_Z "Kindcutter$Signs" "KINDS" "[B" (.ref t) (gA s0) (bs b) (bs b).heap ∧ va_T .byte t 256 (fun j => iv (kin (j : Int))) (gA s0) (bs b) (bs b).heap := by
  obtain ⟨t, h1, h2⟩ := st_tab0 (ty := .byte) (F := kin) h0 (by decide) (C := "Kindcutter$Signs") (nm := "KINDS") (d0 := "[B") (by decide +kernel) (by decide +kernel) (fl_in (by decide +kernel)) (fl_in (by decide +kernel)) sq_K
  obtain ⟨-, -, -, -, hE, -⟩ := Z
  exact ⟨t, st_mv hE h1, st_mvT hE h2⟩
set_option maxRecDepth 100000 in
theorem sl_Q : (List.range 15).map (fun j : Nat => Cond.eq (.elem (.static "Kindcutter$Signs" "KINDS_OF_QUESTION" "[I") (.int (Int32.ofNat j))) (.int (zI (kq (j : Int))))) = ((flatC (Jvm.Cond.and given_1 narrow_1)).drop 273).take 15 := by (rw [fl_eq]; decide +kernel)
theorem sq_Q : ∀ j, j < 15 → (fun j : Nat => Cond.eq (.elem (.static "Kindcutter$Signs" "KINDS_OF_QUESTION" "[I") (.int (Int32.ofNat j))) (.int (zI (kq (j : Int))))) j ∈ flatC (Jvm.Cond.and given_1 narrow_1) := fun j hj => List.mem_of_mem_drop (i := 273) (List.mem_of_mem_take (i := 15) (by rw [← sl_Q]; exact List.mem_map.mpr ⟨j, List.mem_range.mpr hj, rfl⟩))
set_option maxRecDepth 100000 in
theorem st_KINDS_OF_QUESTION (h0 : gS0 s0) (Z : gAm b l s0 G cc own nL rm) : ∃ t : Nat, va_Z "Kindcutter$Signs" "KINDS_OF_QUESTION" "[I" (.ref t) (gA s0) (bs b) (bs b).heap ∧ va_T .int t 15 (fun j => iv (kq (j : Int))) (gA s0) (bs b) (bs b).heap := by
  obtain ⟨t, h1, h2⟩ := st_tab0 (ty := .int) (F := kq) h0 (by decide) (C := "Kindcutter$Signs") (nm := "KINDS_OF_QUESTION") (d0 := "[I") (by decide +kernel) (by decide +kernel) (fl_in (by decide +kernel)) (fl_in (by decide +kernel)) sq_Q
  obtain ⟨-, -, -, -, hE, -⟩ := Z
  exact ⟨t, st_mv hE h1, st_mvT hE h2⟩
set_option maxRecDepth 100000 in
theorem sl_F : (List.range 4).map (fun j : Nat => Cond.eq (.elem (.static "Kindcutter$Signs" "FIRST_OF_SORT" "[I") (.int (Int32.ofNat j))) (.int (zI (fs4 (j : Int))))) = ((flatC (Jvm.Cond.and given_1 narrow_1)).drop 266).take 4 := by (rw [fl_eq]; decide +kernel)
theorem sq_F : ∀ j, j < 4 → (fun j : Nat => Cond.eq (.elem (.static "Kindcutter$Signs" "FIRST_OF_SORT" "[I") (.int (Int32.ofNat j))) (.int (zI (fs4 (j : Int))))) j ∈ flatC (Jvm.Cond.and given_1 narrow_1) := fun j hj => List.mem_of_mem_drop (i := 266) (List.mem_of_mem_take (i := 4) (by rw [← sl_F]; exact List.mem_map.mpr ⟨j, List.mem_range.mpr hj, rfl⟩))
set_option maxRecDepth 100000 in
theorem st_FIRST_OF_SORT (h0 : gS0 s0) (Z : gAm b l s0 G cc own nL rm) : ∃ t : Nat, va_Z "Kindcutter$Signs" "FIRST_OF_SORT" "[I" (.ref t) (gA s0) (bs b) (bs b).heap ∧ va_T .int t 4 (fun j => iv (fs4 (j : Int))) (gA s0) (bs b) (bs b).heap := by
  obtain ⟨t, h1, h2⟩ := st_tab0 (ty := .int) (F := fs4) h0 (by decide) (C := "Kindcutter$Signs") (nm := "FIRST_OF_SORT") (d0 := "[I") (by decide +kernel) (by decide +kernel) (fl_in (by decide +kernel)) (fl_in (by decide +kernel)) sq_F
  obtain ⟨-, -, -, -, hE, -⟩ := Z
  exact ⟨t, st_mv hE h1, st_mvT hE h2⟩
set_option maxRecDepth 100000 in
theorem sl_O : (List.range 5).map (fun j : Nat => Cond.eq (.elem (.static "Kindcutter$Signs" "OTHERS_OF_SORT" "[I") (.int (Int32.ofNat j))) (.int (zI (os5 (j : Int))))) = ((flatC (Jvm.Cond.and given_1 narrow_1)).drop 291).take 5 := by (rw [fl_eq]; decide +kernel)
theorem sq_O : ∀ j, j < 5 → (fun j : Nat => Cond.eq (.elem (.static "Kindcutter$Signs" "OTHERS_OF_SORT" "[I") (.int (Int32.ofNat j))) (.int (zI (os5 (j : Int))))) j ∈ flatC (Jvm.Cond.and given_1 narrow_1) := fun j hj => List.mem_of_mem_drop (i := 291) (List.mem_of_mem_take (i := 5) (by rw [← sl_O]; exact List.mem_map.mpr ⟨j, List.mem_range.mpr hj, rfl⟩))
set_option maxRecDepth 100000 in
theorem st_OTHERS_OF_SORT (h0 : gS0 s0) (Z : gAm b l s0 G cc own nL rm) : ∃ t : Nat, va_Z "Kindcutter$Signs" "OTHERS_OF_SORT" "[I" (.ref t) (gA s0) (bs b) (bs b).heap ∧ va_T .int t 5 (fun j => iv (os5 (j : Int))) (gA s0) (bs b) (bs b).heap := by
  obtain ⟨t, h1, h2⟩ := st_tab0 (ty := .int) (F := os5) h0 (by decide) (C := "Kindcutter$Signs") (nm := "OTHERS_OF_SORT") (d0 := "[I") (by decide +kernel) (by decide +kernel) (fl_in (by decide +kernel)) (fl_in (by decide +kernel)) sq_O
  obtain ⟨-, -, -, -, hE, -⟩ := Z
  exact ⟨t, st_mv hE h1, st_mvT hE h2⟩
end GI
end
section
/-! pure words: loops as functions, what is so of signs, the state of a text -/
def forF {σ : Type} (f : Int → σ → σ) : Nat → Int → σ → σ
  | 0, _, v => v
  | k + 1, i, v => forF f k (i + 1) (f i v)
def forI {σ : Type} (f : Int → σ → σ) (i n : Int) (v : σ) : σ := forF f (n - i).toNat i v
theorem forI_s {σ : Type} {f : Int → σ → σ} {i n : Int} {v : σ} (h : i < n) : forI f i n v = forI f (i + 1) n (f i v) := by
  unfold forI
  have e : (n - i).toNat = (n - (i + 1)).toNat + 1 := by omega
  rw [e]
  rfl
theorem forI_e {σ : Type} {f : Int → σ → σ} {i n : Int} {v : σ} (h : n ≤ i) : forI f i n v = v := by
  unfold forI
  have e : (n - i).toNat = 0 := by omega
  rw [e]
  rfl
def findF (P : Int → Bool) : Nat → Int → Int
  | 0, i => i
  | k + 1, i => match P i with
    | true => i
    | false => findF P k (i + 1)
def findI (P : Int → Bool) (i n : Int) : Int := findF P (n - i).toNat i
theorem findI_h {P : Int → Bool} {i n : Int} (hp : P i = true) : findI P i n = i := by
  unfold findI
  cases (n - i).toNat with
  | zero => rfl
  | succ k => show (match P i with | true => i | false => findF P k (i + 1)) = i; rw [hp]
theorem findI_m {P : Int → Bool} {i n : Int} (h : i < n) (hp : P i = false) : findI P i n = findI P (i + 1) n := by
  unfold findI
  have e : (n - i).toNat = (n - (i + 1)).toNat + 1 := by omega
  rw [e]
  show (match P i with | true => i | false => findF P _ (i + 1)) = _
  rw [hp]
theorem findI_e {P : Int → Bool} {i n : Int} (h : n ≤ i) : findI P i n = i := by
  unfold findI
  have e : (n - i).toNat = 0 := by omega
  rw [e]
  rfl
theorem findF_in {P : Int → Bool} : ∀ (k : Nat) (i : Int), i ≤ findF P k i ∧ findF P k i ≤ i + (k : Int)
  | 0, i => ⟨Int.le_refl _, by show i ≤ i + ((0 : Nat) : Int); omega⟩
  | k + 1, i => by
    show i ≤ (match P i with | true => i | false => findF P k (i + 1)) ∧ (match P i with | true => i | false => findF P k (i + 1)) ≤ i + ((k + 1 : Nat) : Int)
    have h := findF_in (P := P) k (i + 1)
    cases P i with
    | true => exact ⟨Int.le_refl _, by show i ≤ i + ((k + 1 : Nat) : Int); omega⟩
    | false => exact ⟨by show i ≤ findF P k (i + 1); omega, by show findF P k (i + 1) ≤ i + ((k + 1 : Nat) : Int); omega⟩
theorem findI_in {P : Int → Bool} {i n : Int} (h : i ≤ n) : i ≤ findI P i n ∧ findI P i n ≤ n := by
  have h1 := findF_in (P := P) (n - i).toNat i
  unfold findI
  omega
/-! signs -/
def inB (m c : Int) : Bool := decide (bAnd (bShr m c) 1 = 1)
def blk (c : Int) : Bool := (decide (9 ≤ c) && decide (c ≤ 13)) || (decide (28 ≤ c) && decide (c ≤ 32))
def so (c q : Int) : Bool :=
  if q = 7 then blk c else if q = 10 then (inB (kq q) (kin c) || (decide (c = 60) || decide (c = 62))) else if q = 12 then (inB (kq q) (kin c) && !blk c) else if q = 13 then (inB (kq q) (kin c) && !blk c) else inB (kq q) (kin c)
def sb (c : Int) : Int := if so c 11 = true then 0 else if so c 2 = true then 1 else if so c 7 = true then 2 else if so c 14 = true then 3 else 4
def oth (s : Int) : Int := os5 s
theorem kin_in (c : Int) : 0 ≤ kin c ∧ kin c ≤ 30 := by
  have h : ∀ x ∈ kinL, 0 ≤ x ∧ x ≤ 30 := by decide +kernel
  unfold kin
  rcases Nat.lt_or_ge c.toNat kinL.length with q | q
  · rw [List.getD_eq_getElem?_getD, List.getElem?_eq_getElem q]
    exact h _ (List.getElem_mem q)
  · rw [List.getD_eq_getElem?_getD, List.getElem?_eq_none q]
    decide
theorem sb_in (c : Int) : 0 ≤ sb c ∧ sb c ≤ 4 := by
  unfold sb
  split
  · omega
  · split
    · omega
    · split
      · omega
      · split <;> omega
theorem oth_in {s : Int} (h1 : 0 ≤ s) (h2 : s ≤ 4) : 0 ≤ oth s ∧ oth s ≤ 14 := by
  rcases (by omega : s = 0 ∨ s = 1 ∨ s = 2 ∨ s = 3 ∨ s = 4) with h | h | h | h | h <;> subst h <;> decide
theorem fs4_in {s : Int} (h1 : 0 ≤ s) (h2 : s ≤ 3) : 0 ≤ fs4 s ∧ fs4 s ≤ 14 := by
  rcases (by omega : s = 0 ∨ s = 1 ∨ s = 2 ∨ s = 3) with h | h | h | h <;> subst h <;> decide
theorem bAnd1 (x : Int) : bAnd x 1 = 0 ∨ bAnd x 1 = 1 := by
  unfold bAnd
  rw [pk_and (zI x) (m := zI 1) 1 (by decide +kernel)]
  have h : (zI x).toBitVec.toNat % 2 ^ 1 = 0 ∨ (zI x).toBitVec.toNat % 2 ^ 1 = 1 := by omega
  rcases h with h | h <;> rw [h] <;> decide
theorem bAnd1_in (x : Int) : inr (bAnd x 1) := by rcases bAnd1 x with h | h <;> rw [h] <;> exact ⟨by decide, by decide⟩
theorem bAnd_in (x y : Int) : inr (bAnd x y) := ⟨Int32.le_toInt _, by have := Int32.toInt_lt (zI x &&& zI y); unfold bAnd; omega⟩
theorem bOr_in (x y : Int) : inr (bOr x y) := ⟨Int32.le_toInt _, by have := Int32.toInt_lt (zI x ||| zI y); unfold bOr; omega⟩
theorem bShl_in (x y : Int) : inr (bShl x y) := ⟨Int32.le_toInt _, by have := Int32.toInt_lt (zI x <<< (zI y &&& 31)); unfold bShl; omega⟩
theorem bXor_in (x y : Int) : inr (bXor x y) := ⟨Int32.le_toInt _, by have := Int32.toInt_lt (zI x ^^^ zI y); unfold bXor; omega⟩
theorem inB_v (m c : Int) : b2 (inB m c) = bAnd (bShr m c) 1 := by
  unfold inB
  rcases bAnd1 (bShr m c) with h | h <;> rw [h] <;> decide
/-- a sign as a byte, and back -/
theorem sgn_byte {c : Int} (h1 : 0 ≤ c) (h2 : c ≤ 255) : bAnd (bB c) 255 = c := by
  have h : ∀ k : Fin 256, bAnd (bB ((k.val : Nat) : Int)) 255 = ((k.val : Nat) : Int) := by decide +kernel
  have e := h ⟨c.toNat, by omega⟩
  have e2 : ((c.toNat : Nat) : Int) = c := Int.toNat_of_nonneg h1
  rw [e2] at e
  exact e
theorem bB_bB {c : Int} : bB (bB c) = bB c := by
  have h : narrow .byte (.int (zI (bB c))) = .int (zI (bB c)) := by rw [zI_bB]; exact pk_nb (zI c)
  have h2 : (Value.int (zI (bB (bB c)))) = .int (zI (bB c)) := g_nb.symm.trans h
  have h3 : zI (bB (bB c)) = zI (bB c) := Value.int.inj h2
  have h4 : (bB (bB c)) = (zI (bB (bB c))).toInt := by rw [zI_bB]; rfl
  rw [h4, h3, zI_bB]
  rfl
/-! a text: its object at a, its row at r, its own row of ints at bb; n signs, C place by place -/
def sgF (C : Int → Int) : Int → Int := fun j => bB (C j)
def tX (G : gK) (w : wd) (a r bb : Nat) (n : Int) (C B : Int → Int) : Prop :=
  w a = some (eO 2 [rv r, iv n, rv bb]) ∧ w r = some (eB G 30 (sgF C)) ∧ w bb = some (eI G 31 B) ∧ 0 ≤ n ∧ n ≤ 30 ∧ ∀ j, 0 ≤ C j ∧ C j ≤ 255
/-- how long the longest piece at p is -/
def lon (n : Int) (C : Int → Int) (p : Int) : Int := findI (fun e => !so (C e) (oth (sb (C p)))) (p + 1) n - p
theorem lon_in {n : Int} {C : Int → Int} {p : Int} (h : p < n) : 1 ≤ lon n C p ∧ lon n C p ≤ n - p := by
  have := findI_in (P := fun e => !so (C e) (oth (sb (C p)))) (i := p + 1) (n := n) (by omega)
  unfold lon
  omega
def mstep (P : Int → Bool) (i v : Int) : Int := if P i = true then bOr v (bShl 1 i) else v
theorem mstep_t {P : Int → Bool} {i v : Int} (h : P i = true) : mstep P i v = bOr v (bShl 1 i) := if_pos h
theorem mstep_f {P : Int → Bool} {i v : Int} (h : P i = false) : mstep P i v = v := if_neg (by rw [h]; decide)
/-- the places below n at which P holds, as a set of bits -/
def msk (P : Int → Bool) (n : Int) : Int := forI (mstep P) 0 n 0
theorem so10 {c q : Int} (h : q = 10) : so c q = (inB (kq q) (kin c) || (decide (c = 60) || decide (c = 62))) := by subst h; rfl
theorem so12 {c q : Int} (h : q = 12 ∨ q = 13) : so c q = (inB (kq q) (kin c) && !blk c) := by rcases h with h | h <;> subst h <;> rfl
theorem so_o {c q : Int} (h1 : q ≠ 7) (h2 : q ≠ 10) (h3 : q ≠ 12) (h4 : q ≠ 13) : so c q = inB (kq q) (kin c) := by
  unfold so
  rw [if_neg h1, if_neg h2, if_neg h3, if_neg h4]
theorem sb_is {c i : Int} (h0 : 0 ≤ i) (h4 : i < 4) (hf : ∀ j, 0 ≤ j → j < i → so c (fs4 j) = false) (ht : so c (fs4 i) = true) : sb c = i := by
  have e0 : fs4 0 = 11 := by decide
  have e1 : fs4 1 = 2 := by decide
  have e2 : fs4 2 = 7 := by decide
  have e3 : fs4 3 = 14 := by decide
  unfold sb
  rcases (by omega : i = 0 ∨ i = 1 ∨ i = 2 ∨ i = 3) with h | h | h | h <;> subst h
  · rw [e0] at ht; simp [ht]
  · have f0 := hf 0 (by omega) (by omega); rw [e0] at f0; rw [e1] at ht; simp [ht, f0]
  · have f0 := hf 0 (by omega) (by omega); have f1 := hf 1 (by omega) (by omega); rw [e0] at f0; rw [e1] at f1; rw [e2] at ht; simp [ht, f0, f1]
  · have f0 := hf 0 (by omega) (by omega); have f1 := hf 1 (by omega) (by omega); have f2 := hf 2 (by omega) (by omega); rw [e0] at f0; rw [e1] at f1; rw [e2] at f2; rw [e3] at ht; simp [ht, f0, f1, f2]
theorem sb_no {c : Int} (hf : ∀ j, 0 ≤ j → j < 4 → so c (fs4 j) = false) : sb c = 4 := by
  have f0 := hf 0 (by omega) (by omega)
  have f1 := hf 1 (by omega) (by omega)
  have f2 := hf 2 (by omega) (by omega)
  have f3 := hf 3 (by omega) (by omega)
  rw [show fs4 0 = 11 by decide] at f0
  rw [show fs4 1 = 2 by decide] at f1
  rw [show fs4 2 = 7 by decide] at f2
  rw [show fs4 3 = 14 by decide] at f3
  unfold sb
  simp [f0, f1, f2, f3]
section GP
variable {b : gBt} {l : Launch} {s0 : State} {G : gK} {cc : ByteArray} {own : String} {nL : Nat} {rm : Room} {k n pc : Nat} {L : List (Nat × Value)} {st : List Value} {w : wd}
theorem x_ib (q : Bool) (Z : gAm b l s0 G cc own nL rm) {z : Int} (d : decode cc pc = .ok (.iconst z, 1)) (hz : z = b2 q) (kk : gX b s0 G k n (pc + 1) L (iv (b2 q) :: st) w) : gX b s0 G k n pc L st w := by
  subst hz
  exact x_iconst Z d kk
end GP
end
section
/-! words of the tables, fields of the classes, what stands of each method -/
theorem q36 : Cond.initialized RX2 ∈ gT := gt_1 1 rfl rfl
theorem q37 : Cond.initialized RX1 ∈ gT := gt_1 2 rfl rfl
theorem q45 : Cond.initialized RX0 ∈ gT := gt_1 10 rfl rfl
theorem q72 : Cond.fieldLink RX1 9 "Kindcutter$Text" "row" "[B" ∈ gT := gt_1 37 rfl rfl
theorem q73 : Cond.fieldLink RX1 19 "Kindcutter$Text" "many" "I" ∈ gT := gt_1 38 rfl rfl
theorem q109 : Cond.static yX0_kindNumber ∈ gT := gt_1 74 rfl rfl
theorem q110 : Cond.code yX0_kindNumber cX0_kindNumber 1 (some .int) ∈ gT := gt_1 75 rfl rfl
theorem q111 : Cond.fieldLink RX0 11 "Kindcutter$Signs" "KINDS" "[B" ∈ gT := gt_1 76 rfl rfl
theorem q121 : Cond.methodLink RX1 49 yX1_longestAt ∈ gT := gt_1 86 rfl rfl
theorem q122 : Cond.instanceMethod yX1_longestAt ∈ gT := gt_1 87 rfl rfl
theorem q123 : Cond.selects RX1 yX1_longestAt yX1_longestAt ∈ gT := gt_1 88 rfl rfl
theorem q124 : Cond.code yX1_longestAt cX1_longestAt 4 (some .int) ∈ gT := gt_1 89 rfl rfl
theorem q125 : Cond.methodLink RX1 23 yX1_signAt ∈ gT := gt_1 90 rfl rfl
theorem q126 : Cond.instanceMethod yX1_signAt ∈ gT := gt_1 91 rfl rfl
theorem q127 : Cond.selects RX1 yX1_signAt yX1_signAt ∈ gT := gt_1 92 rfl rfl
theorem q128 : Cond.code yX1_signAt cX1_signAt 2 (some .int) ∈ gT := gt_1 93 rfl rfl
theorem q129 : Cond.methodLink RX1 46 yX0_sortBegunBy ∈ gT := gt_1 94 rfl rfl
theorem q130 : Cond.static yX0_sortBegunBy ∈ gT := gt_1 95 rfl rfl
theorem q131 : Cond.code yX0_sortBegunBy cX0_sortBegunBy 2 (some .int) ∈ gT := gt_1 96 rfl rfl
theorem q132 : Cond.fieldLink RX0 30 "Kindcutter$Signs" "FIRST_OF_SORT" "[I" ∈ gT := gt_1 97 rfl rfl
theorem q134 : Cond.methodLink RX0 27 yX0_isSo ∈ gT := gt_1 99 rfl rfl
theorem q135 : Cond.static yX0_isSo ∈ gT := gt_1 100 rfl rfl
theorem q136 : Cond.code yX0_isSo cX0_isSo 3 (some .boolean) ∈ gT := gt_1 101 rfl rfl
theorem q137 : Cond.fieldLink RX0 15 "Kindcutter$Signs" "KINDS_OF_QUESTION" "[I" ∈ gT := gt_1 102 rfl rfl
theorem q139 : Cond.methodLinkNest RX0 19 yX2_isIn RX2 ∈ gT := gt_1 104 rfl rfl
theorem q140 : Cond.static yX2_isIn ∈ gT := gt_1 105 rfl rfl
theorem q141 : Cond.code yX2_isIn cX2_isIn 2 (some .boolean) ∈ gT := gt_1 106 rfl rfl
theorem q142 : Cond.methodLink RX0 23 yX0_isBlank ∈ gT := gt_1 107 rfl rfl
theorem q143 : Cond.static yX0_isBlank ∈ gT := gt_1 108 rfl rfl
theorem q144 : Cond.code yX0_isBlank cX0_isBlank 1 (some .boolean) ∈ gT := gt_1 109 rfl rfl
theorem q145 : Cond.methodLink RX1 56 yX0_questionOfOthers ∈ gT := gt_1 110 rfl rfl
theorem q146 : Cond.static yX0_questionOfOthers ∈ gT := gt_1 111 rfl rfl
theorem q147 : Cond.code yX0_questionOfOthers cX0_questionOfOthers 1 (some .int) ∈ gT := gt_1 112 rfl rfl
theorem q148 : Cond.fieldLink RX0 33 "Kindcutter$Signs" "OTHERS_OF_SORT" "[I" ∈ gT := gt_1 113 rfl rfl
theorem q150 : Cond.methodLink RX1 32 yX0_isSo ∈ gT := gt_1 115 rfl rfl
theorem q184 : Cond.methodLink RX1 52 yX0_isLet ∈ gT := gt_1 149 rfl rfl
theorem q185 : Cond.static yX0_isLet ∈ gT := gt_1 150 rfl rfl
theorem q186 : Cond.code yX0_isLet cX0_isLet 2 (some .boolean) ∈ gT := gt_1 151 rfl rfl
theorem q199 : Cond.constantLong RX2 216 31 ∈ gT := gt_1 164 rfl rfl
theorem q200 : Cond.methodLink RX1 36 yX1_kindAt ∈ gT := gt_1 165 rfl rfl
theorem q201 : Cond.instanceMethod yX1_kindAt ∈ gT := gt_1 166 rfl rfl
theorem q202 : Cond.selects RX1 yX1_kindAt yX1_kindAt ∈ gT := gt_1 167 rfl rfl
theorem q203 : Cond.code yX1_kindAt cX1_kindAt 2 (some .int) ∈ gT := gt_1 168 rfl rfl
theorem q204 : Cond.methodLink RX1 27 yX0_kindNumber ∈ gT := gt_1 169 rfl rfl
set_option maxRecDepth 100000 in
theorem inX1g : ∀ q ∈ u_ws RX1 TX1 3, q ∈ gT := by decide +kernel
set_option maxRecDepth 100000 in
theorem inX2g : ∀ q ∈ u_ws RX2 TX2 4, q ∈ gT := by decide +kernel
set_option maxRecDepth 100000 in
theorem inX3g : ∀ q ∈ u_ws RX3 TX3 2, q ∈ gT := by decide +kernel
set_option maxRecDepth 100000 in
theorem inX4g : ∀ q ∈ u_ws RX4 TX4 7, q ∈ gT := by decide +kernel
set_option maxRecDepth 100000 in
theorem wsIO : ∀ q ∈ Cond.classLink RX2 47 "java/lang/IndexOutOfBoundsException" :: Cond.initialized "java/lang/IndexOutOfBoundsException" :: vx_at0 RX2 49 "java/lang/IndexOutOfBoundsException" exN, q ∈ gT ∧ vx_ot q = true := by decide +kernel
set_option maxRecDepth 100000 in
theorem wsIA : ∀ q ∈ Cond.classLink RX2 71 "java/lang/IllegalArgumentException" :: Cond.initialized "java/lang/IllegalArgumentException" :: vx_at0 RX2 73 "java/lang/IllegalArgumentException" exN, q ∈ gT ∧ vx_ot q = true := by decide +kernel
theorem okX2_isIn : gOk yX2_isIn cX2_isIn 2 (some .boolean) 2 := ⟨q141, q36, ⟨by decide +kernel, by decide +kernel⟩, by decide +kernel⟩
theorem okX0_isBlank : gOk yX0_isBlank cX0_isBlank 1 (some .boolean) 1 := ⟨q144, q45, ⟨by decide +kernel, by decide +kernel⟩, by decide +kernel⟩
theorem okX0_isSo : gOk yX0_isSo cX0_isSo 3 (some .boolean) 2 := ⟨q136, q45, ⟨by decide +kernel, by decide +kernel⟩, by decide +kernel⟩
theorem okX1_signAt : gOk yX1_signAt cX1_signAt 2 (some .int) 1 := ⟨q128, q37, ⟨by decide +kernel, by decide +kernel⟩, by decide +kernel⟩
theorem okX0_kindNumber : gOk yX0_kindNumber cX0_kindNumber 1 (some .int) 1 := ⟨q110, q45, ⟨by decide +kernel, by decide +kernel⟩, by decide +kernel⟩
theorem okX1_kindAt : gOk yX1_kindAt cX1_kindAt 2 (some .int) 1 := ⟨q203, q37, ⟨by decide +kernel, by decide +kernel⟩, by decide +kernel⟩
theorem okX0_sortBegunBy : gOk yX0_sortBegunBy cX0_sortBegunBy 2 (some .int) 1 := ⟨q131, q45, ⟨by decide +kernel, by decide +kernel⟩, by decide +kernel⟩
theorem okX0_questionOfOthers : gOk yX0_questionOfOthers cX0_questionOfOthers 1 (some .int) 1 := ⟨q147, q45, ⟨by decide +kernel, by decide +kernel⟩, by decide +kernel⟩
theorem okX1_longestAt : gOk yX1_longestAt cX1_longestAt 4 (some .int) 1 := ⟨q124, q37, ⟨by decide +kernel, by decide +kernel⟩, by decide +kernel⟩
theorem okX0_isLet : gOk yX0_isLet cX0_isLet 2 (some .boolean) 2 := ⟨q186, q45, ⟨by decide +kernel, by decide +kernel⟩, by decide +kernel⟩
end
