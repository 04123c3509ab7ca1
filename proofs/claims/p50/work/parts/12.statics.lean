/-! object init, statics, pure words, the state of a text -/
section GI
variable {b : gBt} {l : Launch} {s0 : State} {G : gK} {cc : ByteArray} {own : String} {nL : Nat} {rm : Room} {k n pc : Nat} {L : List (Nat × Value)} {st rest : List Value} {w : wd}
theorem obj_i : Cond.instanceMethod objectInit ∈ gT := by decide +kernel
theorem obj_c : Cond.code objectInit ⟨#[0xb1]⟩ 1 none ∈ gT := by decide +kernel
theorem x_objI (Z : gAm b l s0 G cc own nL rm) {idx a : Nat} (hlk : Cond.methodLink own idx objectInit ∈ gT) (d : decode cc pc = .ok (.invokespecial idx, 3)) (h1 : 1 ≤ rm.frames) (h2 : (st.map fun v => v.category).sum ≤ 8) (h3 : 20 ≤ rm.locals) (kk : gX b s0 G k n (pc + 3) L st w) : gX b s0 G k n pc L (rv a :: st) w := by
  have w1 := Z.word hlk
  have w2 := Z.word obj_i
  have w3 := Z.word obj_c
  obtain ⟨hx, hb, ho, -, -, -, -, hml, hR, -⟩ := Z
  exact fun H locs ls hP hS hl => W.objInit hx hb ho w1 w2 w3 rfl hl.1 rfl d (by rw [hR]; exact h1) (by rw [hR]; have := lv_room (pc := pc) (ls := ls) (rest := rv a :: st) (m := bm b) h2; omega) (kk H locs ls hP hS hl)
theorem st_tab0 {C nm d0 : String} {ty : FieldType} {N : Nat} {F : Int → Int} (h0 : gS0 s0) (hN : N < 2147483648) (hl : Cond.laysStatic C nm d0 ∈ lw_tbl) (hini : Cond.initialized C ∈ lw_tbl) (harr : Cond.arrayOf (.static C nm d0) ty ∈ flatC (Jvm.Cond.and given_1 narrow_1)) (hlen : Cond.eq (.length (.static C nm d0)) (.int (Int32.ofNat N)) ∈ flatC (Jvm.Cond.and given_1 narrow_1)) (hel : ∀ j, j < N → Cond.eq (.elem (.static C nm d0) (.int (Int32.ofNat j))) (.int (zI (F (j : Int)))) ∈ flatC (Jvm.Cond.and given_1 narrow_1)) : ∃ t : Nat, va_Z C nm d0 (.ref t) (gA s0) s0 s0.heap ∧ va_T ty t N (fun j => iv (F (j : Int))) (gA s0) s0 s0.heap := by
  obtain ⟨a0, h1, h2⟩ := h0
  have hf := flat_of_before _ h2
  have hA : ∀ a : Nat, a < s0.heap.size → ¬ gA s0 a := fun a h => Nat.not_le.mpr h
  obtain ⟨t, e1, e2⟩ := va_Tof (args := a0) (f := fun j => iv (F (j : Int))) (A := gA s0) (show N < 2 ^ 31 by omega) (hf _ harr) (va_eqt (hf _ hlen)) (fun j hj => va_eqt (hf _ (hel j hj))) hA
  exact ⟨t, va_Zref (h1 _ hl) (h1 _ hini) e1 hA, e2⟩
theorem st_mv {s : State} {C nm d0 : String} {v : Value} (hE : gEnv s0 G s) (h : va_Z C nm d0 v (gA s0) s0 s0.heap) : va_Z C nm d0 v (gA s0) s s.heap := va_Z.moved hE.1.alike (va_Z.kept h (fun a ha _ => hE.2.2.1 a ha))
theorem st_mvT {s : State} {ty : FieldType} {t N : Nat} {f : Nat → Value} (hE : gEnv s0 G s) (h : va_T ty t N f (gA s0) s0 s0.heap) : va_T ty t N f (gA s0) s s.heap := va_T.moved hE.1.alike (va_T.kept h (fun a ha _ => hE.2.2.1 a ha))
def kinL : List Int := [15, 15, 15, 15, 15, 15, 15, 15, 15, 15, 15, 15, 15, 15, 15, 15, 15, 15, 15, 15, 15, 15, 15, 15, 15, 15, 15, 15, 15, 15, 15, 15, 12, 24, 24, 24, 26, 24, 24, 24, 21, 22, 24, 25, 24, 20, 24, 24, 9, 9, 9, 9, 9, 9, 9, 9, 9, 9, 24, 24, 25, 25, 25, 24, 24, 1, 1, 1, 1, 1, 1, 1, 1, 1, 1, 1, 1, 1, 1, 1, 1, 1, 1, 1, 1, 1, 1, 1, 1, 1, 1, 21, 24, 22, 27, 23, 27, 2, 2, 2, 2, 2, 2, 2, 2, 2, 2, 2, 2, 2, 2, 2, 2, 2, 2, 2, 2, 2, 2, 2, 2, 2, 2, 21, 25, 22, 25, 15, 15, 15, 15, 15, 15, 15, 15, 15, 15, 15, 15, 15, 15, 15, 15, 15, 15, 15, 15, 15, 15, 15, 15, 15, 15, 15, 15, 15, 15, 15, 15, 15, 12, 24, 26, 26, 26, 26, 28, 24, 27, 28, 5, 29, 25, 16, 28, 27, 28, 25, 11, 11, 27, 2, 24, 24, 27, 11, 5, 30, 11, 11, 11, 24, 1, 1, 1, 1, 1, 1, 1, 1, 1, 1, 1, 1, 1, 1, 1, 1, 1, 1, 1, 1, 1, 1, 1, 25, 1, 1, 1, 1, 1, 1, 1, 2, 2, 2, 2, 2, 2, 2, 2, 2, 2, 2, 2, 2, 2, 2, 2, 2, 2, 2, 2, 2, 2, 2, 2, 25, 2, 2, 2, 2, 2, 2, 2, 2]
def kqL : List Int := [2147483647, 38, 512, 550, 2, 36, 0, 0, 4096, 32768, 1616904192, 75497510, 75596326, 98304, 33554432]
def fsL : List Int := [11, 2, 7, 14]
def osL : List Int := [12, 2, 7, 14, 6]
def kin (c : Int) : Int := kinL.getD c.toNat 0
def kq (q : Int) : Int := kqL.getD q.toNat 0
def fs4 (s : Int) : Int := fsL.getD s.toNat 0
def os5 (s : Int) : Int := osL.getD s.toNat 0
set_option maxRecDepth 100000 in
theorem sl_K : (List.range 256).map (fun j : Nat => Cond.eq (.elem (.static "Kindcutter$Signs" "KINDS" "[B") (.int (Int32.ofNat j))) (.int (zI (kin (j : Int))))) = ((flatC (Jvm.Cond.and given_1 narrow_1)).drop 7).take 256 := by decide +kernel
theorem sq_K : ∀ j, j < 256 → (fun j : Nat => Cond.eq (.elem (.static "Kindcutter$Signs" "KINDS" "[B") (.int (Int32.ofNat j))) (.int (zI (kin (j : Int))))) j ∈ flatC (Jvm.Cond.and given_1 narrow_1) := fun j hj => List.mem_of_mem_drop (i := 7) (List.mem_of_mem_take (i := 256) (by rw [← sl_K]; exact List.mem_map.mpr ⟨j, List.mem_range.mpr hj, rfl⟩))
set_option maxRecDepth 100000 in
theorem st_KINDS (h0 : gS0 s0) (Z : gAm b l s0 G cc own nL rm) : ∃ t : Nat, va_Z "Kindcutter$Signs" "KINDS" "[B" (.ref t) (gA s0) (bs b) (bs b).heap ∧ va_T .byte t 256 (fun j => iv (kin (j : Int))) (gA s0) (bs b) (bs b).heap := by
  obtain ⟨t, h1, h2⟩ := st_tab0 (ty := .byte) (F := kin) h0 (by decide) (C := "Kindcutter$Signs") (nm := "KINDS") (d0 := "[B") (by decide +kernel) (by decide +kernel) (by decide +kernel) (by decide +kernel) sq_K
  obtain ⟨-, -, -, -, hE, -⟩ := Z
  exact ⟨t, st_mv hE h1, st_mvT hE h2⟩
set_option maxRecDepth 100000 in
theorem sl_Q : (List.range 15).map (fun j : Nat => Cond.eq (.elem (.static "Kindcutter$Signs" "KINDS_OF_QUESTION" "[I") (.int (Int32.ofNat j))) (.int (zI (kq (j : Int))))) = ((flatC (Jvm.Cond.and given_1 narrow_1)).drop 273).take 15 := by decide +kernel
theorem sq_Q : ∀ j, j < 15 → (fun j : Nat => Cond.eq (.elem (.static "Kindcutter$Signs" "KINDS_OF_QUESTION" "[I") (.int (Int32.ofNat j))) (.int (zI (kq (j : Int))))) j ∈ flatC (Jvm.Cond.and given_1 narrow_1) := fun j hj => List.mem_of_mem_drop (i := 273) (List.mem_of_mem_take (i := 15) (by rw [← sl_Q]; exact List.mem_map.mpr ⟨j, List.mem_range.mpr hj, rfl⟩))
set_option maxRecDepth 100000 in
theorem st_KINDS_OF_QUESTION (h0 : gS0 s0) (Z : gAm b l s0 G cc own nL rm) : ∃ t : Nat, va_Z "Kindcutter$Signs" "KINDS_OF_QUESTION" "[I" (.ref t) (gA s0) (bs b) (bs b).heap ∧ va_T .int t 15 (fun j => iv (kq (j : Int))) (gA s0) (bs b) (bs b).heap := by
  obtain ⟨t, h1, h2⟩ := st_tab0 (ty := .int) (F := kq) h0 (by decide) (C := "Kindcutter$Signs") (nm := "KINDS_OF_QUESTION") (d0 := "[I") (by decide +kernel) (by decide +kernel) (by decide +kernel) (by decide +kernel) sq_Q
  obtain ⟨-, -, -, -, hE, -⟩ := Z
  exact ⟨t, st_mv hE h1, st_mvT hE h2⟩
set_option maxRecDepth 100000 in
theorem sl_F : (List.range 4).map (fun j : Nat => Cond.eq (.elem (.static "Kindcutter$Signs" "FIRST_OF_SORT" "[I") (.int (Int32.ofNat j))) (.int (zI (fs4 (j : Int))))) = ((flatC (Jvm.Cond.and given_1 narrow_1)).drop 266).take 4 := by decide +kernel
theorem sq_F : ∀ j, j < 4 → (fun j : Nat => Cond.eq (.elem (.static "Kindcutter$Signs" "FIRST_OF_SORT" "[I") (.int (Int32.ofNat j))) (.int (zI (fs4 (j : Int))))) j ∈ flatC (Jvm.Cond.and given_1 narrow_1) := fun j hj => List.mem_of_mem_drop (i := 266) (List.mem_of_mem_take (i := 4) (by rw [← sl_F]; exact List.mem_map.mpr ⟨j, List.mem_range.mpr hj, rfl⟩))
set_option maxRecDepth 100000 in
theorem st_FIRST_OF_SORT (h0 : gS0 s0) (Z : gAm b l s0 G cc own nL rm) : ∃ t : Nat, va_Z "Kindcutter$Signs" "FIRST_OF_SORT" "[I" (.ref t) (gA s0) (bs b) (bs b).heap ∧ va_T .int t 4 (fun j => iv (fs4 (j : Int))) (gA s0) (bs b) (bs b).heap := by
  obtain ⟨t, h1, h2⟩ := st_tab0 (ty := .int) (F := fs4) h0 (by decide) (C := "Kindcutter$Signs") (nm := "FIRST_OF_SORT") (d0 := "[I") (by decide +kernel) (by decide +kernel) (by decide +kernel) (by decide +kernel) sq_F
  obtain ⟨-, -, -, -, hE, -⟩ := Z
  exact ⟨t, st_mv hE h1, st_mvT hE h2⟩
set_option maxRecDepth 100000 in
theorem sl_O : (List.range 5).map (fun j : Nat => Cond.eq (.elem (.static "Kindcutter$Signs" "OTHERS_OF_SORT" "[I") (.int (Int32.ofNat j))) (.int (zI (os5 (j : Int))))) = ((flatC (Jvm.Cond.and given_1 narrow_1)).drop 291).take 5 := by decide +kernel
theorem sq_O : ∀ j, j < 5 → (fun j : Nat => Cond.eq (.elem (.static "Kindcutter$Signs" "OTHERS_OF_SORT" "[I") (.int (Int32.ofNat j))) (.int (zI (os5 (j : Int))))) j ∈ flatC (Jvm.Cond.and given_1 narrow_1) := fun j hj => List.mem_of_mem_drop (i := 291) (List.mem_of_mem_take (i := 5) (by rw [← sl_O]; exact List.mem_map.mpr ⟨j, List.mem_range.mpr hj, rfl⟩))
set_option maxRecDepth 100000 in
theorem st_OTHERS_OF_SORT (h0 : gS0 s0) (Z : gAm b l s0 G cc own nL rm) : ∃ t : Nat, va_Z "Kindcutter$Signs" "OTHERS_OF_SORT" "[I" (.ref t) (gA s0) (bs b) (bs b).heap ∧ va_T .int t 5 (fun j => iv (os5 (j : Int))) (gA s0) (bs b) (bs b).heap := by
  obtain ⟨t, h1, h2⟩ := st_tab0 (ty := .int) (F := os5) h0 (by decide) (C := "Kindcutter$Signs") (nm := "OTHERS_OF_SORT") (d0 := "[I") (by decide +kernel) (by decide +kernel) (by decide +kernel) (by decide +kernel) sq_O
  obtain ⟨-, -, -, -, hE, -⟩ := Z
  exact ⟨t, st_mv hE h1, st_mvT hE h2⟩
end GI
