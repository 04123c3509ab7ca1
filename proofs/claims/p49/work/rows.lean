section
-- ===== PART A: goes FIRST, ahead of the names: the tables' words, and 'selects' of the private methods out of them =====
/-- a private method of a class that the tables say can be made, by its rows of tables_1 -/
def lw_okq (q : MethodName × Nat) : Prop := (q.1.cls ≠ "java/lang/invoke/MethodHandle" ∧ q.1.cls ≠ "java/lang/invoke/VarHandle") ∧ Cond.instantiable q.1.cls q.2 ∈ tables_1 ∧ Cond.privateMethod q.1 ∈ tables_1 ∧ Cond.instanceMethod q.1 ∈ tables_1
theorem lw_p0 : lw_okq (⟨"Kindcutter", "signsInAll", "()I"⟩, 4) := ⟨⟨by decide +kernel, by decide +kernel⟩, List.mem_of_getElem? (i := 23) (by decide +kernel), List.mem_of_getElem? (i := 179) (by decide +kernel), List.mem_of_getElem? (i := 180) (by decide +kernel)⟩
theorem lw_p1 : lw_okq (⟨"Kindcutter", "namesInAll", "()I"⟩, 4) := ⟨⟨by decide +kernel, by decide +kernel⟩, List.mem_of_getElem? (i := 23) (by decide +kernel), List.mem_of_getElem? (i := 187) (by decide +kernel), List.mem_of_getElem? (i := 188) (by decide +kernel)⟩
theorem lw_p2 : lw_okq (⟨"java/lang/Throwable", "fillInStackTrace", "(I)Ljava/lang/Throwable;"⟩, 6) := ⟨⟨by decide +kernel, by decide +kernel⟩, List.mem_of_getElem? (i := 229) (by decide +kernel), List.mem_of_getElem? (i := 227) (by decide +kernel), List.mem_of_getElem? (i := 228) (by decide +kernel)⟩
theorem lw_p3 : lw_okq (⟨"Kindcutter", "textAt", "(I)LKindcutter$Text;"⟩, 4) := ⟨⟨by decide +kernel, by decide +kernel⟩, List.mem_of_getElem? (i := 23) (by decide +kernel), List.mem_of_getElem? (i := 279) (by decide +kernel), List.mem_of_getElem? (i := 280) (by decide +kernel)⟩
theorem lw_p4 : lw_okq (⟨"Kindcutter", "inserted", "(LKindcutter$Text;II)I"⟩, 4) := ⟨⟨by decide +kernel, by decide +kernel⟩, List.mem_of_getElem? (i := 23) (by decide +kernel), List.mem_of_getElem? (i := 301) (by decide +kernel), List.mem_of_getElem? (i := 302) (by decide +kernel)⟩
theorem lw_p5 : lw_okq (⟨"Kindcutter", "refused", "()I"⟩, 4) := ⟨⟨by decide +kernel, by decide +kernel⟩, List.mem_of_getElem? (i := 23) (by decide +kernel), List.mem_of_getElem? (i := 305) (by decide +kernel), List.mem_of_getElem? (i := 306) (by decide +kernel)⟩
theorem lw_p6 : lw_okq (⟨"Kindcutter", "acted", "(I)I"⟩, 4) := ⟨⟨by decide +kernel, by decide +kernel⟩, List.mem_of_getElem? (i := 23) (by decide +kernel), List.mem_of_getElem? (i := 317) (by decide +kernel), List.mem_of_getElem? (i := 318) (by decide +kernel)⟩
theorem lw_p7 : lw_okq (⟨"KindcutterModel", "letters", "()V"⟩, 7) := ⟨⟨by decide +kernel, by decide +kernel⟩, List.mem_of_getElem? (i := 983) (by decide +kernel), List.mem_of_getElem? (i := 991) (by decide +kernel), List.mem_of_getElem? (i := 992) (by decide +kernel)⟩
theorem lw_p8 : lw_okq (⟨"KindcutterModel", "told", "(III)V"⟩, 7) := ⟨⟨by decide +kernel, by decide +kernel⟩, List.mem_of_getElem? (i := 983) (by decide +kernel), List.mem_of_getElem? (i := 995) (by decide +kernel), List.mem_of_getElem? (i := 996) (by decide +kernel)⟩
theorem lw_p9 : lw_okq (⟨"KindcutterModel", "points", "()V"⟩, 7) := ⟨⟨by decide +kernel, by decide +kernel⟩, List.mem_of_getElem? (i := 983) (by decide +kernel), List.mem_of_getElem? (i := 999) (by decide +kernel), List.mem_of_getElem? (i := 1000) (by decide +kernel)⟩
theorem lw_p10 : lw_okq (⟨"KindcutterModel", "others", "()V"⟩, 7) := ⟨⟨by decide +kernel, by decide +kernel⟩, List.mem_of_getElem? (i := 983) (by decide +kernel), List.mem_of_getElem? (i := 1003) (by decide +kernel), List.mem_of_getElem? (i := 1004) (by decide +kernel)⟩
theorem lw_p11 : lw_okq (⟨"KindcutterModel", "isThrown", "(ZZ)Z"⟩, 7) := ⟨⟨by decide +kernel, by decide +kernel⟩, List.mem_of_getElem? (i := 983) (by decide +kernel), List.mem_of_getElem? (i := 1039) (by decide +kernel), List.mem_of_getElem? (i := 1040) (by decide +kernel)⟩
theorem lw_p12 : lw_okq (⟨"KindcutterModel", "no", "()I"⟩, 7) := ⟨⟨by decide +kernel, by decide +kernel⟩, List.mem_of_getElem? (i := 983) (by decide +kernel), List.mem_of_getElem? (i := 1047) (by decide +kernel), List.mem_of_getElem? (i := 1048) (by decide +kernel)⟩
theorem lw_p13 : lw_okq (⟨"KindcutterModel", "done", "(I)I"⟩, 7) := ⟨⟨by decide +kernel, by decide +kernel⟩, List.mem_of_getElem? (i := 983) (by decide +kernel), List.mem_of_getElem? (i := 1051) (by decide +kernel), List.mem_of_getElem? (i := 1052) (by decide +kernel)⟩
theorem lw_p14 : lw_okq (⟨"KindcutterModel", "isPlace", "(II)Z"⟩, 7) := ⟨⟨by decide +kernel, by decide +kernel⟩, List.mem_of_getElem? (i := 983) (by decide +kernel), List.mem_of_getElem? (i := 1059) (by decide +kernel), List.mem_of_getElem? (i := 1060) (by decide +kernel)⟩
theorem lw_p15 : lw_okq (⟨"KindcutterModel", "isThrown", "(Z)Z"⟩, 7) := ⟨⟨by decide +kernel, by decide +kernel⟩, List.mem_of_getElem? (i := 983) (by decide +kernel), List.mem_of_getElem? (i := 1068) (by decide +kernel), List.mem_of_getElem? (i := 1069) (by decide +kernel)⟩
def lw_privs_1 : List (MethodName × Nat) := [(⟨"Kindcutter", "signsInAll", "()I"⟩, 4), (⟨"Kindcutter", "namesInAll", "()I"⟩, 4), (⟨"java/lang/Throwable", "fillInStackTrace", "(I)Ljava/lang/Throwable;"⟩, 6), (⟨"Kindcutter", "textAt", "(I)LKindcutter$Text;"⟩, 4), (⟨"Kindcutter", "inserted", "(LKindcutter$Text;II)I"⟩, 4), (⟨"Kindcutter", "refused", "()I"⟩, 4), (⟨"Kindcutter", "acted", "(I)I"⟩, 4), (⟨"KindcutterModel", "letters", "()V"⟩, 7), (⟨"KindcutterModel", "told", "(III)V"⟩, 7), (⟨"KindcutterModel", "points", "()V"⟩, 7), (⟨"KindcutterModel", "others", "()V"⟩, 7), (⟨"KindcutterModel", "isThrown", "(ZZ)Z"⟩, 7), (⟨"KindcutterModel", "no", "()I"⟩, 7), (⟨"KindcutterModel", "done", "(I)I"⟩, 7), (⟨"KindcutterModel", "isPlace", "(II)Z"⟩, 7), (⟨"KindcutterModel", "isThrown", "(Z)Z"⟩, 7)]
theorem lw_r1 : ∀ q ∈ lw_privs_1, lw_okq q := List.forall_mem_cons.mpr ⟨lw_p0, List.forall_mem_cons.mpr ⟨lw_p1, List.forall_mem_cons.mpr ⟨lw_p2, List.forall_mem_cons.mpr ⟨lw_p3, List.forall_mem_cons.mpr ⟨lw_p4, List.forall_mem_cons.mpr ⟨lw_p5, List.forall_mem_cons.mpr ⟨lw_p6, List.forall_mem_cons.mpr ⟨lw_p7, List.forall_mem_cons.mpr ⟨lw_p8, List.forall_mem_cons.mpr ⟨lw_p9, List.forall_mem_cons.mpr ⟨lw_p10, List.forall_mem_cons.mpr ⟨lw_p11, List.forall_mem_cons.mpr ⟨lw_p12, List.forall_mem_cons.mpr ⟨lw_p13, List.forall_mem_cons.mpr ⟨lw_p14, List.forall_mem_cons.mpr ⟨lw_p15, fun _ h => absurd h List.not_mem_nil⟩⟩⟩⟩⟩⟩⟩⟩⟩⟩⟩⟩⟩⟩⟩⟩
theorem lw_p16 : lw_okq (⟨"KindcutterModel", "become", "(I[II)V"⟩, 7) := ⟨⟨by decide +kernel, by decide +kernel⟩, List.mem_of_getElem? (i := 983) (by decide +kernel), List.mem_of_getElem? (i := 1080) (by decide +kernel), List.mem_of_getElem? (i := 1081) (by decide +kernel)⟩
theorem lw_p17 : lw_okq (⟨"KindcutterModel", "isSo", "(II)Z"⟩, 7) := ⟨⟨by decide +kernel, by decide +kernel⟩, List.mem_of_getElem? (i := 983) (by decide +kernel), List.mem_of_getElem? (i := 1107) (by decide +kernel), List.mem_of_getElem? (i := 1108) (by decide +kernel)⟩
theorem lw_p18 : lw_okq (⟨"KindcutterModel", "sifted", "(I[Z)I"⟩, 7) := ⟨⟨by decide +kernel, by decide +kernel⟩, List.mem_of_getElem? (i := 983) (by decide +kernel), List.mem_of_getElem? (i := 1117) (by decide +kernel), List.mem_of_getElem? (i := 1118) (by decide +kernel)⟩
theorem lw_p19 : lw_okq (⟨"KindcutterModel", "begin", "(II)I"⟩, 7) := ⟨⟨by decide +kernel, by decide +kernel⟩, List.mem_of_getElem? (i := 983) (by decide +kernel), List.mem_of_getElem? (i := 1133) (by decide +kernel), List.mem_of_getElem? (i := 1134) (by decide +kernel)⟩
theorem lw_p20 : lw_okq (⟨"KindcutterModel", "longestOf", "(II)I"⟩, 7) := ⟨⟨by decide +kernel, by decide +kernel⟩, List.mem_of_getElem? (i := 983) (by decide +kernel), List.mem_of_getElem? (i := 1137) (by decide +kernel), List.mem_of_getElem? (i := 1138) (by decide +kernel)⟩
theorem lw_p21 : lw_okq (⟨"KindcutterModel", "sortOf", "(III)I"⟩, 7) := ⟨⟨by decide +kernel, by decide +kernel⟩, List.mem_of_getElem? (i := 983) (by decide +kernel), List.mem_of_getElem? (i := 1141) (by decide +kernel), List.mem_of_getElem? (i := 1142) (by decide +kernel)⟩
theorem lw_p22 : lw_okq (⟨"KindcutterModel", "areAll", "(IIII)Z"⟩, 7) := ⟨⟨by decide +kernel, by decide +kernel⟩, List.mem_of_getElem? (i := 983) (by decide +kernel), List.mem_of_getElem? (i := 1145) (by decide +kernel), List.mem_of_getElem? (i := 1146) (by decide +kernel)⟩
theorem lw_p23 : lw_okq (⟨"KindcutterModel", "areSum", "(III)Z"⟩, 7) := ⟨⟨by decide +kernel, by decide +kernel⟩, List.mem_of_getElem? (i := 983) (by decide +kernel), List.mem_of_getElem? (i := 1149) (by decide +kernel), List.mem_of_getElem? (i := 1150) (by decide +kernel)⟩
theorem lw_p24 : lw_okq (⟨"KindcutterModel", "joined", "(IZ)Ljava/lang/String;"⟩, 7) := ⟨⟨by decide +kernel, by decide +kernel⟩, List.mem_of_getElem? (i := 983) (by decide +kernel), List.mem_of_getElem? (i := 1221) (by decide +kernel), List.mem_of_getElem? (i := 1222) (by decide +kernel)⟩
theorem lw_p25 : lw_okq (⟨"KindcutterModel", "countOf", "(II)I"⟩, 7) := ⟨⟨by decide +kernel, by decide +kernel⟩, List.mem_of_getElem? (i := 983) (by decide +kernel), List.mem_of_getElem? (i := 1239) (by decide +kernel), List.mem_of_getElem? (i := 1240) (by decide +kernel)⟩
theorem lw_p26 : lw_okq (⟨"KindcutterModel", "isNameNow", "(I)Z"⟩, 7) := ⟨⟨by decide +kernel, by decide +kernel⟩, List.mem_of_getElem? (i := 983) (by decide +kernel), List.mem_of_getElem? (i := 1263) (by decide +kernel), List.mem_of_getElem? (i := 1264) (by decide +kernel)⟩
theorem lw_p27 : lw_okq (⟨"KindcutterModel", "faultOf", "(I)I"⟩, 7) := ⟨⟨by decide +kernel, by decide +kernel⟩, List.mem_of_getElem? (i := 983) (by decide +kernel), List.mem_of_getElem? (i := 1271) (by decide +kernel), List.mem_of_getElem? (i := 1272) (by decide +kernel)⟩
theorem lw_p28 : lw_okq (⟨"KindcutterModel", "piecesOf", "(I)I"⟩, 7) := ⟨⟨by decide +kernel, by decide +kernel⟩, List.mem_of_getElem? (i := 983) (by decide +kernel), List.mem_of_getElem? (i := 1287) (by decide +kernel), List.mem_of_getElem? (i := 1288) (by decide +kernel)⟩
theorem lw_p29 : lw_okq (⟨"KindcutterModel", "cutsOf", "(I)I"⟩, 7) := ⟨⟨by decide +kernel, by decide +kernel⟩, List.mem_of_getElem? (i := 983) (by decide +kernel), List.mem_of_getElem? (i := 1303) (by decide +kernel), List.mem_of_getElem? (i := 1304) (by decide +kernel)⟩
theorem lw_p30 : lw_okq (⟨"KindcutterModel", "backOf", "(I)I"⟩, 7) := ⟨⟨by decide +kernel, by decide +kernel⟩, List.mem_of_getElem? (i := 983) (by decide +kernel), List.mem_of_getElem? (i := 1311) (by decide +kernel), List.mem_of_getElem? (i := 1312) (by decide +kernel)⟩
theorem lw_p31 : lw_okq (⟨"KindcutterModel", "fewestOf", "(I)I"⟩, 7) := ⟨⟨by decide +kernel, by decide +kernel⟩, List.mem_of_getElem? (i := 983) (by decide +kernel), List.mem_of_getElem? (i := 1319) (by decide +kernel), List.mem_of_getElem? (i := 1320) (by decide +kernel)⟩
def lw_privs_2 : List (MethodName × Nat) := [(⟨"KindcutterModel", "become", "(I[II)V"⟩, 7), (⟨"KindcutterModel", "isSo", "(II)Z"⟩, 7), (⟨"KindcutterModel", "sifted", "(I[Z)I"⟩, 7), (⟨"KindcutterModel", "begin", "(II)I"⟩, 7), (⟨"KindcutterModel", "longestOf", "(II)I"⟩, 7), (⟨"KindcutterModel", "sortOf", "(III)I"⟩, 7), (⟨"KindcutterModel", "areAll", "(IIII)Z"⟩, 7), (⟨"KindcutterModel", "areSum", "(III)Z"⟩, 7), (⟨"KindcutterModel", "joined", "(IZ)Ljava/lang/String;"⟩, 7), (⟨"KindcutterModel", "countOf", "(II)I"⟩, 7), (⟨"KindcutterModel", "isNameNow", "(I)Z"⟩, 7), (⟨"KindcutterModel", "faultOf", "(I)I"⟩, 7), (⟨"KindcutterModel", "piecesOf", "(I)I"⟩, 7), (⟨"KindcutterModel", "cutsOf", "(I)I"⟩, 7), (⟨"KindcutterModel", "backOf", "(I)I"⟩, 7), (⟨"KindcutterModel", "fewestOf", "(I)I"⟩, 7)]
theorem lw_r2 : ∀ q ∈ lw_privs_2, lw_okq q := List.forall_mem_cons.mpr ⟨lw_p16, List.forall_mem_cons.mpr ⟨lw_p17, List.forall_mem_cons.mpr ⟨lw_p18, List.forall_mem_cons.mpr ⟨lw_p19, List.forall_mem_cons.mpr ⟨lw_p20, List.forall_mem_cons.mpr ⟨lw_p21, List.forall_mem_cons.mpr ⟨lw_p22, List.forall_mem_cons.mpr ⟨lw_p23, List.forall_mem_cons.mpr ⟨lw_p24, List.forall_mem_cons.mpr ⟨lw_p25, List.forall_mem_cons.mpr ⟨lw_p26, List.forall_mem_cons.mpr ⟨lw_p27, List.forall_mem_cons.mpr ⟨lw_p28, List.forall_mem_cons.mpr ⟨lw_p29, List.forall_mem_cons.mpr ⟨lw_p30, List.forall_mem_cons.mpr ⟨lw_p31, fun _ h => absurd h List.not_mem_nil⟩⟩⟩⟩⟩⟩⟩⟩⟩⟩⟩⟩⟩⟩⟩⟩
theorem lw_p32 : lw_okq (⟨"KindcutterModel", "partedOf", "(II)I"⟩, 7) := ⟨⟨by decide +kernel, by decide +kernel⟩, List.mem_of_getElem? (i := 983) (by decide +kernel), List.mem_of_getElem? (i := 1328) (by decide +kernel), List.mem_of_getElem? (i := 1329) (by decide +kernel)⟩
theorem lw_p33 : lw_okq (⟨"KindcutterModel", "houseNow", "(I)I"⟩, 7) := ⟨⟨by decide +kernel, by decide +kernel⟩, List.mem_of_getElem? (i := 983) (by decide +kernel), List.mem_of_getElem? (i := 1336) (by decide +kernel), List.mem_of_getElem? (i := 1337) (by decide +kernel)⟩
theorem lw_p34 : lw_okq (⟨"KindcutterModel", "isSoundNow", "()Z"⟩, 7) := ⟨⟨by decide +kernel, by decide +kernel⟩, List.mem_of_getElem? (i := 983) (by decide +kernel), List.mem_of_getElem? (i := 1348) (by decide +kernel), List.mem_of_getElem? (i := 1349) (by decide +kernel)⟩
def lw_privs_3 : List (MethodName × Nat) := [(⟨"KindcutterModel", "partedOf", "(II)I"⟩, 7), (⟨"KindcutterModel", "houseNow", "(I)I"⟩, 7), (⟨"KindcutterModel", "isSoundNow", "()Z"⟩, 7)]
theorem lw_r3 : ∀ q ∈ lw_privs_3, lw_okq q := List.forall_mem_cons.mpr ⟨lw_p32, List.forall_mem_cons.mpr ⟨lw_p33, List.forall_mem_cons.mpr ⟨lw_p34, fun _ h => absurd h List.not_mem_nil⟩⟩⟩
def lw_privs : List (MethodName × Nat) := lw_privs_1 ++ (lw_privs_2 ++ (lw_privs_3))
def lw_tbl : List Cond := k2_sels lw_privs ++ tables_1
theorem lw_privs_ok : ∀ q ∈ lw_privs, lw_okq q := by
  show ∀ q ∈ lw_privs_1 ++ (lw_privs_2 ++ (lw_privs_3)), lw_okq q
  exact List.forall_mem_append.mpr ⟨lw_r1, List.forall_mem_append.mpr ⟨lw_r2, lw_r3⟩⟩

/-! va_AOA: the printed names speak of it, the kit doesn't have it: an array of arrays' class is known (the same as va_AO, for a component that is an array) -/
def va_AOA (ty : FieldType) (U : State) : Prop := (Cond.arrayOver (.array ty)).before #[] U = true
theorem va_AOA.use {ty : FieldType} {A : Array Value} {U : State} (h : va_AOA ty U) : (Cond.arrayOver (.array ty)).before A U = true := h
/-! ===== BEGIN words of one list among another's, by their places ===== -/
theorem goodIn_r {big : List Cond} (ws : List Cond) (ps : List Nat) (hp : ws = ps.filterMap (fun i => big[i]?)) (h : ws.all goodWord = true) : GoodIn big ws := by
  intro w hw
  have h1 := List.all_eq_true.mp h w hw
  rw [hp] at hw
  obtain ⟨i, -, hi⟩ := List.mem_filterMap.mp hw
  have hm : w ∈ big := by first | exact List.mem_of_getElem? hi | exact List.getElem?_mem hi
  exact ⟨hm, good_of_word h1⟩
theorem goodIn_app {big a b : List Cond} (ha : GoodIn big a) (hb : GoodIn big b) : GoodIn big (a ++ b) := fun w h => (List.mem_append.mp h).elim (ha w) (hb w)
theorem goodIn_ca {big a b : List Cond} {c : Cond} (ha : GoodIn big (c :: a)) (hb : GoodIn big b) : GoodIn big (c :: (a ++ b)) := fun w h => (List.mem_cons.mp h).elim (fun e => ha w (List.mem_cons.mpr (Or.inl e))) (fun h => (List.mem_append.mp h).elim (fun h => ha w (List.mem_cons.mpr (Or.inr h))) (hb w))
theorem goodIn_sub {big ws : List Cond} (hm : ∀ w ∈ ws, w ∈ big) (h : ws.all goodWord = true) : GoodIn big ws := fun w hw => ⟨hm w hw, good_of_word (List.all_eq_true.mp h w hw)⟩
/-! ===== END ===== -/

/-! ===== BEGIN new T[n][m]: the outer array a place, the inner ones among the pooled ===== -/
/-- f, but v at every address of l -/
def vr_up {α : Type} (f : Nat → α) (l : List Nat) (v : α) : Nat → α := fun a => if a ∈ l then v else f a
theorem vr_up_in {α : Type} {f : Nat → α} {l : List Nat} {v : α} {a : Nat} (h : a ∈ l) : vr_up f l v a = v := if_pos h
theorem vr_up_ne {α : Type} {f : Nat → α} {l : List Nat} {v : α} {a : Nat} (h : a ∉ l) : vr_up f l v a = f a := if_neg h
theorem vr_rows {L l : List Nat} {f : Nat → va_E} {e : va_E} (h : ∀ a, a ∈ l → a ∉ L) : va_pl L f ++ l.map (fun a => (a, e)) = va_pl (L ++ l) (vr_up f l e) := by
  unfold va_pl
  rw [List.map_append]
  congr 1
  · apply List.map_congr_left
    intro a ha
    rw [vr_up_ne (fun q => h a q ha)]
  · apply List.map_congr_left
    intro a ha
    rw [vr_up_in ha]
theorem vr_lay {X rows : va_W} {x : Nat × va_E} {pl : va_W} {D : va_G} {cl : List vw_C} {H : Heap} (hP : va_P D cl (((X ++ pl) ++ [x]) ++ rows) H) : va_P D cl ((X ++ [x]) ++ (pl ++ rows)) H := by
  rw [List.append_assoc (X ++ pl)] at hP
  have h := va_P.swap hP
  rw [← List.append_assoc X] at h
  have h2 := va_P.swap h
  rw [List.append_assoc (X ++ [x])] at h2
  exact h2
theorem vr_layD {X rows : va_W} {x : Nat × va_E} {pl : va_W} {A : Nat → Prop} (hD : va_D A (((X ++ pl) ++ [x]) ++ rows)) : va_D A ((X ++ [x]) ++ (pl ++ rows)) := by
  rw [List.append_assoc (X ++ pl)] at hD
  have h := va_D.swap hD
  rw [← List.append_assoc X] at h
  have h2 := va_D.swap h
  rw [List.append_assoc (X ++ [x])] at h2
  exact h2
theorem vr_outer (c : ClassId) (N h0 : Nat) : ∀ i : Nat, Jvm.Free.Multi.outerC c N h0 i = arrV c N (fun j => va_rf (if j < i then some (h0 + 1 + j) else none))
  | 0 => by
    show ({ cls := c, slots := Array.replicate N .null, vm := .none } : Cell) = _
    rw [arrV_new]
    refine congrArg (arrV c N) (funext fun j => ?_)
    simp [va_rf]
  | i + 1 => by
    show (Jvm.Free.Multi.outerC c N h0 i).setSlot i (.ref (h0 + 1 + i)) = _
    rw [vr_outer c N h0 i, arrV_store]
    refine congrArg (arrV c N) (funext fun j => ?_)
    by_cases e : j = i
    · subst e
      simp [updV, va_rf]
    · by_cases h : j < i
      · simp [updV, e, h, Nat.lt_succ_of_lt h]
      · simp [updV, e, h, show ¬ j < i + 1 by omega]
section VGM
variable {p : Program} {l : Launch} {e : Env} {R : Room} {s : State} {m : MethodId} {args : Array Value} {below : List Frame} {meth : Method} {c : Code} {H : Heap} {locs : List Loc} {cells slots : Nat} {Q : State → Prop}
variable {cc : ByteArray} {pc : Nat} {ls : Array Slot} {rest : List Value} {D : va_G} {cl : List vw_C} {A : Nat → Prop} {a : Nat} {tys : List (ClassId × FieldType)} {ws : va_W} {H0 : Heap}
theorem va_mna {X : va_W} {L : List Nat} {f : Nat → va_E} {cc : ByteArray} (hexec : p.tables.exec = Jvm.exec) (hb : c.code = cc) {own : String} {index : Nat} {ty : FieldType} {cy : ClassId} (hown : s.vm.findClass own = some m.cls) (hclink : (Cond.classLink own index ("[" ++ (FieldType.array ty).toString)).before args s = true) (hover : va_AOA ty s) (harr : (Cond.arrayClass ty).before args s = true) (hcy : s.vm.findClass (FieldType.array ty).toString = some cy)
    (hK : va_K D cl tys s) (hP : va_P D cl (X ++ va_pl L f) H) (hD : va_D A (X ++ va_pl L f)) (hS : va_S A H0 H locs) (hA : ∀ q, H0.size ≤ q → A q) {n k : Int32} {N' K' : Nat} {z : vp_A} (hn : ¬ n < 0) (hk : ¬ k < 0) (hN : n.toNatClampNeg = N') (hM : k.toNatClampNeg = K')
    (hb1 : N' * 4 ≤ 536870912) (hb2 : K' * componentBytes ty ≤ 536870912) (hb3 : K' ≤ 536870912) (hdf : fits ty (defaultValue ty) = true) (hdd : (defaultValue ty).isDefault = true) (hcells : cells + (1 + N') ≤ R.cells) (hslots : slots + (N' + N' * K') ≤ R.slots) (hz : ∀ c : ClassId, Jvm.Free.Multi.innerC c K' (defaultValue ty) = vp_cell c z) (hdg : decode cc pc = .ok (.multianewarray index 2, 4))
    (kk : ∀ (q : Nat) (r : Nat → Nat) (cA : ClassId) (H1 : Heap), (∀ i j : Nat, i < N' → j < N' → r i = r j → i = j) → (∀ i : Nat, i < N' → r i ∉ L) → va_K D cl (tys ++ [(cA, .array ty)]) s →
      va_P D cl ((X ++ [(q, .inl (cA, N', .inr (.inr (.inr (.inr (fun i => if i < N' then some (r i) else none))))))]) ++ va_pl (L ++ (List.range N').map r) (vr_up f ((List.range N').map r) (.inl (cy, z)))) H1 → va_D A ((X ++ [(q, .inl (cA, N', .inr (.inr (.inr (.inr (fun i => if i < N' then some (r i) else none))))))]) ++ va_pl (L ++ (List.range N').map r) (vr_up f ((List.range N').map r) (.inl (cy, z)))) → va_S A H0 H1 locs →
      W p l e R s m args below meth c H1 locs (cells + 1 + N') (slots + N' + N' * K') Q (F0 m (pc + 4) ls (.ref q :: rest))) : W p l e R s m args below meth c H locs cells slots Q (F0 m pc ls (.int k :: .int n :: rest)) := by
  subst hN
  subst hM
  intro T hT Xs
  obtain ⟨vm₁, cA, comp, -, fA, fC, hO, -, X', step⟩ := Xs.multianewarray2F hexec hown hclink (va_AOA.use hover) harr (g := F0 m pc ls (.int k :: .int n :: rest)) rfl (by rw [hb]; exact hdg) rfl hn hk hb1 hb2 hb3 hdf hdd hcells hslots
  have ec : some cy = some comp := hcy.symm.trans fC
  cases ec
  generalize hF : Jvm.Free.Multi.fill (T.setVm vm₁) cA cy n.toNatClampNeg k.toNatClampNeg (defaultValue ty) n.toNatClampNeg = F at X' step
  have hTh : (T.setVm vm₁).heap = H := hT
  obtain ⟨f1, f2, -, -⟩ := Jvm.Free.Multi.fill_facts (T.setVm vm₁) cA cy n.toNatClampNeg k.toNatClampNeg (defaultValue ty) n.toNatClampNeg
  rw [hF, hTh] at f1 f2
  have hold : ∀ x : Nat, x < H.size → F.heap[x]? = H[x]? := fun x hx => by
    have := Jvm.Free.Multi.fill_old (T.setVm vm₁) cA cy n.toNatClampNeg k.toNatClampNeg (defaultValue ty) (a := x) (by rw [hTh]; exact hx) n.toNatClampNeg
    rw [hF, hTh] at this
    exact this
  have hrow : ∀ j : Nat, j < n.toNatClampNeg → F.heap[H.size + 1 + j]? = some (vp_cell cy z) := fun j hj => by
    have := Jvm.Free.Multi.fill_inner (T.setVm vm₁) cA cy n.toNatClampNeg k.toNatClampNeg (defaultValue ty) n.toNatClampNeg j hj
    rw [hF, hTh, hz] at this
    exact this
  have hout : Jvm.Free.Multi.outerC cA n.toNatClampNeg H.size n.toNatClampNeg = vp_cell cA (n.toNatClampNeg, .inr (.inr (.inr (.inr (fun i => if i < n.toNatClampNeg then some (H.size + 1 + i) else none))))) := by
    rw [vp_cell_q]
    exact vr_outer cA n.toNatClampNeg H.size n.toNatClampNeg
  rw [hout] at f2
  have hlt : ∀ a, a ∈ L → a < H.size := fun a ha => by
    obtain ⟨k9, hk9⟩ := va_pl_get (X := X) (f := f) ha
    exact (hP k9 _ hk9).lt
  have hnl : ∀ i : Nat, i < n.toNatClampNeg → H.size + 1 + i ∉ L := fun i _ h => by
    have := hlt _ h
    omega
  have hnm : ∀ a, a ∈ (List.range n.toNatClampNeg).map (fun i => H.size + 1 + i) → a ∉ L := fun a ha h => by
    obtain ⟨i, -, rfl⟩ := List.mem_map.mp ha
    have := hlt _ h
    omega
  have hP0 : va_P D cl (X ++ va_pl L f) F.heap := hP.kept (fun k9 x hx => hold x.1 ((hP k9 x hx).lt))
  have hP1 : va_P D cl ((X ++ va_pl L f) ++ [(H.size, .inl (cA, n.toNatClampNeg, .inr (.inr (.inr (.inr (fun i => if i < n.toNatClampNeg then some (H.size + 1 + i) else none))))))]) F.heap := hP0.app (fun k9 x hx => by
    have h0 : k9 < 1 := (List.getElem?_eq_some_iff.mp hx).1
    rw [show k9 = 0 by omega] at hx
    cases hx
    exact f2)
  have hP2 : va_P D cl (((X ++ va_pl L f) ++ [(H.size, .inl (cA, n.toNatClampNeg, .inr (.inr (.inr (.inr (fun i => if i < n.toNatClampNeg then some (H.size + 1 + i) else none))))))]) ++ ((List.range n.toNatClampNeg).map (fun i => H.size + 1 + i)).map (fun a => (a, .inl (cy, z)))) F.heap := hP1.app (fun k9 x hx => by
    obtain ⟨a, ha, rfl⟩ := List.mem_map.mp (List.mem_of_getElem? hx)
    obtain ⟨i, hi, rfl⟩ := List.mem_map.mp ha
    exact hrow i (List.mem_range.mp hi))
  have hD2 : va_D A (((X ++ va_pl L f) ++ [(H.size, .inl (cA, n.toNatClampNeg, .inr (.inr (.inr (.inr (fun i => if i < n.toNatClampNeg then some (H.size + 1 + i) else none))))))]) ++ ((List.range n.toNatClampNeg).map (fun i => H.size + 1 + i)).map (fun a => (a, .inl (cy, z)))) := by
    have hD1 := hD.push (e := .inl (cA, n.toNatClampNeg, .inr (.inr (.inr (.inr (fun i => if i < n.toNatClampNeg then some (H.size + 1 + i) else none)))))) hP rfl (hA _ hS.1)
    generalize hW1 : (X ++ va_pl L f) ++ [(H.size, .inl (cA, n.toNatClampNeg, .inr (.inr (.inr (.inr (fun i => if i < n.toNatClampNeg then some (H.size + 1 + i) else none))))))] = W1 at hD1 hP1 ⊢
    have hle : ∀ (k9 : Nat) (x : Nat × va_E), W1[k9]? = some x → x.1 ≤ H.size := fun k9 x hx => by
      rw [← hW1] at hx
      by_cases hl : k9 < (X ++ va_pl L f).length
      · rw [List.getElem?_append_left hl] at hx
        exact Nat.le_of_lt ((hP k9 x hx).lt)
      · rw [List.getElem?_append_right (by omega)] at hx
        have h0 : k9 - (X ++ va_pl L f).length < 1 := (List.getElem?_eq_some_iff.mp hx).1
        rw [show k9 - (X ++ va_pl L f).length = 0 by omega] at hx
        cases hx
        exact Nat.le_refl _
    have hr : ∀ (k9 : Nat) (x : Nat × va_E), (((List.range n.toNatClampNeg).map (fun i => H.size + 1 + i)).map (fun a => ((a, .inl (cy, z)) : Nat × va_E)))[k9]? = some x → x.1 = H.size + 1 + k9 := fun k9 x hx => by
      rw [List.getElem?_map, List.getElem?_map] at hx
      by_cases h9 : k9 < n.toNatClampNeg
      · rw [List.getElem?_range h9] at hx
        cases hx
        rfl
      · have hn0 : (List.range n.toNatClampNeg)[k9]? = none := List.getElem?_eq_none (by rw [List.length_range]; omega)
        rw [hn0] at hx
        cases hx
    refine ⟨fun i j x y hi hj hxy => ?_, fun k9 x hx => ?_⟩
    · by_cases h1 : i < W1.length <;> by_cases h2 : j < W1.length
      · rw [List.getElem?_append_left h1] at hi
        rw [List.getElem?_append_left h2] at hj
        exact hD1.1 i j x y hi hj hxy
      · rw [List.getElem?_append_left h1] at hi
        rw [List.getElem?_append_right (by omega)] at hj
        have := hle _ _ hi
        have := hr _ _ hj
        omega
      · rw [List.getElem?_append_right (by omega)] at hi
        rw [List.getElem?_append_left h2] at hj
        have := hle _ _ hj
        have := hr _ _ hi
        omega
      · rw [List.getElem?_append_right (by omega)] at hi hj
        have := hr _ _ hi
        have := hr _ _ hj
        omega
    · by_cases h1 : k9 < W1.length
      · rw [List.getElem?_append_left h1] at hx
        exact hD1.2 k9 x hx
      · rw [List.getElem?_append_right (by omega)] at hx
        have := hr _ _ hx
        exact hA _ (by have := hS.1; omega)
  have hAr : ArrOfT s cA (.array ty) := fun N9 z9 => by
    obtain ⟨-, k9, hk9, cm9, hkk9⟩ := (hO 0 0 0).1
    exact ⟨(fun q hq => by cases hq), k9, hk9, cm9, hkk9⟩
  have hK2 : va_K D cl (tys ++ [(cA, .array ty)]) s := ⟨hK.1, fun k9 x hx => by
    by_cases hl : k9 < tys.length
    · rw [List.getElem?_append_left hl] at hx
      exact hK.2 k9 x hx
    · rw [List.getElem?_append_right (by omega)] at hx
      have h0 : k9 - tys.length < 1 := (List.getElem?_eq_some_iff.mp hx).1
      rw [show k9 - tys.length = 0 by omega] at hx
      cases hx
      exact ⟨hAr, fA⟩⟩
  obtain ⟨t, a1, b1⟩ := kk H.size (fun i => H.size + 1 + i) cA F.heap (fun i j _ _ h => by have h9 : H.size + 1 + i = H.size + 1 + j := h; omega) hnl hK2 (by rw [← vr_rows hnm]; exact vr_lay hP2) (by rw [← vr_rows hnm]; exact vr_layD hD2) ⟨by rw [f1]; have := hS.1; omega, fun x h1 h2 => (hold x (Nat.lt_of_lt_of_le h1 hS.1)).trans (hS.2.1 x h1 h2), hS.2.2⟩ F rfl X'
  refine ⟨t, step t ?_, b1⟩
  have e : T.heap.size = H.size := by rw [hT]
  rw [e]
  exact a1
end VGM
/-! ===== END ===== -/

/-! ===== BEGIN exceptions that leave a method, and their catching by the caller (launches without stack traces) ===== -/
section VXA
/-! The laws vx_back, vx_callV, vx_callS, vx_callSW, vx_throw0, vx_throwS follow proofs of the library, with one case more: JvmDerived/Free/Laws.lean (Back.of_free), Shelf42/LK1.lean (callV, callS), Shelf/KitTraced.lean (throwNew0V, throwNewS). -/
/-- where a method has thrown q: the class by its name, the cell, what was written, the world -/
def vx_T (XC : String → State → State → Prop) (st : State) (q : Addr) (t : State) (mc ms : Nat) (free : Addr → Prop) : Prop :=
  ∃ (E : String) (ce : Cell) (L : List Loc), XC E st t ∧ t.heap[q]? = some ce ∧ ce.vm = .none ∧ st.vm.findClass E = some ce.cls ∧ st.WarmedH t.vm ∧ st.sameButNew ({ t with vm := st.vm } : State) L mc ms ∧ ∀ z ∈ L, free z.base
def vx_Q (Qc : Array Value → State → Outcome → State → Prop) (XC : String → State → State → Prop) (mc ms : Nat) (free : Addr → Prop) : Array Value → State → Outcome → State → Prop := fun a st o t =>
  (Qc a st o t ∧ ∃ L, FrameEnd st o t L mc ms ∧ ∀ q ∈ L, free q.base) ∨ ∃ q, o = .threw q ∧ vx_T XC st q t mc ms free
/-- a callee that returns or throws -/
def vx_Met (l : Launch) (y : MethodName) (ws : List Cond) (rm : Room) (Pc : Array Value → State → Prop) (Qc : Array Value → State → Outcome → State → Prop) (XC : String → State → State → Prop) (mc ms : Nat) (free : Addr → Prop) : Prop :=
  MetFree l y (headSpec ws rm) Pc (fun _ _ _ _ _ => True) (vx_Q Qc XC mc ms free)
def vx_Post (XC : String → State → State → Prop) (mc ms : Nat) (free : Addr → Prop) : Pt → Array Value → Addr → Pt → Prop := fun A a q B =>
  ∃ (g : JFrame) (mk : MethodId) (t : State) (L : List Loc) (E : String) (ce : Cell), B.U.heap = t.heap ∧ B.U.vm = t.vm ∧ XC E (A.U.calling g mk a) t ∧ t.heap[q]? = some ce ∧ ce.vm = .none ∧ A.U.vm.findClass E = some ce.cls ∧ B.locs = A.locs ++ L ∧ (∀ z ∈ L, free z.base) ∧ B.cells = A.cells + mc ∧ B.slots = A.slots + ms
def vx_Back (l : Launch) (R : Room) (p : Program) (e : Env) (below : List Frame) (s : State) (sargs : Array Value) (y : MethodName) (len W9 : Nat)
    (Pre : Pt → Array Value → Prop) (Post : Pt → Array Value → Option Value → Pt → Prop) (PostX : Pt → Array Value → Addr → Pt → Prop) : Prop :=
  ∀ (m : MethodId) (meth : Method) (c : Code) (A : Pt) (g : JFrame) (ig : Instr) (mk : MethodId) (a : Array Value),
    Stand p l e R s m sargs below meth c A.U A.locs A.cells A.slots → g.method = m → g.locals.size = c.maxLocals → decode c.code g.pc = .ok (ig, len) →
    2 * g.monitorRoom + (g.stack.map fun v => v.category).sum ≤ W9 → A.U.methodNamed? y = some mk → Pre A a →
    (∃ (v : Option Value) (B : Pt), Stand p l e R s m sargs below meth c B.U B.locs B.cells B.slots ∧ Post A a v B ∧
      Steps p.tables e below (doInvoke e (A.U.setTop g) [] mk a).1 (B.U.setTop { g with pc := g.pc + len, stack := v.toList ++ g.stack })) ∨
    (∃ (q : Addr) (B : Pt), Stand p l e R s m sargs below meth c B.U B.locs B.cells B.slots ∧ PostX A a q B ∧
      Steps p.tables e below (doInvoke e (A.U.setTop g) [] mk a).1 ((B.U.setTop g).pushFrame (.throwing q)))
section Payer
variable {l : Launch} {R : Room} {p : Program} {e : Env} {below : List Frame} {s : State} {sargs : Array Value} {y : MethodName} {len W9 : Nat}
theorem vx_back {ws : List Cond} {rm : Room} {Pc : Array Value → State → Prop} {Qc : Array Value → State → Outcome → State → Prop} {XC : String → State → State → Prop} {mc ms : Nat} {free : Addr → Prop} {bytes : ByteArray} {maxL : Nat} {ret : Option FieldType}
    (hM : vx_Met l y ws rm Pc Qc XC mc ms free) (hblind : FrameBlind Pc) (hrc : rm.cells = mc) (hrs : rm.slots = ms)
    (hframes : rm.frames + 1 ≤ R.frames) (hlocals : W9 + (maxL + 11) + rm.locals ≤ R.locals)
    (hws : ∀ w ∈ ws, ∀ a' U, s.WarmedH U.vm → w.before a' U = true) (hcode : Cond.code y bytes maxL ret ∈ ws) (hinit : ∀ a' U, s.WarmedH U.vm → (Cond.initialized y.cls).before a' U = true) :
    vx_Back l R p e below s sargs y len W9 (PreOf R mc ms Pc) (PostOf Qc mc ms free) (vx_Post XC mc ms free) := by
  intro m meth c A g ig mk a X hg hsize hdg hW hn hp
  have h1 : (headSpec ws rm).pre.before a A.U = true := atoms_intro fun w hw => hws w hw _ _ X.warmed
  have h2 : (Cond.code y bytes maxL ret).before a A.U = true := hws _ hcode _ _ X.warmed
  have h3 : (Cond.initialized y.cls).before a A.U = true := hinit _ _ X.warmed
  have h4 : A.cells + (headSpec ws rm).room.cells ≤ R.cells := by rw [show (headSpec ws rm).room.cells = mc from hrc]; exact hp.1
  have h5 : A.slots + (headSpec ws rm).room.slots ≤ R.slots := by rw [show (headSpec ws rm).room.slots = ms from hrs]; exact hp.2.1
  have hPc : Pc a (A.U.calling g mk a) := hblind _ _ _ _ hp.2.2
  obtain ⟨U, Ls, c0, s0⟩ := A
  dsimp only [Pt.U, Pt.locs, Pt.cells, Pt.slots] at h1 h2 h3 h4 h5 X hn hPc ⊢
  obtain ⟨methY, cY, hmY, hcY, -, hlY, -, -, -, -⟩ := Cond.code_spec hn h2
  obtain ⟨kY, hkY, -⟩ := className_of_methodNamed hn
  have hinitY : kY.init = .initialized := Cond.initialized_spec (findClass_of_methodNamed hn) hkY h3
  have h : At U g.method c below := by rw [hg]; exact X.here
  have hlocals9 : W9 + (maxL + 11) + (headSpec ws rm).room.locals ≤ R.locals := hlocals
  have happ : (headSpec ws rm).appliesLoose y e.platform (U.calling g mk a) = true :=
    Spec.appliesLoose_calling (g := g) h hdg hn hkY hinitY
      (X.room_calling (g := g) (R' := (headSpec ws rm).room) hsize hmY hcY hframes (by rw [hlY]; omega) h4 h5) h1
  obtain ⟨mid, hmid⟩ := h.above
  have hfr : (U.setTop g).frames = (.java g :: mid) ++ below := by rw [State.frames_setTop' g h.top, hmid]; rfl
  obtain ⟨o, s₂, hsteps, -, hend, hq⟩ := Steps.callFree hM p X.admits X.cas X.clock (acts := []) hfr happ hPc trivial
  have hq' : vx_Q Qc XC mc ms free a (U.calling g mk a) o s₂ := hq
  rw [State.frames_setTop' g h.top] at hend
  obtain ⟨g₀, hg0⟩ := Option.isSome_iff_exists.mp h.top
  obtain ⟨r, hr⟩ := State.topJava?_eq_some.mp hg0
  have hr' : (({ U with heap := s₂.heap, slotsUsed := s₂.slotsUsed } : State).setVm s₂.vm).frames = .java g₀ :: r := hr
  rcases hq' with ⟨hqc, L, hfe, hL⟩ | ⟨q, rfl, E, ce, L, hx, hce, hcv, hcl, hW₂, hsm, hL⟩
  · obtain ⟨⟨v, rfl⟩, hW₂, e2, q2, q3, q4, q5, q6⟩ := id hfe
    have e3 : s₂ = ({ (U.calling g mk a).setFrames s₂.frames with heap := s₂.heap, slotsUsed := s₂.slotsUsed } : State).setVm s₂.vm := by
      have : s₂ = ({ s₂ with vm := (U.calling g mk a).vm } : State).setVm s₂.vm := rfl
      rw [e2] at this
      exact this
    obtain ⟨c₂, i₂, len₂, hc₂, hd₂, hf₂⟩ := hend
    have hW' : U.WarmedH s₂.vm := hW₂
    have hcc : c₂ = c := by
      have h1 : s₂.code? g.method = U.code? g.method := by
        rw [State.code?_eq, State.code?_eq, hW'.alike.method?]
      exact Option.some.inj (hc₂.symm.trans (h1.trans h.code))
    subst hcc
    have hlen : len₂ = len := by rw [hdg] at hd₂; cases hd₂; rfl
    subst hlen
    have hs₂ : s₂ = (({ U with heap := s₂.heap, slotsUsed := s₂.slotsUsed } : State).setVm s₂.vm).setTop { g with pc := g.pc + len₂, stack := v.toList ++ g.stack } := by
      refine e3.trans ?_
      rw [hf₂, State.calling_eq h.top, State.setFrames_setFrames, State.setTop_of_frames _ hr', hr]
      rfl
    have hsame : U.sameButNew ({ U with heap := s₂.heap, slotsUsed := s₂.slotsUsed } : State) L mc ms := by
      refine ⟨?_, q2, q3, q4, q5, q6⟩
      obtain ⟨t, ht, -⟩ := State.frames_cons hr
      show ({ U with heap := s₂.heap, slotsUsed := s₂.slotsUsed } : State) = { U.setFrames U.frames with heap := s₂.heap, slotsUsed := s₂.slotsUsed }
      rw [State.setFrames_self ht]
    subst hg
    refine Or.inl ⟨v, ⟨(({ U with heap := s₂.heap, slotsUsed := s₂.slotsUsed } : State).setVm s₂.vm), Ls ++ L, c0 + mc, s0 + ms⟩,
      ⟨X.admits, X.cas, X.clock, X.frames, X.room, X.hears, X.method, X.code, (X.here.setHeapUsed s₂.heap s₂.slotsUsed).setVm hW'.alike, X.tail, State.WarmedH.trans X.warmed hW', X.limits, X.bytes, X.same.trans (hsame.setVm s.vm)⟩,
      ⟨g, mk, s₂, L, rfl, rfl, hqc, rfl, hL, rfl, rfl⟩, ?_⟩
    show Steps p.tables e below _ ((({ U with heap := s₂.heap, slotsUsed := s₂.slotsUsed } : State).setVm s₂.vm).setTop { g with pc := g.pc + len₂, stack := v.toList ++ g.stack })
    rw [← hs₂]
    exact hsteps
  · obtain ⟨e2, q2, q3, q4, q5, q6⟩ := id hsm
    have e3 : s₂ = ({ (U.calling g mk a).setFrames s₂.frames with heap := s₂.heap, slotsUsed := s₂.slotsUsed } : State).setVm s₂.vm := by
      have : s₂ = ({ s₂ with vm := (U.calling g mk a).vm } : State).setVm s₂.vm := rfl
      rw [e2] at this
      exact this
    have hf₂ : s₂.frames = .throwing q :: .java g :: U.frames.tail := hend
    have hW' : U.WarmedH s₂.vm := hW₂
    have hs₂ : s₂ = ((({ U with heap := s₂.heap, slotsUsed := s₂.slotsUsed } : State).setVm s₂.vm).setTop g).pushFrame (.throwing q) := by
      refine e3.trans ?_
      rw [hf₂, State.calling_eq h.top, State.setFrames_setFrames, State.pushFrame, State.frames_setTop _ hr', State.setTop_of_frames _ hr', State.setFrames_setFrames, hr]
      rfl
    have hsame : U.sameButNew ({ U with heap := s₂.heap, slotsUsed := s₂.slotsUsed } : State) L mc ms := by
      refine ⟨?_, q2, q3, q4, q5, q6⟩
      obtain ⟨t, ht, -⟩ := State.frames_cons hr
      show ({ U with heap := s₂.heap, slotsUsed := s₂.slotsUsed } : State) = { U.setFrames U.frames with heap := s₂.heap, slotsUsed := s₂.slotsUsed }
      rw [State.setFrames_self ht]
    subst hg
    refine Or.inr ⟨q, ⟨(({ U with heap := s₂.heap, slotsUsed := s₂.slotsUsed } : State).setVm s₂.vm), Ls ++ L, c0 + mc, s0 + ms⟩,
      ⟨X.admits, X.cas, X.clock, X.frames, X.room, X.hears, X.method, X.code, (X.here.setHeapUsed s₂.heap s₂.slotsUsed).setVm hW'.alike, X.tail, State.WarmedH.trans X.warmed hW', X.limits, X.bytes, X.same.trans (hsame.setVm s.vm)⟩,
      ⟨g, mk, s₂, L, E, ce, rfl, rfl, hx, hce, hcv, hcl, rfl, hL, rfl, rfl⟩, ?_⟩
    show Steps p.tables e below _ (((({ U with heap := s₂.heap, slotsUsed := s₂.slotsUsed } : State).setVm s₂.vm).setTop g).pushFrame (.throwing q))
    rw [← hs₂]
    exact hsteps
end Payer
section Calls
variable {p : Program} {l : Launch} {e : Env} {R : Room} {s : State} {m : MethodId} {args : Array Value} {below : List Frame} {meth : Method} {c : Code} {T : State} {locs : List Loc} {cells slots : Nat}
theorem vx_callV (X : Stand p l e R s m args below meth c T locs cells slots) (hexec : p.tables.exec = Jvm.exec) {own C : String} {index : Nat} {y : MethodName} {bytes : ByteArray} {maxL : Nat} {ret : Option FieldType}
    (hown : s.vm.findClass own = some m.cls) (hlink : (Cond.methodLink own index y).before args s = true) (hinst : (Cond.instanceMethod y).before args s = true) (hsel : (Cond.selects C y y).before args s = true)
    (hcode : (Cond.code y bytes maxL ret).before args s = true) (hy : y.cls ≠ "java/lang/invoke/MethodHandle" ∧ y.cls ≠ "java/lang/invoke/VarHandle")
    {W9 : Nat} {Pre : Pt → Array Value → Prop} {Post : Pt → Array Value → Option Value → Pt → Prop} {PostX : Pt → Array Value → Addr → Pt → Prop} (hK : vx_Back l R p e below s args y 3 W9 Pre Post PostX)
    {b : Addr} {cellB : Cell} (hcell : T.heap[b]? = some cellB) (hobj : cellB.vm.isStatics = false) (hcls : s.vm.findClass C = some cellB.cls)
    {g : JFrame} (hg : g.method = m) (hsize : g.locals.size = c.maxLocals) {argsL rest : List Value} (hlen : ∀ sig, parseMethodDescriptor y.desc = some sig → argsL.length = sig.parameters.length)
    (hstack : g.stack = argsL.reverse ++ .ref b :: rest) (hW : 2 * g.monitorRoom + (rest.map fun v => v.category).sum ≤ W9) (hdg : decode c.code g.pc = .ok (.invokevirtual index, 3))
    (hpre : ∀ vm₁, s.WarmedH vm₁ → Pre ⟨T.setVm vm₁, locs, cells, slots⟩ (Value.ref b :: argsL).toArray) :
    (∃ (v : Option Value) (vm₁ : Vm) (B : Pt), s.WarmedH vm₁ ∧ Stand p l e R s m args below meth c B.U B.locs B.cells B.slots ∧ Post ⟨T.setVm vm₁, locs, cells, slots⟩ (Value.ref b :: argsL).toArray v B ∧
      ∀ target, Steps p.tables e below (B.U.setTop { g with pc := g.pc + 3, stack := v.toList ++ rest }) target → Steps p.tables e below (T.setTop g) target) ∨
    (∃ (q : Addr) (vm₁ : Vm) (B : Pt), s.WarmedH vm₁ ∧ Stand p l e R s m args below meth c B.U B.locs B.cells B.slots ∧ PostX ⟨T.setVm vm₁, locs, cells, slots⟩ (Value.ref b :: argsL).toArray q B ∧
      Steps p.tables e below (T.setTop g) ((B.U.setTop { g with stack := rest }).pushFrame (.throwing q))) := by
  obtain ⟨mk, methM, hnamed, hmethM, hstM, habM⟩ := Cond.instanceMethod_spec hinst
  obtain ⟨methM', cM, hmethM', -, -, -, -, -, -, hsigM⟩ := Cond.code_spec hnamed hcode
  cases hmethM.symm.trans hmethM'
  obtain ⟨c2, r2, m2, q1, q2, q3, q4, kP, hkP, hkPi⟩ := Cond.selects_spec hsel
  cases hcls.symm.trans q1
  cases (State.methodFound?_of_named hnamed hy).symm.trans q2
  cases hnamed.symm.trans q3
  have hselP : selectMethod e.platform s.vm cellB.cls mk = .method mk := by rw [Launch.admits_selectMethod X.admits]; exact q4
  obtain ⟨vm₁, X₁, hstep₁⟩ := X.invokevirtual hexec hown hlink hnamed hmethM hstM hkP hkPi hy (a := b) (cell := cellB) hcell
    (fun z h => by rw [h] at hobj; cases hobj) hselP hmethM habM hkP hkPi (g := g) hg (argsL := argsL) (rest := rest) (hlen _ hsigM) hstack hdg
  rcases hK m meth c ⟨T.setVm vm₁, locs, cells, slots⟩ { g with stack := rest } (.invokevirtual index) mk (Value.ref b :: argsL).toArray X₁ hg hsize hdg hW (X₁.named hnamed) (hpre vm₁ X₁.warmed) with ⟨v, B, X', hpost, hsteps⟩ | ⟨q, B, X', hpost, hsteps⟩
  · exact Or.inl ⟨v, vm₁, B, X₁.warmed, X', hpost, fun target h => hstep₁ _ fun acts => by rw [doInvoke_state]; exact hsteps.trans h⟩
  · exact Or.inr ⟨q, vm₁, B, X₁.warmed, X', hpost, hstep₁ _ fun acts => by rw [doInvoke_state]; exact hsteps⟩
theorem vx_callS (X : Stand p l e R s m args below meth c T locs cells slots) (hexec : p.tables.exec = Jvm.exec) {own : String} {index : Nat} {y : MethodName} {bytes : ByteArray} {maxL : Nat} {ret : Option FieldType}
    (hown : s.vm.findClass own = some m.cls) (hlink : (Cond.methodLink own index y).before args s = true) (hstat : (Cond.static y).before args s = true) (hinit : (Cond.initialized y.cls).before args s = true)
    (hcode : (Cond.code y bytes maxL ret).before args s = true) (hy : y.cls ≠ "java/lang/invoke/MethodHandle" ∧ y.cls ≠ "java/lang/invoke/VarHandle")
    {W9 : Nat} {Pre : Pt → Array Value → Prop} {Post : Pt → Array Value → Option Value → Pt → Prop} {PostX : Pt → Array Value → Addr → Pt → Prop} (hK : vx_Back l R p e below s args y 3 W9 Pre Post PostX)
    {g : JFrame} (hg : g.method = m) (hsize : g.locals.size = c.maxLocals) {argsL rest : List Value} (hlen : ∀ sig, parseMethodDescriptor y.desc = some sig → argsL.length = sig.parameters.length)
    (hstack : g.stack = argsL.reverse ++ rest) (hW : 2 * g.monitorRoom + (rest.map fun v => v.category).sum ≤ W9) (hdg : decode c.code g.pc = .ok (.invokestatic index, 3))
    (hpre : ∀ vm₁, s.WarmedH vm₁ → Pre ⟨T.setVm vm₁, locs, cells, slots⟩ argsL.toArray) :
    (∃ (v : Option Value) (vm₁ : Vm) (B : Pt), s.WarmedH vm₁ ∧ Stand p l e R s m args below meth c B.U B.locs B.cells B.slots ∧ Post ⟨T.setVm vm₁, locs, cells, slots⟩ argsL.toArray v B ∧
      ∀ target, Steps p.tables e below (B.U.setTop { g with pc := g.pc + 3, stack := v.toList ++ rest }) target → Steps p.tables e below (T.setTop g) target) ∨
    (∃ (q : Addr) (vm₁ : Vm) (B : Pt), s.WarmedH vm₁ ∧ Stand p l e R s m args below meth c B.U B.locs B.cells B.slots ∧ PostX ⟨T.setVm vm₁, locs, cells, slots⟩ argsL.toArray q B ∧
      Steps p.tables e below (T.setTop g) ((B.U.setTop { g with stack := rest }).pushFrame (.throwing q))) := by
  obtain ⟨mk, hnamed⟩ := Cond.code_named hcode
  obtain ⟨methM, cM, hmethM, -, -, -, -, -, -, hsigM⟩ := Cond.code_spec hnamed hcode
  have hstatic : methM.isStatic = true := Cond.static_spec hnamed hmethM hstat
  obtain ⟨kP, hkP, -⟩ := className_of_methodNamed hnamed
  have hinitP : kP.init = .initialized := Cond.initialized_spec (findClass_of_methodNamed hnamed) hkP hinit
  obtain ⟨vm₁, X₁, hstep₁⟩ := X.invokestatic hexec hown hlink hnamed hmethM hstatic hkP hinitP hy (g := g) hg (argsL := argsL) (rest := rest) (hlen _ hsigM) hstack hdg
  rcases hK m meth c ⟨T.setVm vm₁, locs, cells, slots⟩ { g with stack := rest } (.invokestatic index) mk argsL.toArray X₁ hg hsize hdg hW (X₁.named hnamed) (hpre vm₁ X₁.warmed) with ⟨v, B, X', hpost, hsteps⟩ | ⟨q, B, X', hpost, hsteps⟩
  · exact Or.inl ⟨v, vm₁, B, X₁.warmed, X', hpost, fun target h => hstep₁ _ fun acts => by rw [doInvoke_state]; exact hsteps.trans h⟩
  · exact Or.inr ⟨q, vm₁, B, X₁.warmed, X', hpost, hstep₁ _ fun acts => by rw [doInvoke_state]; exact hsteps⟩
end Calls
theorem vx_cls {s : State} {T : State} {vm₁ : Vm} {E : String} {k : ClassId} (hW : s.WarmedH vm₁) (h : (T.setVm vm₁).vm.findClass E = some k) : s.vm.findClass E = some k := by
  have h1 : vm₁.findClass E = some k := h
  rw [hW.alike.findClass] at h1
  exact h1
/-- the method's frame g, with q thrown over it -/
def vx_W (p : Program) (l : Launch) (e : Env) (R : Room) (s : State) (m : MethodId) (args : Array Value) (below : List Frame) (meth : Method) (c : Code) (H : Heap) (locs : List Loc) (cells slots : Nat) (Q : State → Prop) (g : JFrame) (q : Addr) : Prop :=
  ∀ T : State, T.heap = H → Stand p l e R s m args below meth c T locs cells slots → ∃ t, Steps p.tables e below ((T.setTop g).pushFrame (.throwing q)) t ∧ Q t
def vx_Run (p : Program) (l : Launch) (e : Env) (R : Room) (s : State) (m : MethodId) (args : Array Value) (below : List Frame) (meth : Method) (c : Code) (H : Heap) (locs : List Loc) (cells slots mc ms : Nat) (g : JFrame) (rest : List Value) (Qa : State → Outcome → State → Prop) (XC : String → State → State → Prop) (free : Addr → Prop) : Prop :=
  ∀ T : State, T.heap = H → Stand p l e R s m args below meth c T locs cells slots →
    (∃ (v : Option Value) (st₀ t T' : State) (L : List Loc), st₀.heap = H ∧ Stand p l e R s m args below meth c T' (locs ++ L) (cells + mc) (slots + ms) ∧ (∀ q ∈ L, free q.base) ∧ T'.heap = t.heap ∧ T'.vm = t.vm ∧ Qa st₀ (.returned v) t ∧
      Goes p e below T g T' { g with pc := g.pc + 3, stack := v.toList ++ rest }) ∨
    (∃ (q : Addr) (st₀ t T' : State) (L : List Loc) (E : String) (ce : Cell), st₀.heap = H ∧ Stand p l e R s m args below meth c T' (locs ++ L) (cells + mc) (slots + ms) ∧ (∀ z ∈ L, free z.base) ∧ T'.heap = t.heap ∧ T'.vm = t.vm ∧ XC E st₀ t ∧ t.heap[q]? = some ce ∧ ce.vm = .none ∧ s.vm.findClass E = some ce.cls ∧
      Steps p.tables e below (T.setTop g) ((T'.setTop { g with stack := rest }).pushFrame (.throwing q)))
def vx_X {S : Type} (px : S → Prop) (B : String → S → State → Prop) (A : Nat → Prop) : String → State → State → Prop := fun E st t => ∃ u : S, px u ∧ B E u t ∧ va_F A st t
section Runs
variable {p : Program} {l : Launch} {e : Env} {R : Room} {s : State} {m : MethodId} {args : Array Value} {below : List Frame} {meth : Method} {c : Code} {H : Heap} {locs : List Loc} {cells slots : Nat}
variable {y : MethodName} {bytes cc : ByteArray} {maxL nL mc ms n index : Nat} {ret : Option FieldType} {ws : List Cond} {rm : Room} {Pc : Array Value → State → Prop} {Qc : Array Value → State → Outcome → State → Prop} {XC : String → State → State → Prop} {free : Addr → Prop} {Ts : List Cond} {own C : String} {b : Addr} {As rest : List Value} {g : JFrame}
theorem vx_callBack (cb : CallB R s args own index y bytes maxL ret ws rm mc ms n) (hM : vx_Met l y ws rm Pc Qc XC mc ms free) (hbl : FrameBlind Pc) : vx_Back l R p e below s args y 3 8 (PreOf R mc ms Pc) (PostOf Qc mc ms free) (vx_Post XC mc ms free) := by
  obtain ⟨hrc, hrs, hfr, hlo, hws, hcw, -, hini, -⟩ := cb
  exact vx_back (bytes := bytes) (maxL := maxL) (ret := ret) hM hbl hrc hrs hfr hlo hws hcw (fun a' U hW => word_at hW (Or.inl (by first | rfl | simp [Cond.onTables, Cond.keeps, Cond.steady])) hini)
theorem vx_runV (S : CallFix p m c cc nL s args Ts own) (hM : vx_Met l y ws rm Pc Qc XC mc ms free) (cw : CallW R s args own C index y bytes maxL ret ws rm mc ms n) (hp : PreV s H C b Pc As)
    (hg : g.method = m) (hn : As.length = n) (hsize : g.locals.size = nL) (hstack : g.stack = As.reverse ++ .ref b :: rest) (hW : 2 * g.monitorRoom + (rest.map fun v => v.category).sum ≤ 8) (hdg : decode cc g.pc = .ok (.invokevirtual index, 3)) (hf : cells + mc ≤ R.cells ∧ slots + ms ≤ R.slots) :
    vx_Run p l e R s m args below meth c H locs cells slots mc ms g rest (Qc (Value.ref b :: As).toArray) XC free := by
  have hK : vx_Back l R p e below s args y 3 8 (PreOf R mc ms Pc) (PostOf Qc mc ms free) (vx_Post XC mc ms free) := vx_callBack cw.1 hM hp.1
  obtain ⟨⟨-, -, -, -, -, -, hcode, -, hy, hlen, hl⟩, hin, hse⟩ := cw
  obtain ⟨hx, hb, hml, ho, -⟩ := S
  obtain ⟨-, ⟨cellB, hcB, hoB, hclB⟩, hPc⟩ := hp
  intro T hT X
  rcases vx_callV X hx (C := C) (bytes := bytes) (maxL := maxL) (ret := ret) ho hl hin hse hcode hy hK (by rw [hT]; exact hcB) hoB hclB hg (hsize.trans hml.symm) (argsL := As) (rest := rest) (fun sig h => hn.trans (hlen sig h)) hstack hW (by rw [hb]; exact hdg)
    (fun vm₁ hW₁ => ⟨hf.1, hf.2, hPc (T.setVm vm₁) hT hW₁⟩) with ⟨v, vm₁, ⟨U', l2, c2, s2⟩, hW₁, X', ⟨g', mk, t, L, e1, e2, hq, h1, hL, h2, h3⟩, st⟩ | ⟨q, vm₁, ⟨U', l2, c2, s2⟩, hW₁, X', ⟨g', mk, t, L, E, ce, e1, e2, hq, hce, hcv, hcl, h1, hL, h2, h3⟩, st⟩
  · dsimp only [Pt.U, Pt.locs, Pt.cells, Pt.slots] at X' e1 e2 h1 h2 h3 st
    subst h1; subst h2; subst h3
    exact Or.inl ⟨v, (T.setVm vm₁).calling g' mk (Value.ref b :: As).toArray, t, U', L, hT, X', hL, e1, e2, hq, st⟩
  · dsimp only [Pt.U, Pt.locs, Pt.cells, Pt.slots] at X' e1 e2 h1 h2 h3 st hcl
    subst h1; subst h2; subst h3
    exact Or.inr ⟨q, (T.setVm vm₁).calling g' mk (Value.ref b :: As).toArray, t, U', L, E, ce, hT, X', hL, e1, e2, hq, hce, hcv, vx_cls hW₁ hcl, st⟩
theorem vx_runS (S : CallFix p m c cc nL s args Ts own) (hM : vx_Met l y ws rm Pc Qc XC mc ms free) (cw : CallB R s args own index y bytes maxL ret ws rm mc ms n ∧ (Cond.static y).before args s = true) (hp : PreS s H Pc As)
    (hg : g.method = m) (hn : As.length = n) (hsize : g.locals.size = nL) (hstack : g.stack = As.reverse ++ rest) (hW : 2 * g.monitorRoom + (rest.map fun v => v.category).sum ≤ 8) (hdg : decode cc g.pc = .ok (.invokestatic index, 3)) (hf : cells + mc ≤ R.cells ∧ slots + ms ≤ R.slots) :
    vx_Run p l e R s m args below meth c H locs cells slots mc ms g rest (Qc As.toArray) XC free := by
  have hK : vx_Back l R p e below s args y 3 8 (PreOf R mc ms Pc) (PostOf Qc mc ms free) (vx_Post XC mc ms free) := vx_callBack cw.1 hM hp.1
  obtain ⟨⟨-, -, -, -, -, -, hcode, hini, hy, hlen, hl⟩, hstt⟩ := cw
  obtain ⟨hx, hb, hml, ho, -⟩ := S
  intro T hT X
  rcases vx_callS X hx (bytes := bytes) (maxL := maxL) (ret := ret) ho hl hstt hini hcode hy hK hg (hsize.trans hml.symm) (argsL := As) (rest := rest) (fun sig h => hn.trans (hlen sig h)) hstack hW (by rw [hb]; exact hdg)
    (fun vm₁ hW₁ => ⟨hf.1, hf.2, hp.2 (T.setVm vm₁) hT hW₁⟩) with ⟨v, vm₁, ⟨U', l2, c2, s2⟩, hW₁, X', ⟨g', mk, t, L, e1, e2, hq, h1, hL, h2, h3⟩, st⟩ | ⟨q, vm₁, ⟨U', l2, c2, s2⟩, hW₁, X', ⟨g', mk, t, L, E, ce, e1, e2, hq, hce, hcv, hcl, h1, hL, h2, h3⟩, st⟩
  · dsimp only [Pt.U, Pt.locs, Pt.cells, Pt.slots] at X' e1 e2 h1 h2 h3 st
    subst h1; subst h2; subst h3
    exact Or.inl ⟨v, (T.setVm vm₁).calling g' mk As.toArray, t, U', L, hT, X', hL, e1, e2, hq, st⟩
  · dsimp only [Pt.U, Pt.locs, Pt.cells, Pt.slots] at X' e1 e2 h1 h2 h3 st hcl
    subst h1; subst h2; subst h3
    exact Or.inr ⟨q, (T.setVm vm₁).calling g' mk As.toArray, t, U', L, E, ce, hT, X', hL, e1, e2, hq, hce, hcv, vx_cls hW₁ hcl, st⟩
end Runs
section Rows
variable {p : Program} {l : Launch} {e : Env} {R : Room} {s : State} {m : MethodId} {args : Array Value} {below : List Frame} {meth : Method} {c : Code} {H : Heap} {locs : List Loc} {cells slots : Nat} {Q : State → Prop}
variable {mc ms : Nat} {free : Addr → Prop} {A0 A1 : Nat → Prop} {H0 : Heap} {a : Array Value} {pc : Nat} {ls : Array Slot} {st0 rest : List Value}
theorem vx_keep {st₀ t T' : State} {L : List Loc} (h0 : st₀.heap = H) (e1 : T'.heap = t.heap) (hS : va_S A0 H0 H locs) (hA : ∀ q, q < H.size → A1 q → A0 q) (hf : ∀ q, free q → A0 q) (hL : ∀ q ∈ L, free q.base) (hF : va_F A1 st₀ t) :
    H.size ≤ T'.heap.size ∧ (∀ q : Nat, q < H.size → ¬ A1 q → T'.heap[q]? = H[q]?) ∧ va_S A0 H0 T'.heap (locs ++ L) := by
  obtain ⟨hz, hk⟩ := hF
  rw [h0] at hz hk
  exact ⟨by rw [e1]; exact hz, fun q h1 h2 => by rw [e1]; exact hk q h1 h2,
    ⟨Nat.le_trans hS.1 (by rw [e1]; exact hz), fun q h1 h2 => by rw [e1, hk q (Nat.lt_of_lt_of_le h1 hS.1) (fun z => h2 (hA q (Nat.lt_of_lt_of_le h1 hS.1) z))]; exact hS.2.1 q h1 h2, fun q hq => by
      rcases List.mem_append.mp hq with h | h
      · exact hS.2.2 q h
      · exact hf _ (hL q h)⟩⟩
theorem vx_calli {S SX : Type} {post : Int32 → S → Prop} {px : SX → Prop} {B : S → State → Prop} {BX : String → SX → State → Prop} {AX : Nat → Prop} (hr : vx_Run p l e R s m args below meth c H locs cells slots mc ms (F0 m pc ls st0) rest (va_Qi post B A1 a) (vx_X px BX AX) free) (hS : va_S A0 H0 H locs) (hA : ∀ q, q < H.size → A1 q → A0 q) (hf : ∀ q, free q → A0 q) (hAX : ∀ q, q < H.size → AX q → A0 q)
    (kx : ∀ (E : String) (ce : Cell) (q9 : Addr) (u : SX) (t : State) (H1 : Heap) (locs1 : List Loc), t.heap = H1 → s.vm.Alike t.vm → px u → BX E u t → H.size ≤ H1.size → (∀ q : Nat, q < H.size → ¬ AX q → H1[q]? = H[q]?) → va_S A0 H0 H1 locs1 → H1[q9]? = some ce → ce.vm = .none → s.vm.findClass E = some ce.cls → vx_W p l e R s m args below meth c H1 locs1 (cells + mc) (slots + ms) Q (F0 m pc ls rest) q9)
    (kk : ∀ (r : Int32) (u : S) (t : State) (H1 : Heap) (locs1 : List Loc), t.heap = H1 → s.vm.Alike t.vm → post r u → B u t → H.size ≤ H1.size → (∀ q : Nat, q < H.size → ¬ A1 q → H1[q]? = H[q]?) → va_S A0 H0 H1 locs1 → W p l e R s m args below meth c H1 locs1 (cells + mc) (slots + ms) Q (F0 m (pc + 3) ls (.int r :: rest))) : W p l e R s m args below meth c H locs cells slots Q (F0 m pc ls st0) := by
  intro T hT X
  rcases hr T hT X with ⟨v, st₀, t, T', L, h0, X', hL, e1, e2, ⟨⟨r, u, hv, hp, hb⟩, hF⟩, st⟩ | ⟨q, st₀, t, T', L, E, ce, h0, X', hL, e1, e2, ⟨u, hp, hb, hF⟩, hce, hcv, hcl, st⟩
  · cases hv
    obtain ⟨k1, k2, k3⟩ := vx_keep h0 e1 hS hA hf hL hF
    obtain ⟨t2, a1, b1⟩ := kk r u t T'.heap (locs ++ L) e1.symm (by rw [← e2]; exact X'.warmed.alike) hp hb k1 k2 k3 T' rfl X'
    exact ⟨t2, st t2 a1, b1⟩
  · obtain ⟨k1, k2, k3⟩ := vx_keep h0 e1 hS hAX hf hL hF
    obtain ⟨t2, a1, b1⟩ := kx E ce q u t T'.heap (locs ++ L) e1.symm (by rw [← e2]; exact X'.warmed.alike) hp hb k1 k2 k3 (by rw [e1]; exact hce) hcv hcl T' rfl X'
    exact ⟨t2, st.trans a1, b1⟩
theorem vx_calll {S SX : Type} {post : Int64 → S → Prop} {px : SX → Prop} {B : S → State → Prop} {BX : String → SX → State → Prop} {AX : Nat → Prop} (hr : vx_Run p l e R s m args below meth c H locs cells slots mc ms (F0 m pc ls st0) rest (va_Ql post B A1 a) (vx_X px BX AX) free) (hS : va_S A0 H0 H locs) (hA : ∀ q, q < H.size → A1 q → A0 q) (hf : ∀ q, free q → A0 q) (hAX : ∀ q, q < H.size → AX q → A0 q)
    (kx : ∀ (E : String) (ce : Cell) (q9 : Addr) (u : SX) (t : State) (H1 : Heap) (locs1 : List Loc), t.heap = H1 → s.vm.Alike t.vm → px u → BX E u t → H.size ≤ H1.size → (∀ q : Nat, q < H.size → ¬ AX q → H1[q]? = H[q]?) → va_S A0 H0 H1 locs1 → H1[q9]? = some ce → ce.vm = .none → s.vm.findClass E = some ce.cls → vx_W p l e R s m args below meth c H1 locs1 (cells + mc) (slots + ms) Q (F0 m pc ls rest) q9)
    (kk : ∀ (r : Int64) (u : S) (t : State) (H1 : Heap) (locs1 : List Loc), t.heap = H1 → s.vm.Alike t.vm → post r u → B u t → H.size ≤ H1.size → (∀ q : Nat, q < H.size → ¬ A1 q → H1[q]? = H[q]?) → va_S A0 H0 H1 locs1 → W p l e R s m args below meth c H1 locs1 (cells + mc) (slots + ms) Q (F0 m (pc + 3) ls (.long r :: rest))) : W p l e R s m args below meth c H locs cells slots Q (F0 m pc ls st0) := by
  intro T hT X
  rcases hr T hT X with ⟨v, st₀, t, T', L, h0, X', hL, e1, e2, ⟨⟨r, u, hv, hp, hb⟩, hF⟩, st⟩ | ⟨q, st₀, t, T', L, E, ce, h0, X', hL, e1, e2, ⟨u, hp, hb, hF⟩, hce, hcv, hcl, st⟩
  · cases hv
    obtain ⟨k1, k2, k3⟩ := vx_keep h0 e1 hS hA hf hL hF
    obtain ⟨t2, a1, b1⟩ := kk r u t T'.heap (locs ++ L) e1.symm (by rw [← e2]; exact X'.warmed.alike) hp hb k1 k2 k3 T' rfl X'
    exact ⟨t2, st t2 a1, b1⟩
  · obtain ⟨k1, k2, k3⟩ := vx_keep h0 e1 hS hAX hf hL hF
    obtain ⟨t2, a1, b1⟩ := kx E ce q u t T'.heap (locs ++ L) e1.symm (by rw [← e2]; exact X'.warmed.alike) hp hb k1 k2 k3 (by rw [e1]; exact hce) hcv hcl T' rfl X'
    exact ⟨t2, st.trans a1, b1⟩
theorem vx_callf {S SX : Type} {post : UInt32 → S → Prop} {px : SX → Prop} {B : S → State → Prop} {BX : String → SX → State → Prop} {AX : Nat → Prop} (hr : vx_Run p l e R s m args below meth c H locs cells slots mc ms (F0 m pc ls st0) rest (va_Qf post B A1 a) (vx_X px BX AX) free) (hS : va_S A0 H0 H locs) (hA : ∀ q, q < H.size → A1 q → A0 q) (hf : ∀ q, free q → A0 q) (hAX : ∀ q, q < H.size → AX q → A0 q)
    (kx : ∀ (E : String) (ce : Cell) (q9 : Addr) (u : SX) (t : State) (H1 : Heap) (locs1 : List Loc), t.heap = H1 → s.vm.Alike t.vm → px u → BX E u t → H.size ≤ H1.size → (∀ q : Nat, q < H.size → ¬ AX q → H1[q]? = H[q]?) → va_S A0 H0 H1 locs1 → H1[q9]? = some ce → ce.vm = .none → s.vm.findClass E = some ce.cls → vx_W p l e R s m args below meth c H1 locs1 (cells + mc) (slots + ms) Q (F0 m pc ls rest) q9)
    (kk : ∀ (r : UInt32) (u : S) (t : State) (H1 : Heap) (locs1 : List Loc), t.heap = H1 → s.vm.Alike t.vm → post r u → B u t → H.size ≤ H1.size → (∀ q : Nat, q < H.size → ¬ A1 q → H1[q]? = H[q]?) → va_S A0 H0 H1 locs1 → W p l e R s m args below meth c H1 locs1 (cells + mc) (slots + ms) Q (F0 m (pc + 3) ls (.float r :: rest))) : W p l e R s m args below meth c H locs cells slots Q (F0 m pc ls st0) := by
  intro T hT X
  rcases hr T hT X with ⟨v, st₀, t, T', L, h0, X', hL, e1, e2, ⟨⟨r, u, hv, hp, hb⟩, hF⟩, st⟩ | ⟨q, st₀, t, T', L, E, ce, h0, X', hL, e1, e2, ⟨u, hp, hb, hF⟩, hce, hcv, hcl, st⟩
  · cases hv
    obtain ⟨k1, k2, k3⟩ := vx_keep h0 e1 hS hA hf hL hF
    obtain ⟨t2, a1, b1⟩ := kk r u t T'.heap (locs ++ L) e1.symm (by rw [← e2]; exact X'.warmed.alike) hp hb k1 k2 k3 T' rfl X'
    exact ⟨t2, st t2 a1, b1⟩
  · obtain ⟨k1, k2, k3⟩ := vx_keep h0 e1 hS hAX hf hL hF
    obtain ⟨t2, a1, b1⟩ := kx E ce q u t T'.heap (locs ++ L) e1.symm (by rw [← e2]; exact X'.warmed.alike) hp hb k1 k2 k3 (by rw [e1]; exact hce) hcv hcl T' rfl X'
    exact ⟨t2, st.trans a1, b1⟩
theorem vx_calld {S SX : Type} {post : UInt64 → S → Prop} {px : SX → Prop} {B : S → State → Prop} {BX : String → SX → State → Prop} {AX : Nat → Prop} (hr : vx_Run p l e R s m args below meth c H locs cells slots mc ms (F0 m pc ls st0) rest (va_Qd post B A1 a) (vx_X px BX AX) free) (hS : va_S A0 H0 H locs) (hA : ∀ q, q < H.size → A1 q → A0 q) (hf : ∀ q, free q → A0 q) (hAX : ∀ q, q < H.size → AX q → A0 q)
    (kx : ∀ (E : String) (ce : Cell) (q9 : Addr) (u : SX) (t : State) (H1 : Heap) (locs1 : List Loc), t.heap = H1 → s.vm.Alike t.vm → px u → BX E u t → H.size ≤ H1.size → (∀ q : Nat, q < H.size → ¬ AX q → H1[q]? = H[q]?) → va_S A0 H0 H1 locs1 → H1[q9]? = some ce → ce.vm = .none → s.vm.findClass E = some ce.cls → vx_W p l e R s m args below meth c H1 locs1 (cells + mc) (slots + ms) Q (F0 m pc ls rest) q9)
    (kk : ∀ (r : UInt64) (u : S) (t : State) (H1 : Heap) (locs1 : List Loc), t.heap = H1 → s.vm.Alike t.vm → post r u → B u t → H.size ≤ H1.size → (∀ q : Nat, q < H.size → ¬ A1 q → H1[q]? = H[q]?) → va_S A0 H0 H1 locs1 → W p l e R s m args below meth c H1 locs1 (cells + mc) (slots + ms) Q (F0 m (pc + 3) ls (.double r :: rest))) : W p l e R s m args below meth c H locs cells slots Q (F0 m pc ls st0) := by
  intro T hT X
  rcases hr T hT X with ⟨v, st₀, t, T', L, h0, X', hL, e1, e2, ⟨⟨r, u, hv, hp, hb⟩, hF⟩, st⟩ | ⟨q, st₀, t, T', L, E, ce, h0, X', hL, e1, e2, ⟨u, hp, hb, hF⟩, hce, hcv, hcl, st⟩
  · cases hv
    obtain ⟨k1, k2, k3⟩ := vx_keep h0 e1 hS hA hf hL hF
    obtain ⟨t2, a1, b1⟩ := kk r u t T'.heap (locs ++ L) e1.symm (by rw [← e2]; exact X'.warmed.alike) hp hb k1 k2 k3 T' rfl X'
    exact ⟨t2, st t2 a1, b1⟩
  · obtain ⟨k1, k2, k3⟩ := vx_keep h0 e1 hS hAX hf hL hF
    obtain ⟨t2, a1, b1⟩ := kx E ce q u t T'.heap (locs ++ L) e1.symm (by rw [← e2]; exact X'.warmed.alike) hp hb k1 k2 k3 (by rw [e1]; exact hce) hcv hcl T' rfl X'
    exact ⟨t2, st.trans a1, b1⟩
theorem vx_callv {S SX : Type} {post : S → Prop} {px : SX → Prop} {B : S → State → Prop} {BX : String → SX → State → Prop} {AX : Nat → Prop} (hr : vx_Run p l e R s m args below meth c H locs cells slots mc ms (F0 m pc ls st0) rest (va_Qv post B A1 a) (vx_X px BX AX) free) (hS : va_S A0 H0 H locs) (hA : ∀ q, q < H.size → A1 q → A0 q) (hf : ∀ q, free q → A0 q) (hAX : ∀ q, q < H.size → AX q → A0 q)
    (kx : ∀ (E : String) (ce : Cell) (q9 : Addr) (u : SX) (t : State) (H1 : Heap) (locs1 : List Loc), t.heap = H1 → s.vm.Alike t.vm → px u → BX E u t → H.size ≤ H1.size → (∀ q : Nat, q < H.size → ¬ AX q → H1[q]? = H[q]?) → va_S A0 H0 H1 locs1 → H1[q9]? = some ce → ce.vm = .none → s.vm.findClass E = some ce.cls → vx_W p l e R s m args below meth c H1 locs1 (cells + mc) (slots + ms) Q (F0 m pc ls rest) q9)
    (kk : ∀ (u : S) (t : State) (H1 : Heap) (locs1 : List Loc), t.heap = H1 → s.vm.Alike t.vm → post u → B u t → H.size ≤ H1.size → (∀ q : Nat, q < H.size → ¬ A1 q → H1[q]? = H[q]?) → va_S A0 H0 H1 locs1 → W p l e R s m args below meth c H1 locs1 (cells + mc) (slots + ms) Q (F0 m (pc + 3) ls (rest))) : W p l e R s m args below meth c H locs cells slots Q (F0 m pc ls st0) := by
  intro T hT X
  rcases hr T hT X with ⟨v, st₀, t, T', L, h0, X', hL, e1, e2, ⟨⟨u, hv, hp, hb⟩, hF⟩, st⟩ | ⟨q, st₀, t, T', L, E, ce, h0, X', hL, e1, e2, ⟨u, hp, hb, hF⟩, hce, hcv, hcl, st⟩
  · cases hv
    obtain ⟨k1, k2, k3⟩ := vx_keep h0 e1 hS hA hf hL hF
    obtain ⟨t2, a1, b1⟩ := kk u t T'.heap (locs ++ L) e1.symm (by rw [← e2]; exact X'.warmed.alike) hp hb k1 k2 k3 T' rfl X'
    exact ⟨t2, st t2 a1, b1⟩
  · obtain ⟨k1, k2, k3⟩ := vx_keep h0 e1 hS hAX hf hL hF
    obtain ⟨t2, a1, b1⟩ := kx E ce q u t T'.heap (locs ++ L) e1.symm (by rw [← e2]; exact X'.warmed.alike) hp hb k1 k2 k3 (by rw [e1]; exact hce) hcv hcl T' rfl X'
    exact ⟨t2, st.trans a1, b1⟩
/-- caught by the row x of this method's table; the rows ahead don't take it -/
theorem vx_catch {own name : String} {E : String} {ce : Cell} {q : Addr} (hown : s.vm.findClass own = some m.cls) (pre : List ExceptionTableEntry) (x : ExceptionTableEntry) (suf : List ExceptionTableEntry) (hsplit : c.exceptionTable.toList = pre ++ x :: suf)
    (hpass : ∀ z ∈ pre, covers z pc = false ∨ (z.catchType ≠ 0 ∧ ∃ nm : String, (Cond.classLink own z.catchType nm).before args s = true ∧ va_Nc E nm s)) (hx : covers x pc = true) (h0 : x.catchType ≠ 0)
    (hlink : (Cond.classLink own x.catchType name).before args s = true) (hcast : (Cond.castable E name).before args s = true) (hcell : H[q]? = some ce) (hv : ce.vm = .none) (hcl : s.vm.findClass E = some ce.cls)
    (kk : W p l e R s m args below meth c H locs cells slots Q (F0 m x.handlerPc ls [.ref q])) : vx_W p l e R s m args below meth c H locs cells slots Q (F0 m pc ls rest) q := by
  intro T hT X
  have hpl : e.platform.magicAccessors = ({} : Platform).magicAccessors := by rw [X.admits.platform]
  obtain ⟨c3, c4, hc3, hc4, hasg⟩ := Cond.castable_spec hcast
  cases Option.some.inj (hc3.symm.trans hcl)
  obtain ⟨c5, hc5, hcl5⟩ := Cond.classLink_spec hown hlink e.platform hpl
  cases Option.some.inj (hc4.symm.trans hc5)
  obtain ⟨vm', X', st⟩ := X.thenCaughtThrough q (g := F0 m pc ls rest) rfl (Steps.refl _) (by rw [hT]; exact hcell) (by rw [hv]; rfl) (by obtain ⟨k9, h9, -⟩ := Vm.findClass_spec hcl; exact ⟨k9, h9⟩) pre x suf hsplit
    (fun z hz => by
      rcases hpass z hz with h | ⟨hz0, nm, hl1, hn1⟩
      · exact Or.inl h
      · obtain ⟨c6, hc6, hcl6⟩ := Cond.classLink_spec hown hl1 e.platform hpl
        obtain ⟨a8, b8, h1, h2, h3⟩ := hn1
        cases Option.some.inj (h1.symm.trans hcl)
        cases Option.some.inj (h2.symm.trans hc6)
        exact Or.inr ⟨hz0, _, hcl6, h3⟩) hx (Or.inr ⟨h0, c4, hcl5, hasg⟩)
  obtain ⟨t, a1, b1⟩ := kk (T.setVm vm') hT X'
  exact ⟨t, st.trans a1, b1⟩
end Rows
section Ends
variable {p : Program} {l : Launch} {e : Env} {R : Room} {s : State} {m : MethodId} {args : Array Value} {below : List Frame} {meth : Method} {c : Code} {H : Heap} {locs : List Loc} {cells slots : Nat} {Q : State → Prop}
variable {mc ms : Nat} {free : Addr → Prop} {A0 A1 : Nat → Prop} {H0 : Heap} {a : Array Value} {ls : Array Slot} {st0 rest : List Value}
variable {Qc : Array Value → State → Outcome → State → Prop} {XC : String → State → State → Prop}
/-- what a body that may throw owes at its end -/
def vx_MQ (below : List Frame) (Qc : Array Value → State → Outcome → State → Prop) (XC : String → State → State → Prop) (a : Array Value) (s : State) (mc ms : Nat) (free : Addr → Prop) : State → Prop := fun t =>
  ∃ o, t.status = .running ∧ Ended t below o ∧ vx_Q Qc XC mc ms free a s o t
theorem vx_ret {g : JFrame} {mc ms : Nat} (k : W p l e R s m args below meth c H locs cells slots (MQ below Qc args s mc ms free) g) : W p l e R s m args below meth c H locs cells slots (vx_MQ below Qc XC args s mc ms free) g := by
  intro T hT X
  obtain ⟨t, a1, o, b1, b2, b3, b4⟩ := k T hT X
  exact ⟨t, a1, o, b1, b2, Or.inl ⟨b3, b4⟩⟩
/-- not caught here: it goes on to the caller -/
theorem vx_widen {g : JFrame} {q : Addr} {k n : Nat} (h1 : cells ≤ k) (h2 : slots ≤ n) (kk : vx_W p l e R s m args below meth c H locs k n Q g q) : vx_W p l e R s m args below meth c H locs cells slots Q g q := fun T hT X => kk T hT (stand_widen X h1 h2)
theorem vx_out {pc : Nat} {E : String} {ce : Cell} {q : Addr} {mc ms : Nat} (hout : ∀ x ∈ c.exceptionTable.toList, covers x pc = false) (hlocks : meth.locks = false) (hcell : H[q]? = some ce) (hv : ce.vm = .none) (hcl : s.vm.findClass E = some ce.cls)
    (hx : ∀ t : State, t.heap = H → s.vm.Alike t.vm → XC E s t) (hf : ∀ z ∈ locs, free z.base) (hc : cells ≤ mc) (hs : slots ≤ ms) :
    vx_W p l e R s m args below meth c H locs cells slots (vx_MQ below Qc XC args s mc ms free) (F0 m pc ls rest) q := by
  intro T hT X
  obtain ⟨st1, hrun, hend, hW, hsm⟩ := X.leaveThrown q (g := F0 m pc ls rest) rfl rfl rfl hout hlocks
  have hcell9 : (T.setFrames (.throwing q :: below)).heap[q]? = some ce := by
    show T.heap[q]? = some ce
    rw [hT]; exact hcell
  exact ⟨_, st1, .threw q, hrun, hend, Or.inr ⟨q, rfl, E, ce, locs, hx _ hT hW.alike, hcell9, hv, hcl, hW, hsm.mono hc hs, hf⟩⟩
theorem vx_frame {U : State} {k n : Nat} (h : s.sameButNew ({ U with vm := s.vm } : State) locs k n) : s.heap.size ≤ U.heap.size ∧ ∀ q : Nat, q < s.heap.size → (∀ z ∈ locs, z.base ≠ q) → U.heap[q]? = s.heap[q]? := by
  obtain ⟨-, h2, -, -, -, h6⟩ := h
  refine ⟨h2, fun q hq hz => ?_⟩
  obtain ⟨c9, e1, e2, e3, e4⟩ := h6 q _ (Array.getElem?_eq_getElem hq)
  have hs : c9.slots = (s.heap[q]).slots := Array.ext_getElem? fun i => e4 i fun hm => hz _ hm rfl
  have h9 : c9 = s.heap[q] := by
    rw [hs] at e2
    exact e2
  have e5 : U.heap[q]? = some c9 := e1
  rw [e5, h9, Array.getElem?_eq_getElem hq]
/-- the words of a throw but the four that speak of the heap -/
def vx_no (w : Cond) : Bool := decide (w ≠ .isRef (.static Bundle.tN "UNASSIGNED_STACK" Bundle.steD)) && decide (w ≠ .isRef (.static Bundle.tN "SUPPRESSED_SENTINEL" Bundle.listD)) && decide (w ≠ .laysStatic Bundle.tN "UNASSIGNED_STACK" Bundle.steD) && decide (w ≠ .laysStatic Bundle.tN "SUPPRESSED_SENTINEL" Bundle.listD)
def vx_at0 (own : String) (ic : Nat) (X : String) (names : List String) : List Cond := (Bundle.ownAtoms0 own ic X names).filter vx_no
def vx_atS (own : String) (ic : Nat) (X : String) (names : List String) : List Cond := (Bundle.ownAtoms own ic X names).filter vx_no
/-- a word that the tables alone decide, or a good one -/
def vx_ot (w : Cond) : Bool := w.onTables || goodWord w
theorem vx_ot_at {args a' : Array Value} {s U : State} {w : Cond} (hW : s.WarmedH U.vm) (hvm : s.vm = U.vm) (hg : vx_ot w = true) (h : w.before args s = true) : w.before a' U = true := by
  simp only [vx_ot, Bool.or_eq_true] at hg
  rcases hg with hg | hg
  · exact va_tabs hg hvm h
  · exact word_at hW (good_of_word hg) h
/-- a list's words: the good ones out of the method's own list, the others by premises of their own -/
theorem vx_hat {args : Array Value} {s : State} {L B : List Cond} (h1 : ∀ w ∈ L.filter goodWord, w.before args s = true) (h2 : ∀ w ∈ L.filter (fun w => !goodWord w), w ∈ B) (h3 : ∀ w ∈ B, w.before args s = true) : ∀ w ∈ L, w.before args s = true := by
  intro w hw
  by_cases g : goodWord w = true
  · exact h1 w (List.mem_filter.mpr ⟨hw, g⟩)
  · refine h3 w (h2 w (List.mem_filter.mpr ⟨hw, ?_⟩))
    show (!goodWord w) = true
    cases hgw : goodWord w
    · rfl
    · exact absurd hgw g
theorem vx_c {args : Array Value} {s : State} {w : Cond} {B : List Cond} (h : w.before args s = true) (t : ∀ w ∈ B, w.before args s = true) : ∀ w' ∈ w :: B, w'.before args s = true := fun w' h' => (List.mem_cons.mp h').elim (fun e => by rw [e]; exact h) (t w')
theorem vx_n {args : Array Value} {s : State} : ∀ w ∈ ([] : List Cond), w.before args s = true := fun _ h => nomatch h
theorem vx_own {args : Array Value} {s : State} {L : List Cond} (h1 : ∀ w ∈ L.filter vx_no, w.before args s = true)
    (hU : (Cond.isRef (.static Bundle.tN "UNASSIGNED_STACK" Bundle.steD)).before args s = true) (hN : (Cond.isRef (.static Bundle.tN "SUPPRESSED_SENTINEL" Bundle.listD)).before args s = true)
    (lU : (Cond.laysStatic Bundle.tN "UNASSIGNED_STACK" Bundle.steD).before args s = true) (lN : (Cond.laysStatic Bundle.tN "SUPPRESSED_SENTINEL" Bundle.listD).before args s = true) : ∀ w ∈ L, w.before args s = true := by
  intro w hw
  by_cases e1 : w = .isRef (.static Bundle.tN "UNASSIGNED_STACK" Bundle.steD)
  · rw [e1]; exact hU
  · by_cases e2 : w = .isRef (.static Bundle.tN "SUPPRESSED_SENTINEL" Bundle.listD)
    · rw [e2]; exact hN
    · by_cases e3 : w = .laysStatic Bundle.tN "UNASSIGNED_STACK" Bundle.steD
      · rw [e3]; exact lU
      · by_cases e4 : w = .laysStatic Bundle.tN "SUPPRESSED_SENTINEL" Bundle.listD
        · rw [e4]; exact lN
        · exact h1 w (List.mem_filter.mpr ⟨hw, by unfold vx_no; rw [decide_eq_true e1, decide_eq_true e2, decide_eq_true e3, decide_eq_true e4]; rfl⟩)
/-- where a static field lies, its class's statics cell in H -/
def vx_L (C n d : String) (A : Nat → Prop) (U : State) (H : Heap) : Prop := ∃ (c : ClassId) (k : Class) (i : Nat) (f : Field) (a : Nat) (cell : Cell), U.vm.findClass C = some c ∧ U.fieldFound? C n d = some (c, k, i, f) ∧ f.isStatic = true ∧ k.statics = some a ∧ H[a]? = some cell ∧ cell.vm.isStatics = true ∧ cell.cls = c ∧ f.slot < cell.slots.size ∧ k.staticTypes[f.slot]? = some f.type ∧ ¬ A a
theorem vx_L.moved {C n d : String} {A : Nat → Prop} {u U : State} {H : Heap} (hvm : u.vm.Alike U.vm) (h : vx_L C n d A u H) : vx_L C n d A U H := by
  obtain ⟨c, k, i, f, a, cell, h1, h2, h3, h4, h5, h6, h7, h8, h9, h10⟩ := h
  obtain ⟨k', hi', he⟩ := State.fieldFound?_setVm hvm h2
  exact ⟨c, k', i, f, a, cell, by rw [hvm.findClass]; exact h1, hi', h3, by rw [he]; exact h4, h5, h6, h7, h8, by rw [he]; exact h9, h10⟩
theorem vx_L.kept {C n d : String} {A : Nat → Prop} {U : State} {H H1 : Heap} (h : vx_L C n d A U H) (hq : ∀ a : Nat, a < H.size → ¬ A a → H1[a]? = H[a]?) : vx_L C n d A U H1 := by
  obtain ⟨c, k, i, f, a, cell, h1, h2, h3, h4, h5, h6, h7, h8, h9, h10⟩ := h
  exact ⟨c, k, i, f, a, cell, h1, h2, h3, h4, by rw [hq a (Array.getElem?_eq_some_iff.mp h5).1 h10]; exact h5, h6, h7, h8, h9, h10⟩
theorem vx_L.narrow {C n d : String} {A B : Nat → Prop} {U : State} {H : Heap} (h : vx_L C n d A U H) (hAB : ∀ q, B q → A q) : vx_L C n d B U H := by
  obtain ⟨c, k, i, f, a, cell, h1, h2, h3, h4, h5, h6, h7, h8, h9, h10⟩ := h
  exact ⟨c, k, i, f, a, cell, h1, h2, h3, h4, h5, h6, h7, h8, h9, fun z => h10 (hAB _ z)⟩
theorem vx_L.word {C n d : String} {A : Nat → Prop} {s : State} {args : Array Value} (h : vx_L C n d A s s.heap) : (Cond.laysStatic C n d).before args s = true := by
  obtain ⟨c, k, i, f, a, cell, h1, h2, h3, h4, h5, h6, h7, h8, h9, -⟩ := h
  show (Cond.laysStatic C n d).holds args s none s [] = true
  exact Cond.laysStatic_of h1 h2 h3 h4 h5 h6 h7 h8 h9
/-- .. and what it holds: null or some reference -/
def vx_Zq (C n d : String) (A : Nat → Prop) (U : State) (H : Heap) : Prop := va_Zq C n d A U H ∧ vx_L C n d A U H
theorem vx_Zq.moved {C n d : String} {A : Nat → Prop} {u U : State} {H : Heap} (hvm : u.vm.Alike U.vm) (h : vx_Zq C n d A u H) : vx_Zq C n d A U H := ⟨va_Zq.moved hvm h.1, vx_L.moved hvm h.2⟩
theorem vx_Zq.kept {C n d : String} {A : Nat → Prop} {U : State} {H H1 : Heap} (h : vx_Zq C n d A U H) (hq : ∀ a : Nat, a < H.size → ¬ A a → H1[a]? = H[a]?) : vx_Zq C n d A U H1 := ⟨va_Zq.kept h.1 hq, vx_L.kept h.2 hq⟩
theorem vx_Zq.narrow {C n d : String} {A B : Nat → Prop} {U : State} {H : Heap} (h : vx_Zq C n d A U H) (hAB : ∀ q, B q → A q) : vx_Zq C n d B U H := ⟨va_Zq.narrow h.1 hAB, vx_L.narrow h.2 hAB⟩
theorem vx_Zqof {args : Array Value} {s : State} {C n d : String} {A : Nat → Prop} (hl : (Cond.laysStatic C n d).before args s = true) (hini : (Cond.initialized C).before args s = true) (h : (Cond.isRef (.static C n d)).before args s = true) (hA : ∀ a : Nat, a < s.heap.size → ¬ A a) : vx_Zq C n d A s s.heap := by
  refine ⟨va_Zqof hl hini h hA, ?_⟩
  obtain ⟨c, k, i, f, a, cell, h1, h2, h3, h4, h5, h6, h7, h8, h9⟩ := Cond.laysStatic_spec hl
  exact ⟨c, k, i, f, a, cell, h1, h2, h3, h4, h5, h6, h7, h8, h9, hA a (Array.getElem?_eq_some_iff.mp h5).1⟩
theorem vx_isRef {C n d : String} {v : Value} {A : Nat → Prop} {s : State} {args : Array Value} (h : va_Z C n d v A s s.heap) (hv : v.isRef = true) : (Cond.isRef (.static C n d)).before args s = true := by
  obtain ⟨cf, kf, fi, f, a, cell, h1, h2, h3, h4, h5, h6, h7, -⟩ := h
  have he : (Term.static C n d).eval args s none [] s = some v := by
    simp [Term.eval, State.fieldNamed?, h1, h2, h4, h5, h6, h7]
  simp only [Cond.before, Cond.holds, Cond.value, he]
  cases v <;> simp_all [Value.isRef]
theorem vx_isRefq {C n d : String} {A : Nat → Prop} {s : State} {args : Array Value} (h : va_Zq C n d A s s.heap) : (Cond.isRef (.static C n d)).before args s = true := by
  rcases h with h | ⟨t, h⟩
  · exact vx_isRef h rfl
  · exact vx_isRef h rfl
/-- the same frame, seen from here: as if the method were called anew in this heap -/
theorem vx_rebase {T : State} (X : Stand p l e R s m args below meth c T locs cells slots) {R' : Room} (hf : R'.frames ≤ R.frames) (hl : R'.locals ≤ R.locals) (hc : cells + R'.cells ≤ R.cells) (hs : slots + R'.slots ≤ R.slots) :
    Stand p l e R' ((T.setVm s.vm).setFrames (.invoking m args :: below)) m args below meth c T [] 0 0 := by
  have htop : (T.setVm s.vm).topJava?.isSome := X.here.top
  have hF : ((T.setVm s.vm).setFrames (.invoking m args :: below)).frames = .invoking m args :: below := State.frames_setFrames _ (State.cur_lt_of_top htop)
  obtain ⟨g₀, hg0⟩ := Option.isSome_iff_exists.mp htop
  obtain ⟨r, hr⟩ := State.topJava?_eq_some.mp hg0
  have hl9 : e.platform.stackLimits (T.setVm s.vm).me = e.platform.stackLimits s.me := X.limits
  have hb9 : (T.setVm s.vm).me.stackBytes = s.me.stackBytes := X.bytes
  refine ⟨X.admits, X.cas, X.clock, hF, ?_, X.hears, X.method, X.code, X.here, X.tail, X.warmed, ?_, ?_, ?_⟩
  · have h := X.room
    have hU : ((T.setVm s.vm).setFrames (.invoking m args :: below)).localsInUse = s.localsInUse := by
      rw [State.localsInUse_invoking hF (meth := meth) (c := c) X.method X.code, State.localsInUse_invoking X.frames X.method X.code]
    simp only [State.hasRoom, Bool.and_eq_true, decide_eq_true_eq] at h ⊢
    obtain ⟨⟨⟨⟨h1, h2, h3, h4, h5, h6⟩, h7⟩, h8⟩, h9⟩ := h
    rw [X.frames, List.length_cons] at h2 h3
    have q1 := X.heapSize
    have q2 := X.used
    simp only [hF, hU, List.length_cons, State.stackLimits_setFrames, State.stackBytes_setFrames, hl9, hb9]
    refine ⟨⟨⟨⟨by omega, by omega, by omega, by omega, by omega, h6⟩, ?_⟩, ?_⟩, X.book⟩
    · show T.heap.size + R'.cells ≤ e.platform.maxCells
      omega
    · show T.slotsUsed + R'.slots ≤ e.platform.maxSlots
      omega
  · rw [State.stackLimits_setFrames]; rfl
  · rw [State.stackBytes_setFrames]; rfl
  · refine ⟨?_, Nat.le_refl _, Nat.le_refl _, ?_, ?_, fun a c9 h9 => ⟨c9, h9, rfl, rfl, fun _ _ => rfl⟩⟩
    · obtain ⟨t, ht, -⟩ := State.frames_cons hr
      show T.setVm s.vm = { ((T.setVm s.vm).setFrames (.invoking m args :: below)).setFrames (T.setVm s.vm).frames with heap := T.heap, slotsUsed := T.slotsUsed }
      rw [State.setFrames_setFrames, State.setFrames_self ht]
      rfl
    · show T.slotsUsed = T.slotsUsed + ((T.heap.toList.drop T.heap.size).map (·.slots.size)).sum
      rw [List.drop_eq_nil_of_le (Nat.le_of_eq Array.length_toList)]
      rfl
    · show ((T.heap.toList.drop T.heap.size).map (·.slots.size)).sum ≤ 0
      rw [List.drop_eq_nil_of_le (Nat.le_of_eq Array.length_toList)]
      exact Nat.le_refl _
/-- 'throw new E()': new; dup; invokespecial; athrow -/
theorem vx_throw0 {cc : ByteArray} {pc : Nat} (hexec : p.tables.exec = Jvm.exec) (hb : c.code = cc) (hl : l.stackTraces = false) {own cls : String} {names : List String} {ik ic mc ms : Nat} {A : Nat → Prop}
    (hown : s.vm.findClass own = some m.cls) (hcls : Bundle.fit cls = true) (hnames : ∀ n ∈ names, Bundle.fit n = true)
    (hk : (Cond.classLink own ik cls).before args s = true) (hini : (Cond.initialized cls).before args s = true) (hat : ∀ w ∈ vx_at0 own ic cls names, w.before args s = true)
    (hgood : ∀ w ∈ Cond.classLink own ik cls :: Cond.initialized cls :: vx_at0 own ic cls names, vx_ot w = true)
    (hU : vx_Zq Bundle.tN "UNASSIGNED_STACK" Bundle.steD A s s.heap) (hN : vx_Zq Bundle.tN "SUPPRESSED_SENTINEL" Bundle.listD A s s.heap) (hS : va_S A s.heap H locs) (hsize : ls.size = c.maxLocals)
    (d0 : decode cc pc = .ok (.new ik, 3)) (d3 : decode cc (pc + 3) = .ok (.dup, 1)) (d4 : decode cc (pc + 4) = .ok (.invokespecial ic, 3)) (d7 : decode cc (pc + 7) = .ok (.athrow, 1))
    (hout : ∀ x ∈ c.exceptionTable.toList, covers x (pc + 7) = false)
    (hRframes : names.length + 3 < R.frames) (hRlocals : (rest.map fun v => v.category).sum + (13 * (names.length + 1) + 42) ≤ R.locals) (hRcells : cells + 1 ≤ R.cells) (hRslots : slots + 6 ≤ R.slots) (hlocks : meth.locks = false)
    (hx : ∀ t : State, s.vm.Alike t.vm → H.size ≤ t.heap.size → (∀ q : Nat, q < H.size → t.heap[q]? = H[q]?) → XC cls s t)
    (hf : ∀ z ∈ locs, free z.base) (hc : cells + 1 ≤ mc) (hs : slots + 6 ≤ ms) :
    W p l e R s m args below meth c H locs cells slots (vx_MQ below Qc XC args s mc ms free) (F0 m pc ls rest) := by
  intro T hT X
  have htr : e.platform.stackTraces = false := (show e.platform.stackTraces = l.stackTraces by rw [X.admits.platform]).trans hl
  have Y := vx_rebase X (R' := { frames := R.frames, locals := R.locals, cells := 1, slots := 6 }) (Nat.le_refl _) (Nat.le_refl _) hRcells hRslots
  obtain ⟨s', hA⟩ : ∃ z, z = (T.setVm s.vm).setFrames (.invoking m args :: below) := ⟨_, rfl⟩
  rw [← hA] at Y
  have hvm : s'.vm = s.vm := by rw [hA]; rfl
  have hhp : s'.heap = H := by rw [hA]; exact hT
  have hW0 : s.WarmedH s'.vm := by rw [hvm]; exact State.WarmedH.refl s
  have hat' : ∀ w ∈ vx_at0 own ic cls names, w.before args s' = true := fun w hw => vx_ot_at hW0 hvm.symm (hgood w (List.mem_cons_of_mem _ (List.mem_cons_of_mem _ hw))) (hat w hw)
  have hk' : (Cond.classLink own ik cls).before args s' = true := vx_ot_at hW0 hvm.symm (hgood _ List.mem_cons_self) hk
  have hini' : (Cond.initialized cls).before args s' = true := vx_ot_at hW0 hvm.symm (hgood _ (List.mem_cons_of_mem _ List.mem_cons_self)) hini
  have hU' : vx_Zq Bundle.tN "UNASSIGNED_STACK" Bundle.steD A s' s'.heap := by rw [hhp]; exact vx_Zq.moved hW0.alike (hU.kept hS.2.1)
  have hN' : vx_Zq Bundle.tN "SUPPRESSED_SENTINEL" Bundle.listD A s' s'.heap := by rw [hhp]; exact vx_Zq.moved hW0.alike (hN.kept hS.2.1)
  have h : ∀ w ∈ Bundle.ownAtoms0 own ic cls names, w.before args s' = true := vx_own hat' (vx_isRefq hU'.1) (vx_isRefq hN'.1) hU'.2.word hN'.2.word
  have hown' : s'.vm.findClass own = some m.cls := by rw [hvm]; exact hown
  have hins : (Cond.instantiable cls 6).before args s' = true := h _ (by simp [Bundle.ownAtoms0])
  obtain ⟨vm₁, cX, kX, hfX, hkX, -, -, X₁, st1⟩ := Y.newCold hexec (own := own) (C := cls) (index := ik) (n := 6) hown' hk' hins hini'
    (g := F0 m pc ls rest) rfl (by rw [hb]; exact d0) (Nat.le_refl _) (Nat.le_refl _)
  generalize hT1 : (T.setVm vm₁).pushCell { cls := cX, slots := kX.instanceTypes.map defaultValue, vm := .none } = T1 at X₁ st1
  have hcat : (Value.ref T.heap.size).category = 1 := rfl
  have hcellA : T1.heap[T.heap.size]? = some (freshCell cX kX) := by rw [← hT1]; exact State.heap_pushCell_size _ _
  have d3' : decode c.code (pc + 3) = .ok (.dup, 1) := by rw [hb]; exact d3
  obtain ⟨U, hsteps, hrun, hend, hW, hsame, ce, hce, hO⟩ := X₁.ctorThrow0 hexec htr (own := own) (cls := cls) (names := names) (ic := ic) hown' hcls hnames h (fun x hx => nomatch hx) hfX hkX hcellA (by rw [hhp, hT]; exact Nat.le_refl _)
    (g := { method := m, pc := pc + 4, locals := ls, stack := .ref T.heap.size :: .ref T.heap.size :: rest, locked := none }) rfl hsize rfl rfl (rest := rest) rfl
    (by rw [hb]; exact d4) (by rw [hb]; exact d7) hout hRframes (by simp only [List.map_cons, List.sum_cons, hcat]; omega) hlocks
  obtain ⟨f1, f2⟩ := vx_frame hsame
  rw [hhp] at f1 f2
  have hWs : s.WarmedH U.vm := State.WarmedH.trans hW0 hW
  have hcl : s.vm.findClass cls = some ce.cls := by
    have h9 := hO.cls
    rw [hvm] at h9
    exact h9
  have hall : s.sameButNew ({ U with vm := s.vm } : State) locs mc ms := by
    subst hA
    obtain ⟨e1, e2⟩ := hsame
    rw [State.setFrames_setFrames] at e1
    have h2 : (T.setVm s.vm).sameButNew ({ U with vm := s.vm } : State) [] (0 + 1) (0 + 6) := ⟨e1, e2⟩
    have h3 := X.same.trans h2
    rw [List.append_nil] at h3
    exact h3.mono hc hs
  refine ⟨U, ?_, .threw T.heap.size, hrun, hend, Or.inr ⟨T.heap.size, rfl, cls, ce, locs, hx U hWs.alike f1 (fun q hq => f2 q hq (fun z hz => nomatch hz)), hce, hO.vm, hcl, hWs, hall, hf⟩⟩
  refine st1 _ ?_
  show Steps p.tables e below (T1.setTop { method := m, pc := pc + 3, locals := ls, stack := .ref T.heap.size :: rest, locked := none }) _
  jvm_step X₁.here [X₁.here.top, hexec, d3', Value.category]
  exact hsteps
/-- 'throw new E("text")': new; dup; ldc; invokespecial; athrow -/
theorem vx_throwS {cc : ByteArray} {pc : Nat} (hexec : p.tables.exec = Jvm.exec) (hb : c.code = cc) (hl : l.stackTraces = false) {own cls text : String} {names : List String} {ik is ic mc ms sa : Nat} {A : Nat → Prop}
    (hown : s.vm.findClass own = some m.cls) (hcls : Bundle.fit cls = true) (hnames : ∀ n ∈ names, Bundle.fit n = true)
    (hk : (Cond.classLink own ik cls).before args s = true) (hini : (Cond.initialized cls).before args s = true) (hstr : vk_R own is text sa s) (hat : ∀ w ∈ vx_atS own ic cls names, w.before args s = true)
    (hgood : ∀ w ∈ Cond.classLink own ik cls :: Cond.initialized cls :: vx_atS own ic cls names, vx_ot w = true)
    (hU : vx_Zq Bundle.tN "UNASSIGNED_STACK" Bundle.steD A s s.heap) (hN : vx_Zq Bundle.tN "SUPPRESSED_SENTINEL" Bundle.listD A s s.heap) (hS : va_S A s.heap H locs) (hsize : ls.size = c.maxLocals)
    (d0 : decode cc pc = .ok (.new ik, 3)) (d3 : decode cc (pc + 3) = .ok (.dup, 1)) (d4 : decode cc (pc + 4) = .ok (.ldc is, 2)) (d6 : decode cc (pc + 6) = .ok (.invokespecial ic, 3)) (d9 : decode cc (pc + 9) = .ok (.athrow, 1))
    (hout : ∀ x ∈ c.exceptionTable.toList, covers x (pc + 9) = false)
    (hRframes : names.length + 3 < R.frames) (hRlocals : (rest.map fun v => v.category).sum + (13 * (names.length + 1) + 43) ≤ R.locals) (hRcells : cells + 1 ≤ R.cells) (hRslots : slots + 6 ≤ R.slots) (hlocks : meth.locks = false)
    (hx : ∀ t : State, s.vm.Alike t.vm → H.size ≤ t.heap.size → (∀ q : Nat, q < H.size → t.heap[q]? = H[q]?) → XC cls s t)
    (hf : ∀ z ∈ locs, free z.base) (hc : cells + 1 ≤ mc) (hs : slots + 6 ≤ ms) :
    W p l e R s m args below meth c H locs cells slots (vx_MQ below Qc XC args s mc ms free) (F0 m pc ls rest) := by
  intro T hT X
  have htr : e.platform.stackTraces = false := (show e.platform.stackTraces = l.stackTraces by rw [X.admits.platform]).trans hl
  have Y := vx_rebase X (R' := { frames := R.frames, locals := R.locals, cells := 1, slots := 6 }) (Nat.le_refl _) (Nat.le_refl _) hRcells hRslots
  obtain ⟨s', hA⟩ : ∃ z, z = (T.setVm s.vm).setFrames (.invoking m args :: below) := ⟨_, rfl⟩
  rw [← hA] at Y
  have hvm : s'.vm = s.vm := by rw [hA]; rfl
  have hhp : s'.heap = H := by rw [hA]; exact hT
  have hW0 : s.WarmedH s'.vm := by rw [hvm]; exact State.WarmedH.refl s
  have hat' : ∀ w ∈ vx_atS own ic cls names, w.before args s' = true := fun w hw => vx_ot_at hW0 hvm.symm (hgood w (List.mem_cons_of_mem _ (List.mem_cons_of_mem _ hw))) (hat w hw)
  have hk' : (Cond.classLink own ik cls).before args s' = true := vx_ot_at hW0 hvm.symm (hgood _ List.mem_cons_self) hk
  have hini' : (Cond.initialized cls).before args s' = true := vx_ot_at hW0 hvm.symm (hgood _ (List.mem_cons_of_mem _ List.mem_cons_self)) hini
  have hU' : vx_Zq Bundle.tN "UNASSIGNED_STACK" Bundle.steD A s' s'.heap := by rw [hhp]; exact vx_Zq.moved hW0.alike (hU.kept hS.2.1)
  have hN' : vx_Zq Bundle.tN "SUPPRESSED_SENTINEL" Bundle.listD A s' s'.heap := by rw [hhp]; exact vx_Zq.moved hW0.alike (hN.kept hS.2.1)
  have h : ∀ w ∈ Bundle.ownAtoms own ic cls names, w.before args s' = true := vx_own hat' (vx_isRefq hU'.1) (vx_isRefq hN'.1) hU'.2.word hN'.2.word
  have hown' : s'.vm.findClass own = some m.cls := by rw [hvm]; exact hown
  have hins : (Cond.instantiable cls 6).before args s' = true := h _ (by simp [Bundle.ownAtoms])
  obtain ⟨vm₁, cX, kX, hfX, hkX, -, -, X₁, st1⟩ := Y.newCold hexec (own := own) (C := cls) (index := ik) (n := 6) hown' hk' hins hini'
    (g := F0 m pc ls rest) rfl (by rw [hb]; exact d0) (Nat.le_refl _) (Nat.le_refl _)
  generalize hT1 : (T.setVm vm₁).pushCell { cls := cX, slots := kX.instanceTypes.map defaultValue, vm := .none } = T1 at X₁ st1
  have hcat : (Value.ref T.heap.size).category = 1 := rfl
  have hcellA : T1.heap[T.heap.size]? = some (freshCell cX kX) := by rw [← hT1]; exact State.heap_pushCell_size _ _
  have d3' : decode c.code (pc + 3) = .ok (.dup, 1) := by rw [hb]; exact d3
  have d4' : decode c.code (pc + 4) = .ok (.ldc is, 2) := by rw [hb]; exact d4
  have hstr' : vk_R own is text sa s' := vk_R.warm hW0 hstr
  obtain ⟨U, hsteps, hrun, hend, hW, hsame, ce, hce, hO⟩ := X₁.ctorThrowS hexec htr (own := own) (cls := cls) (names := names) (ic := ic) hown' hcls hnames h (fun x hx => nomatch hx) hfX hkX hcellA (by rw [hhp, hT]; exact Nat.le_refl _) (msg := .ref sa) rfl
    (g := { method := m, pc := pc + 6, locals := ls, stack := .ref sa :: .ref T.heap.size :: .ref T.heap.size :: rest, locked := none }) rfl hsize rfl rfl (rest := rest) rfl
    (by rw [hb]; exact d6) (by rw [hb]; exact d9) hout hRframes (by simp only [List.map_cons, List.sum_cons, hcat]; omega) hlocks
  obtain ⟨f1, f2⟩ := vx_frame hsame
  rw [hhp] at f1 f2
  have hWs : s.WarmedH U.vm := State.WarmedH.trans hW0 hW
  have hcl : s.vm.findClass cls = some ce.cls := by
    have h9 := hO.cls
    rw [hvm] at h9
    exact h9
  have hall : s.sameButNew ({ U with vm := s.vm } : State) locs mc ms := by
    subst hA
    obtain ⟨e1, e2⟩ := hsame
    rw [State.setFrames_setFrames] at e1
    have h2 : (T.setVm s.vm).sameButNew ({ U with vm := s.vm } : State) [] (0 + 1) (0 + 6) := ⟨e1, e2⟩
    have h3 := X.same.trans h2
    rw [List.append_nil] at h3
    exact h3.mono hc hs
  refine ⟨U, ?_, .threw T.heap.size, hrun, hend, Or.inr ⟨T.heap.size, rfl, cls, ce, locs, hx U hWs.alike f1 (fun q hq => f2 q hq (fun z hz => nomatch hz)), hce, hO.vm, hcl, hWs, hall, hf⟩⟩
  refine st1 _ ?_
  show Steps p.tables e below (T1.setTop { method := m, pc := pc + 3, locals := ls, stack := .ref T.heap.size :: rest, locked := none }) _
  jvm_step X₁.here [X₁.here.top, hexec, d3', Value.category]
  exact X₁.ldcString hexec (own := own) (text := text) (index := is) (a := sa) hown' hstr'.1 hstr'.2
    (g := { method := m, pc := pc + 4, locals := ls, stack := .ref T.heap.size :: .ref T.heap.size :: rest, locked := none }) rfl d4' _ hsteps
/-- 'throw new E("text")', the text by a wide index -/
theorem vx_throwSW {cc : ByteArray} {pc : Nat} (hexec : p.tables.exec = Jvm.exec) (hb : c.code = cc) (hl : l.stackTraces = false) {own cls text : String} {names : List String} {ik is ic mc ms sa : Nat} {A : Nat → Prop}
    (hown : s.vm.findClass own = some m.cls) (hcls : Bundle.fit cls = true) (hnames : ∀ n ∈ names, Bundle.fit n = true)
    (hk : (Cond.classLink own ik cls).before args s = true) (hini : (Cond.initialized cls).before args s = true) (hstr : vk_R own is text sa s) (hat : ∀ w ∈ vx_atS own ic cls names, w.before args s = true)
    (hgood : ∀ w ∈ Cond.classLink own ik cls :: Cond.initialized cls :: vx_atS own ic cls names, vx_ot w = true)
    (hU : vx_Zq Bundle.tN "UNASSIGNED_STACK" Bundle.steD A s s.heap) (hN : vx_Zq Bundle.tN "SUPPRESSED_SENTINEL" Bundle.listD A s s.heap) (hS : va_S A s.heap H locs) (hsize : ls.size = c.maxLocals)
    (d0 : decode cc pc = .ok (.new ik, 3)) (d3 : decode cc (pc + 3) = .ok (.dup, 1)) (d4 : decode cc (pc + 4) = .ok (.ldc_w is, 3)) (d7 : decode cc (pc + 7) = .ok (.invokespecial ic, 3)) (d10 : decode cc (pc + 10) = .ok (.athrow, 1))
    (hout : ∀ x ∈ c.exceptionTable.toList, covers x (pc + 10) = false)
    (hRframes : names.length + 3 < R.frames) (hRlocals : (rest.map fun v => v.category).sum + (13 * (names.length + 1) + 43) ≤ R.locals) (hRcells : cells + 1 ≤ R.cells) (hRslots : slots + 6 ≤ R.slots) (hlocks : meth.locks = false)
    (hx : ∀ t : State, s.vm.Alike t.vm → H.size ≤ t.heap.size → (∀ q : Nat, q < H.size → t.heap[q]? = H[q]?) → XC cls s t)
    (hf : ∀ z ∈ locs, free z.base) (hc : cells + 1 ≤ mc) (hs : slots + 6 ≤ ms) :
    W p l e R s m args below meth c H locs cells slots (vx_MQ below Qc XC args s mc ms free) (F0 m pc ls rest) := by
  intro T hT X
  have htr : e.platform.stackTraces = false := (show e.platform.stackTraces = l.stackTraces by rw [X.admits.platform]).trans hl
  have Y := vx_rebase X (R' := { frames := R.frames, locals := R.locals, cells := 1, slots := 6 }) (Nat.le_refl _) (Nat.le_refl _) hRcells hRslots
  obtain ⟨s', hA⟩ : ∃ z, z = (T.setVm s.vm).setFrames (.invoking m args :: below) := ⟨_, rfl⟩
  rw [← hA] at Y
  have hvm : s'.vm = s.vm := by rw [hA]; rfl
  have hhp : s'.heap = H := by rw [hA]; exact hT
  have hW0 : s.WarmedH s'.vm := by rw [hvm]; exact State.WarmedH.refl s
  have hat' : ∀ w ∈ vx_atS own ic cls names, w.before args s' = true := fun w hw => vx_ot_at hW0 hvm.symm (hgood w (List.mem_cons_of_mem _ (List.mem_cons_of_mem _ hw))) (hat w hw)
  have hk' : (Cond.classLink own ik cls).before args s' = true := vx_ot_at hW0 hvm.symm (hgood _ List.mem_cons_self) hk
  have hini' : (Cond.initialized cls).before args s' = true := vx_ot_at hW0 hvm.symm (hgood _ (List.mem_cons_of_mem _ List.mem_cons_self)) hini
  have hU' : vx_Zq Bundle.tN "UNASSIGNED_STACK" Bundle.steD A s' s'.heap := by rw [hhp]; exact vx_Zq.moved hW0.alike (hU.kept hS.2.1)
  have hN' : vx_Zq Bundle.tN "SUPPRESSED_SENTINEL" Bundle.listD A s' s'.heap := by rw [hhp]; exact vx_Zq.moved hW0.alike (hN.kept hS.2.1)
  have h : ∀ w ∈ Bundle.ownAtoms own ic cls names, w.before args s' = true := vx_own hat' (vx_isRefq hU'.1) (vx_isRefq hN'.1) hU'.2.word hN'.2.word
  have hown' : s'.vm.findClass own = some m.cls := by rw [hvm]; exact hown
  have hins : (Cond.instantiable cls 6).before args s' = true := h _ (by simp [Bundle.ownAtoms])
  obtain ⟨vm₁, cX, kX, hfX, hkX, -, -, X₁, st1⟩ := Y.newCold hexec (own := own) (C := cls) (index := ik) (n := 6) hown' hk' hins hini'
    (g := F0 m pc ls rest) rfl (by rw [hb]; exact d0) (Nat.le_refl _) (Nat.le_refl _)
  generalize hT1 : (T.setVm vm₁).pushCell { cls := cX, slots := kX.instanceTypes.map defaultValue, vm := .none } = T1 at X₁ st1
  have hcat : (Value.ref T.heap.size).category = 1 := rfl
  have hcellA : T1.heap[T.heap.size]? = some (freshCell cX kX) := by rw [← hT1]; exact State.heap_pushCell_size _ _
  have d3' : decode c.code (pc + 3) = .ok (.dup, 1) := by rw [hb]; exact d3
  have d4' : decode c.code (pc + 4) = .ok (.ldc_w is, 3) := by rw [hb]; exact d4
  have hstr' : vk_R own is text sa s' := vk_R.warm hW0 hstr
  obtain ⟨U, hsteps, hrun, hend, hW, hsame, ce, hce, hO⟩ := X₁.ctorThrowS hexec htr (own := own) (cls := cls) (names := names) (ic := ic) hown' hcls hnames h (fun x hx => nomatch hx) hfX hkX hcellA (by rw [hhp, hT]; exact Nat.le_refl _) (msg := .ref sa) rfl
    (g := { method := m, pc := pc + 7, locals := ls, stack := .ref sa :: .ref T.heap.size :: .ref T.heap.size :: rest, locked := none }) rfl hsize rfl rfl (rest := rest) rfl
    (by rw [hb]; exact d7) (by rw [hb]; exact d10) hout hRframes (by simp only [List.map_cons, List.sum_cons, hcat]; omega) hlocks
  obtain ⟨f1, f2⟩ := vx_frame hsame
  rw [hhp] at f1 f2
  have hWs : s.WarmedH U.vm := State.WarmedH.trans hW0 hW
  have hcl : s.vm.findClass cls = some ce.cls := by
    have h9 := hO.cls
    rw [hvm] at h9
    exact h9
  have hall : s.sameButNew ({ U with vm := s.vm } : State) locs mc ms := by
    subst hA
    obtain ⟨e1, e2⟩ := hsame
    rw [State.setFrames_setFrames] at e1
    have h2 : (T.setVm s.vm).sameButNew ({ U with vm := s.vm } : State) [] (0 + 1) (0 + 6) := ⟨e1, e2⟩
    have h3 := X.same.trans h2
    rw [List.append_nil] at h3
    exact h3.mono hc hs
  refine ⟨U, ?_, .threw T.heap.size, hrun, hend, Or.inr ⟨T.heap.size, rfl, cls, ce, locs, hx U hWs.alike f1 (fun q hq => f2 q hq (fun z hz => nomatch hz)), hce, hO.vm, hcl, hWs, hall, hf⟩⟩
  refine st1 _ ?_
  show Steps p.tables e below (T1.setTop { method := m, pc := pc + 3, locals := ls, stack := .ref T.heap.size :: rest, locked := none }) _
  jvm_step X₁.here [X₁.here.top, hexec, d3', Value.category]
  exact X₁.ldcStringW hexec (own := own) (text := text) (index := is) (a := sa) hown' hstr'.1 hstr'.2
    (g := { method := m, pc := pc + 4, locals := ls, stack := .ref T.heap.size :: .ref T.heap.size :: rest, locked := none }) rfl d4' _ hsteps
end Ends
section Bodies
variable {l : Launch}
theorem vx_ofW {y : MethodName} {ws ws' : List Cond} {rm : Room} {Pc : Array Value → State → Prop} {Qc : Array Value → State → Outcome → State → Prop} {XC : String → State → State → Prop} {mc ms : Nat} {free : Addr → Prop} {cc : ByteArray} {maxL : Nat} {ret : Option FieldType}
    (hy : plainName y.cls = true) (hw : ws = Cond.code y cc maxL ret :: ws')
    (body : ∀ p e s m args below meth c s₁, BodyLoose p l y (headSpec ws rm) cc maxL ret e s m args below meth c s₁ → c.maxLocals = maxL → (∀ x ∈ c.exceptionTable.toList, False) → Pc args s →
      W p l e (headSpec ws rm).room s m args below meth c s.heap [] 0 0 (vx_MQ below Qc XC args s mc ms free) (entryFrame m args maxL)) : vx_Met l y ws rm Pc Qc XC mc ms free := by
  refine MetFree.of_bodyS (code := cc) (maxLocals := maxL) (ret := ret) hy ?_ ?_
  · intro args s m h hn
    obtain ⟨meth, c, h1, h2, h3, h4, h5, h6, -, -⟩ := Cond.code_spec hn (atoms_spec (ws := ws) h _ (by rw [hw]; exact List.mem_cons_self))
    exact ⟨meth, c, h1, h2, h3, h4, h5, h6⟩
  · intro p e s m args below meth c s₁ B hml hP _
    have hh0 : s₁.heap = s.heap := by rw [B.state]; rfl
    have ht : ∀ x ∈ c.exceptionTable.toList, False := by
      obtain ⟨meth9, c9, h1, h2, -, -, -, -, h7, -⟩ := Cond.code_spec B.named (atoms_spec (ws := ws) B.pre _ (by rw [hw]; exact List.mem_cons_self))
      cases Option.some.inj (h1.symm.trans B.method)
      cases Option.some.inj (h2.symm.trans (Stand.of_body B).code)
      intro x hx
      rw [Array.isEmpty_iff.mp h7] at hx
      cases hx
    obtain ⟨t, a1, o, b1, b2, b3⟩ := body p e s m args below meth c s₁ B hml ht hP s₁ hh0 (Stand.of_body B)
    exact ⟨t, o, a1, b1, b2, b3⟩
/-- the table of a body with handlers -/
theorem vx_table {p : Program} {x y : MethodName} {S : Spec} {cc bytes : ByteArray} {maxL maxL' : Nat} {ret ret' : Option FieldType} {e : Env} {s s₁ : State} {m : MethodId} {args : Array Value} {below : List Frame} {meth : Method} {c : Code} {hh : List (Nat × Nat × Nat × Nat)}
    (B : BodyLoose p l y S cc maxL ret e s m args below meth c s₁) (h : (Cond.codeWith y bytes maxL' ret' hh).before args s = true) : c.exceptionTable.toList = tableOf hh := by
  obtain ⟨m9, meth9, c9, hn9, h1, h2, -, -, h6, -⟩ := Cond.codeWith_spec h
  cases Option.some.inj (hn9.symm.trans B.named)
  cases Option.some.inj (h1.symm.trans B.method)
  cases Option.some.inj (h2.symm.trans (Stand.of_body B).code)
  rw [← h6, table_eq]
end Bodies
end VXA
/-! ===== END ===== -/
/-! ===== BEGIN a static call of a method with an exception table ===== -/
section VXS
variable {p : Program} {l : Launch} {e : Env} {R : Room} {s : State} {m : MethodId} {args : Array Value} {below : List Frame} {meth : Method} {c : Code} {T : State} {H : Heap} {locs : List Loc} {cells slots : Nat}
abbrev vx_CSW (R : Room) (s : State) (args : Array Value) (own : String) (index : Nat) (y : MethodName) (bytes : ByteArray) (maxL : Nat) (ret : Option FieldType) (hh : List (Nat × Nat × Nat × Nat)) (ws : List Cond) (rm : Room) (mc ms n : Nat) : Prop :=
  (rm.cells = mc ∧ rm.slots = ms ∧ rm.frames + 1 ≤ R.frames ∧ 8 + (maxL + 11) + rm.locals ≤ R.locals ∧ (∀ w ∈ ws, ∀ (a' : Array Value) (U : State), s.WarmedH U.vm → w.before a' U = true) ∧ Cond.codeWith y bytes maxL ret hh ∈ ws) ∧
  (Cond.codeWith y bytes maxL ret hh).before args s = true ∧ (Cond.initialized y.cls).before args s = true ∧ (y.cls ≠ "java/lang/invoke/MethodHandle" ∧ y.cls ≠ "java/lang/invoke/VarHandle") ∧
  (∀ sig, parseMethodDescriptor y.desc = some sig → n = sig.parameters.length) ∧ (Cond.methodLink own index y).before args s = true ∧ (Cond.static y).before args s = true
theorem vx_cwSW {own : String} {index maxL mc ms : Nat} {y : MethodName} {bytes : ByteArray} {ret : Option FieldType} {hh : List (Nat × Nat × Nat × Nat)} {Ts ws ws' : List Cond} {rm : Room} (n : Nat) (ht : ∀ w ∈ Ts, w.before args s = true) (hT : GoodIn Ts (va_wsS own index y ws)) (hw : ws = Cond.codeWith y bytes maxL ret hh :: ws') (hrc : rm.cells = mc) (hrs : rm.slots = ms)
    (hd : y.cls ≠ "java/lang/invoke/MethodHandle" ∧ y.cls ≠ "java/lang/invoke/VarHandle" ∧ (parseMethodDescriptor y.desc).map (fun d => d.parameters.length) = some n) (hR : rm.frames + 1 ≤ R.frames ∧ 8 + (maxL + 11) + rm.locals ≤ R.locals) :
    vx_CSW R s args own index y bytes maxL ret hh ws rm mc ms n := by
  have ok : ∀ w ∈ va_wsS own index y ws, w.before args s = true := fun w h => ht w (hT w h).1
  have hG : GoodIn Ts ws := fun w h => hT w (by unfold va_wsS; exact List.mem_append_right _ h)
  have hc : Cond.codeWith y bytes maxL ret hh ∈ ws := by rw [hw]; exact List.mem_cons_self
  refine ⟨⟨hrc, hrs, hR.1, hR.2, pay_in ht hG, hc⟩, ht _ (hG _ hc).1, ok _ (by simp [va_wsS]), ⟨hd.1, hd.2.1⟩, fun sig h => ?_, ok _ (by simp [va_wsS]), ok _ (by simp [va_wsS])⟩
  have h2 := hd.2.2
  rw [h] at h2
  exact (Option.some.inj h2).symm
theorem vx_callSW (X : Stand p l e R s m args below meth c T locs cells slots) (hexec : p.tables.exec = Jvm.exec) {own : String} {index : Nat} {y : MethodName} {bytes : ByteArray} {maxL : Nat} {ret : Option FieldType} {hh : List (Nat × Nat × Nat × Nat)}
    (hown : s.vm.findClass own = some m.cls) (hlink : (Cond.methodLink own index y).before args s = true) (hstat : (Cond.static y).before args s = true) (hinit : (Cond.initialized y.cls).before args s = true)
    (hcode : (Cond.codeWith y bytes maxL ret hh).before args s = true) (hy : y.cls ≠ "java/lang/invoke/MethodHandle" ∧ y.cls ≠ "java/lang/invoke/VarHandle")
    {W9 : Nat} {Pre : Pt → Array Value → Prop} {Post : Pt → Array Value → Option Value → Pt → Prop} (hK : Back l R p e below s args y 3 W9 Pre Post)
    {g : JFrame} (hg : g.method = m) (hsize : g.locals.size = c.maxLocals) {argsL rest : List Value} (hlen : ∀ sig, parseMethodDescriptor y.desc = some sig → argsL.length = sig.parameters.length)
    (hstack : g.stack = argsL.reverse ++ rest) (hW : 2 * g.monitorRoom + (rest.map fun v => v.category).sum ≤ W9) (hdg : decode c.code g.pc = .ok (.invokestatic index, 3))
    (hpre : ∀ vm₁, s.WarmedH vm₁ → Pre ⟨T.setVm vm₁, locs, cells, slots⟩ argsL.toArray) :
    ∃ (v : Option Value) (vm₁ : Vm) (B : Pt), s.WarmedH vm₁ ∧ Stand p l e R s m args below meth c B.U B.locs B.cells B.slots ∧ Post ⟨T.setVm vm₁, locs, cells, slots⟩ argsL.toArray v B ∧
      ∀ target, Steps p.tables e below (B.U.setTop { g with pc := g.pc + 3, stack := v.toList ++ rest }) target → Steps p.tables e below (T.setTop g) target := by
  obtain ⟨mk, methM, cM, hnamed, hmethM, -, -, -, -, -, -, hsigM⟩ := Cond.codeWith_spec hcode
  have hstatic : methM.isStatic = true := Cond.static_spec hnamed hmethM hstat
  obtain ⟨kP, hkP, -⟩ := className_of_methodNamed hnamed
  have hinitP : kP.init = .initialized := Cond.initialized_spec (findClass_of_methodNamed hnamed) hkP hinit
  obtain ⟨vm₁, X₁, hstep₁⟩ := X.invokestatic hexec hown hlink hnamed hmethM hstatic hkP hinitP hy (g := g) hg (argsL := argsL) (rest := rest) (hlen _ hsigM) hstack hdg
  obtain ⟨v, B, X', hpost, hsteps⟩ := hK m meth c ⟨T.setVm vm₁, locs, cells, slots⟩ { g with stack := rest } (.invokestatic index) mk argsL.toArray X₁ hg hsize hdg hW (X₁.named hnamed) (hpre vm₁ X₁.warmed)
  exact ⟨v, vm₁, B, X₁.warmed, X', hpost, fun target h => hstep₁ _ fun acts => by rw [doInvoke_state]; exact hsteps.trans h⟩
theorem vx_runSW {y : MethodName} {bytes cc : ByteArray} {maxL nL mc ms n index : Nat} {ret : Option FieldType} {hh : List (Nat × Nat × Nat × Nat)} {ws : List Cond} {rm : Room} {Pc : Array Value → State → Prop} {Qc : Array Value → State → Outcome → State → Prop} {free : Addr → Prop} {Ts : List Cond} {own : String} {As rest : List Value} {g : JFrame}
    (S : CallFix p m c cc nL s args Ts own) (hM : Met l y ws rm Pc Qc mc ms free) (cw : vx_CSW R s args own index y bytes maxL ret hh ws rm mc ms n) (hp : PreS s H Pc As)
    (hg : g.method = m) (hn : As.length = n) (hsize : g.locals.size = nL) (hstack : g.stack = As.reverse ++ rest) (hW : 2 * g.monitorRoom + (rest.map fun v => v.category).sum ≤ 8) (hdg : decode cc g.pc = .ok (.invokestatic index, 3)) (hf : cells + mc ≤ R.cells ∧ slots + ms ≤ R.slots) :
    va_Run p l e R s m args below meth c H locs cells slots mc ms g rest (Qc As.toArray) (free) := by
  obtain ⟨⟨hrc, hrs, hfr, hlo, hws, hcw⟩, hcode, hini, hy, hlen, hl, hstt⟩ := cw
  have hK : Back l R p e below s args y 3 8 (PreOf R mc ms Pc) (PostOf Qc mc ms free) := va_backW (hh := hh) (bytes := bytes) (maxL := maxL) (ret := ret) hM hp.1 hrc hrs hfr hlo hws hcw (fun a' U hW => word_at hW (Or.inl (by first | rfl | simp [Cond.onTables, Cond.keeps, Cond.steady])) hini)
  obtain ⟨hx, hb, hml, ho, -⟩ := S
  intro T hT X
  obtain ⟨v, vm₁, ⟨U', l2, c2, s2⟩, hW₁, X', ⟨g', mk, t, L, e1, e2, hq, h1, hL, h2, h3⟩, st⟩ := vx_callSW X hx (hh := hh) (bytes := bytes) (maxL := maxL) (ret := ret) ho hl hstt hini hcode hy hK hg (hsize.trans hml.symm) (argsL := As) (rest := rest) (fun sig h => hn.trans (hlen sig h)) hstack hW (by rw [hb]; exact hdg)
    (fun vm₁ hW₁ => ⟨hf.1, hf.2, hp.2 (T.setVm vm₁) hT hW₁⟩)
  dsimp only [Pt.U, Pt.locs, Pt.cells, Pt.slots] at X' e1 e2 h1 h2 h3 st
  subst h1; subst h2; subst h3
  exact ⟨v, (T.setVm vm₁).calling g' mk As.toArray, t, U', L, hT, X', hL, e1, e2, hq, st⟩
/-- not caught here, past rows that name other classes: it goes on to the caller -/
theorem vx_outP {p : Program} {l : Launch} {e : Env} {R : Room} {s : State} {m : MethodId} {args : Array Value} {below : List Frame} {meth : Method} {c : Code} {H : Heap} {locs : List Loc} {cells slots : Nat} {free : Addr → Prop} {ls : Array Slot} {rest : List Value} {Qc : Array Value → State → Outcome → State → Prop} {XC : String → State → State → Prop}
    {pc : Nat} {own E : String} {ce : Cell} {q : Addr} {mc ms : Nat} (hown : s.vm.findClass own = some m.cls) (hlocks : meth.locks = false)
    (hpass : ∀ z ∈ c.exceptionTable.toList, covers z pc = false ∨ (z.catchType ≠ 0 ∧ ∃ nm : String, (Cond.classLink own z.catchType nm).before args s = true ∧ va_Nc E nm s)) (hcell : H[q]? = some ce) (hv : ce.vm = .none) (hcl : s.vm.findClass E = some ce.cls)
    (hx : ∀ t : State, t.heap = H → s.vm.Alike t.vm → XC E s t) (hf : ∀ z ∈ locs, free z.base) (hc : cells ≤ mc) (hs : slots ≤ ms) :
    vx_W p l e R s m args below meth c H locs cells slots (vx_MQ below Qc XC args s mc ms free) (F0 m pc ls rest) q := by
  intro T hT X
  have hpl : e.platform.magicAccessors = ({} : Platform).magicAccessors := by rw [X.admits.platform]
  obtain ⟨vm', hW', X', st⟩ := X.outThrough hlocks q (g := F0 m pc ls rest) rfl rfl rfl (cell := ce) (by rw [hT]; exact hcell) (by rw [hv]; rfl)
    (by obtain ⟨k9, h9, -⟩ := Vm.findClass_spec hcl; exact ⟨k9, h9⟩) (fun z hz => by
      rcases hpass z hz with h | ⟨hz0, nm, hl1, hn1⟩
      · exact Or.inl h
      · obtain ⟨c6, hc6, hcl6⟩ := Cond.classLink_spec hown hl1 e.platform hpl
        obtain ⟨a8, b8, h1, h2, h3⟩ := hn1
        cases Option.some.inj (h1.symm.trans hcl)
        cases Option.some.inj (h2.symm.trans hc6)
        exact Or.inr ⟨hz0, _, hcl6, h3⟩)
  obtain ⟨g₀, hfr⟩ := X'.frames_eq
  have hcell9 : ((T.setVm vm').setFrames (.throwing q :: below)).heap[q]? = some ce := by
    show T.heap[q]? = some ce
    rw [hT]; exact hcell
  have hend : Ended ((T.setVm vm').setFrames (.throwing q :: below)) below (.threw q) := State.frames_setFrames _ (State.cur_lt_of_frames hfr)
  refine ⟨(T.setVm vm').setFrames (.throwing q :: below), ?_, .threw q, X'.here.running, hend, Or.inr ⟨q, rfl, E, ce, locs, hx _ hT (X'.ends _).1.alike, hcell9, hv, hcl, (X'.ends _).1, (X'.ends _).2.mono hc hs, hf⟩⟩
  rw [X.pushThrowing_eq]
  exact st
/-- a thing of a world lies in the heap -/
theorem vx_lt {D : va_G} {cl : List vw_C} {ws : va_W} {H1 : Heap} (h : va_P D cl ws H1) {k : Nat} {q : Nat × va_E} (hk : ws[k]? = some q) : q.1 < H1.size := (h k q hk).lt
end VXS
/-! ===== END ===== -/
/-! ===== BEGIN methods with a table of their own: called by a name, returning or throwing ===== -/
section VXH
/-! vx_backW, vx_callVX, vx_callSX, vx_callVW, vx_runVW, vx_runVX, vx_runSX, vx_ofWH follow the same proofs as their sisters above (Free/Laws.lean, Shelf42/LK1.lean); vx_outP calls Shelf42/NT130.lean (outThrough). -/
section
variable {l : Launch} {R : Room} {p : Program} {e : Env} {below : List Frame} {s : State} {sargs : Array Value} {y : MethodName} {len W9 : Nat}
theorem vx_backW {ws : List Cond} {rm : Room} {Pc : Array Value → State → Prop} {Qc : Array Value → State → Outcome → State → Prop} {XC : String → State → State → Prop} {mc ms : Nat} {free : Addr → Prop} {bytes : ByteArray} {maxL : Nat} {ret : Option FieldType} {hh : List (Nat × Nat × Nat × Nat)}
    (hM : vx_Met l y ws rm Pc Qc XC mc ms free) (hblind : FrameBlind Pc) (hrc : rm.cells = mc) (hrs : rm.slots = ms)
    (hframes : rm.frames + 1 ≤ R.frames) (hlocals : W9 + (maxL + 11) + rm.locals ≤ R.locals)
    (hws : ∀ w ∈ ws, ∀ a' U, s.WarmedH U.vm → w.before a' U = true) (hcode : Cond.codeWith y bytes maxL ret hh ∈ ws) (hinit : ∀ a' U, s.WarmedH U.vm → (Cond.initialized y.cls).before a' U = true) :
    vx_Back l R p e below s sargs y len W9 (PreOf R mc ms Pc) (PostOf Qc mc ms free) (vx_Post XC mc ms free) := by
  intro m meth c A g ig mk a X hg hsize hdg hW hn hp
  have h1 : (headSpec ws rm).pre.before a A.U = true := atoms_intro fun w hw => hws w hw _ _ X.warmed
  have h2 : (Cond.codeWith y bytes maxL ret hh).before a A.U = true := hws _ hcode _ _ X.warmed
  have h3 : (Cond.initialized y.cls).before a A.U = true := hinit _ _ X.warmed
  have h4 : A.cells + (headSpec ws rm).room.cells ≤ R.cells := by rw [show (headSpec ws rm).room.cells = mc from hrc]; exact hp.1
  have h5 : A.slots + (headSpec ws rm).room.slots ≤ R.slots := by rw [show (headSpec ws rm).room.slots = ms from hrs]; exact hp.2.1
  have hPc : Pc a (A.U.calling g mk a) := hblind _ _ _ _ hp.2.2
  obtain ⟨U, Ls, c0, s0⟩ := A
  dsimp only [Pt.U, Pt.locs, Pt.cells, Pt.slots] at h1 h2 h3 h4 h5 X hn hPc ⊢
  obtain ⟨m9, methY, cY, hn9, hmY, hcY, -, hlY, -⟩ := Cond.codeWith_spec h2
  cases Option.some.inj (hn9.symm.trans hn)
  obtain ⟨kY, hkY, -⟩ := className_of_methodNamed hn
  have hinitY : kY.init = .initialized := Cond.initialized_spec (findClass_of_methodNamed hn) hkY h3
  have h : At U g.method c below := by rw [hg]; exact X.here
  have hlocals9 : W9 + (maxL + 11) + (headSpec ws rm).room.locals ≤ R.locals := hlocals
  have happ : (headSpec ws rm).appliesLoose y e.platform (U.calling g mk a) = true :=
    Spec.appliesLoose_calling (g := g) h hdg hn hkY hinitY
      (X.room_calling (g := g) (R' := (headSpec ws rm).room) hsize hmY hcY hframes (by rw [hlY]; omega) h4 h5) h1
  obtain ⟨mid, hmid⟩ := h.above
  have hfr : (U.setTop g).frames = (.java g :: mid) ++ below := by rw [State.frames_setTop' g h.top, hmid]; rfl
  obtain ⟨o, s₂, hsteps, -, hend, hq⟩ := Steps.callFree hM p X.admits X.cas X.clock (acts := []) hfr happ hPc trivial
  have hq' : vx_Q Qc XC mc ms free a (U.calling g mk a) o s₂ := hq
  rw [State.frames_setTop' g h.top] at hend
  obtain ⟨g₀, hg0⟩ := Option.isSome_iff_exists.mp h.top
  obtain ⟨r, hr⟩ := State.topJava?_eq_some.mp hg0
  have hr' : (({ U with heap := s₂.heap, slotsUsed := s₂.slotsUsed } : State).setVm s₂.vm).frames = .java g₀ :: r := hr
  rcases hq' with ⟨hqc, L, hfe, hL⟩ | ⟨q, rfl, E, ce, L, hx, hce, hcv, hcl, hW₂, hsm, hL⟩
  · obtain ⟨⟨v, rfl⟩, hW₂, e2, q2, q3, q4, q5, q6⟩ := id hfe
    have e3 : s₂ = ({ (U.calling g mk a).setFrames s₂.frames with heap := s₂.heap, slotsUsed := s₂.slotsUsed } : State).setVm s₂.vm := by
      have : s₂ = ({ s₂ with vm := (U.calling g mk a).vm } : State).setVm s₂.vm := rfl
      rw [e2] at this
      exact this
    obtain ⟨c₂, i₂, len₂, hc₂, hd₂, hf₂⟩ := hend
    have hW' : U.WarmedH s₂.vm := hW₂
    have hcc : c₂ = c := by
      have h1 : s₂.code? g.method = U.code? g.method := by
        rw [State.code?_eq, State.code?_eq, hW'.alike.method?]
      exact Option.some.inj (hc₂.symm.trans (h1.trans h.code))
    subst hcc
    have hlen : len₂ = len := by rw [hdg] at hd₂; cases hd₂; rfl
    subst hlen
    have hs₂ : s₂ = (({ U with heap := s₂.heap, slotsUsed := s₂.slotsUsed } : State).setVm s₂.vm).setTop { g with pc := g.pc + len₂, stack := v.toList ++ g.stack } := by
      refine e3.trans ?_
      rw [hf₂, State.calling_eq h.top, State.setFrames_setFrames, State.setTop_of_frames _ hr', hr]
      rfl
    have hsame : U.sameButNew ({ U with heap := s₂.heap, slotsUsed := s₂.slotsUsed } : State) L mc ms := by
      refine ⟨?_, q2, q3, q4, q5, q6⟩
      obtain ⟨t, ht, -⟩ := State.frames_cons hr
      show ({ U with heap := s₂.heap, slotsUsed := s₂.slotsUsed } : State) = { U.setFrames U.frames with heap := s₂.heap, slotsUsed := s₂.slotsUsed }
      rw [State.setFrames_self ht]
    subst hg
    refine Or.inl ⟨v, ⟨(({ U with heap := s₂.heap, slotsUsed := s₂.slotsUsed } : State).setVm s₂.vm), Ls ++ L, c0 + mc, s0 + ms⟩,
      ⟨X.admits, X.cas, X.clock, X.frames, X.room, X.hears, X.method, X.code, (X.here.setHeapUsed s₂.heap s₂.slotsUsed).setVm hW'.alike, X.tail, State.WarmedH.trans X.warmed hW', X.limits, X.bytes, X.same.trans (hsame.setVm s.vm)⟩,
      ⟨g, mk, s₂, L, rfl, rfl, hqc, rfl, hL, rfl, rfl⟩, ?_⟩
    show Steps p.tables e below _ ((({ U with heap := s₂.heap, slotsUsed := s₂.slotsUsed } : State).setVm s₂.vm).setTop { g with pc := g.pc + len₂, stack := v.toList ++ g.stack })
    rw [← hs₂]
    exact hsteps
  · obtain ⟨e2, q2, q3, q4, q5, q6⟩ := id hsm
    have e3 : s₂ = ({ (U.calling g mk a).setFrames s₂.frames with heap := s₂.heap, slotsUsed := s₂.slotsUsed } : State).setVm s₂.vm := by
      have : s₂ = ({ s₂ with vm := (U.calling g mk a).vm } : State).setVm s₂.vm := rfl
      rw [e2] at this
      exact this
    have hf₂ : s₂.frames = .throwing q :: .java g :: U.frames.tail := hend
    have hW' : U.WarmedH s₂.vm := hW₂
    have hs₂ : s₂ = ((({ U with heap := s₂.heap, slotsUsed := s₂.slotsUsed } : State).setVm s₂.vm).setTop g).pushFrame (.throwing q) := by
      refine e3.trans ?_
      rw [hf₂, State.calling_eq h.top, State.setFrames_setFrames, State.pushFrame, State.frames_setTop _ hr', State.setTop_of_frames _ hr', State.setFrames_setFrames, hr]
      rfl
    have hsame : U.sameButNew ({ U with heap := s₂.heap, slotsUsed := s₂.slotsUsed } : State) L mc ms := by
      refine ⟨?_, q2, q3, q4, q5, q6⟩
      obtain ⟨t, ht, -⟩ := State.frames_cons hr
      show ({ U with heap := s₂.heap, slotsUsed := s₂.slotsUsed } : State) = { U.setFrames U.frames with heap := s₂.heap, slotsUsed := s₂.slotsUsed }
      rw [State.setFrames_self ht]
    subst hg
    refine Or.inr ⟨q, ⟨(({ U with heap := s₂.heap, slotsUsed := s₂.slotsUsed } : State).setVm s₂.vm), Ls ++ L, c0 + mc, s0 + ms⟩,
      ⟨X.admits, X.cas, X.clock, X.frames, X.room, X.hears, X.method, X.code, (X.here.setHeapUsed s₂.heap s₂.slotsUsed).setVm hW'.alike, X.tail, State.WarmedH.trans X.warmed hW', X.limits, X.bytes, X.same.trans (hsame.setVm s.vm)⟩,
      ⟨g, mk, s₂, L, E, ce, rfl, rfl, hx, hce, hcv, hcl, rfl, hL, rfl, rfl⟩, ?_⟩
    show Steps p.tables e below _ (((({ U with heap := s₂.heap, slotsUsed := s₂.slotsUsed } : State).setVm s₂.vm).setTop g).pushFrame (.throwing q))
    rw [← hs₂]
    exact hsteps
end
variable {p : Program} {l : Launch} {e : Env} {R : Room} {s : State} {m : MethodId} {args : Array Value} {below : List Frame} {meth : Method} {c : Code} {T : State} {H : Heap} {locs : List Loc} {cells slots : Nat}
theorem vx_callVX (X : Stand p l e R s m args below meth c T locs cells slots) (hexec : p.tables.exec = Jvm.exec) {own C : String} {index : Nat} {y : MethodName} {bytes : ByteArray} {maxL : Nat} {ret : Option FieldType} {hh : List (Nat × Nat × Nat × Nat)}
    (hown : s.vm.findClass own = some m.cls) (hlink : (Cond.methodLink own index y).before args s = true) (hinst : (Cond.instanceMethod y).before args s = true) (hsel : (Cond.selects C y y).before args s = true)
    (hcode : (Cond.codeWith y bytes maxL ret hh).before args s = true) (hy : y.cls ≠ "java/lang/invoke/MethodHandle" ∧ y.cls ≠ "java/lang/invoke/VarHandle")
    {W9 : Nat} {Pre : Pt → Array Value → Prop} {Post : Pt → Array Value → Option Value → Pt → Prop} {PostX : Pt → Array Value → Addr → Pt → Prop} (hK : vx_Back l R p e below s args y 3 W9 Pre Post PostX)
    {b : Addr} {cellB : Cell} (hcell : T.heap[b]? = some cellB) (hobj : cellB.vm.isStatics = false) (hcls : s.vm.findClass C = some cellB.cls)
    {g : JFrame} (hg : g.method = m) (hsize : g.locals.size = c.maxLocals) {argsL rest : List Value} (hlen : ∀ sig, parseMethodDescriptor y.desc = some sig → argsL.length = sig.parameters.length)
    (hstack : g.stack = argsL.reverse ++ .ref b :: rest) (hW : 2 * g.monitorRoom + (rest.map fun v => v.category).sum ≤ W9) (hdg : decode c.code g.pc = .ok (.invokevirtual index, 3))
    (hpre : ∀ vm₁, s.WarmedH vm₁ → Pre ⟨T.setVm vm₁, locs, cells, slots⟩ (Value.ref b :: argsL).toArray) :
    (∃ (v : Option Value) (vm₁ : Vm) (B : Pt), s.WarmedH vm₁ ∧ Stand p l e R s m args below meth c B.U B.locs B.cells B.slots ∧ Post ⟨T.setVm vm₁, locs, cells, slots⟩ (Value.ref b :: argsL).toArray v B ∧
      ∀ target, Steps p.tables e below (B.U.setTop { g with pc := g.pc + 3, stack := v.toList ++ rest }) target → Steps p.tables e below (T.setTop g) target) ∨
    (∃ (q : Addr) (vm₁ : Vm) (B : Pt), s.WarmedH vm₁ ∧ Stand p l e R s m args below meth c B.U B.locs B.cells B.slots ∧ PostX ⟨T.setVm vm₁, locs, cells, slots⟩ (Value.ref b :: argsL).toArray q B ∧
      Steps p.tables e below (T.setTop g) ((B.U.setTop { g with stack := rest }).pushFrame (.throwing q))) := by
  obtain ⟨mk, methM, hnamed, hmethM, hstM, habM⟩ := Cond.instanceMethod_spec hinst
  obtain ⟨m8, methM', cM, hn8, hmethM', -, -, -, -, -, -, hsigM⟩ := Cond.codeWith_spec hcode
  cases Option.some.inj (hn8.symm.trans hnamed)
  cases hmethM.symm.trans hmethM'
  obtain ⟨c2, r2, m2, q1, q2, q3, q4, kP, hkP, hkPi⟩ := Cond.selects_spec hsel
  cases hcls.symm.trans q1
  cases (State.methodFound?_of_named hnamed hy).symm.trans q2
  cases hnamed.symm.trans q3
  have hselP : selectMethod e.platform s.vm cellB.cls mk = .method mk := by rw [Launch.admits_selectMethod X.admits]; exact q4
  obtain ⟨vm₁, X₁, hstep₁⟩ := X.invokevirtual hexec hown hlink hnamed hmethM hstM hkP hkPi hy (a := b) (cell := cellB) hcell
    (fun z h => by rw [h] at hobj; cases hobj) hselP hmethM habM hkP hkPi (g := g) hg (argsL := argsL) (rest := rest) (hlen _ hsigM) hstack hdg
  rcases hK m meth c ⟨T.setVm vm₁, locs, cells, slots⟩ { g with stack := rest } (.invokevirtual index) mk (Value.ref b :: argsL).toArray X₁ hg hsize hdg hW (X₁.named hnamed) (hpre vm₁ X₁.warmed) with ⟨v, B, X', hpost, hsteps⟩ | ⟨q, B, X', hpost, hsteps⟩
  · exact Or.inl ⟨v, vm₁, B, X₁.warmed, X', hpost, fun target h => hstep₁ _ fun acts => by rw [doInvoke_state]; exact hsteps.trans h⟩
  · exact Or.inr ⟨q, vm₁, B, X₁.warmed, X', hpost, hstep₁ _ fun acts => by rw [doInvoke_state]; exact hsteps⟩
theorem vx_callSX (X : Stand p l e R s m args below meth c T locs cells slots) (hexec : p.tables.exec = Jvm.exec) {own : String} {index : Nat} {y : MethodName} {bytes : ByteArray} {maxL : Nat} {ret : Option FieldType} {hh : List (Nat × Nat × Nat × Nat)}
    (hown : s.vm.findClass own = some m.cls) (hlink : (Cond.methodLink own index y).before args s = true) (hstat : (Cond.static y).before args s = true) (hinit : (Cond.initialized y.cls).before args s = true)
    (hcode : (Cond.codeWith y bytes maxL ret hh).before args s = true) (hy : y.cls ≠ "java/lang/invoke/MethodHandle" ∧ y.cls ≠ "java/lang/invoke/VarHandle")
    {W9 : Nat} {Pre : Pt → Array Value → Prop} {Post : Pt → Array Value → Option Value → Pt → Prop} {PostX : Pt → Array Value → Addr → Pt → Prop} (hK : vx_Back l R p e below s args y 3 W9 Pre Post PostX)
    {g : JFrame} (hg : g.method = m) (hsize : g.locals.size = c.maxLocals) {argsL rest : List Value} (hlen : ∀ sig, parseMethodDescriptor y.desc = some sig → argsL.length = sig.parameters.length)
    (hstack : g.stack = argsL.reverse ++ rest) (hW : 2 * g.monitorRoom + (rest.map fun v => v.category).sum ≤ W9) (hdg : decode c.code g.pc = .ok (.invokestatic index, 3))
    (hpre : ∀ vm₁, s.WarmedH vm₁ → Pre ⟨T.setVm vm₁, locs, cells, slots⟩ argsL.toArray) :
    (∃ (v : Option Value) (vm₁ : Vm) (B : Pt), s.WarmedH vm₁ ∧ Stand p l e R s m args below meth c B.U B.locs B.cells B.slots ∧ Post ⟨T.setVm vm₁, locs, cells, slots⟩ argsL.toArray v B ∧
      ∀ target, Steps p.tables e below (B.U.setTop { g with pc := g.pc + 3, stack := v.toList ++ rest }) target → Steps p.tables e below (T.setTop g) target) ∨
    (∃ (q : Addr) (vm₁ : Vm) (B : Pt), s.WarmedH vm₁ ∧ Stand p l e R s m args below meth c B.U B.locs B.cells B.slots ∧ PostX ⟨T.setVm vm₁, locs, cells, slots⟩ argsL.toArray q B ∧
      Steps p.tables e below (T.setTop g) ((B.U.setTop { g with stack := rest }).pushFrame (.throwing q))) := by
  obtain ⟨mk, methM, cM, hnamed, hmethM, -, -, -, -, -, -, hsigM⟩ := Cond.codeWith_spec hcode
  have hstatic : methM.isStatic = true := Cond.static_spec hnamed hmethM hstat
  obtain ⟨kP, hkP, -⟩ := className_of_methodNamed hnamed
  have hinitP : kP.init = .initialized := Cond.initialized_spec (findClass_of_methodNamed hnamed) hkP hinit
  obtain ⟨vm₁, X₁, hstep₁⟩ := X.invokestatic hexec hown hlink hnamed hmethM hstatic hkP hinitP hy (g := g) hg (argsL := argsL) (rest := rest) (hlen _ hsigM) hstack hdg
  rcases hK m meth c ⟨T.setVm vm₁, locs, cells, slots⟩ { g with stack := rest } (.invokestatic index) mk argsL.toArray X₁ hg hsize hdg hW (X₁.named hnamed) (hpre vm₁ X₁.warmed) with ⟨v, B, X', hpost, hsteps⟩ | ⟨q, B, X', hpost, hsteps⟩
  · exact Or.inl ⟨v, vm₁, B, X₁.warmed, X', hpost, fun target h => hstep₁ _ fun acts => by rw [doInvoke_state]; exact hsteps.trans h⟩
  · exact Or.inr ⟨q, vm₁, B, X₁.warmed, X', hpost, hstep₁ _ fun acts => by rw [doInvoke_state]; exact hsteps⟩
theorem vx_callVW (X : Stand p l e R s m args below meth c T locs cells slots) (hexec : p.tables.exec = Jvm.exec) {own C : String} {index : Nat} {y : MethodName} {bytes : ByteArray} {maxL : Nat} {ret : Option FieldType} {hh : List (Nat × Nat × Nat × Nat)}
    (hown : s.vm.findClass own = some m.cls) (hlink : (Cond.methodLink own index y).before args s = true) (hinst : (Cond.instanceMethod y).before args s = true) (hsel : (Cond.selects C y y).before args s = true)
    (hcode : (Cond.codeWith y bytes maxL ret hh).before args s = true) (hy : y.cls ≠ "java/lang/invoke/MethodHandle" ∧ y.cls ≠ "java/lang/invoke/VarHandle")
    {W9 : Nat} {Pre : Pt → Array Value → Prop} {Post : Pt → Array Value → Option Value → Pt → Prop} (hK : Back l R p e below s args y 3 W9 Pre Post)
    {b : Addr} {cellB : Cell} (hcell : T.heap[b]? = some cellB) (hobj : cellB.vm.isStatics = false) (hcls : s.vm.findClass C = some cellB.cls)
    {g : JFrame} (hg : g.method = m) (hsize : g.locals.size = c.maxLocals) {argsL rest : List Value} (hlen : ∀ sig, parseMethodDescriptor y.desc = some sig → argsL.length = sig.parameters.length)
    (hstack : g.stack = argsL.reverse ++ .ref b :: rest) (hW : 2 * g.monitorRoom + (rest.map fun v => v.category).sum ≤ W9) (hdg : decode c.code g.pc = .ok (.invokevirtual index, 3))
    (hpre : ∀ vm₁, s.WarmedH vm₁ → Pre ⟨T.setVm vm₁, locs, cells, slots⟩ (Value.ref b :: argsL).toArray) :
    ∃ (v : Option Value) (vm₁ : Vm) (B : Pt), s.WarmedH vm₁ ∧ Stand p l e R s m args below meth c B.U B.locs B.cells B.slots ∧ Post ⟨T.setVm vm₁, locs, cells, slots⟩ (Value.ref b :: argsL).toArray v B ∧
      ∀ target, Steps p.tables e below (B.U.setTop { g with pc := g.pc + 3, stack := v.toList ++ rest }) target → Steps p.tables e below (T.setTop g) target := by
  obtain ⟨mk, methM, hnamed, hmethM, hstM, habM⟩ := Cond.instanceMethod_spec hinst
  obtain ⟨m8, methM', cM, hn8, hmethM', -, -, -, -, -, -, hsigM⟩ := Cond.codeWith_spec hcode
  cases Option.some.inj (hn8.symm.trans hnamed)
  cases hmethM.symm.trans hmethM'
  obtain ⟨c2, r2, m2, q1, q2, q3, q4, kP, hkP, hkPi⟩ := Cond.selects_spec hsel
  cases hcls.symm.trans q1
  cases (State.methodFound?_of_named hnamed hy).symm.trans q2
  cases hnamed.symm.trans q3
  have hselP : selectMethod e.platform s.vm cellB.cls mk = .method mk := by rw [Launch.admits_selectMethod X.admits]; exact q4
  obtain ⟨vm₁, X₁, hstep₁⟩ := X.invokevirtual hexec hown hlink hnamed hmethM hstM hkP hkPi hy (a := b) (cell := cellB) hcell
    (fun z h => by rw [h] at hobj; cases hobj) hselP hmethM habM hkP hkPi (g := g) hg (argsL := argsL) (rest := rest) (hlen _ hsigM) hstack hdg
  obtain ⟨v, B, X', hpost, hsteps⟩ := hK m meth c ⟨T.setVm vm₁, locs, cells, slots⟩ { g with stack := rest } (.invokevirtual index) mk (Value.ref b :: argsL).toArray X₁ hg hsize hdg hW (X₁.named hnamed) (hpre vm₁ X₁.warmed)
  exact ⟨v, vm₁, B, X₁.warmed, X', hpost, fun target h => hstep₁ _ fun acts => by rw [doInvoke_state]; exact hsteps.trans h⟩
abbrev vx_CVW (R : Room) (s : State) (args : Array Value) (own C : String) (index : Nat) (y : MethodName) (bytes : ByteArray) (maxL : Nat) (ret : Option FieldType) (hh : List (Nat × Nat × Nat × Nat)) (ws : List Cond) (rm : Room) (mc ms n : Nat) : Prop :=
  (rm.cells = mc ∧ rm.slots = ms ∧ rm.frames + 1 ≤ R.frames ∧ 8 + (maxL + 11) + rm.locals ≤ R.locals ∧ (∀ w ∈ ws, ∀ (a' : Array Value) (U : State), s.WarmedH U.vm → w.before a' U = true) ∧ Cond.codeWith y bytes maxL ret hh ∈ ws) ∧
  (Cond.codeWith y bytes maxL ret hh).before args s = true ∧ (Cond.initialized y.cls).before args s = true ∧ (y.cls ≠ "java/lang/invoke/MethodHandle" ∧ y.cls ≠ "java/lang/invoke/VarHandle") ∧
  (∀ sig, parseMethodDescriptor y.desc = some sig → n = sig.parameters.length) ∧ (Cond.methodLink own index y).before args s = true ∧ (Cond.instanceMethod y).before args s = true ∧ (Cond.selects C y y).before args s = true
theorem vx_cwVW {own C : String} {index maxL mc ms : Nat} {y : MethodName} {bytes : ByteArray} {ret : Option FieldType} {hh : List (Nat × Nat × Nat × Nat)} {Ts ws ws' : List Cond} {rm : Room} (n : Nat) (ht : ∀ w ∈ Ts, w.before args s = true) (hT : GoodIn Ts (wsV own index C y ws)) (hw : ws = Cond.codeWith y bytes maxL ret hh :: ws') (hrc : rm.cells = mc) (hrs : rm.slots = ms)
    (hd : y.cls = C ∧ y.cls ≠ "java/lang/invoke/MethodHandle" ∧ y.cls ≠ "java/lang/invoke/VarHandle" ∧ (parseMethodDescriptor y.desc).map (fun d => d.parameters.length) = some n) (hR : rm.frames + 1 ≤ R.frames ∧ 8 + (maxL + 11) + rm.locals ≤ R.locals) :
    vx_CVW R s args own C index y bytes maxL ret hh ws rm mc ms n := by
  obtain ⟨hC, hd⟩ := hd
  subst hC
  have ok : ∀ w ∈ wsV own index y.cls y ws, w.before args s = true := fun w h => ht w (hT w h).1
  have hG : GoodIn Ts ws := fun w h => hT w (by unfold wsV; exact List.mem_append_right _ h)
  have hc : Cond.codeWith y bytes maxL ret hh ∈ ws := by rw [hw]; exact List.mem_cons_self
  refine ⟨⟨hrc, hrs, hR.1, hR.2, pay_in ht hG, hc⟩, ht _ (hG _ hc).1, ok _ (by simp [wsV]), ⟨hd.1, hd.2.1⟩, fun sig h => ?_, ok _ (by simp [wsV]), ok _ (by simp [wsV]), ok _ (by simp [wsV])⟩
  have h2 := hd.2.2
  rw [h] at h2
  exact (Option.some.inj h2).symm
theorem vx_runVW {y : MethodName} {bytes cc : ByteArray} {maxL nL mc ms n index : Nat} {ret : Option FieldType} {hh : List (Nat × Nat × Nat × Nat)} {ws : List Cond} {rm : Room} {Pc : Array Value → State → Prop} {Qc : Array Value → State → Outcome → State → Prop} {free : Addr → Prop} {Ts : List Cond} {own C : String} {b : Addr} {As rest : List Value} {g : JFrame}
    (S : CallFix p m c cc nL s args Ts own) (hM : Met l y ws rm Pc Qc mc ms free) (cw : vx_CVW R s args own C index y bytes maxL ret hh ws rm mc ms n) (hp : PreV s H C b Pc As)
    (hg : g.method = m) (hn : As.length = n) (hsize : g.locals.size = nL) (hstack : g.stack = As.reverse ++ .ref b :: rest) (hW : 2 * g.monitorRoom + (rest.map fun v => v.category).sum ≤ 8) (hdg : decode cc g.pc = .ok (.invokevirtual index, 3)) (hf : cells + mc ≤ R.cells ∧ slots + ms ≤ R.slots) :
    va_Run p l e R s m args below meth c H locs cells slots mc ms g rest (Qc (Value.ref b :: As).toArray) free := by
  obtain ⟨⟨hrc, hrs, hfr, hlo, hws, hcw⟩, hcode, hini, hy, hlen, hl, hin, hse⟩ := cw
  have hK : Back l R p e below s args y 3 8 (PreOf R mc ms Pc) (PostOf Qc mc ms free) := va_backW (hh := hh) (bytes := bytes) (maxL := maxL) (ret := ret) hM hp.1 hrc hrs hfr hlo hws hcw (fun a' U hW => word_at hW (Or.inl (by first | rfl | simp [Cond.onTables, Cond.keeps, Cond.steady])) hini)
  obtain ⟨hx, hb, hml, ho, -⟩ := S
  obtain ⟨-, ⟨cellB, hcB, hoB, hclB⟩, hPc⟩ := hp
  intro T hT X
  obtain ⟨v, vm₁, ⟨U', l2, c2, s2⟩, hW₁, X', ⟨g', mk, t, L, e1, e2, hq, h1, hL, h2, h3⟩, st⟩ := vx_callVW X hx (C := C) (hh := hh) (bytes := bytes) (maxL := maxL) (ret := ret) ho hl hin hse hcode hy hK (by rw [hT]; exact hcB) hoB hclB hg (hsize.trans hml.symm) (argsL := As) (rest := rest) (fun sig h => hn.trans (hlen sig h)) hstack hW (by rw [hb]; exact hdg)
    (fun vm₁ hW₁ => ⟨hf.1, hf.2, hPc (T.setVm vm₁) hT hW₁⟩)
  dsimp only [Pt.U, Pt.locs, Pt.cells, Pt.slots] at X' e1 e2 h1 h2 h3 st
  subst h1; subst h2; subst h3
  exact ⟨v, (T.setVm vm₁).calling g' mk (Value.ref b :: As).toArray, t, U', L, hT, X', hL, e1, e2, hq, st⟩
section
variable {y : MethodName} {bytes cc : ByteArray} {maxL nL mc ms n index : Nat} {ret : Option FieldType} {ws : List Cond} {rm : Room} {Pc : Array Value → State → Prop} {Qc : Array Value → State → Outcome → State → Prop} {XC : String → State → State → Prop} {free : Addr → Prop} {Ts : List Cond} {own C : String} {b : Addr} {As rest : List Value} {g : JFrame}
theorem vx_runVX {hh : List (Nat × Nat × Nat × Nat)} (S : CallFix p m c cc nL s args Ts own) (hM : vx_Met l y ws rm Pc Qc XC mc ms free) (cw : vx_CVW R s args own C index y bytes maxL ret hh ws rm mc ms n) (hp : PreV s H C b Pc As)
    (hg : g.method = m) (hn : As.length = n) (hsize : g.locals.size = nL) (hstack : g.stack = As.reverse ++ .ref b :: rest) (hW : 2 * g.monitorRoom + (rest.map fun v => v.category).sum ≤ 8) (hdg : decode cc g.pc = .ok (.invokevirtual index, 3)) (hf : cells + mc ≤ R.cells ∧ slots + ms ≤ R.slots) :
    vx_Run p l e R s m args below meth c H locs cells slots mc ms g rest (Qc (Value.ref b :: As).toArray) XC free := by
  obtain ⟨⟨hrc, hrs, hfr, hlo, hws, hcw⟩, hcode, hini, hy, hlen, hl, hin, hse⟩ := cw
  have hK : vx_Back l R p e below s args y 3 8 (PreOf R mc ms Pc) (PostOf Qc mc ms free) (vx_Post XC mc ms free) := vx_backW (hh := hh) (bytes := bytes) (maxL := maxL) (ret := ret) hM hp.1 hrc hrs hfr hlo hws hcw (fun a' U hW => word_at hW (Or.inl (by first | rfl | simp [Cond.onTables, Cond.keeps, Cond.steady])) hini)
  obtain ⟨hx, hb, hml, ho, -⟩ := S
  obtain ⟨-, ⟨cellB, hcB, hoB, hclB⟩, hPc⟩ := hp
  intro T hT X
  rcases vx_callVX X hx (C := C) (hh := hh) (bytes := bytes) (maxL := maxL) (ret := ret) ho hl hin hse hcode hy hK (by rw [hT]; exact hcB) hoB hclB hg (hsize.trans hml.symm) (argsL := As) (rest := rest) (fun sig h => hn.trans (hlen sig h)) hstack hW (by rw [hb]; exact hdg)
    (fun vm₁ hW₁ => ⟨hf.1, hf.2, hPc (T.setVm vm₁) hT hW₁⟩) with ⟨v, vm₁, ⟨U', l2, c2, s2⟩, hW₁, X', ⟨g', mk, t, L, e1, e2, hq, h1, hL, h2, h3⟩, st⟩ | ⟨q, vm₁, ⟨U', l2, c2, s2⟩, hW₁, X', ⟨g', mk, t, L, E, ce, e1, e2, hq, hce, hcv, hcl, h1, hL, h2, h3⟩, st⟩
  · dsimp only [Pt.U, Pt.locs, Pt.cells, Pt.slots] at X' e1 e2 h1 h2 h3 st
    subst h1; subst h2; subst h3
    exact Or.inl ⟨v, (T.setVm vm₁).calling g' mk (Value.ref b :: As).toArray, t, U', L, hT, X', hL, e1, e2, hq, st⟩
  · dsimp only [Pt.U, Pt.locs, Pt.cells, Pt.slots] at X' e1 e2 h1 h2 h3 st hcl
    subst h1; subst h2; subst h3
    exact Or.inr ⟨q, (T.setVm vm₁).calling g' mk (Value.ref b :: As).toArray, t, U', L, E, ce, hT, X', hL, e1, e2, hq, hce, hcv, vx_cls hW₁ hcl, st⟩
theorem vx_runSX {hh : List (Nat × Nat × Nat × Nat)} (S : CallFix p m c cc nL s args Ts own) (hM : vx_Met l y ws rm Pc Qc XC mc ms free) (cw : vx_CSW R s args own index y bytes maxL ret hh ws rm mc ms n) (hp : PreS s H Pc As)
    (hg : g.method = m) (hn : As.length = n) (hsize : g.locals.size = nL) (hstack : g.stack = As.reverse ++ rest) (hW : 2 * g.monitorRoom + (rest.map fun v => v.category).sum ≤ 8) (hdg : decode cc g.pc = .ok (.invokestatic index, 3)) (hf : cells + mc ≤ R.cells ∧ slots + ms ≤ R.slots) :
    vx_Run p l e R s m args below meth c H locs cells slots mc ms g rest (Qc As.toArray) XC free := by
  obtain ⟨⟨hrc, hrs, hfr, hlo, hws, hcw⟩, hcode, hini, hy, hlen, hl, hstt⟩ := cw
  have hK : vx_Back l R p e below s args y 3 8 (PreOf R mc ms Pc) (PostOf Qc mc ms free) (vx_Post XC mc ms free) := vx_backW (hh := hh) (bytes := bytes) (maxL := maxL) (ret := ret) hM hp.1 hrc hrs hfr hlo hws hcw (fun a' U hW => word_at hW (Or.inl (by first | rfl | simp [Cond.onTables, Cond.keeps, Cond.steady])) hini)
  obtain ⟨hx, hb, hml, ho, -⟩ := S
  intro T hT X
  rcases vx_callSX X hx (hh := hh) (bytes := bytes) (maxL := maxL) (ret := ret) ho hl hstt hini hcode hy hK hg (hsize.trans hml.symm) (argsL := As) (rest := rest) (fun sig h => hn.trans (hlen sig h)) hstack hW (by rw [hb]; exact hdg)
    (fun vm₁ hW₁ => ⟨hf.1, hf.2, hp.2 (T.setVm vm₁) hT hW₁⟩) with ⟨v, vm₁, ⟨U', l2, c2, s2⟩, hW₁, X', ⟨g', mk, t, L, e1, e2, hq, h1, hL, h2, h3⟩, st⟩ | ⟨q, vm₁, ⟨U', l2, c2, s2⟩, hW₁, X', ⟨g', mk, t, L, E, ce, e1, e2, hq, hce, hcv, hcl, h1, hL, h2, h3⟩, st⟩
  · dsimp only [Pt.U, Pt.locs, Pt.cells, Pt.slots] at X' e1 e2 h1 h2 h3 st
    subst h1; subst h2; subst h3
    exact Or.inl ⟨v, (T.setVm vm₁).calling g' mk As.toArray, t, U', L, hT, X', hL, e1, e2, hq, st⟩
  · dsimp only [Pt.U, Pt.locs, Pt.cells, Pt.slots] at X' e1 e2 h1 h2 h3 st hcl
    subst h1; subst h2; subst h3
    exact Or.inr ⟨q, (T.setVm vm₁).calling g' mk As.toArray, t, U', L, E, ce, hT, X', hL, e1, e2, hq, hce, hcv, vx_cls hW₁ hcl, st⟩
end
end VXH
theorem vx_ofWH {l : Launch} {y : MethodName} {ws ws' : List Cond} {rm : Room} {Pc : Array Value → State → Prop} {Qc : Array Value → State → Outcome → State → Prop} {XC : String → State → State → Prop} {mc ms : Nat} {free : Addr → Prop} {cc : ByteArray} {maxL : Nat} {ret : Option FieldType} {hh : List (Nat × Nat × Nat × Nat)}
    (hy : plainName y.cls = true) (hw : ws = Cond.codeWith y cc maxL ret hh :: ws')
    (body : ∀ p e s m args below meth c s₁, BodyLoose p l y (headSpec ws rm) cc maxL ret e s m args below meth c s₁ → c.maxLocals = maxL → Pc args s →
      W p l e (headSpec ws rm).room s m args below meth c s.heap [] 0 0 (vx_MQ below Qc XC args s mc ms free) (entryFrame m args maxL)) : vx_Met l y ws rm Pc Qc XC mc ms free := by
  refine MetFree.of_bodyS (code := cc) (maxLocals := maxL) (ret := ret) hy ?_ ?_
  · intro args s m h hn
    obtain ⟨m9, meth, c, hn9, h1, h2, h3, h4, -, h5, h6, -⟩ := Cond.codeWith_spec (atoms_spec (ws := ws) h _ (by rw [hw]; exact List.mem_cons_self))
    cases hn.symm.trans hn9
    exact ⟨meth, c, h1, h2, h3, h4, h5, h6⟩
  · intro p e s m args below meth c s₁ B hml hP _
    have hh0 : s₁.heap = s.heap := by rw [B.state]; rfl
    obtain ⟨t, a1, o, b1, b2, b3⟩ := body p e s m args below meth c s₁ B hml hP s₁ hh0 (Stand.of_body B)
    exact ⟨t, o, a1, b1, b2, b3⟩
/-! ===== END ===== -/

/-! ===== BEGIN printed: names, fields, word lists, decode rows ===== -/
def RX0 : String := "Kindcutter$Signs"
def TX0 : u_T := fun k => match k with
  | _ => ("", "", "", false)
def tyX0 : Nat → FieldType := fun k => match k with
  | _ => .int
abbrev wsX00 : List Cond := u_ws RX0 TX0 0
theorem nmX0 : ∀ a, a < 0 → ∀ b, b < 0 → a ≠ b → (TX0 a).2.1 ≠ (TX0 b).2.1 := by decide +kernel
theorem tyX0_ok : ∀ k, k < 0 → parseFieldDescriptor (TX0 k).2.2.1 = some (tyX0 k) := by decide +kernel
abbrev cX0_kindNumber : ByteArray := prog_2_method_2_code
def yX0_kindNumber : MethodName := ⟨RX0, "kindNumber", "(I)I"⟩
abbrev cX0_isSo : ByteArray := prog_2_method_3_code
def yX0_isSo : MethodName := ⟨RX0, "isSo", "(II)Z"⟩
abbrev cX0_isBlank : ByteArray := prog_2_method_4_code
def yX0_isBlank : MethodName := ⟨RX0, "isBlank", "(I)Z"⟩
abbrev cX0_isLet : ByteArray := prog_2_method_5_code
def yX0_isLet : MethodName := ⟨RX0, "isLet", "(IZ)Z"⟩
abbrev cX0_sortBegunBy : ByteArray := prog_2_method_6_code
def yX0_sortBegunBy : MethodName := ⟨RX0, "sortBegunBy", "(I)I"⟩
abbrev cX0_questionOfOthers : ByteArray := prog_2_method_7_code
def yX0_questionOfOthers : MethodName := ⟨RX0, "questionOfOthers", "(I)I"⟩
def RX1 : String := "Kindcutter$Text"
def TX1 : u_T := fun k => match k with
  | 0 => ("Kindcutter$Text", "row", "[B", true)
  | 1 => ("Kindcutter$Text", "many", "I", false)
  | _ => ("Kindcutter$Text", "byEnd", "[I", true)
def tyX1 : Nat → FieldType := fun k => match k with
  | 0 => .array .byte
  | 1 => .int
  | _ => .array .int
abbrev wsX10 : List Cond := u_ws RX1 TX1 3
theorem nmX1 : ∀ a, a < 3 → ∀ b, b < 3 → a ≠ b → (TX1 a).2.1 ≠ (TX1 b).2.1 := by decide +kernel
theorem tyX1_ok : ∀ k, k < 3 → parseFieldDescriptor (TX1 k).2.2.1 = some (tyX1 k) := by decide +kernel
abbrev cX1_init : ByteArray := prog_3_method_1_code
def yX1_init : MethodName := ⟨RX1, "<init>", "()V"⟩
abbrev cX1_size : ByteArray := prog_3_method_2_code
def yX1_size : MethodName := ⟨RX1, "size", "()I"⟩
abbrev cX1_signAt : ByteArray := prog_3_method_3_code
def yX1_signAt : MethodName := ⟨RX1, "signAt", "(I)I"⟩
abbrev cX1_kindAt : ByteArray := prog_3_method_4_code
def yX1_kindAt : MethodName := ⟨RX1, "kindAt", "(I)I"⟩
abbrev cX1_allPlaces : ByteArray := prog_3_method_5_code
def yX1_allPlaces : MethodName := ⟨RX1, "allPlaces", "()I"⟩
abbrev cX1_placesOf : ByteArray := prog_3_method_6_code
def yX1_placesOf : MethodName := ⟨RX1, "placesOf", "(I)I"⟩
abbrev cX1_placesOfKind : ByteArray := prog_3_method_7_code
def yX1_placesOfKind : MethodName := ⟨RX1, "placesOfKind", "(I)I"⟩
abbrev cX1_setSign : ByteArray := prog_3_method_8_code
def yX1_setSign : MethodName := ⟨RX1, "setSign", "(II)V"⟩
abbrev cX1_insertSign : ByteArray := prog_3_method_9_code
def yX1_insertSign : MethodName := ⟨RX1, "insertSign", "(II)V"⟩
abbrev cX1_retain : ByteArray := prog_3_method_10_code
def yX1_retain : MethodName := ⟨RX1, "retain", "(I)I"⟩
abbrev cX1_become : ByteArray := prog_3_method_11_code
def yX1_become : MethodName := ⟨RX1, "become", "(LKindcutter$Text;II)V"⟩
abbrev cX1_append : ByteArray := prog_3_method_12_code
def yX1_append : MethodName := ⟨RX1, "append", "(LKindcutter$Text;)V"⟩
abbrev cX1_reverse : ByteArray := prog_3_method_13_code
def yX1_reverse : MethodName := ⟨RX1, "reverse", "()Z"⟩
abbrev cX1_isNamed : ByteArray := prog_3_method_14_code
def yX1_isNamed : MethodName := ⟨RX1, "isNamed", "()Z"⟩
abbrev cX1_firstFault : ByteArray := prog_3_method_15_code
def yX1_firstFault : MethodName := ⟨RX1, "firstFault", "()I"⟩
abbrev cX1_longestAt : ByteArray := prog_3_method_16_code
def yX1_longestAt : MethodName := ⟨RX1, "longestAt", "(I)I"⟩
abbrev cX1_sortOf : ByteArray := prog_3_method_17_code
def yX1_sortOf : MethodName := ⟨RX1, "sortOf", "(II)I"⟩
abbrev cX1_begins : ByteArray := prog_3_method_18_code
def yX1_begins : MethodName := ⟨RX1, "begins", "()I"⟩
abbrev cX1_beginOf : ByteArray := prog_3_method_19_code
def yX1_beginOf : MethodName := ⟨RX1, "beginOf", "(I)I"⟩
abbrev cX1_backBegins : ByteArray := prog_3_method_20_code
def yX1_backBegins : MethodName := ⟨RX1, "backBegins", "()I"⟩
abbrev cX1_fewestPieces : ByteArray := prog_3_method_21_code
def yX1_fewestPieces : MethodName := ⟨RX1, "fewestPieces", "()I"⟩
abbrev cX1_piecesCutAt : ByteArray := prog_3_method_22_code
def yX1_piecesCutAt : MethodName := ⟨RX1, "piecesCutAt", "(I)I"⟩
abbrev cX1_isTextSound : ByteArray := prog_3_method_23_code
def yX1_isTextSound : MethodName := ⟨RX1, "isTextSound", "()Z"⟩
abbrev cX1_digestFrom : ByteArray := prog_3_method_24_code
def yX1_digestFrom : MethodName := ⟨RX1, "digestFrom", "(J)J"⟩
def RX2 : String := "Kindcutter"
def TX2 : u_T := fun k => match k with
  | 0 => ("Kindcutter", "texts", "[LKindcutter$Text;", true)
  | 1 => ("Kindcutter", "acts", "I", false)
  | 2 => ("Kindcutter", "refusals", "I", false)
  | _ => ("Kindcutter", "knocks", "I", false)
def tyX2 : Nat → FieldType := fun k => match k with
  | 0 => .array (.object "Kindcutter$Text")
  | 1 => .int
  | 2 => .int
  | _ => .int
abbrev wsX20 : List Cond := u_ws RX2 TX2 4
theorem nmX2 : ∀ a, a < 4 → ∀ b, b < 4 → a ≠ b → (TX2 a).2.1 ≠ (TX2 b).2.1 := by decide +kernel
theorem tyX2_ok : ∀ k, k < 4 → parseFieldDescriptor (TX2 k).2.2.1 = some (tyX2 k) := by decide +kernel
abbrev cX2_init : ByteArray := prog_1_method_1_code
def yX2_init : MethodName := ⟨RX2, "<init>", "()V"⟩
abbrev cX2_add : ByteArray := prog_1_method_2_code
def yX2_add : MethodName := ⟨RX2, "add", "(II)I"⟩
abbrev cX2_put : ByteArray := prog_1_method_3_code
def yX2_put : MethodName := ⟨RX2, "put", "(III)I"⟩
abbrev cX2_insert : ByteArray := prog_1_method_4_code
def yX2_insert : MethodName := ⟨RX2, "insert", "(III)I"⟩
abbrev cX2_drop : ByteArray := prog_1_method_5_code
def yX2_drop : MethodName := ⟨RX2, "drop", "(II)I"⟩
abbrev cX2_clear : ByteArray := prog_1_method_6_code
def yX2_clear : MethodName := ⟨RX2, "clear", "(I)I"⟩
abbrev cX2_copy : ByteArray := prog_1_method_7_code
def yX2_copy : MethodName := ⟨RX2, "copy", "(II)I"⟩
abbrev cX2_join : ByteArray := prog_1_method_8_code
def yX2_join : MethodName := ⟨RX2, "join", "(II)I"⟩
abbrev cX2_turn : ByteArray := prog_1_method_9_code
def yX2_turn : MethodName := ⟨RX2, "turn", "(I)I"⟩
abbrev cX2_fill : ByteArray := prog_1_method_10_code
def yX2_fill : MethodName := ⟨RX2, "fill", "(III)I"⟩
abbrev cX2_cut : ByteArray := prog_1_method_11_code
def yX2_cut : MethodName := ⟨RX2, "cut", "(III)I"⟩
abbrev cX2_keep : ByteArray := prog_1_method_12_code
def yX2_keep : MethodName := ⟨RX2, "keep", "(IIZ)I"⟩
abbrev cX2_keepKind : ByteArray := prog_1_method_13_code
def yX2_keepKind : MethodName := ⟨RX2, "keepKind", "(IIZ)I"⟩
abbrev cX2_take : ByteArray := prog_1_method_14_code
def yX2_take : MethodName := ⟨RX2, "take", "(III)I"⟩
abbrev cX2_mend : ByteArray := prog_1_method_15_code
def yX2_mend : MethodName := ⟨RX2, "mend", "(I)I"⟩
abbrev cX2_kind : ByteArray := prog_1_method_16_code
def yX2_kind : MethodName := ⟨RX2, "kind", "(I)I"⟩
abbrev cX2_ask : ByteArray := prog_1_method_17_code
def yX2_ask : MethodName := ⟨RX2, "ask", "(II)Z"⟩
abbrev cX2_all : ByteArray := prog_1_method_18_code
def yX2_all : MethodName := ⟨RX2, "all", "(I)I"⟩
abbrev cX2_nth : ByteArray := prog_1_method_19_code
def yX2_nth : MethodName := ⟨RX2, "nth", "(II)I"⟩
abbrev cX2_next : ByteArray := prog_1_method_20_code
def yX2_next : MethodName := ⟨RX2, "next", "(IIZ)I"⟩
abbrev cX2_run : ByteArray := prog_1_method_21_code
def yX2_run : MethodName := ⟨RX2, "run", "(II)I"⟩
abbrev cX2_ofKind : ByteArray := prog_1_method_22_code
def yX2_ofKind : MethodName := ⟨RX2, "ofKind", "(III)I"⟩
abbrev cX2_ofQuestion : ByteArray := prog_1_method_23_code
def yX2_ofQuestion : MethodName := ⟨RX2, "ofQuestion", "(III)I"⟩
abbrev cX2_kinds : ByteArray := prog_1_method_24_code
def yX2_kinds : MethodName := ⟨RX2, "kinds", "(II)I"⟩
abbrev cX2_both : ByteArray := prog_1_method_25_code
def yX2_both : MethodName := ⟨RX2, "both", "(II)I"⟩
abbrev cX2_within : ByteArray := prog_1_method_26_code
def yX2_within : MethodName := ⟨RX2, "within", "(II)Z"⟩
abbrev cX2_differ : ByteArray := prog_1_method_27_code
def yX2_differ : MethodName := ⟨RX2, "differ", "(III)I"⟩
abbrev cX2_length : ByteArray := prog_1_method_28_code
def yX2_length : MethodName := ⟨RX2, "length", "(I)I"⟩
abbrev cX2_sign : ByteArray := prog_1_method_29_code
def yX2_sign : MethodName := ⟨RX2, "sign", "(II)I"⟩
abbrev cX2_signs : ByteArray := prog_1_method_30_code
def yX2_signs : MethodName := ⟨RX2, "signs", "(I)Ljava/lang/String;"⟩
abbrev cX2_kindsOf : ByteArray := prog_1_method_31_code
def yX2_kindsOf : MethodName := ⟨RX2, "kindsOf", "(I)Ljava/lang/String;"⟩
abbrev cX2_count : ByteArray := prog_1_method_32_code
def yX2_count : MethodName := ⟨RX2, "count", "(II)I"⟩
abbrev cX2_countKind : ByteArray := prog_1_method_33_code
def yX2_countKind : MethodName := ⟨RX2, "countKind", "(II)I"⟩
abbrev cX2_isAll : ByteArray := prog_1_method_34_code
def yX2_isAll : MethodName := ⟨RX2, "isAll", "(II)Z"⟩
abbrev cX2_first : ByteArray := prog_1_method_35_code
def yX2_first : MethodName := ⟨RX2, "first", "(IIZ)I"⟩
abbrev cX2_alike : ByteArray := prog_1_method_36_code
def yX2_alike : MethodName := ⟨RX2, "alike", "(II)Z"⟩
abbrev cX2_isName : ByteArray := prog_1_method_37_code
def yX2_isName : MethodName := ⟨RX2, "isName", "(I)Z"⟩
abbrev cX2_fault : ByteArray := prog_1_method_38_code
def yX2_fault : MethodName := ⟨RX2, "fault", "(I)I"⟩
abbrev cX2_sort : ByteArray := prog_1_method_39_code
def yX2_sort : MethodName := ⟨RX2, "sort", "(III)I"⟩
abbrev cX2_longest : ByteArray := prog_1_method_40_code
def yX2_longest : MethodName := ⟨RX2, "longest", "(II)I"⟩
abbrev cX2_pieces : ByteArray := prog_1_method_41_code
def yX2_pieces : MethodName := ⟨RX2, "pieces", "(I)I"⟩
abbrev cX2_piece : ByteArray := prog_1_method_42_code
def yX2_piece : MethodName := ⟨RX2, "piece", "(III)I"⟩
abbrev cX2_sorts : ByteArray := prog_1_method_43_code
def yX2_sorts : MethodName := ⟨RX2, "sorts", "(I)Ljava/lang/String;"⟩
abbrev cX2_cuts : ByteArray := prog_1_method_44_code
def yX2_cuts : MethodName := ⟨RX2, "cuts", "(I)I"⟩
abbrev cX2_back : ByteArray := prog_1_method_45_code
def yX2_back : MethodName := ⟨RX2, "back", "(I)I"⟩
abbrev cX2_fewest : ByteArray := prog_1_method_46_code
def yX2_fewest : MethodName := ⟨RX2, "fewest", "(I)I"⟩
abbrev cX2_parted : ByteArray := prog_1_method_47_code
def yX2_parted : MethodName := ⟨RX2, "parted", "(II)I"⟩
abbrev cX2_house : ByteArray := prog_1_method_48_code
def yX2_house : MethodName := ⟨RX2, "house", "(I)I"⟩
abbrev cX2_knock : ByteArray := prog_1_method_49_code
def yX2_knock : MethodName := ⟨RX2, "knock", "()I"⟩
abbrev cX2_isSound : ByteArray := prog_1_method_50_code
def yX2_isSound : MethodName := ⟨RX2, "isSound", "()Z"⟩
abbrev cX2_digest : ByteArray := prog_1_method_51_code
def yX2_digest : MethodName := ⟨RX2, "digest", "()J"⟩
abbrev cX2_textAt : ByteArray := prog_1_method_52_code
def yX2_textAt : MethodName := ⟨RX2, "textAt", "(I)LKindcutter$Text;"⟩
abbrev cX2_checkPlace : ByteArray := prog_1_method_53_code
def yX2_checkPlace : MethodName := ⟨RX2, "checkPlace", "(LKindcutter$Text;I)V"⟩
abbrev cX2_checkSign : ByteArray := prog_1_method_54_code
def yX2_checkSign : MethodName := ⟨RX2, "checkSign", "(I)V"⟩
abbrev cX2_checkKind : ByteArray := prog_1_method_55_code
def yX2_checkKind : MethodName := ⟨RX2, "checkKind", "(I)V"⟩
abbrev cX2_checkQuestion : ByteArray := prog_1_method_56_code
def yX2_checkQuestion : MethodName := ⟨RX2, "checkQuestion", "(I)V"⟩
abbrev cX2_checkSpan : ByteArray := prog_1_method_57_code
def yX2_checkSpan : MethodName := ⟨RX2, "checkSpan", "(II)V"⟩
abbrev cX2_beginOfPiece : ByteArray := prog_1_method_58_code
def yX2_beginOfPiece : MethodName := ⟨RX2, "beginOfPiece", "(LKindcutter$Text;I)I"⟩
abbrev cX2_inserted : ByteArray := prog_1_method_59_code
def yX2_inserted : MethodName := ⟨RX2, "inserted", "(LKindcutter$Text;II)I"⟩
abbrev cX2_sifted : ByteArray := prog_1_method_60_code
def yX2_sifted : MethodName := ⟨RX2, "sifted", "(LKindcutter$Text;IZ)I"⟩
abbrev cX2_acted : ByteArray := prog_1_method_61_code
def yX2_acted : MethodName := ⟨RX2, "acted", "(I)I"⟩
abbrev cX2_refused : ByteArray := prog_1_method_62_code
def yX2_refused : MethodName := ⟨RX2, "refused", "()I"⟩
abbrev cX2_signsInAll : ByteArray := prog_1_method_63_code
def yX2_signsInAll : MethodName := ⟨RX2, "signsInAll", "()I"⟩
abbrev cX2_namesInAll : ByteArray := prog_1_method_64_code
def yX2_namesInAll : MethodName := ⟨RX2, "namesInAll", "()I"⟩
abbrev cX2_areKindsSound : ByteArray := prog_1_method_65_code
def yX2_areKindsSound : MethodName := ⟨RX2, "areKindsSound", "()Z"⟩
abbrev cX2_isIn : ByteArray := prog_1_method_66_code
def yX2_isIn : MethodName := ⟨RX2, "isIn", "(II)Z"⟩
abbrev cX2_cutsOf : ByteArray := prog_1_method_67_code
def yX2_cutsOf : MethodName := ⟨RX2, "cutsOf", "(I)I"⟩
abbrev cX2_appendNumber : ByteArray := prog_1_method_68_code
def yX2_appendNumber : MethodName := ⟨RX2, "appendNumber", "(Ljava/lang/StringBuilder;I)V"⟩
abbrev cX2_mixed : ByteArray := prog_1_method_69_code
def yX2_mixed : MethodName := ⟨RX2, "mixed", "(JI)J"⟩
def RX3 : String := "KindcutterLaw$Out"
def TX3 : u_T := fun k => match k with
  | 0 => ("KindcutterLaw$Out", "n", "J", false)
  | _ => ("KindcutterLaw$Out", "s", "Ljava/lang/String;", false)
def tyX3 : Nat → FieldType := fun k => match k with
  | 0 => .long
  | _ => .object "java/lang/String"
abbrev wsX30 : List Cond := u_ws RX3 TX3 2
theorem nmX3 : ∀ a, a < 2 → ∀ b, b < 2 → a ≠ b → (TX3 a).2.1 ≠ (TX3 b).2.1 := by decide +kernel
theorem tyX3_ok : ∀ k, k < 2 → parseFieldDescriptor (TX3 k).2.2.1 = some (tyX3 k) := by decide +kernel
abbrev cX3_init : ByteArray := prog_5_method_1_code
def yX3_init : MethodName := ⟨RX3, "<init>", "()V"⟩
def RX4 : String := "KindcutterModel"
def TX4 : u_T := fun k => match k with
  | 0 => ("KindcutterModel", "kinds", "[I", true)
  | 1 => ("KindcutterModel", "rows", "[[I", true)
  | 2 => ("KindcutterModel", "sizes", "[I", true)
  | 3 => ("KindcutterModel", "acts", "I", false)
  | 4 => ("KindcutterModel", "refused", "I", false)
  | 5 => ("KindcutterModel", "knocks", "I", false)
  | _ => ("KindcutterModel", "thrown", "I", false)
def tyX4 : Nat → FieldType := fun k => match k with
  | 0 => .array .int
  | 1 => .array (.array .int)
  | 2 => .array .int
  | 3 => .int
  | 4 => .int
  | 5 => .int
  | _ => .int
abbrev wsX40 : List Cond := u_ws RX4 TX4 7
theorem nmX4 : ∀ a, a < 7 → ∀ b, b < 7 → a ≠ b → (TX4 a).2.1 ≠ (TX4 b).2.1 := by decide +kernel
theorem tyX4_ok : ∀ k, k < 7 → parseFieldDescriptor (TX4 k).2.2.1 = some (tyX4 k) := by decide +kernel
abbrev cX4_init : ByteArray := prog_6_method_1_code
def yX4_init : MethodName := ⟨RX4, "<init>", "()V"⟩
abbrev cX4_told : ByteArray := prog_6_method_3_code
def yX4_told : MethodName := ⟨RX4, "told", "(III)V"⟩
abbrev cX4_letters : ByteArray := prog_6_method_4_code
def yX4_letters : MethodName := ⟨RX4, "letters", "()V"⟩
abbrev cX4_points : ByteArray := prog_6_method_5_code
def yX4_points : MethodName := ⟨RX4, "points", "()V"⟩
abbrev cX4_others : ByteArray := prog_6_method_6_code
def yX4_others : MethodName := ⟨RX4, "others", "()V"⟩
abbrev cX4_isLetter : ByteArray := prog_6_method_7_code
def yX4_isLetter : MethodName := ⟨RX4, "isLetter", "(I)Z"⟩
abbrev cX4_isBlank : ByteArray := prog_6_method_8_code
def yX4_isBlank : MethodName := ⟨RX4, "isBlank", "(I)Z"⟩
abbrev cX4_isSo : ByteArray := prog_6_method_9_code
def yX4_isSo : MethodName := ⟨RX4, "isSo", "(II)Z"⟩
abbrev cX4_areAll : ByteArray := prog_6_method_10_code
def yX4_areAll : MethodName := ⟨RX4, "areAll", "(IIII)Z"⟩
abbrev cX4_areSum : ByteArray := prog_6_method_11_code
def yX4_areSum : MethodName := ⟨RX4, "areSum", "(III)Z"⟩
abbrev cX4_sortOf : ByteArray := prog_6_method_12_code
def yX4_sortOf : MethodName := ⟨RX4, "sortOf", "(III)I"⟩
abbrev cX4_longestOf : ByteArray := prog_6_method_13_code
def yX4_longestOf : MethodName := ⟨RX4, "longestOf", "(II)I"⟩
abbrev cX4_begin : ByteArray := prog_6_method_14_code
def yX4_begin : MethodName := ⟨RX4, "begin", "(II)I"⟩
abbrev cX4_piecesOf : ByteArray := prog_6_method_15_code
def yX4_piecesOf : MethodName := ⟨RX4, "piecesOf", "(I)I"⟩
abbrev cX4_cutsOf : ByteArray := prog_6_method_16_code
def yX4_cutsOf : MethodName := ⟨RX4, "cutsOf", "(I)I"⟩
abbrev cX4_backOf : ByteArray := prog_6_method_17_code
def yX4_backOf : MethodName := ⟨RX4, "backOf", "(I)I"⟩
abbrev cX4_fewestOf : ByteArray := prog_6_method_18_code
def yX4_fewestOf : MethodName := ⟨RX4, "fewestOf", "(I)I"⟩
abbrev cX4_partedOf : ByteArray := prog_6_method_19_code
def yX4_partedOf : MethodName := ⟨RX4, "partedOf", "(II)I"⟩
abbrev cX4_faultOf : ByteArray := prog_6_method_20_code
def yX4_faultOf : MethodName := ⟨RX4, "faultOf", "(I)I"⟩
abbrev cX4_is : ByteArray := prog_6_method_21_code
def yX4_is : MethodName := ⟨RX4, "is", "(I)Z"⟩
abbrev cX4_isSign : ByteArray := prog_6_method_22_code
def yX4_isSign : MethodName := ⟨RX4, "isSign", "(I)Z"⟩
abbrev cX4_isQuestion : ByteArray := prog_6_method_23_code
def yX4_isQuestion : MethodName := ⟨RX4, "isQuestion", "(I)Z"⟩
abbrev cX4_isKind : ByteArray := prog_6_method_24_code
def yX4_isKind : MethodName := ⟨RX4, "isKind", "(I)Z"⟩
abbrev cX4_isPlace : ByteArray := prog_6_method_25_code
def yX4_isPlace : MethodName := ⟨RX4, "isPlace", "(II)Z"⟩
abbrev cX4_isThrown : ByteArray := prog_6_method_26_code
def yX4_isThrown : MethodName := ⟨RX4, "isThrown", "(ZZ)Z"⟩
abbrev cX4_isThrown_ : ByteArray := prog_6_method_27_code
def yX4_isThrown_ : MethodName := ⟨RX4, "isThrown", "(Z)Z"⟩
abbrev cX4_done : ByteArray := prog_6_method_28_code
def yX4_done : MethodName := ⟨RX4, "done", "(I)I"⟩
abbrev cX4_no : ByteArray := prog_6_method_29_code
def yX4_no : MethodName := ⟨RX4, "no", "()I"⟩
abbrev cX4_become : ByteArray := prog_6_method_30_code
def yX4_become : MethodName := ⟨RX4, "become", "(I[II)V"⟩
abbrev cX4_add : ByteArray := prog_6_method_31_code
def yX4_add : MethodName := ⟨RX4, "add", "(II)I"⟩
abbrev cX4_put : ByteArray := prog_6_method_32_code
def yX4_put : MethodName := ⟨RX4, "put", "(III)I"⟩
abbrev cX4_insert : ByteArray := prog_6_method_33_code
def yX4_insert : MethodName := ⟨RX4, "insert", "(III)I"⟩
abbrev cX4_drop : ByteArray := prog_6_method_34_code
def yX4_drop : MethodName := ⟨RX4, "drop", "(II)I"⟩
abbrev cX4_clear : ByteArray := prog_6_method_35_code
def yX4_clear : MethodName := ⟨RX4, "clear", "(I)I"⟩
abbrev cX4_copy : ByteArray := prog_6_method_36_code
def yX4_copy : MethodName := ⟨RX4, "copy", "(II)I"⟩
abbrev cX4_join : ByteArray := prog_6_method_37_code
def yX4_join : MethodName := ⟨RX4, "join", "(II)I"⟩
abbrev cX4_turn : ByteArray := prog_6_method_38_code
def yX4_turn : MethodName := ⟨RX4, "turn", "(I)I"⟩
abbrev cX4_fill : ByteArray := prog_6_method_39_code
def yX4_fill : MethodName := ⟨RX4, "fill", "(III)I"⟩
abbrev cX4_cut : ByteArray := prog_6_method_40_code
def yX4_cut : MethodName := ⟨RX4, "cut", "(III)I"⟩
abbrev cX4_sifted : ByteArray := prog_6_method_41_code
def yX4_sifted : MethodName := ⟨RX4, "sifted", "(I[Z)I"⟩
abbrev cX4_keep : ByteArray := prog_6_method_42_code
def yX4_keep : MethodName := ⟨RX4, "keep", "(IIZ)I"⟩
abbrev cX4_keepKind : ByteArray := prog_6_method_43_code
def yX4_keepKind : MethodName := ⟨RX4, "keepKind", "(IIZ)I"⟩
abbrev cX4_take : ByteArray := prog_6_method_44_code
def yX4_take : MethodName := ⟨RX4, "take", "(III)I"⟩
abbrev cX4_mend : ByteArray := prog_6_method_45_code
def yX4_mend : MethodName := ⟨RX4, "mend", "(I)I"⟩
abbrev cX4_kind : ByteArray := prog_6_method_46_code
def yX4_kind : MethodName := ⟨RX4, "kind", "(I)I"⟩
abbrev cX4_ask : ByteArray := prog_6_method_47_code
def yX4_ask : MethodName := ⟨RX4, "ask", "(II)Z"⟩
abbrev cX4_all : ByteArray := prog_6_method_48_code
def yX4_all : MethodName := ⟨RX4, "all", "(I)I"⟩
abbrev cX4_nth : ByteArray := prog_6_method_49_code
def yX4_nth : MethodName := ⟨RX4, "nth", "(II)I"⟩
abbrev cX4_next : ByteArray := prog_6_method_50_code
def yX4_next : MethodName := ⟨RX4, "next", "(IIZ)I"⟩
abbrev cX4_run : ByteArray := prog_6_method_51_code
def yX4_run : MethodName := ⟨RX4, "run", "(II)I"⟩
abbrev cX4_isSpan : ByteArray := prog_6_method_52_code
def yX4_isSpan : MethodName := ⟨RX4, "isSpan", "(II)Z"⟩
abbrev cX4_ofKind : ByteArray := prog_6_method_53_code
def yX4_ofKind : MethodName := ⟨RX4, "ofKind", "(III)I"⟩
abbrev cX4_ofQuestion : ByteArray := prog_6_method_54_code
def yX4_ofQuestion : MethodName := ⟨RX4, "ofQuestion", "(III)I"⟩
abbrev cX4_kinds : ByteArray := prog_6_method_55_code
def yX4_kinds : MethodName := ⟨RX4, "kinds", "(II)I"⟩
abbrev cX4_both : ByteArray := prog_6_method_56_code
def yX4_both : MethodName := ⟨RX4, "both", "(II)I"⟩
abbrev cX4_within : ByteArray := prog_6_method_57_code
def yX4_within : MethodName := ⟨RX4, "within", "(II)Z"⟩
abbrev cX4_differ : ByteArray := prog_6_method_58_code
def yX4_differ : MethodName := ⟨RX4, "differ", "(III)I"⟩
abbrev cX4_length : ByteArray := prog_6_method_59_code
def yX4_length : MethodName := ⟨RX4, "length", "(I)I"⟩
abbrev cX4_sign : ByteArray := prog_6_method_60_code
def yX4_sign : MethodName := ⟨RX4, "sign", "(II)I"⟩
abbrev cX4_joined : ByteArray := prog_6_method_61_code
def yX4_joined : MethodName := ⟨RX4, "joined", "(IZ)Ljava/lang/String;"⟩
abbrev cX4_signs : ByteArray := prog_6_method_62_code
def yX4_signs : MethodName := ⟨RX4, "signs", "(I)Ljava/lang/String;"⟩
abbrev cX4_kindsOf : ByteArray := prog_6_method_63_code
def yX4_kindsOf : MethodName := ⟨RX4, "kindsOf", "(I)Ljava/lang/String;"⟩
abbrev cX4_countOf : ByteArray := prog_6_method_64_code
def yX4_countOf : MethodName := ⟨RX4, "countOf", "(II)I"⟩
abbrev cX4_count : ByteArray := prog_6_method_65_code
def yX4_count : MethodName := ⟨RX4, "count", "(II)I"⟩
abbrev cX4_countKind : ByteArray := prog_6_method_66_code
def yX4_countKind : MethodName := ⟨RX4, "countKind", "(II)I"⟩
abbrev cX4_isAll : ByteArray := prog_6_method_67_code
def yX4_isAll : MethodName := ⟨RX4, "isAll", "(II)Z"⟩
abbrev cX4_first : ByteArray := prog_6_method_68_code
def yX4_first : MethodName := ⟨RX4, "first", "(IIZ)I"⟩
abbrev cX4_alike : ByteArray := prog_6_method_69_code
def yX4_alike : MethodName := ⟨RX4, "alike", "(II)Z"⟩
abbrev cX4_isNameNow : ByteArray := prog_6_method_70_code
def yX4_isNameNow : MethodName := ⟨RX4, "isNameNow", "(I)Z"⟩
abbrev cX4_isName : ByteArray := prog_6_method_71_code
def yX4_isName : MethodName := ⟨RX4, "isName", "(I)Z"⟩
abbrev cX4_fault : ByteArray := prog_6_method_72_code
def yX4_fault : MethodName := ⟨RX4, "fault", "(I)I"⟩
abbrev cX4_sort : ByteArray := prog_6_method_73_code
def yX4_sort : MethodName := ⟨RX4, "sort", "(III)I"⟩
abbrev cX4_longest : ByteArray := prog_6_method_74_code
def yX4_longest : MethodName := ⟨RX4, "longest", "(II)I"⟩
abbrev cX4_pieces : ByteArray := prog_6_method_75_code
def yX4_pieces : MethodName := ⟨RX4, "pieces", "(I)I"⟩
abbrev cX4_piece : ByteArray := prog_6_method_76_code
def yX4_piece : MethodName := ⟨RX4, "piece", "(III)I"⟩
abbrev cX4_sorts : ByteArray := prog_6_method_77_code
def yX4_sorts : MethodName := ⟨RX4, "sorts", "(I)Ljava/lang/String;"⟩
abbrev cX4_cuts : ByteArray := prog_6_method_78_code
def yX4_cuts : MethodName := ⟨RX4, "cuts", "(I)I"⟩
abbrev cX4_back : ByteArray := prog_6_method_79_code
def yX4_back : MethodName := ⟨RX4, "back", "(I)I"⟩
abbrev cX4_fewest : ByteArray := prog_6_method_80_code
def yX4_fewest : MethodName := ⟨RX4, "fewest", "(I)I"⟩
abbrev cX4_parted : ByteArray := prog_6_method_81_code
def yX4_parted : MethodName := ⟨RX4, "parted", "(II)I"⟩
abbrev cX4_houseNow : ByteArray := prog_6_method_82_code
def yX4_houseNow : MethodName := ⟨RX4, "houseNow", "(I)I"⟩
abbrev cX4_house : ByteArray := prog_6_method_83_code
def yX4_house : MethodName := ⟨RX4, "house", "(I)I"⟩
abbrev cX4_knock : ByteArray := prog_6_method_84_code
def yX4_knock : MethodName := ⟨RX4, "knock", "()I"⟩
abbrev cX4_isSoundNow : ByteArray := prog_6_method_85_code
def yX4_isSoundNow : MethodName := ⟨RX4, "isSoundNow", "()Z"⟩
abbrev cX4_isSound : ByteArray := prog_6_method_86_code
def yX4_isSound : MethodName := ⟨RX4, "isSound", "()Z"⟩
abbrev cX4_digest : ByteArray := prog_6_method_87_code
def yX4_digest : MethodName := ⟨RX4, "digest", "()J"⟩
def RJ5 : String := "java/lang/AbstractStringBuilder"
def TJ5 : u_T := fun k => match k with
  | _ => ("", "", "", false)
def tyJ5 : Nat → FieldType := fun k => match k with
  | _ => .int
abbrev wsJ50 : List Cond := u_ws RJ5 TJ5 0
theorem nmJ5 : ∀ a, a < 0 → ∀ b, b < 0 → a ≠ b → (TJ5 a).2.1 ≠ (TJ5 b).2.1 := by decide +kernel
theorem tyJ5_ok : ∀ k, k < 0 → parseFieldDescriptor (TJ5 k).2.2.1 = some (tyJ5 k) := by decide +kernel
abbrev cJ5_init_d00df : ByteArray := prog_7_method_2_code
def yJ5_init_d00df : MethodName := ⟨RJ5, "<init>", "(I)V"⟩
abbrev cJ5_length_8abf5 : ByteArray := prog_7_method_6_code
def yJ5_length_8abf5 : MethodName := ⟨RJ5, "length", "()I"⟩
abbrev cJ5_ensureCapacityInternal_d00df : ByteArray := prog_7_method_9_code
def yJ5_ensureCapacityInternal_d00df : MethodName := ⟨RJ5, "ensureCapacityInternal", "(I)V"⟩
abbrev cJ5_newCapacity_0f7a4 : ByteArray := prog_7_method_10_code
def yJ5_newCapacity_0f7a4 : MethodName := ⟨RJ5, "newCapacity", "(I)I"⟩
abbrev cJ5_inflate_da8c8 : ByteArray := prog_7_method_11_code
def yJ5_inflate_da8c8 : MethodName := ⟨RJ5, "inflate", "()V"⟩
abbrev cJ5_append_cf1ce : ByteArray := prog_7_method_22_code
def yJ5_append_cf1ce : MethodName := ⟨RJ5, "append", "(Ljava/lang/String;)Ljava/lang/AbstractStringBuilder;"⟩
abbrev cJ5_appendNull_278bc : ByteArray := prog_7_method_26_code
def yJ5_appendNull_278bc : MethodName := ⟨RJ5, "appendNull", "()Ljava/lang/AbstractStringBuilder;"⟩
abbrev cJ5_append_3fe6f : ByteArray := prog_7_method_31_code
def yJ5_append_3fe6f : MethodName := ⟨RJ5, "append", "(C)Ljava/lang/AbstractStringBuilder;"⟩
abbrev cJ5_append_c97b9 : ByteArray := prog_7_method_32_code
def yJ5_append_c97b9 : MethodName := ⟨RJ5, "append", "(I)Ljava/lang/AbstractStringBuilder;"⟩
abbrev cJ5_getValue_6d5f1 : ByteArray := prog_7_method_64_code
def yJ5_getValue_6d5f1 : MethodName := ⟨RJ5, "getValue", "()[B"⟩
abbrev cJ5_isLatin1_aae02 : ByteArray := prog_7_method_68_code
def yJ5_isLatin1_aae02 : MethodName := ⟨RJ5, "isLatin1", "()Z"⟩
abbrev cJ5_inflateIfNeededFor_a7421 : ByteArray := prog_7_method_71_code
def yJ5_inflateIfNeededFor_a7421 : MethodName := ⟨RJ5, "inflateIfNeededFor", "(Ljava/lang/String;)V"⟩
abbrev cJ5_putStringAt_47b60 : ByteArray := prog_7_method_73_code
def yJ5_putStringAt_47b60 : MethodName := ⟨RJ5, "putStringAt", "(ILjava/lang/String;)V"⟩
def RJx8e188 : String := "java/lang/Cloneable"
def TJx8e188 : u_T := fun k => match k with
  | _ => ("", "", "", false)
def tyJx8e188 : Nat → FieldType := fun k => match k with
  | _ => .int
abbrev wsJx8e1880 : List Cond := u_ws RJx8e188 TJx8e188 0
theorem nmJx8e188 : ∀ a, a < 0 → ∀ b, b < 0 → a ≠ b → (TJx8e188 a).2.1 ≠ (TJx8e188 b).2.1 := by decide +kernel
theorem tyJx8e188_ok : ∀ k, k < 0 → parseFieldDescriptor (TJx8e188 k).2.2.1 = some (tyJx8e188 k) := by decide +kernel
def RJ6 : String := "java/lang/Integer"
def TJ6 : u_T := fun k => match k with
  | _ => ("", "", "", false)
def tyJ6 : Nat → FieldType := fun k => match k with
  | _ => .int
abbrev wsJ60 : List Cond := u_ws RJ6 TJ6 0
theorem nmJ6 : ∀ a, a < 0 → ∀ b, b < 0 → a ≠ b → (TJ6 a).2.1 ≠ (TJ6 b).2.1 := by decide +kernel
theorem tyJ6_ok : ∀ k, k < 0 → parseFieldDescriptor (TJ6 k).2.2.1 = some (tyJ6 k) := by decide +kernel
abbrev cJ6_getChars_ba4f3 : ByteArray := prog_12_method_12_code
def yJ6_getChars_ba4f3 : MethodName := ⟨RJ6, "getChars", "(II[B)I"⟩
abbrev cJ6_stringSize_0f7a4 : ByteArray := prog_12_method_13_code
def yJ6_stringSize_0f7a4 : MethodName := ⟨RJ6, "stringSize", "(I)I"⟩
abbrev cJ6_bitCount_0f7a4 : ByteArray := prog_12_method_49_code
def yJ6_bitCount_0f7a4 : MethodName := ⟨RJ6, "bitCount", "(I)I"⟩
def RJ9 : String := "java/lang/Math"
def TJ9 : u_T := fun k => match k with
  | _ => ("", "", "", false)
def tyJ9 : Nat → FieldType := fun k => match k with
  | _ => .int
abbrev wsJ90 : List Cond := u_ws RJ9 TJ9 0
theorem nmJ9 : ∀ a, a < 0 → ∀ b, b < 0 → a ≠ b → (TJ9 a).2.1 ≠ (TJ9 b).2.1 := by decide +kernel
theorem tyJ9_ok : ∀ k, k < 0 → parseFieldDescriptor (TJ9 k).2.2.1 = some (tyJ9 k) := by decide +kernel
abbrev cJ9_max_7cf53 : ByteArray := prog_13_method_65_code
def yJ9_max_7cf53 : MethodName := ⟨RJ9, "max", "(II)I"⟩
abbrev cJ9_min_7cf53 : ByteArray := prog_13_method_69_code
def yJ9_min_7cf53 : MethodName := ⟨RJ9, "min", "(II)I"⟩
def RJ0 : String := "java/lang/String"
def TJ0 : u_T := fun k => match k with
  | 0 => ("java/lang/String", "value", "[B", true)
  | 1 => ("java/lang/String", "coder", "B", true)
  | 2 => ("java/lang/String", "hash", "I", false)
  | _ => ("java/lang/String", "hashIsZero", "Z", false)
def tyJ0 : Nat → FieldType := fun k => match k with
  | 0 => .array .byte
  | 1 => .byte
  | 2 => .int
  | _ => .boolean
abbrev wsJ00 : List Cond := u_ws RJ0 TJ0 4
theorem nmJ0 : ∀ a, a < 4 → ∀ b, b < 4 → a ≠ b → (TJ0 a).2.1 ≠ (TJ0 b).2.1 := by decide +kernel
theorem tyJ0_ok : ∀ k, k < 4 → parseFieldDescriptor (TJ0 k).2.2.1 = some (tyJ0 k) := by decide +kernel
abbrev cJ0_init_81219 : ByteArray := prog_15_method_53_code
def yJ0_init_81219 : MethodName := ⟨RJ0, "<init>", "(Ljava/lang/StringBuilder;)V"⟩
abbrev cJ0_length_8abf5 : ByteArray := prog_15_method_54_code
def yJ0_length_8abf5 : MethodName := ⟨RJ0, "length", "()I"⟩
abbrev cJ0_getBytes_840e7 : ByteArray := prog_15_method_147_code
def yJ0_getBytes_840e7 : MethodName := ⟨RJ0, "getBytes", "([BIB)V"⟩
abbrev cJ0_init_db425 : ByteArray := prog_15_method_150_code
def yJ0_init_db425 : MethodName := ⟨RJ0, "<init>", "(Ljava/lang/AbstractStringBuilder;Ljava/lang/Void;)V"⟩
abbrev cJ0_coder_7d493 : ByteArray := prog_15_method_152_code
def yJ0_coder_7d493 : MethodName := ⟨RJ0, "coder", "()B"⟩
abbrev cJ0_checkIndex_df160 : ByteArray := prog_15_method_155_code
def yJ0_checkIndex_df160 : MethodName := ⟨RJ0, "checkIndex", "(II)V"⟩
abbrev cJ0_checkBoundsOffCount_cabcc : ByteArray := prog_15_method_157_code
def yJ0_checkBoundsOffCount_cabcc : MethodName := ⟨RJ0, "checkBoundsOffCount", "(III)I"⟩
abbrev cJ0_checkBoundsBeginEnd_23922 : ByteArray := prog_15_method_158_code
def yJ0_checkBoundsBeginEnd_23922 : MethodName := ⟨RJ0, "checkBoundsBeginEnd", "(III)V"⟩
def RJ4 : String := "java/lang/StringBuilder"
def TJ4 : u_T := fun k => match k with
  | 0 => ("java/lang/AbstractStringBuilder", "value", "[B", false)
  | 1 => ("java/lang/AbstractStringBuilder", "coder", "B", false)
  | 2 => ("java/lang/AbstractStringBuilder", "maybeLatin1", "Z", false)
  | _ => ("java/lang/AbstractStringBuilder", "count", "I", false)
def tyJ4 : Nat → FieldType := fun k => match k with
  | 0 => .array .byte
  | 1 => .byte
  | 2 => .boolean
  | _ => .int
abbrev wsJ40 : List Cond := u_ws RJ4 TJ4 4
theorem nmJ4 : ∀ a, a < 4 → ∀ b, b < 4 → a ≠ b → (TJ4 a).2.1 ≠ (TJ4 b).2.1 := by decide +kernel
theorem tyJ4_ok : ∀ k, k < 4 → parseFieldDescriptor (TJ4 k).2.2.1 = some (tyJ4 k) := by decide +kernel
abbrev cJ4_init_da8c8 : ByteArray := prog_16_method_1_code
def yJ4_init_da8c8 : MethodName := ⟨RJ4, "<init>", "()V"⟩
abbrev cJ4_append_15ec4 : ByteArray := prog_16_method_7_code
def yJ4_append_15ec4 : MethodName := ⟨RJ4, "append", "(Ljava/lang/String;)Ljava/lang/StringBuilder;"⟩
abbrev cJ4_append_cf468 : ByteArray := prog_16_method_14_code
def yJ4_append_cf468 : MethodName := ⟨RJ4, "append", "(C)Ljava/lang/StringBuilder;"⟩
abbrev cJ4_append_bf812 : ByteArray := prog_16_method_15_code
def yJ4_append_bf812 : MethodName := ⟨RJ4, "append", "(I)Ljava/lang/StringBuilder;"⟩
abbrev cJ4_toString_0e30d : ByteArray := prog_16_method_42_code
def yJ4_toString_0e30d : MethodName := ⟨RJ4, "toString", "()Ljava/lang/String;"⟩
abbrev cJ4_length_8abf5 : ByteArray := prog_16_method_93_code
def yJ4_length_8abf5 : MethodName := ⟨RJ4, "length", "()I"⟩
def RJ1 : String := "java/lang/StringLatin1"
def TJ1 : u_T := fun k => match k with
  | _ => ("", "", "", false)
def tyJ1 : Nat → FieldType := fun k => match k with
  | _ => .int
abbrev wsJ10 : List Cond := u_ws RJ1 TJ1 0
theorem nmJ1 : ∀ a, a < 0 → ∀ b, b < 0 → a ≠ b → (TJ1 a).2.1 ≠ (TJ1 b).2.1 := by decide +kernel
theorem tyJ1_ok : ∀ k, k < 0 → parseFieldDescriptor (TJ1 k).2.2.1 = some (tyJ1 k) := by decide +kernel
abbrev cJ1_canEncode_fc78d : ByteArray := prog_17_method_3_code
def yJ1_canEncode_fc78d : MethodName := ⟨RJ1, "canEncode", "(C)Z"⟩
abbrev cJ1_inflate_0e8fd : ByteArray := prog_17_method_50_code
def yJ1_inflate_0e8fd : MethodName := ⟨RJ1, "inflate", "([BI[BII)V"⟩
def RJ2 : String := "java/lang/StringUTF16"
def TJ2 : u_T := fun k => match k with
  | _ => ("", "", "", false)
def tyJ2 : Nat → FieldType := fun k => match k with
  | _ => .int
abbrev wsJ20 : List Cond := u_ws RJ2 TJ2 0
theorem nmJ2 : ∀ a, a < 0 → ∀ b, b < 0 → a ≠ b → (TJ2 a).2.1 ≠ (TJ2 b).2.1 := by decide +kernel
theorem tyJ2_ok : ∀ k, k < 0 → parseFieldDescriptor (TJ2 k).2.2.1 = some (tyJ2 k) := by decide +kernel
abbrev cJ2_newBytesFor_77867 : ByteArray := prog_18_method_2_code
def yJ2_newBytesFor_77867 : MethodName := ⟨RJ2, "newBytesFor", "(I)[B"⟩
abbrev cJ2_newBytesLength_0f7a4 : ByteArray := prog_18_method_3_code
def yJ2_newBytesLength_0f7a4 : MethodName := ⟨RJ2, "newBytesLength", "(I)I"⟩
abbrev cJ2_putChar_b72d1 : ByteArray := prog_18_method_4_code
def yJ2_putChar_b72d1 : MethodName := ⟨RJ2, "putChar", "([BII)V"⟩
abbrev cJ2_getChar_3b067 : ByteArray := prog_18_method_5_code
def yJ2_getChar_3b067 : MethodName := ⟨RJ2, "getChar", "([BI)C"⟩
abbrev cJ2_length_9d52b : ByteArray := prog_18_method_6_code
def yJ2_length_9d52b : MethodName := ⟨RJ2, "length", "([B)I"⟩
abbrev cJ2_coderFromArrayLen_85cad : ByteArray := prog_18_method_15_code
def yJ2_coderFromArrayLen_85cad : MethodName := ⟨RJ2, "coderFromArrayLen", "([BI)B"⟩
abbrev cJ2_compress_39247 : ByteArray := prog_18_method_17_code
def yJ2_compress_39247 : MethodName := ⟨RJ2, "compress", "([BII)[B"⟩
abbrev cJ2_compress_5af95 : ByteArray := prog_18_method_22_code
def yJ2_compress_5af95 : MethodName := ⟨RJ2, "compress", "([BI[BII)I"⟩
abbrev cJ2_putCharSB_b72d1 : ByteArray := prog_18_method_71_code
def yJ2_putCharSB_b72d1 : MethodName := ⟨RJ2, "putCharSB", "([BII)V"⟩
abbrev cJ2_getChars_46870 : ByteArray := prog_18_method_77_code
def yJ2_getChars_46870 : MethodName := ⟨RJ2, "getChars", "(III[B)I"⟩
abbrev cJ2_putCharsAt_cd4e5 : ByteArray := prog_18_method_81_code
def yJ2_putCharsAt_cd4e5 : MethodName := ⟨RJ2, "putCharsAt", "([BICCCC)I"⟩
abbrev cJ2_inflate_0e8fd : ByteArray := prog_18_method_86_code
def yJ2_inflate_0e8fd : MethodName := ⟨RJ2, "inflate", "([BI[BII)V"⟩
abbrev cJ2_getChars_ba4f3 : ByteArray := prog_18_method_89_code
def yJ2_getChars_ba4f3 : MethodName := ⟨RJ2, "getChars", "(II[B)I"⟩
abbrev cJ2_checkIndex_2214a : ByteArray := prog_18_method_91_code
def yJ2_checkIndex_2214a : MethodName := ⟨RJ2, "checkIndex", "(I[B)V"⟩
abbrev cJ2_checkBoundsBeginEnd_d044e : ByteArray := prog_18_method_93_code
def yJ2_checkBoundsBeginEnd_d044e : MethodName := ⟨RJ2, "checkBoundsBeginEnd", "(II[B)V"⟩
abbrev cJ2_checkBoundsOffCount_d044e : ByteArray := prog_18_method_94_code
def yJ2_checkBoundsOffCount_d044e : MethodName := ⟨RJ2, "checkBoundsOffCount", "(II[B)V"⟩
def RJ10 : String := "java/lang/System"
def TJ10 : u_T := fun k => match k with
  | _ => ("", "", "", false)
def tyJ10 : Nat → FieldType := fun k => match k with
  | _ => .int
abbrev wsJ100 : List Cond := u_ws RJ10 TJ10 0
theorem nmJ10 : ∀ a, a < 0 → ∀ b, b < 0 → a ≠ b → (TJ10 a).2.1 ≠ (TJ10 b).2.1 := by decide +kernel
theorem tyJ10_ok : ∀ k, k < 0 → parseFieldDescriptor (TJ10 k).2.2.1 = some (tyJ10 k) := by decide +kernel
def RJ7 : String := "java/util/Arrays"
def TJ7 : u_T := fun k => match k with
  | _ => ("", "", "", false)
def tyJ7 : Nat → FieldType := fun k => match k with
  | _ => .int
abbrev wsJ70 : List Cond := u_ws RJ7 TJ7 0
theorem nmJ7 : ∀ a, a < 0 → ∀ b, b < 0 → a ≠ b → (TJ7 a).2.1 ≠ (TJ7 b).2.1 := by decide +kernel
theorem tyJ7_ok : ∀ k, k < 0 → parseFieldDescriptor (TJ7 k).2.2.1 = some (tyJ7 k) := by decide +kernel
abbrev cJ7_copyOf_9075b : ByteArray := prog_21_method_121_code
def yJ7_copyOf_9075b : MethodName := ⟨RJ7, "copyOf", "([BI)[B"⟩
abbrev cJ7_checkLength_df160 : ByteArray := prog_21_method_131_code
def yJ7_checkLength_df160 : MethodName := ⟨RJ7, "checkLength", "(II)V"⟩
abbrev cJ7_copyOfRange_39247 : ByteArray := prog_21_method_132_code
def yJ7_copyOfRange_39247 : MethodName := ⟨RJ7, "copyOfRange", "([BII)[B"⟩
abbrev cJ7_copyOfRangeByte_39247 : ByteArray := prog_21_method_133_code
def yJ7_copyOfRangeByte_39247 : MethodName := ⟨RJ7, "copyOfRangeByte", "([BII)[B"⟩
def RJ8 : String := "jdk/internal/util/ArraysSupport"
def TJ8 : u_T := fun k => match k with
  | _ => ("", "", "", false)
def tyJ8 : Nat → FieldType := fun k => match k with
  | _ => .int
abbrev wsJ80 : List Cond := u_ws RJ8 TJ8 0
theorem nmJ8 : ∀ a, a < 0 → ∀ b, b < 0 → a ≠ b → (TJ8 a).2.1 ≠ (TJ8 b).2.1 := by decide +kernel
theorem tyJ8_ok : ∀ k, k < 0 → parseFieldDescriptor (TJ8 k).2.2.1 = some (tyJ8 k) := by decide +kernel
abbrev cJ8_newLength_cabcc : ByteArray := prog_22_method_27_code
def yJ8_newLength_cabcc : MethodName := ⟨RJ8, "newLength", "(III)I"⟩
abbrev cJ8_hugeLength_7cf53 : ByteArray := prog_22_method_28_code
def yJ8_hugeLength_7cf53 : MethodName := ⟨RJ8, "hugeLength", "(II)I"⟩
def RJ3 : String := "jdk/internal/util/Preconditions"
def TJ3 : u_T := fun k => match k with
  | _ => ("", "", "", false)
def tyJ3 : Nat → FieldType := fun k => match k with
  | _ => .int
abbrev wsJ30 : List Cond := u_ws RJ3 TJ3 0
theorem nmJ3 : ∀ a, a < 0 → ∀ b, b < 0 → a ≠ b → (TJ3 a).2.1 ≠ (TJ3 b).2.1 := by decide +kernel
theorem tyJ3_ok : ∀ k, k < 0 → parseFieldDescriptor (TJ3 k).2.2.1 = some (tyJ3 k) := by decide +kernel
abbrev cJ3_checkIndex_8e157 : ByteArray := prog_23_method_11_code
def yJ3_checkIndex_8e157 : MethodName := ⟨RJ3, "checkIndex", "(IILjava/util/function/BiFunction;)I"⟩
abbrev cJ3_checkFromToIndex_8c36e : ByteArray := prog_23_method_12_code
def yJ3_checkFromToIndex_8c36e : MethodName := ⟨RJ3, "checkFromToIndex", "(IIILjava/util/function/BiFunction;)I"⟩
abbrev cJ3_checkFromIndexSize_8c36e : ByteArray := prog_23_method_13_code
def yJ3_checkFromIndexSize_8c36e : MethodName := ⟨RJ3, "checkFromIndexSize", "(IIILjava/util/function/BiFunction;)I"⟩
def RL : String := "KindcutterLaw"
abbrev cL_add : ByteArray := method_2_code
def yL_add : MethodName := ⟨RL, "add", "(LKindcutter;IILKindcutterLaw$Out;)I"⟩
abbrev cL_put : ByteArray := method_3_code
def yL_put : MethodName := ⟨RL, "put", "(LKindcutter;IIILKindcutterLaw$Out;)I"⟩
abbrev cL_insert : ByteArray := method_4_code
def yL_insert : MethodName := ⟨RL, "insert", "(LKindcutter;IIILKindcutterLaw$Out;)I"⟩
abbrev cL_drop : ByteArray := method_5_code
def yL_drop : MethodName := ⟨RL, "drop", "(LKindcutter;IILKindcutterLaw$Out;)I"⟩
abbrev cL_clear : ByteArray := method_6_code
def yL_clear : MethodName := ⟨RL, "clear", "(LKindcutter;ILKindcutterLaw$Out;)I"⟩
abbrev cL_copy : ByteArray := method_7_code
def yL_copy : MethodName := ⟨RL, "copy", "(LKindcutter;IILKindcutterLaw$Out;)I"⟩
abbrev cL_join : ByteArray := method_8_code
def yL_join : MethodName := ⟨RL, "join", "(LKindcutter;IILKindcutterLaw$Out;)I"⟩
abbrev cL_turn : ByteArray := method_9_code
def yL_turn : MethodName := ⟨RL, "turn", "(LKindcutter;ILKindcutterLaw$Out;)I"⟩
abbrev cL_fill : ByteArray := method_10_code
def yL_fill : MethodName := ⟨RL, "fill", "(LKindcutter;IIILKindcutterLaw$Out;)I"⟩
abbrev cL_cut : ByteArray := method_11_code
def yL_cut : MethodName := ⟨RL, "cut", "(LKindcutter;IIILKindcutterLaw$Out;)I"⟩
abbrev cL_keep : ByteArray := method_12_code
def yL_keep : MethodName := ⟨RL, "keep", "(LKindcutter;IIZLKindcutterLaw$Out;)I"⟩
abbrev cL_keepKind : ByteArray := method_13_code
def yL_keepKind : MethodName := ⟨RL, "keepKind", "(LKindcutter;IIZLKindcutterLaw$Out;)I"⟩
abbrev cL_take : ByteArray := method_14_code
def yL_take : MethodName := ⟨RL, "take", "(LKindcutter;IIILKindcutterLaw$Out;)I"⟩
abbrev cL_mend : ByteArray := method_15_code
def yL_mend : MethodName := ⟨RL, "mend", "(LKindcutter;ILKindcutterLaw$Out;)I"⟩
abbrev cL_kind : ByteArray := method_16_code
def yL_kind : MethodName := ⟨RL, "kind", "(LKindcutter;ILKindcutterLaw$Out;)I"⟩
abbrev cL_ask : ByteArray := method_17_code
def yL_ask : MethodName := ⟨RL, "ask", "(LKindcutter;IILKindcutterLaw$Out;)I"⟩
abbrev cL_all : ByteArray := method_18_code
def yL_all : MethodName := ⟨RL, "all", "(LKindcutter;ILKindcutterLaw$Out;)I"⟩
abbrev cL_nth : ByteArray := method_19_code
def yL_nth : MethodName := ⟨RL, "nth", "(LKindcutter;IILKindcutterLaw$Out;)I"⟩
abbrev cL_next : ByteArray := method_20_code
def yL_next : MethodName := ⟨RL, "next", "(LKindcutter;IIZLKindcutterLaw$Out;)I"⟩
abbrev cL_run : ByteArray := method_21_code
def yL_run : MethodName := ⟨RL, "run", "(LKindcutter;IILKindcutterLaw$Out;)I"⟩
abbrev cL_ofKind : ByteArray := method_22_code
def yL_ofKind : MethodName := ⟨RL, "ofKind", "(LKindcutter;IIILKindcutterLaw$Out;)I"⟩
abbrev cL_ofQuestion : ByteArray := method_23_code
def yL_ofQuestion : MethodName := ⟨RL, "ofQuestion", "(LKindcutter;IIILKindcutterLaw$Out;)I"⟩
abbrev cL_kinds : ByteArray := method_24_code
def yL_kinds : MethodName := ⟨RL, "kinds", "(LKindcutter;IILKindcutterLaw$Out;)I"⟩
abbrev cL_both : ByteArray := method_25_code
def yL_both : MethodName := ⟨RL, "both", "(LKindcutter;IILKindcutterLaw$Out;)I"⟩
abbrev cL_within : ByteArray := method_26_code
def yL_within : MethodName := ⟨RL, "within", "(LKindcutter;IILKindcutterLaw$Out;)I"⟩
abbrev cL_differ : ByteArray := method_27_code
def yL_differ : MethodName := ⟨RL, "differ", "(LKindcutter;IIILKindcutterLaw$Out;)I"⟩
abbrev cL_length : ByteArray := method_28_code
def yL_length : MethodName := ⟨RL, "length", "(LKindcutter;ILKindcutterLaw$Out;)I"⟩
abbrev cL_sign : ByteArray := method_29_code
def yL_sign : MethodName := ⟨RL, "sign", "(LKindcutter;IILKindcutterLaw$Out;)I"⟩
abbrev cL_signs : ByteArray := method_30_code
def yL_signs : MethodName := ⟨RL, "signs", "(LKindcutter;ILKindcutterLaw$Out;)I"⟩
abbrev cL_kindsOf : ByteArray := method_31_code
def yL_kindsOf : MethodName := ⟨RL, "kindsOf", "(LKindcutter;ILKindcutterLaw$Out;)I"⟩
abbrev cL_count : ByteArray := method_32_code
def yL_count : MethodName := ⟨RL, "count", "(LKindcutter;IILKindcutterLaw$Out;)I"⟩
abbrev cL_countKind : ByteArray := method_33_code
def yL_countKind : MethodName := ⟨RL, "countKind", "(LKindcutter;IILKindcutterLaw$Out;)I"⟩
abbrev cL_isAll : ByteArray := method_34_code
def yL_isAll : MethodName := ⟨RL, "isAll", "(LKindcutter;IILKindcutterLaw$Out;)I"⟩
abbrev cL_first : ByteArray := method_35_code
def yL_first : MethodName := ⟨RL, "first", "(LKindcutter;IIZLKindcutterLaw$Out;)I"⟩
abbrev cL_alike : ByteArray := method_36_code
def yL_alike : MethodName := ⟨RL, "alike", "(LKindcutter;IILKindcutterLaw$Out;)I"⟩
abbrev cL_isName : ByteArray := method_37_code
def yL_isName : MethodName := ⟨RL, "isName", "(LKindcutter;ILKindcutterLaw$Out;)I"⟩
abbrev cL_fault : ByteArray := method_38_code
def yL_fault : MethodName := ⟨RL, "fault", "(LKindcutter;ILKindcutterLaw$Out;)I"⟩
abbrev cL_sort : ByteArray := method_39_code
def yL_sort : MethodName := ⟨RL, "sort", "(LKindcutter;IIILKindcutterLaw$Out;)I"⟩
abbrev cL_longest : ByteArray := method_40_code
def yL_longest : MethodName := ⟨RL, "longest", "(LKindcutter;IILKindcutterLaw$Out;)I"⟩
abbrev cL_pieces : ByteArray := method_41_code
def yL_pieces : MethodName := ⟨RL, "pieces", "(LKindcutter;ILKindcutterLaw$Out;)I"⟩
abbrev cL_piece : ByteArray := method_42_code
def yL_piece : MethodName := ⟨RL, "piece", "(LKindcutter;IIILKindcutterLaw$Out;)I"⟩
abbrev cL_sorts : ByteArray := method_43_code
def yL_sorts : MethodName := ⟨RL, "sorts", "(LKindcutter;ILKindcutterLaw$Out;)I"⟩
abbrev cL_cuts : ByteArray := method_44_code
def yL_cuts : MethodName := ⟨RL, "cuts", "(LKindcutter;ILKindcutterLaw$Out;)I"⟩
abbrev cL_back : ByteArray := method_45_code
def yL_back : MethodName := ⟨RL, "back", "(LKindcutter;ILKindcutterLaw$Out;)I"⟩
abbrev cL_fewest : ByteArray := method_46_code
def yL_fewest : MethodName := ⟨RL, "fewest", "(LKindcutter;ILKindcutterLaw$Out;)I"⟩
abbrev cL_parted : ByteArray := method_47_code
def yL_parted : MethodName := ⟨RL, "parted", "(LKindcutter;IILKindcutterLaw$Out;)I"⟩
abbrev cL_house : ByteArray := method_48_code
def yL_house : MethodName := ⟨RL, "house", "(LKindcutter;ILKindcutterLaw$Out;)I"⟩
abbrev cL_law : ByteArray := code
def yL_law : MethodName := ⟨RL, "law", "([I)Z"⟩
abbrev vwCl : List vw_C := [(RJ0, TJ0, 4), (RJ4, TJ4, 4), (RX1, TX1, 3), (RX2, TX2, 4), (RX3, TX3, 2), (RX4, TX4, 7)]
end
section
/-! decode rows -/
theorem dX0_kindNumber_0 : decode cX0_kindNumber 0 = .ok (.getstatic 11, 3) := by decide +kernel
theorem dX0_kindNumber_3 : decode cX0_kindNumber 3 = .ok (.iload_n 0, 1) := by decide +kernel
theorem dX0_kindNumber_4 : decode cX0_kindNumber 4 = .ok (.baload, 1) := by decide +kernel
theorem dX0_kindNumber_5 : decode cX0_kindNumber 5 = .ok (.ireturn, 1) := by decide +kernel
theorem dX0_isSo_0 : decode cX0_isSo 0 = .ok (.getstatic 15, 3) := by decide +kernel
theorem dX0_isSo_3 : decode cX0_isSo 3 = .ok (.iload_n 1, 1) := by decide +kernel
theorem dX0_isSo_4 : decode cX0_isSo 4 = .ok (.iaload, 1) := by decide +kernel
theorem dX0_isSo_5 : decode cX0_isSo 5 = .ok (.getstatic 11, 3) := by decide +kernel
theorem dX0_isSo_8 : decode cX0_isSo 8 = .ok (.iload_n 0, 1) := by decide +kernel
theorem dX0_isSo_9 : decode cX0_isSo 9 = .ok (.baload, 1) := by decide +kernel
theorem dX0_isSo_10 : decode cX0_isSo 10 = .ok (.invokestatic 19, 3) := by decide +kernel
theorem dX0_isSo_13 : decode cX0_isSo 13 = .ok (.istore_n 2, 1) := by decide +kernel
theorem dX0_isSo_14 : decode cX0_isSo 14 = .ok (.iload_n 1, 1) := by decide +kernel
theorem dX0_isSo_15 : decode cX0_isSo 15 = .ok (.tableswitch 85 7 13 #[41, 85, 85, 46, 85, 68, 68], 41) := by decide +kernel
theorem dX0_isSo_56 : decode cX0_isSo 56 = .ok (.iload_n 0, 1) := by decide +kernel
theorem dX0_isSo_57 : decode cX0_isSo 57 = .ok (.invokestatic 23, 3) := by decide +kernel
theorem dX0_isSo_60 : decode cX0_isSo 60 = .ok (.ireturn, 1) := by decide +kernel
theorem dX0_isSo_61 : decode cX0_isSo 61 = .ok (.iload_n 2, 1) := by decide +kernel
theorem dX0_isSo_62 : decode cX0_isSo 62 = .ok (.ifCond .ne 15, 3) := by decide +kernel
theorem dX0_isSo_65 : decode cX0_isSo 65 = .ok (.iload_n 0, 1) := by decide +kernel
theorem dX0_isSo_66 : decode cX0_isSo 66 = .ok (.bipush 60, 2) := by decide +kernel
theorem dX0_isSo_68 : decode cX0_isSo 68 = .ok (.if_icmp .eq 9, 3) := by decide +kernel
theorem dX0_isSo_71 : decode cX0_isSo 71 = .ok (.iload_n 0, 1) := by decide +kernel
theorem dX0_isSo_72 : decode cX0_isSo 72 = .ok (.bipush 62, 2) := by decide +kernel
theorem dX0_isSo_74 : decode cX0_isSo 74 = .ok (.if_icmp .ne 7, 3) := by decide +kernel
theorem dX0_isSo_77 : decode cX0_isSo 77 = .ok (.iconst 1, 1) := by decide +kernel
theorem dX0_isSo_78 : decode cX0_isSo 78 = .ok (.goto 4, 3) := by decide +kernel
theorem dX0_isSo_81 : decode cX0_isSo 81 = .ok (.iconst 0, 1) := by decide +kernel
theorem dX0_isSo_82 : decode cX0_isSo 82 = .ok (.ireturn, 1) := by decide +kernel
theorem dX0_isSo_83 : decode cX0_isSo 83 = .ok (.iload_n 2, 1) := by decide +kernel
theorem dX0_isSo_84 : decode cX0_isSo 84 = .ok (.ifCond .eq 14, 3) := by decide +kernel
theorem dX0_isSo_87 : decode cX0_isSo 87 = .ok (.iload_n 0, 1) := by decide +kernel
theorem dX0_isSo_88 : decode cX0_isSo 88 = .ok (.invokestatic 23, 3) := by decide +kernel
theorem dX0_isSo_91 : decode cX0_isSo 91 = .ok (.ifCond .ne 7, 3) := by decide +kernel
theorem dX0_isSo_94 : decode cX0_isSo 94 = .ok (.iconst 1, 1) := by decide +kernel
theorem dX0_isSo_95 : decode cX0_isSo 95 = .ok (.goto 4, 3) := by decide +kernel
theorem dX0_isSo_98 : decode cX0_isSo 98 = .ok (.iconst 0, 1) := by decide +kernel
theorem dX0_isSo_99 : decode cX0_isSo 99 = .ok (.ireturn, 1) := by decide +kernel
theorem dX0_isSo_100 : decode cX0_isSo 100 = .ok (.iload_n 2, 1) := by decide +kernel
theorem dX0_isSo_101 : decode cX0_isSo 101 = .ok (.ireturn, 1) := by decide +kernel
theorem dX0_isBlank_0 : decode cX0_isBlank 0 = .ok (.iload_n 0, 1) := by decide +kernel
theorem dX0_isBlank_1 : decode cX0_isBlank 1 = .ok (.bipush 9, 2) := by decide +kernel
theorem dX0_isBlank_3 : decode cX0_isBlank 3 = .ok (.if_icmp .lt 9, 3) := by decide +kernel
theorem dX0_isBlank_6 : decode cX0_isBlank 6 = .ok (.iload_n 0, 1) := by decide +kernel
theorem dX0_isBlank_7 : decode cX0_isBlank 7 = .ok (.bipush 13, 2) := by decide +kernel
theorem dX0_isBlank_9 : decode cX0_isBlank 9 = .ok (.if_icmp .le 15, 3) := by decide +kernel
theorem dX0_isBlank_12 : decode cX0_isBlank 12 = .ok (.iload_n 0, 1) := by decide +kernel
theorem dX0_isBlank_13 : decode cX0_isBlank 13 = .ok (.bipush 28, 2) := by decide +kernel
theorem dX0_isBlank_15 : decode cX0_isBlank 15 = .ok (.if_icmp .lt 13, 3) := by decide +kernel
theorem dX0_isBlank_18 : decode cX0_isBlank 18 = .ok (.iload_n 0, 1) := by decide +kernel
theorem dX0_isBlank_19 : decode cX0_isBlank 19 = .ok (.bipush 32, 2) := by decide +kernel
theorem dX0_isBlank_21 : decode cX0_isBlank 21 = .ok (.if_icmp .gt 7, 3) := by decide +kernel
theorem dX0_isBlank_24 : decode cX0_isBlank 24 = .ok (.iconst 1, 1) := by decide +kernel
theorem dX0_isBlank_25 : decode cX0_isBlank 25 = .ok (.goto 4, 3) := by decide +kernel
theorem dX0_isBlank_28 : decode cX0_isBlank 28 = .ok (.iconst 0, 1) := by decide +kernel
theorem dX0_isBlank_29 : decode cX0_isBlank 29 = .ok (.ireturn, 1) := by decide +kernel
theorem dX0_isLet_0 : decode cX0_isLet 0 = .ok (.iload_n 0, 1) := by decide +kernel
theorem dX0_isLet_1 : decode cX0_isLet 1 = .ok (.iload_n 1, 1) := by decide +kernel
theorem dX0_isLet_2 : decode cX0_isLet 2 = .ok (.ifCond .eq 8, 3) := by decide +kernel
theorem dX0_isLet_5 : decode cX0_isLet 5 = .ok (.bipush 11, 2) := by decide +kernel
theorem dX0_isLet_7 : decode cX0_isLet 7 = .ok (.goto 5, 3) := by decide +kernel
theorem dX0_isLet_10 : decode cX0_isLet 10 = .ok (.bipush 12, 2) := by decide +kernel
theorem dX0_isLet_12 : decode cX0_isLet 12 = .ok (.invokestatic 27, 3) := by decide +kernel
theorem dX0_isLet_15 : decode cX0_isLet 15 = .ok (.ireturn, 1) := by decide +kernel
theorem dX0_sortBegunBy_0 : decode cX0_sortBegunBy 0 = .ok (.iconst 0, 1) := by decide +kernel
theorem dX0_sortBegunBy_1 : decode cX0_sortBegunBy 1 = .ok (.istore_n 1, 1) := by decide +kernel
theorem dX0_sortBegunBy_2 : decode cX0_sortBegunBy 2 = .ok (.iload_n 1, 1) := by decide +kernel
theorem dX0_sortBegunBy_3 : decode cX0_sortBegunBy 3 = .ok (.iconst 4, 1) := by decide +kernel
theorem dX0_sortBegunBy_4 : decode cX0_sortBegunBy 4 = .ok (.if_icmp .ge 23, 3) := by decide +kernel
theorem dX0_sortBegunBy_7 : decode cX0_sortBegunBy 7 = .ok (.iload_n 0, 1) := by decide +kernel
theorem dX0_sortBegunBy_8 : decode cX0_sortBegunBy 8 = .ok (.getstatic 30, 3) := by decide +kernel
theorem dX0_sortBegunBy_11 : decode cX0_sortBegunBy 11 = .ok (.iload_n 1, 1) := by decide +kernel
theorem dX0_sortBegunBy_12 : decode cX0_sortBegunBy 12 = .ok (.iaload, 1) := by decide +kernel
theorem dX0_sortBegunBy_13 : decode cX0_sortBegunBy 13 = .ok (.invokestatic 27, 3) := by decide +kernel
theorem dX0_sortBegunBy_16 : decode cX0_sortBegunBy 16 = .ok (.ifCond .eq 5, 3) := by decide +kernel
theorem dX0_sortBegunBy_19 : decode cX0_sortBegunBy 19 = .ok (.iload_n 1, 1) := by decide +kernel
theorem dX0_sortBegunBy_20 : decode cX0_sortBegunBy 20 = .ok (.ireturn, 1) := by decide +kernel
theorem dX0_sortBegunBy_21 : decode cX0_sortBegunBy 21 = .ok (.iinc 1 1, 3) := by decide +kernel
theorem dX0_sortBegunBy_24 : decode cX0_sortBegunBy 24 = .ok (.goto (-22), 3) := by decide +kernel
theorem dX0_sortBegunBy_27 : decode cX0_sortBegunBy 27 = .ok (.iconst 4, 1) := by decide +kernel
theorem dX0_sortBegunBy_28 : decode cX0_sortBegunBy 28 = .ok (.ireturn, 1) := by decide +kernel
theorem dX0_questionOfOthers_0 : decode cX0_questionOfOthers 0 = .ok (.getstatic 33, 3) := by decide +kernel
theorem dX0_questionOfOthers_3 : decode cX0_questionOfOthers 3 = .ok (.iload_n 0, 1) := by decide +kernel
theorem dX0_questionOfOthers_4 : decode cX0_questionOfOthers 4 = .ok (.iaload, 1) := by decide +kernel
theorem dX0_questionOfOthers_5 : decode cX0_questionOfOthers 5 = .ok (.ireturn, 1) := by decide +kernel
theorem dX1_init_0 : decode cX1_init 0 = .ok (.aload_n 0, 1) := by decide +kernel
theorem dX1_init_1 : decode cX1_init 1 = .ok (.invokespecial 3, 3) := by decide +kernel
theorem dX1_init_4 : decode cX1_init 4 = .ok (.aload_n 0, 1) := by decide +kernel
theorem dX1_init_5 : decode cX1_init 5 = .ok (.bipush 30, 2) := by decide +kernel
theorem dX1_init_7 : decode cX1_init 7 = .ok (.newarray .byte, 2) := by decide +kernel
theorem dX1_init_9 : decode cX1_init 9 = .ok (.putfield 9, 3) := by decide +kernel
theorem dX1_init_12 : decode cX1_init 12 = .ok (.aload_n 0, 1) := by decide +kernel
theorem dX1_init_13 : decode cX1_init 13 = .ok (.bipush 31, 2) := by decide +kernel
theorem dX1_init_15 : decode cX1_init 15 = .ok (.newarray .int, 2) := by decide +kernel
theorem dX1_init_17 : decode cX1_init 17 = .ok (.putfield 15, 3) := by decide +kernel
theorem dX1_init_20 : decode cX1_init 20 = .ok (.return_, 1) := by decide +kernel
theorem dX1_size_0 : decode cX1_size 0 = .ok (.aload_n 0, 1) := by decide +kernel
theorem dX1_size_1 : decode cX1_size 1 = .ok (.getfield 19, 3) := by decide +kernel
theorem dX1_size_4 : decode cX1_size 4 = .ok (.ireturn, 1) := by decide +kernel
theorem dX1_signAt_0 : decode cX1_signAt 0 = .ok (.aload_n 0, 1) := by decide +kernel
theorem dX1_signAt_1 : decode cX1_signAt 1 = .ok (.getfield 9, 3) := by decide +kernel
theorem dX1_signAt_4 : decode cX1_signAt 4 = .ok (.iload_n 1, 1) := by decide +kernel
theorem dX1_signAt_5 : decode cX1_signAt 5 = .ok (.baload, 1) := by decide +kernel
theorem dX1_signAt_6 : decode cX1_signAt 6 = .ok (.sipush 255, 3) := by decide +kernel
theorem dX1_signAt_9 : decode cX1_signAt 9 = .ok (.iand, 1) := by decide +kernel
theorem dX1_signAt_10 : decode cX1_signAt 10 = .ok (.ireturn, 1) := by decide +kernel
theorem dX1_kindAt_0 : decode cX1_kindAt 0 = .ok (.aload_n 0, 1) := by decide +kernel
theorem dX1_kindAt_1 : decode cX1_kindAt 1 = .ok (.iload_n 1, 1) := by decide +kernel
theorem dX1_kindAt_2 : decode cX1_kindAt 2 = .ok (.invokevirtual 23, 3) := by decide +kernel
theorem dX1_kindAt_5 : decode cX1_kindAt 5 = .ok (.invokestatic 27, 3) := by decide +kernel
theorem dX1_kindAt_8 : decode cX1_kindAt 8 = .ok (.ireturn, 1) := by decide +kernel
theorem dX1_allPlaces_0 : decode cX1_allPlaces 0 = .ok (.iconst 1, 1) := by decide +kernel
theorem dX1_allPlaces_1 : decode cX1_allPlaces 1 = .ok (.aload_n 0, 1) := by decide +kernel
theorem dX1_allPlaces_2 : decode cX1_allPlaces 2 = .ok (.getfield 19, 3) := by decide +kernel
theorem dX1_allPlaces_5 : decode cX1_allPlaces 5 = .ok (.ishl, 1) := by decide +kernel
theorem dX1_allPlaces_6 : decode cX1_allPlaces 6 = .ok (.iconst 1, 1) := by decide +kernel
theorem dX1_allPlaces_7 : decode cX1_allPlaces 7 = .ok (.isub, 1) := by decide +kernel
theorem dX1_allPlaces_8 : decode cX1_allPlaces 8 = .ok (.ireturn, 1) := by decide +kernel
theorem dX1_placesOf_0 : decode cX1_placesOf 0 = .ok (.iconst 0, 1) := by decide +kernel
theorem dX1_placesOf_1 : decode cX1_placesOf 1 = .ok (.istore_n 2, 1) := by decide +kernel
theorem dX1_placesOf_2 : decode cX1_placesOf 2 = .ok (.iconst 0, 1) := by decide +kernel
theorem dX1_placesOf_3 : decode cX1_placesOf 3 = .ok (.istore_n 3, 1) := by decide +kernel
theorem dX1_placesOf_4 : decode cX1_placesOf 4 = .ok (.iload_n 3, 1) := by decide +kernel
theorem dX1_placesOf_5 : decode cX1_placesOf 5 = .ok (.aload_n 0, 1) := by decide +kernel
theorem dX1_placesOf_6 : decode cX1_placesOf 6 = .ok (.getfield 19, 3) := by decide +kernel
theorem dX1_placesOf_9 : decode cX1_placesOf 9 = .ok (.if_icmp .ge 27, 3) := by decide +kernel
theorem dX1_placesOf_12 : decode cX1_placesOf 12 = .ok (.aload_n 0, 1) := by decide +kernel
theorem dX1_placesOf_13 : decode cX1_placesOf 13 = .ok (.iload_n 3, 1) := by decide +kernel
theorem dX1_placesOf_14 : decode cX1_placesOf 14 = .ok (.invokevirtual 23, 3) := by decide +kernel
theorem dX1_placesOf_17 : decode cX1_placesOf 17 = .ok (.iload_n 1, 1) := by decide +kernel
theorem dX1_placesOf_18 : decode cX1_placesOf 18 = .ok (.invokestatic 32, 3) := by decide +kernel
theorem dX1_placesOf_21 : decode cX1_placesOf 21 = .ok (.ifCond .eq 9, 3) := by decide +kernel
theorem dX1_placesOf_24 : decode cX1_placesOf 24 = .ok (.iload_n 2, 1) := by decide +kernel
theorem dX1_placesOf_25 : decode cX1_placesOf 25 = .ok (.iconst 1, 1) := by decide +kernel
theorem dX1_placesOf_26 : decode cX1_placesOf 26 = .ok (.iload_n 3, 1) := by decide +kernel
theorem dX1_placesOf_27 : decode cX1_placesOf 27 = .ok (.ishl, 1) := by decide +kernel
theorem dX1_placesOf_28 : decode cX1_placesOf 28 = .ok (.ior, 1) := by decide +kernel
theorem dX1_placesOf_29 : decode cX1_placesOf 29 = .ok (.istore_n 2, 1) := by decide +kernel
theorem dX1_placesOf_30 : decode cX1_placesOf 30 = .ok (.iinc 3 1, 3) := by decide +kernel
theorem dX1_placesOf_33 : decode cX1_placesOf 33 = .ok (.goto (-29), 3) := by decide +kernel
theorem dX1_placesOf_36 : decode cX1_placesOf 36 = .ok (.iload_n 2, 1) := by decide +kernel
theorem dX1_placesOf_37 : decode cX1_placesOf 37 = .ok (.ireturn, 1) := by decide +kernel
theorem dX1_placesOfKind_0 : decode cX1_placesOfKind 0 = .ok (.iconst 0, 1) := by decide +kernel
theorem dX1_placesOfKind_1 : decode cX1_placesOfKind 1 = .ok (.istore_n 2, 1) := by decide +kernel
theorem dX1_placesOfKind_2 : decode cX1_placesOfKind 2 = .ok (.iconst 0, 1) := by decide +kernel
theorem dX1_placesOfKind_3 : decode cX1_placesOfKind 3 = .ok (.istore_n 3, 1) := by decide +kernel
theorem dX1_placesOfKind_4 : decode cX1_placesOfKind 4 = .ok (.iload_n 3, 1) := by decide +kernel
theorem dX1_placesOfKind_5 : decode cX1_placesOfKind 5 = .ok (.aload_n 0, 1) := by decide +kernel
theorem dX1_placesOfKind_6 : decode cX1_placesOfKind 6 = .ok (.getfield 19, 3) := by decide +kernel
theorem dX1_placesOfKind_9 : decode cX1_placesOfKind 9 = .ok (.if_icmp .ge 24, 3) := by decide +kernel
theorem dX1_placesOfKind_12 : decode cX1_placesOfKind 12 = .ok (.aload_n 0, 1) := by decide +kernel
theorem dX1_placesOfKind_13 : decode cX1_placesOfKind 13 = .ok (.iload_n 3, 1) := by decide +kernel
theorem dX1_placesOfKind_14 : decode cX1_placesOfKind 14 = .ok (.invokevirtual 36, 3) := by decide +kernel
theorem dX1_placesOfKind_17 : decode cX1_placesOfKind 17 = .ok (.iload_n 1, 1) := by decide +kernel
theorem dX1_placesOfKind_18 : decode cX1_placesOfKind 18 = .ok (.if_icmp .ne 9, 3) := by decide +kernel
theorem dX1_placesOfKind_21 : decode cX1_placesOfKind 21 = .ok (.iload_n 2, 1) := by decide +kernel
theorem dX1_placesOfKind_22 : decode cX1_placesOfKind 22 = .ok (.iconst 1, 1) := by decide +kernel
theorem dX1_placesOfKind_23 : decode cX1_placesOfKind 23 = .ok (.iload_n 3, 1) := by decide +kernel
theorem dX1_placesOfKind_24 : decode cX1_placesOfKind 24 = .ok (.ishl, 1) := by decide +kernel
theorem dX1_placesOfKind_25 : decode cX1_placesOfKind 25 = .ok (.ior, 1) := by decide +kernel
theorem dX1_placesOfKind_26 : decode cX1_placesOfKind 26 = .ok (.istore_n 2, 1) := by decide +kernel
theorem dX1_placesOfKind_27 : decode cX1_placesOfKind 27 = .ok (.iinc 3 1, 3) := by decide +kernel
theorem dX1_placesOfKind_30 : decode cX1_placesOfKind 30 = .ok (.goto (-26), 3) := by decide +kernel
theorem dX1_placesOfKind_33 : decode cX1_placesOfKind 33 = .ok (.iload_n 2, 1) := by decide +kernel
theorem dX1_placesOfKind_34 : decode cX1_placesOfKind 34 = .ok (.ireturn, 1) := by decide +kernel
theorem dX1_setSign_0 : decode cX1_setSign 0 = .ok (.aload_n 0, 1) := by decide +kernel
theorem dX1_setSign_1 : decode cX1_setSign 1 = .ok (.getfield 9, 3) := by decide +kernel
theorem dX1_setSign_4 : decode cX1_setSign 4 = .ok (.iload_n 1, 1) := by decide +kernel
theorem dX1_setSign_5 : decode cX1_setSign 5 = .ok (.iload_n 2, 1) := by decide +kernel
theorem dX1_setSign_6 : decode cX1_setSign 6 = .ok (.i2b, 1) := by decide +kernel
theorem dX1_setSign_7 : decode cX1_setSign 7 = .ok (.bastore, 1) := by decide +kernel
theorem dX1_setSign_8 : decode cX1_setSign 8 = .ok (.return_, 1) := by decide +kernel
theorem dX1_insertSign_0 : decode cX1_insertSign 0 = .ok (.aload_n 0, 1) := by decide +kernel
theorem dX1_insertSign_1 : decode cX1_insertSign 1 = .ok (.getfield 19, 3) := by decide +kernel
theorem dX1_insertSign_4 : decode cX1_insertSign 4 = .ok (.istore_n 3, 1) := by decide +kernel
theorem dX1_insertSign_5 : decode cX1_insertSign 5 = .ok (.iload_n 3, 1) := by decide +kernel
theorem dX1_insertSign_6 : decode cX1_insertSign 6 = .ok (.iload_n 1, 1) := by decide +kernel
theorem dX1_insertSign_7 : decode cX1_insertSign 7 = .ok (.if_icmp .le 23, 3) := by decide +kernel
theorem dX1_insertSign_10 : decode cX1_insertSign 10 = .ok (.aload_n 0, 1) := by decide +kernel
theorem dX1_insertSign_11 : decode cX1_insertSign 11 = .ok (.getfield 9, 3) := by decide +kernel
theorem dX1_insertSign_14 : decode cX1_insertSign 14 = .ok (.iload_n 3, 1) := by decide +kernel
theorem dX1_insertSign_15 : decode cX1_insertSign 15 = .ok (.aload_n 0, 1) := by decide +kernel
theorem dX1_insertSign_16 : decode cX1_insertSign 16 = .ok (.getfield 9, 3) := by decide +kernel
theorem dX1_insertSign_19 : decode cX1_insertSign 19 = .ok (.iload_n 3, 1) := by decide +kernel
theorem dX1_insertSign_20 : decode cX1_insertSign 20 = .ok (.iconst 1, 1) := by decide +kernel
theorem dX1_insertSign_21 : decode cX1_insertSign 21 = .ok (.isub, 1) := by decide +kernel
theorem dX1_insertSign_22 : decode cX1_insertSign 22 = .ok (.baload, 1) := by decide +kernel
theorem dX1_insertSign_23 : decode cX1_insertSign 23 = .ok (.bastore, 1) := by decide +kernel
theorem dX1_insertSign_24 : decode cX1_insertSign 24 = .ok (.iinc 3 (-1), 3) := by decide +kernel
theorem dX1_insertSign_27 : decode cX1_insertSign 27 = .ok (.goto (-22), 3) := by decide +kernel
theorem dX1_insertSign_30 : decode cX1_insertSign 30 = .ok (.aload_n 0, 1) := by decide +kernel
theorem dX1_insertSign_31 : decode cX1_insertSign 31 = .ok (.iload_n 1, 1) := by decide +kernel
theorem dX1_insertSign_32 : decode cX1_insertSign 32 = .ok (.iload_n 2, 1) := by decide +kernel
theorem dX1_insertSign_33 : decode cX1_insertSign 33 = .ok (.invokevirtual 39, 3) := by decide +kernel
theorem dX1_insertSign_36 : decode cX1_insertSign 36 = .ok (.aload_n 0, 1) := by decide +kernel
theorem dX1_insertSign_37 : decode cX1_insertSign 37 = .ok (.dup, 1) := by decide +kernel
theorem dX1_insertSign_38 : decode cX1_insertSign 38 = .ok (.getfield 19, 3) := by decide +kernel
theorem dX1_insertSign_41 : decode cX1_insertSign 41 = .ok (.iconst 1, 1) := by decide +kernel
theorem dX1_insertSign_42 : decode cX1_insertSign 42 = .ok (.iadd, 1) := by decide +kernel
theorem dX1_insertSign_43 : decode cX1_insertSign 43 = .ok (.putfield 19, 3) := by decide +kernel
theorem dX1_insertSign_46 : decode cX1_insertSign 46 = .ok (.return_, 1) := by decide +kernel
theorem dX1_retain_0 : decode cX1_retain 0 = .ok (.aload_n 0, 1) := by decide +kernel
theorem dX1_retain_1 : decode cX1_retain 1 = .ok (.getfield 19, 3) := by decide +kernel
theorem dX1_retain_4 : decode cX1_retain 4 = .ok (.istore_n 2, 1) := by decide +kernel
theorem dX1_retain_5 : decode cX1_retain 5 = .ok (.aload_n 0, 1) := by decide +kernel
theorem dX1_retain_6 : decode cX1_retain 6 = .ok (.iconst 0, 1) := by decide +kernel
theorem dX1_retain_7 : decode cX1_retain 7 = .ok (.putfield 19, 3) := by decide +kernel
theorem dX1_retain_10 : decode cX1_retain 10 = .ok (.iconst 0, 1) := by decide +kernel
theorem dX1_retain_11 : decode cX1_retain 11 = .ok (.istore_n 3, 1) := by decide +kernel
theorem dX1_retain_12 : decode cX1_retain 12 = .ok (.iload_n 3, 1) := by decide +kernel
theorem dX1_retain_13 : decode cX1_retain 13 = .ok (.iload_n 2, 1) := by decide +kernel
theorem dX1_retain_14 : decode cX1_retain 14 = .ok (.if_icmp .ge 42, 3) := by decide +kernel
theorem dX1_retain_17 : decode cX1_retain 17 = .ok (.iload_n 1, 1) := by decide +kernel
theorem dX1_retain_18 : decode cX1_retain 18 = .ok (.iload_n 3, 1) := by decide +kernel
theorem dX1_retain_19 : decode cX1_retain 19 = .ok (.invokestatic 43, 3) := by decide +kernel
theorem dX1_retain_22 : decode cX1_retain 22 = .ok (.ifCond .eq 28, 3) := by decide +kernel
theorem dX1_retain_25 : decode cX1_retain 25 = .ok (.aload_n 0, 1) := by decide +kernel
theorem dX1_retain_26 : decode cX1_retain 26 = .ok (.getfield 9, 3) := by decide +kernel
theorem dX1_retain_29 : decode cX1_retain 29 = .ok (.aload_n 0, 1) := by decide +kernel
theorem dX1_retain_30 : decode cX1_retain 30 = .ok (.getfield 19, 3) := by decide +kernel
theorem dX1_retain_33 : decode cX1_retain 33 = .ok (.aload_n 0, 1) := by decide +kernel
theorem dX1_retain_34 : decode cX1_retain 34 = .ok (.getfield 9, 3) := by decide +kernel
theorem dX1_retain_37 : decode cX1_retain 37 = .ok (.iload_n 3, 1) := by decide +kernel
theorem dX1_retain_38 : decode cX1_retain 38 = .ok (.baload, 1) := by decide +kernel
theorem dX1_retain_39 : decode cX1_retain 39 = .ok (.bastore, 1) := by decide +kernel
theorem dX1_retain_40 : decode cX1_retain 40 = .ok (.aload_n 0, 1) := by decide +kernel
theorem dX1_retain_41 : decode cX1_retain 41 = .ok (.dup, 1) := by decide +kernel
theorem dX1_retain_42 : decode cX1_retain 42 = .ok (.getfield 19, 3) := by decide +kernel
theorem dX1_retain_45 : decode cX1_retain 45 = .ok (.iconst 1, 1) := by decide +kernel
theorem dX1_retain_46 : decode cX1_retain 46 = .ok (.iadd, 1) := by decide +kernel
theorem dX1_retain_47 : decode cX1_retain 47 = .ok (.putfield 19, 3) := by decide +kernel
theorem dX1_retain_50 : decode cX1_retain 50 = .ok (.iinc 3 1, 3) := by decide +kernel
theorem dX1_retain_53 : decode cX1_retain 53 = .ok (.goto (-41), 3) := by decide +kernel
theorem dX1_retain_56 : decode cX1_retain 56 = .ok (.iload_n 2, 1) := by decide +kernel
theorem dX1_retain_57 : decode cX1_retain 57 = .ok (.aload_n 0, 1) := by decide +kernel
theorem dX1_retain_58 : decode cX1_retain 58 = .ok (.getfield 19, 3) := by decide +kernel
theorem dX1_retain_61 : decode cX1_retain 61 = .ok (.isub, 1) := by decide +kernel
theorem dX1_retain_62 : decode cX1_retain 62 = .ok (.ireturn, 1) := by decide +kernel
theorem dX1_become_0 : decode cX1_become 0 = .ok (.iload_n 2, 1) := by decide +kernel
theorem dX1_become_1 : decode cX1_become 1 = .ok (.istore 4, 2) := by decide +kernel
theorem dX1_become_3 : decode cX1_become 3 = .ok (.iload 4, 2) := by decide +kernel
theorem dX1_become_5 : decode cX1_become 5 = .ok (.iload_n 3, 1) := by decide +kernel
theorem dX1_become_6 : decode cX1_become 6 = .ok (.if_icmp .ge 25, 3) := by decide +kernel
theorem dX1_become_9 : decode cX1_become 9 = .ok (.aload_n 0, 1) := by decide +kernel
theorem dX1_become_10 : decode cX1_become 10 = .ok (.getfield 9, 3) := by decide +kernel
theorem dX1_become_13 : decode cX1_become 13 = .ok (.iload 4, 2) := by decide +kernel
theorem dX1_become_15 : decode cX1_become 15 = .ok (.iload_n 2, 1) := by decide +kernel
theorem dX1_become_16 : decode cX1_become 16 = .ok (.isub, 1) := by decide +kernel
theorem dX1_become_17 : decode cX1_become 17 = .ok (.aload_n 1, 1) := by decide +kernel
theorem dX1_become_18 : decode cX1_become 18 = .ok (.getfield 9, 3) := by decide +kernel
theorem dX1_become_21 : decode cX1_become 21 = .ok (.iload 4, 2) := by decide +kernel
theorem dX1_become_23 : decode cX1_become 23 = .ok (.baload, 1) := by decide +kernel
theorem dX1_become_24 : decode cX1_become 24 = .ok (.bastore, 1) := by decide +kernel
theorem dX1_become_25 : decode cX1_become 25 = .ok (.iinc 4 1, 3) := by decide +kernel
theorem dX1_become_28 : decode cX1_become 28 = .ok (.goto (-25), 3) := by decide +kernel
theorem dX1_become_31 : decode cX1_become 31 = .ok (.aload_n 0, 1) := by decide +kernel
theorem dX1_become_32 : decode cX1_become 32 = .ok (.iload_n 3, 1) := by decide +kernel
theorem dX1_become_33 : decode cX1_become 33 = .ok (.iload_n 2, 1) := by decide +kernel
theorem dX1_become_34 : decode cX1_become 34 = .ok (.isub, 1) := by decide +kernel
theorem dX1_become_35 : decode cX1_become 35 = .ok (.putfield 19, 3) := by decide +kernel
theorem dX1_become_38 : decode cX1_become 38 = .ok (.return_, 1) := by decide +kernel
theorem dX1_append_0 : decode cX1_append 0 = .ok (.aload_n 1, 1) := by decide +kernel
theorem dX1_append_1 : decode cX1_append 1 = .ok (.getfield 19, 3) := by decide +kernel
theorem dX1_append_4 : decode cX1_append 4 = .ok (.istore_n 2, 1) := by decide +kernel
theorem dX1_append_5 : decode cX1_append 5 = .ok (.iconst 0, 1) := by decide +kernel
theorem dX1_append_6 : decode cX1_append 6 = .ok (.istore_n 3, 1) := by decide +kernel
theorem dX1_append_7 : decode cX1_append 7 = .ok (.iload_n 3, 1) := by decide +kernel
theorem dX1_append_8 : decode cX1_append 8 = .ok (.iload_n 2, 1) := by decide +kernel
theorem dX1_append_9 : decode cX1_append 9 = .ok (.if_icmp .ge 26, 3) := by decide +kernel
theorem dX1_append_12 : decode cX1_append 12 = .ok (.aload_n 0, 1) := by decide +kernel
theorem dX1_append_13 : decode cX1_append 13 = .ok (.getfield 9, 3) := by decide +kernel
theorem dX1_append_16 : decode cX1_append 16 = .ok (.aload_n 0, 1) := by decide +kernel
theorem dX1_append_17 : decode cX1_append 17 = .ok (.getfield 19, 3) := by decide +kernel
theorem dX1_append_20 : decode cX1_append 20 = .ok (.iload_n 3, 1) := by decide +kernel
theorem dX1_append_21 : decode cX1_append 21 = .ok (.iadd, 1) := by decide +kernel
theorem dX1_append_22 : decode cX1_append 22 = .ok (.aload_n 1, 1) := by decide +kernel
theorem dX1_append_23 : decode cX1_append 23 = .ok (.getfield 9, 3) := by decide +kernel
theorem dX1_append_26 : decode cX1_append 26 = .ok (.iload_n 3, 1) := by decide +kernel
theorem dX1_append_27 : decode cX1_append 27 = .ok (.baload, 1) := by decide +kernel
theorem dX1_append_28 : decode cX1_append 28 = .ok (.bastore, 1) := by decide +kernel
theorem dX1_append_29 : decode cX1_append 29 = .ok (.iinc 3 1, 3) := by decide +kernel
theorem dX1_append_32 : decode cX1_append 32 = .ok (.goto (-25), 3) := by decide +kernel
theorem dX1_append_35 : decode cX1_append 35 = .ok (.aload_n 0, 1) := by decide +kernel
theorem dX1_append_36 : decode cX1_append 36 = .ok (.dup, 1) := by decide +kernel
theorem dX1_append_37 : decode cX1_append 37 = .ok (.getfield 19, 3) := by decide +kernel
theorem dX1_append_40 : decode cX1_append 40 = .ok (.iload_n 2, 1) := by decide +kernel
theorem dX1_append_41 : decode cX1_append 41 = .ok (.iadd, 1) := by decide +kernel
theorem dX1_append_42 : decode cX1_append 42 = .ok (.putfield 19, 3) := by decide +kernel
theorem dX1_append_45 : decode cX1_append 45 = .ok (.return_, 1) := by decide +kernel
theorem dX1_reverse_0 : decode cX1_reverse 0 = .ok (.iconst 0, 1) := by decide +kernel
theorem dX1_reverse_1 : decode cX1_reverse 1 = .ok (.istore_n 1, 1) := by decide +kernel
theorem dX1_reverse_2 : decode cX1_reverse 2 = .ok (.iconst 0, 1) := by decide +kernel
theorem dX1_reverse_3 : decode cX1_reverse 3 = .ok (.istore_n 2, 1) := by decide +kernel
theorem dX1_reverse_4 : decode cX1_reverse 4 = .ok (.iload_n 2, 1) := by decide +kernel
theorem dX1_reverse_5 : decode cX1_reverse 5 = .ok (.aload_n 0, 1) := by decide +kernel
theorem dX1_reverse_6 : decode cX1_reverse 6 = .ok (.getfield 19, 3) := by decide +kernel
theorem dX1_reverse_9 : decode cX1_reverse 9 = .ok (.iconst 2, 1) := by decide +kernel
theorem dX1_reverse_10 : decode cX1_reverse 10 = .ok (.idiv, 1) := by decide +kernel
theorem dX1_reverse_11 : decode cX1_reverse 11 = .ok (.if_icmp .ge 69, 3) := by decide +kernel
theorem dX1_reverse_14 : decode cX1_reverse 14 = .ok (.aload_n 0, 1) := by decide +kernel
theorem dX1_reverse_15 : decode cX1_reverse 15 = .ok (.getfield 9, 3) := by decide +kernel
theorem dX1_reverse_18 : decode cX1_reverse 18 = .ok (.iload_n 2, 1) := by decide +kernel
theorem dX1_reverse_19 : decode cX1_reverse 19 = .ok (.baload, 1) := by decide +kernel
theorem dX1_reverse_20 : decode cX1_reverse 20 = .ok (.istore_n 3, 1) := by decide +kernel
theorem dX1_reverse_21 : decode cX1_reverse 21 = .ok (.aload_n 0, 1) := by decide +kernel
theorem dX1_reverse_22 : decode cX1_reverse 22 = .ok (.getfield 9, 3) := by decide +kernel
theorem dX1_reverse_25 : decode cX1_reverse 25 = .ok (.aload_n 0, 1) := by decide +kernel
theorem dX1_reverse_26 : decode cX1_reverse 26 = .ok (.getfield 19, 3) := by decide +kernel
theorem dX1_reverse_29 : decode cX1_reverse 29 = .ok (.iconst 1, 1) := by decide +kernel
theorem dX1_reverse_30 : decode cX1_reverse 30 = .ok (.isub, 1) := by decide +kernel
theorem dX1_reverse_31 : decode cX1_reverse 31 = .ok (.iload_n 2, 1) := by decide +kernel
theorem dX1_reverse_32 : decode cX1_reverse 32 = .ok (.isub, 1) := by decide +kernel
theorem dX1_reverse_33 : decode cX1_reverse 33 = .ok (.baload, 1) := by decide +kernel
theorem dX1_reverse_34 : decode cX1_reverse 34 = .ok (.istore 4, 2) := by decide +kernel
theorem dX1_reverse_36 : decode cX1_reverse 36 = .ok (.aload_n 0, 1) := by decide +kernel
theorem dX1_reverse_37 : decode cX1_reverse 37 = .ok (.getfield 9, 3) := by decide +kernel
theorem dX1_reverse_40 : decode cX1_reverse 40 = .ok (.iload_n 2, 1) := by decide +kernel
theorem dX1_reverse_41 : decode cX1_reverse 41 = .ok (.iload 4, 2) := by decide +kernel
theorem dX1_reverse_43 : decode cX1_reverse 43 = .ok (.bastore, 1) := by decide +kernel
theorem dX1_reverse_44 : decode cX1_reverse 44 = .ok (.aload_n 0, 1) := by decide +kernel
theorem dX1_reverse_45 : decode cX1_reverse 45 = .ok (.getfield 9, 3) := by decide +kernel
theorem dX1_reverse_48 : decode cX1_reverse 48 = .ok (.aload_n 0, 1) := by decide +kernel
theorem dX1_reverse_49 : decode cX1_reverse 49 = .ok (.getfield 19, 3) := by decide +kernel
theorem dX1_reverse_52 : decode cX1_reverse 52 = .ok (.iconst 1, 1) := by decide +kernel
theorem dX1_reverse_53 : decode cX1_reverse 53 = .ok (.isub, 1) := by decide +kernel
theorem dX1_reverse_54 : decode cX1_reverse 54 = .ok (.iload_n 2, 1) := by decide +kernel
theorem dX1_reverse_55 : decode cX1_reverse 55 = .ok (.isub, 1) := by decide +kernel
theorem dX1_reverse_56 : decode cX1_reverse 56 = .ok (.iload_n 3, 1) := by decide +kernel
theorem dX1_reverse_57 : decode cX1_reverse 57 = .ok (.bastore, 1) := by decide +kernel
theorem dX1_reverse_58 : decode cX1_reverse 58 = .ok (.iload_n 1, 1) := by decide +kernel
theorem dX1_reverse_59 : decode cX1_reverse 59 = .ok (.ifCond .ne 9, 3) := by decide +kernel
theorem dX1_reverse_62 : decode cX1_reverse 62 = .ok (.iload_n 3, 1) := by decide +kernel
theorem dX1_reverse_63 : decode cX1_reverse 63 = .ok (.iload 4, 2) := by decide +kernel
theorem dX1_reverse_65 : decode cX1_reverse 65 = .ok (.if_icmp .eq 7, 3) := by decide +kernel
theorem dX1_reverse_68 : decode cX1_reverse 68 = .ok (.iconst 1, 1) := by decide +kernel
theorem dX1_reverse_69 : decode cX1_reverse 69 = .ok (.goto 4, 3) := by decide +kernel
theorem dX1_reverse_72 : decode cX1_reverse 72 = .ok (.iconst 0, 1) := by decide +kernel
theorem dX1_reverse_73 : decode cX1_reverse 73 = .ok (.istore_n 1, 1) := by decide +kernel
theorem dX1_reverse_74 : decode cX1_reverse 74 = .ok (.iinc 2 1, 3) := by decide +kernel
theorem dX1_reverse_77 : decode cX1_reverse 77 = .ok (.goto (-73), 3) := by decide +kernel
theorem dX1_reverse_80 : decode cX1_reverse 80 = .ok (.iload_n 1, 1) := by decide +kernel
theorem dX1_reverse_81 : decode cX1_reverse 81 = .ok (.ireturn, 1) := by decide +kernel
theorem dX1_isNamed_0 : decode cX1_isNamed 0 = .ok (.aload_n 0, 1) := by decide +kernel
theorem dX1_isNamed_1 : decode cX1_isNamed 1 = .ok (.getfield 19, 3) := by decide +kernel
theorem dX1_isNamed_4 : decode cX1_isNamed 4 = .ok (.ifCond .le 30, 3) := by decide +kernel
theorem dX1_isNamed_7 : decode cX1_isNamed 7 = .ok (.aload_n 0, 1) := by decide +kernel
theorem dX1_isNamed_8 : decode cX1_isNamed 8 = .ok (.iconst 0, 1) := by decide +kernel
theorem dX1_isNamed_9 : decode cX1_isNamed 9 = .ok (.invokevirtual 23, 3) := by decide +kernel
theorem dX1_isNamed_12 : decode cX1_isNamed 12 = .ok (.invokestatic 46, 3) := by decide +kernel
theorem dX1_isNamed_15 : decode cX1_isNamed 15 = .ok (.ifCond .ne 19, 3) := by decide +kernel
theorem dX1_isNamed_18 : decode cX1_isNamed 18 = .ok (.aload_n 0, 1) := by decide +kernel
theorem dX1_isNamed_19 : decode cX1_isNamed 19 = .ok (.iconst 0, 1) := by decide +kernel
theorem dX1_isNamed_20 : decode cX1_isNamed 20 = .ok (.invokevirtual 49, 3) := by decide +kernel
theorem dX1_isNamed_23 : decode cX1_isNamed 23 = .ok (.aload_n 0, 1) := by decide +kernel
theorem dX1_isNamed_24 : decode cX1_isNamed 24 = .ok (.getfield 19, 3) := by decide +kernel
theorem dX1_isNamed_27 : decode cX1_isNamed 27 = .ok (.if_icmp .ne 7, 3) := by decide +kernel
theorem dX1_isNamed_30 : decode cX1_isNamed 30 = .ok (.iconst 1, 1) := by decide +kernel
theorem dX1_isNamed_31 : decode cX1_isNamed 31 = .ok (.goto 4, 3) := by decide +kernel
theorem dX1_isNamed_34 : decode cX1_isNamed 34 = .ok (.iconst 0, 1) := by decide +kernel
theorem dX1_isNamed_35 : decode cX1_isNamed 35 = .ok (.ireturn, 1) := by decide +kernel
theorem dX1_firstFault_0 : decode cX1_firstFault 0 = .ok (.iconst 0, 1) := by decide +kernel
theorem dX1_firstFault_1 : decode cX1_firstFault 1 = .ok (.istore_n 1, 1) := by decide +kernel
theorem dX1_firstFault_2 : decode cX1_firstFault 2 = .ok (.iload_n 1, 1) := by decide +kernel
theorem dX1_firstFault_3 : decode cX1_firstFault 3 = .ok (.aload_n 0, 1) := by decide +kernel
theorem dX1_firstFault_4 : decode cX1_firstFault 4 = .ok (.getfield 19, 3) := by decide +kernel
theorem dX1_firstFault_7 : decode cX1_firstFault 7 = .ok (.if_icmp .ge 31, 3) := by decide +kernel
theorem dX1_firstFault_10 : decode cX1_firstFault 10 = .ok (.aload_n 0, 1) := by decide +kernel
theorem dX1_firstFault_11 : decode cX1_firstFault 11 = .ok (.iload_n 1, 1) := by decide +kernel
theorem dX1_firstFault_12 : decode cX1_firstFault 12 = .ok (.invokevirtual 23, 3) := by decide +kernel
theorem dX1_firstFault_15 : decode cX1_firstFault 15 = .ok (.iload_n 1, 1) := by decide +kernel
theorem dX1_firstFault_16 : decode cX1_firstFault 16 = .ok (.ifCond .ne 7, 3) := by decide +kernel
theorem dX1_firstFault_19 : decode cX1_firstFault 19 = .ok (.iconst 1, 1) := by decide +kernel
theorem dX1_firstFault_20 : decode cX1_firstFault 20 = .ok (.goto 4, 3) := by decide +kernel
theorem dX1_firstFault_23 : decode cX1_firstFault 23 = .ok (.iconst 0, 1) := by decide +kernel
theorem dX1_firstFault_24 : decode cX1_firstFault 24 = .ok (.invokestatic 52, 3) := by decide +kernel
theorem dX1_firstFault_27 : decode cX1_firstFault 27 = .ok (.ifCond .ne 5, 3) := by decide +kernel
theorem dX1_firstFault_30 : decode cX1_firstFault 30 = .ok (.iload_n 1, 1) := by decide +kernel
theorem dX1_firstFault_31 : decode cX1_firstFault 31 = .ok (.ireturn, 1) := by decide +kernel
theorem dX1_firstFault_32 : decode cX1_firstFault 32 = .ok (.iinc 1 1, 3) := by decide +kernel
theorem dX1_firstFault_35 : decode cX1_firstFault 35 = .ok (.goto (-33), 3) := by decide +kernel
theorem dX1_firstFault_38 : decode cX1_firstFault 38 = .ok (.aload_n 0, 1) := by decide +kernel
theorem dX1_firstFault_39 : decode cX1_firstFault 39 = .ok (.getfield 19, 3) := by decide +kernel
theorem dX1_firstFault_42 : decode cX1_firstFault 42 = .ok (.ifCond .ne 7, 3) := by decide +kernel
theorem dX1_firstFault_45 : decode cX1_firstFault 45 = .ok (.iconst 0, 1) := by decide +kernel
theorem dX1_firstFault_46 : decode cX1_firstFault 46 = .ok (.goto 4, 3) := by decide +kernel
theorem dX1_firstFault_49 : decode cX1_firstFault 49 = .ok (.iconst (-1), 1) := by decide +kernel
theorem dX1_firstFault_50 : decode cX1_firstFault 50 = .ok (.ireturn, 1) := by decide +kernel
theorem dX1_longestAt_0 : decode cX1_longestAt 0 = .ok (.aload_n 0, 1) := by decide +kernel
theorem dX1_longestAt_1 : decode cX1_longestAt 1 = .ok (.iload_n 1, 1) := by decide +kernel
theorem dX1_longestAt_2 : decode cX1_longestAt 2 = .ok (.invokevirtual 23, 3) := by decide +kernel
theorem dX1_longestAt_5 : decode cX1_longestAt 5 = .ok (.invokestatic 46, 3) := by decide +kernel
theorem dX1_longestAt_8 : decode cX1_longestAt 8 = .ok (.invokestatic 56, 3) := by decide +kernel
theorem dX1_longestAt_11 : decode cX1_longestAt 11 = .ok (.istore_n 2, 1) := by decide +kernel
theorem dX1_longestAt_12 : decode cX1_longestAt 12 = .ok (.iload_n 1, 1) := by decide +kernel
theorem dX1_longestAt_13 : decode cX1_longestAt 13 = .ok (.iconst 1, 1) := by decide +kernel
theorem dX1_longestAt_14 : decode cX1_longestAt 14 = .ok (.iadd, 1) := by decide +kernel
theorem dX1_longestAt_15 : decode cX1_longestAt 15 = .ok (.istore_n 3, 1) := by decide +kernel
theorem dX1_longestAt_16 : decode cX1_longestAt 16 = .ok (.iload_n 3, 1) := by decide +kernel
theorem dX1_longestAt_17 : decode cX1_longestAt 17 = .ok (.aload_n 0, 1) := by decide +kernel
theorem dX1_longestAt_18 : decode cX1_longestAt 18 = .ok (.getfield 19, 3) := by decide +kernel
theorem dX1_longestAt_21 : decode cX1_longestAt 21 = .ok (.if_icmp .ge 21, 3) := by decide +kernel
theorem dX1_longestAt_24 : decode cX1_longestAt 24 = .ok (.aload_n 0, 1) := by decide +kernel
theorem dX1_longestAt_25 : decode cX1_longestAt 25 = .ok (.iload_n 3, 1) := by decide +kernel
theorem dX1_longestAt_26 : decode cX1_longestAt 26 = .ok (.invokevirtual 23, 3) := by decide +kernel
theorem dX1_longestAt_29 : decode cX1_longestAt 29 = .ok (.iload_n 2, 1) := by decide +kernel
theorem dX1_longestAt_30 : decode cX1_longestAt 30 = .ok (.invokestatic 32, 3) := by decide +kernel
theorem dX1_longestAt_33 : decode cX1_longestAt 33 = .ok (.ifCond .eq 9, 3) := by decide +kernel
theorem dX1_longestAt_36 : decode cX1_longestAt 36 = .ok (.iinc 3 1, 3) := by decide +kernel
theorem dX1_longestAt_39 : decode cX1_longestAt 39 = .ok (.goto (-23), 3) := by decide +kernel
theorem dX1_longestAt_42 : decode cX1_longestAt 42 = .ok (.iload_n 3, 1) := by decide +kernel
theorem dX1_longestAt_43 : decode cX1_longestAt 43 = .ok (.iload_n 1, 1) := by decide +kernel
theorem dX1_longestAt_44 : decode cX1_longestAt 44 = .ok (.isub, 1) := by decide +kernel
theorem dX1_longestAt_45 : decode cX1_longestAt 45 = .ok (.ireturn, 1) := by decide +kernel
theorem dX1_sortOf_0 : decode cX1_sortOf 0 = .ok (.iload_n 2, 1) := by decide +kernel
theorem dX1_sortOf_1 : decode cX1_sortOf 1 = .ok (.iload_n 1, 1) := by decide +kernel
theorem dX1_sortOf_2 : decode cX1_sortOf 2 = .ok (.isub, 1) := by decide +kernel
theorem dX1_sortOf_3 : decode cX1_sortOf 3 = .ok (.aload_n 0, 1) := by decide +kernel
theorem dX1_sortOf_4 : decode cX1_sortOf 4 = .ok (.iload_n 1, 1) := by decide +kernel
theorem dX1_sortOf_5 : decode cX1_sortOf 5 = .ok (.invokevirtual 49, 3) := by decide +kernel
theorem dX1_sortOf_8 : decode cX1_sortOf 8 = .ok (.if_icmp .gt 14, 3) := by decide +kernel
theorem dX1_sortOf_11 : decode cX1_sortOf 11 = .ok (.aload_n 0, 1) := by decide +kernel
theorem dX1_sortOf_12 : decode cX1_sortOf 12 = .ok (.iload_n 1, 1) := by decide +kernel
theorem dX1_sortOf_13 : decode cX1_sortOf 13 = .ok (.invokevirtual 23, 3) := by decide +kernel
theorem dX1_sortOf_16 : decode cX1_sortOf 16 = .ok (.invokestatic 46, 3) := by decide +kernel
theorem dX1_sortOf_19 : decode cX1_sortOf 19 = .ok (.goto 4, 3) := by decide +kernel
theorem dX1_sortOf_22 : decode cX1_sortOf 22 = .ok (.iconst (-1), 1) := by decide +kernel
theorem dX1_sortOf_23 : decode cX1_sortOf 23 = .ok (.ireturn, 1) := by decide +kernel
theorem dX1_begins_0 : decode cX1_begins 0 = .ok (.iconst 0, 1) := by decide +kernel
theorem dX1_begins_1 : decode cX1_begins 1 = .ok (.istore_n 1, 1) := by decide +kernel
theorem dX1_begins_2 : decode cX1_begins 2 = .ok (.iconst 0, 1) := by decide +kernel
theorem dX1_begins_3 : decode cX1_begins 3 = .ok (.istore_n 2, 1) := by decide +kernel
theorem dX1_begins_4 : decode cX1_begins 4 = .ok (.iconst 0, 1) := by decide +kernel
theorem dX1_begins_5 : decode cX1_begins 5 = .ok (.istore_n 3, 1) := by decide +kernel
theorem dX1_begins_6 : decode cX1_begins 6 = .ok (.iload_n 3, 1) := by decide +kernel
theorem dX1_begins_7 : decode cX1_begins 7 = .ok (.aload_n 0, 1) := by decide +kernel
theorem dX1_begins_8 : decode cX1_begins 8 = .ok (.getfield 19, 3) := by decide +kernel
theorem dX1_begins_11 : decode cX1_begins 11 = .ok (.if_icmp .ge 28, 3) := by decide +kernel
theorem dX1_begins_14 : decode cX1_begins 14 = .ok (.iload_n 3, 1) := by decide +kernel
theorem dX1_begins_15 : decode cX1_begins 15 = .ok (.iload_n 2, 1) := by decide +kernel
theorem dX1_begins_16 : decode cX1_begins 16 = .ok (.if_icmp .ne 17, 3) := by decide +kernel
theorem dX1_begins_19 : decode cX1_begins 19 = .ok (.iload_n 1, 1) := by decide +kernel
theorem dX1_begins_20 : decode cX1_begins 20 = .ok (.iconst 1, 1) := by decide +kernel
theorem dX1_begins_21 : decode cX1_begins 21 = .ok (.iload_n 3, 1) := by decide +kernel
theorem dX1_begins_22 : decode cX1_begins 22 = .ok (.ishl, 1) := by decide +kernel
theorem dX1_begins_23 : decode cX1_begins 23 = .ok (.ior, 1) := by decide +kernel
theorem dX1_begins_24 : decode cX1_begins 24 = .ok (.istore_n 1, 1) := by decide +kernel
theorem dX1_begins_25 : decode cX1_begins 25 = .ok (.iload_n 2, 1) := by decide +kernel
theorem dX1_begins_26 : decode cX1_begins 26 = .ok (.aload_n 0, 1) := by decide +kernel
theorem dX1_begins_27 : decode cX1_begins 27 = .ok (.iload_n 3, 1) := by decide +kernel
theorem dX1_begins_28 : decode cX1_begins 28 = .ok (.invokevirtual 49, 3) := by decide +kernel
theorem dX1_begins_31 : decode cX1_begins 31 = .ok (.iadd, 1) := by decide +kernel
theorem dX1_begins_32 : decode cX1_begins 32 = .ok (.istore_n 2, 1) := by decide +kernel
theorem dX1_begins_33 : decode cX1_begins 33 = .ok (.iinc 3 1, 3) := by decide +kernel
theorem dX1_begins_36 : decode cX1_begins 36 = .ok (.goto (-30), 3) := by decide +kernel
theorem dX1_begins_39 : decode cX1_begins 39 = .ok (.iload_n 1, 1) := by decide +kernel
theorem dX1_begins_40 : decode cX1_begins 40 = .ok (.ireturn, 1) := by decide +kernel
theorem dX1_beginOf_0 : decode cX1_beginOf 0 = .ok (.aload_n 0, 1) := by decide +kernel
theorem dX1_beginOf_1 : decode cX1_beginOf 1 = .ok (.invokevirtual 59, 3) := by decide +kernel
theorem dX1_beginOf_4 : decode cX1_beginOf 4 = .ok (.istore_n 2, 1) := by decide +kernel
theorem dX1_beginOf_5 : decode cX1_beginOf 5 = .ok (.iconst 0, 1) := by decide +kernel
theorem dX1_beginOf_6 : decode cX1_beginOf 6 = .ok (.istore_n 3, 1) := by decide +kernel
theorem dX1_beginOf_7 : decode cX1_beginOf 7 = .ok (.iconst 0, 1) := by decide +kernel
theorem dX1_beginOf_8 : decode cX1_beginOf 8 = .ok (.istore 4, 2) := by decide +kernel
theorem dX1_beginOf_10 : decode cX1_beginOf 10 = .ok (.iload 4, 2) := by decide +kernel
theorem dX1_beginOf_12 : decode cX1_beginOf 12 = .ok (.aload_n 0, 1) := by decide +kernel
theorem dX1_beginOf_13 : decode cX1_beginOf 13 = .ok (.getfield 19, 3) := by decide +kernel
theorem dX1_beginOf_16 : decode cX1_beginOf 16 = .ok (.if_icmp .ge 29, 3) := by decide +kernel
theorem dX1_beginOf_19 : decode cX1_beginOf 19 = .ok (.iload_n 2, 1) := by decide +kernel
theorem dX1_beginOf_20 : decode cX1_beginOf 20 = .ok (.iload 4, 2) := by decide +kernel
theorem dX1_beginOf_22 : decode cX1_beginOf 22 = .ok (.invokestatic 43, 3) := by decide +kernel
theorem dX1_beginOf_25 : decode cX1_beginOf 25 = .ok (.ifCond .eq 14, 3) := by decide +kernel
theorem dX1_beginOf_28 : decode cX1_beginOf 28 = .ok (.iload_n 3, 1) := by decide +kernel
theorem dX1_beginOf_29 : decode cX1_beginOf 29 = .ok (.iload_n 1, 1) := by decide +kernel
theorem dX1_beginOf_30 : decode cX1_beginOf 30 = .ok (.if_icmp .ne 6, 3) := by decide +kernel
theorem dX1_beginOf_33 : decode cX1_beginOf 33 = .ok (.iload 4, 2) := by decide +kernel
theorem dX1_beginOf_35 : decode cX1_beginOf 35 = .ok (.ireturn, 1) := by decide +kernel
theorem dX1_beginOf_36 : decode cX1_beginOf 36 = .ok (.iinc 3 1, 3) := by decide +kernel
theorem dX1_beginOf_39 : decode cX1_beginOf 39 = .ok (.iinc 4 1, 3) := by decide +kernel
theorem dX1_beginOf_42 : decode cX1_beginOf 42 = .ok (.goto (-32), 3) := by decide +kernel
theorem dX1_beginOf_45 : decode cX1_beginOf 45 = .ok (.iconst (-1), 1) := by decide +kernel
theorem dX1_beginOf_46 : decode cX1_beginOf 46 = .ok (.ireturn, 1) := by decide +kernel
theorem dX1_backBegins_0 : decode cX1_backBegins 0 = .ok (.aload_n 0, 1) := by decide +kernel
theorem dX1_backBegins_1 : decode cX1_backBegins 1 = .ok (.getfield 19, 3) := by decide +kernel
theorem dX1_backBegins_4 : decode cX1_backBegins 4 = .ok (.iconst 1, 1) := by decide +kernel
theorem dX1_backBegins_5 : decode cX1_backBegins 5 = .ok (.isub, 1) := by decide +kernel
theorem dX1_backBegins_6 : decode cX1_backBegins 6 = .ok (.istore_n 1, 1) := by decide +kernel
theorem dX1_backBegins_7 : decode cX1_backBegins 7 = .ok (.iload_n 1, 1) := by decide +kernel
theorem dX1_backBegins_8 : decode cX1_backBegins 8 = .ok (.ifCond .lt 39, 3) := by decide +kernel
theorem dX1_backBegins_11 : decode cX1_backBegins 11 = .ok (.iload_n 1, 1) := by decide +kernel
theorem dX1_backBegins_12 : decode cX1_backBegins 12 = .ok (.aload_n 0, 1) := by decide +kernel
theorem dX1_backBegins_13 : decode cX1_backBegins 13 = .ok (.iload_n 1, 1) := by decide +kernel
theorem dX1_backBegins_14 : decode cX1_backBegins 14 = .ok (.invokevirtual 49, 3) := by decide +kernel
theorem dX1_backBegins_17 : decode cX1_backBegins 17 = .ok (.iadd, 1) := by decide +kernel
theorem dX1_backBegins_18 : decode cX1_backBegins 18 = .ok (.istore_n 2, 1) := by decide +kernel
theorem dX1_backBegins_19 : decode cX1_backBegins 19 = .ok (.iload_n 1, 1) := by decide +kernel
theorem dX1_backBegins_20 : decode cX1_backBegins 20 = .ok (.iconst 1, 1) := by decide +kernel
theorem dX1_backBegins_21 : decode cX1_backBegins 21 = .ok (.iadd, 1) := by decide +kernel
theorem dX1_backBegins_22 : decode cX1_backBegins 22 = .ok (.istore_n 3, 1) := by decide +kernel
theorem dX1_backBegins_23 : decode cX1_backBegins 23 = .ok (.iload_n 3, 1) := by decide +kernel
theorem dX1_backBegins_24 : decode cX1_backBegins 24 = .ok (.iload_n 2, 1) := by decide +kernel
theorem dX1_backBegins_25 : decode cX1_backBegins 25 = .ok (.if_icmp .gt 16, 3) := by decide +kernel
theorem dX1_backBegins_28 : decode cX1_backBegins 28 = .ok (.aload_n 0, 1) := by decide +kernel
theorem dX1_backBegins_29 : decode cX1_backBegins 29 = .ok (.getfield 15, 3) := by decide +kernel
theorem dX1_backBegins_32 : decode cX1_backBegins 32 = .ok (.iload_n 3, 1) := by decide +kernel
theorem dX1_backBegins_33 : decode cX1_backBegins 33 = .ok (.iload_n 1, 1) := by decide +kernel
theorem dX1_backBegins_34 : decode cX1_backBegins 34 = .ok (.iastore, 1) := by decide +kernel
theorem dX1_backBegins_35 : decode cX1_backBegins 35 = .ok (.iinc 3 1, 3) := by decide +kernel
theorem dX1_backBegins_38 : decode cX1_backBegins 38 = .ok (.goto (-15), 3) := by decide +kernel
theorem dX1_backBegins_41 : decode cX1_backBegins 41 = .ok (.iinc 1 (-1), 3) := by decide +kernel
theorem dX1_backBegins_44 : decode cX1_backBegins 44 = .ok (.goto (-37), 3) := by decide +kernel
theorem dX1_backBegins_47 : decode cX1_backBegins 47 = .ok (.iconst 0, 1) := by decide +kernel
theorem dX1_backBegins_48 : decode cX1_backBegins 48 = .ok (.istore_n 1, 1) := by decide +kernel
theorem dX1_backBegins_49 : decode cX1_backBegins 49 = .ok (.aload_n 0, 1) := by decide +kernel
theorem dX1_backBegins_50 : decode cX1_backBegins 50 = .ok (.getfield 19, 3) := by decide +kernel
theorem dX1_backBegins_53 : decode cX1_backBegins 53 = .ok (.istore_n 2, 1) := by decide +kernel
theorem dX1_backBegins_54 : decode cX1_backBegins 54 = .ok (.aload_n 0, 1) := by decide +kernel
theorem dX1_backBegins_55 : decode cX1_backBegins 55 = .ok (.getfield 19, 3) := by decide +kernel
theorem dX1_backBegins_58 : decode cX1_backBegins 58 = .ok (.istore_n 3, 1) := by decide +kernel
theorem dX1_backBegins_59 : decode cX1_backBegins 59 = .ok (.iload_n 3, 1) := by decide +kernel
theorem dX1_backBegins_60 : decode cX1_backBegins 60 = .ok (.ifCond .le 27, 3) := by decide +kernel
theorem dX1_backBegins_63 : decode cX1_backBegins 63 = .ok (.iload_n 3, 1) := by decide +kernel
theorem dX1_backBegins_64 : decode cX1_backBegins 64 = .ok (.iload_n 2, 1) := by decide +kernel
theorem dX1_backBegins_65 : decode cX1_backBegins 65 = .ok (.if_icmp .ne 16, 3) := by decide +kernel
theorem dX1_backBegins_68 : decode cX1_backBegins 68 = .ok (.aload_n 0, 1) := by decide +kernel
theorem dX1_backBegins_69 : decode cX1_backBegins 69 = .ok (.getfield 15, 3) := by decide +kernel
theorem dX1_backBegins_72 : decode cX1_backBegins 72 = .ok (.iload_n 3, 1) := by decide +kernel
theorem dX1_backBegins_73 : decode cX1_backBegins 73 = .ok (.iaload, 1) := by decide +kernel
theorem dX1_backBegins_74 : decode cX1_backBegins 74 = .ok (.istore_n 2, 1) := by decide +kernel
theorem dX1_backBegins_75 : decode cX1_backBegins 75 = .ok (.iload_n 1, 1) := by decide +kernel
theorem dX1_backBegins_76 : decode cX1_backBegins 76 = .ok (.iconst 1, 1) := by decide +kernel
theorem dX1_backBegins_77 : decode cX1_backBegins 77 = .ok (.iload_n 2, 1) := by decide +kernel
theorem dX1_backBegins_78 : decode cX1_backBegins 78 = .ok (.ishl, 1) := by decide +kernel
theorem dX1_backBegins_79 : decode cX1_backBegins 79 = .ok (.ior, 1) := by decide +kernel
theorem dX1_backBegins_80 : decode cX1_backBegins 80 = .ok (.istore_n 1, 1) := by decide +kernel
theorem dX1_backBegins_81 : decode cX1_backBegins 81 = .ok (.iinc 3 (-1), 3) := by decide +kernel
theorem dX1_backBegins_84 : decode cX1_backBegins 84 = .ok (.goto (-25), 3) := by decide +kernel
theorem dX1_backBegins_87 : decode cX1_backBegins 87 = .ok (.iload_n 1, 1) := by decide +kernel
theorem dX1_backBegins_88 : decode cX1_backBegins 88 = .ok (.ireturn, 1) := by decide +kernel
theorem dX1_fewestPieces_0 : decode cX1_fewestPieces 0 = .ok (.iconst 0, 1) := by decide +kernel
theorem dX1_fewestPieces_1 : decode cX1_fewestPieces 1 = .ok (.istore_n 1, 1) := by decide +kernel
theorem dX1_fewestPieces_2 : decode cX1_fewestPieces 2 = .ok (.iload_n 1, 1) := by decide +kernel
theorem dX1_fewestPieces_3 : decode cX1_fewestPieces 3 = .ok (.aload_n 0, 1) := by decide +kernel
theorem dX1_fewestPieces_4 : decode cX1_fewestPieces 4 = .ok (.getfield 19, 3) := by decide +kernel
theorem dX1_fewestPieces_7 : decode cX1_fewestPieces 7 = .ok (.if_icmp .gt 16, 3) := by decide +kernel
theorem dX1_fewestPieces_10 : decode cX1_fewestPieces 10 = .ok (.aload_n 0, 1) := by decide +kernel
theorem dX1_fewestPieces_11 : decode cX1_fewestPieces 11 = .ok (.getfield 15, 3) := by decide +kernel
theorem dX1_fewestPieces_14 : decode cX1_fewestPieces 14 = .ok (.iload_n 1, 1) := by decide +kernel
theorem dX1_fewestPieces_15 : decode cX1_fewestPieces 15 = .ok (.iload_n 1, 1) := by decide +kernel
theorem dX1_fewestPieces_16 : decode cX1_fewestPieces 16 = .ok (.iastore, 1) := by decide +kernel
theorem dX1_fewestPieces_17 : decode cX1_fewestPieces 17 = .ok (.iinc 1 1, 3) := by decide +kernel
theorem dX1_fewestPieces_20 : decode cX1_fewestPieces 20 = .ok (.goto (-18), 3) := by decide +kernel
theorem dX1_fewestPieces_23 : decode cX1_fewestPieces 23 = .ok (.iconst 0, 1) := by decide +kernel
theorem dX1_fewestPieces_24 : decode cX1_fewestPieces 24 = .ok (.istore_n 1, 1) := by decide +kernel
theorem dX1_fewestPieces_25 : decode cX1_fewestPieces 25 = .ok (.iload_n 1, 1) := by decide +kernel
theorem dX1_fewestPieces_26 : decode cX1_fewestPieces 26 = .ok (.aload_n 0, 1) := by decide +kernel
theorem dX1_fewestPieces_27 : decode cX1_fewestPieces 27 = .ok (.getfield 19, 3) := by decide +kernel
theorem dX1_fewestPieces_30 : decode cX1_fewestPieces 30 = .ok (.if_icmp .ge 55, 3) := by decide +kernel
theorem dX1_fewestPieces_33 : decode cX1_fewestPieces 33 = .ok (.iload_n 1, 1) := by decide +kernel
theorem dX1_fewestPieces_34 : decode cX1_fewestPieces 34 = .ok (.aload_n 0, 1) := by decide +kernel
theorem dX1_fewestPieces_35 : decode cX1_fewestPieces 35 = .ok (.iload_n 1, 1) := by decide +kernel
theorem dX1_fewestPieces_36 : decode cX1_fewestPieces 36 = .ok (.invokevirtual 49, 3) := by decide +kernel
theorem dX1_fewestPieces_39 : decode cX1_fewestPieces 39 = .ok (.iadd, 1) := by decide +kernel
theorem dX1_fewestPieces_40 : decode cX1_fewestPieces 40 = .ok (.istore_n 2, 1) := by decide +kernel
theorem dX1_fewestPieces_41 : decode cX1_fewestPieces 41 = .ok (.iload_n 1, 1) := by decide +kernel
theorem dX1_fewestPieces_42 : decode cX1_fewestPieces 42 = .ok (.iconst 1, 1) := by decide +kernel
theorem dX1_fewestPieces_43 : decode cX1_fewestPieces 43 = .ok (.iadd, 1) := by decide +kernel
theorem dX1_fewestPieces_44 : decode cX1_fewestPieces 44 = .ok (.istore_n 3, 1) := by decide +kernel
theorem dX1_fewestPieces_45 : decode cX1_fewestPieces 45 = .ok (.iload_n 3, 1) := by decide +kernel
theorem dX1_fewestPieces_46 : decode cX1_fewestPieces 46 = .ok (.iload_n 2, 1) := by decide +kernel
theorem dX1_fewestPieces_47 : decode cX1_fewestPieces 47 = .ok (.if_icmp .gt 32, 3) := by decide +kernel
theorem dX1_fewestPieces_50 : decode cX1_fewestPieces 50 = .ok (.aload_n 0, 1) := by decide +kernel
theorem dX1_fewestPieces_51 : decode cX1_fewestPieces 51 = .ok (.getfield 15, 3) := by decide +kernel
theorem dX1_fewestPieces_54 : decode cX1_fewestPieces 54 = .ok (.iload_n 3, 1) := by decide +kernel
theorem dX1_fewestPieces_55 : decode cX1_fewestPieces 55 = .ok (.aload_n 0, 1) := by decide +kernel
theorem dX1_fewestPieces_56 : decode cX1_fewestPieces 56 = .ok (.getfield 15, 3) := by decide +kernel
theorem dX1_fewestPieces_59 : decode cX1_fewestPieces 59 = .ok (.iload_n 3, 1) := by decide +kernel
theorem dX1_fewestPieces_60 : decode cX1_fewestPieces 60 = .ok (.iaload, 1) := by decide +kernel
theorem dX1_fewestPieces_61 : decode cX1_fewestPieces 61 = .ok (.aload_n 0, 1) := by decide +kernel
theorem dX1_fewestPieces_62 : decode cX1_fewestPieces 62 = .ok (.getfield 15, 3) := by decide +kernel
theorem dX1_fewestPieces_65 : decode cX1_fewestPieces 65 = .ok (.iload_n 1, 1) := by decide +kernel
theorem dX1_fewestPieces_66 : decode cX1_fewestPieces 66 = .ok (.iaload, 1) := by decide +kernel
theorem dX1_fewestPieces_67 : decode cX1_fewestPieces 67 = .ok (.iconst 1, 1) := by decide +kernel
theorem dX1_fewestPieces_68 : decode cX1_fewestPieces 68 = .ok (.iadd, 1) := by decide +kernel
theorem dX1_fewestPieces_69 : decode cX1_fewestPieces 69 = .ok (.invokestatic 63, 3) := by decide +kernel
theorem dX1_fewestPieces_72 : decode cX1_fewestPieces 72 = .ok (.iastore, 1) := by decide +kernel
theorem dX1_fewestPieces_73 : decode cX1_fewestPieces 73 = .ok (.iinc 3 1, 3) := by decide +kernel
theorem dX1_fewestPieces_76 : decode cX1_fewestPieces 76 = .ok (.goto (-31), 3) := by decide +kernel
theorem dX1_fewestPieces_79 : decode cX1_fewestPieces 79 = .ok (.iinc 1 1, 3) := by decide +kernel
theorem dX1_fewestPieces_82 : decode cX1_fewestPieces 82 = .ok (.goto (-57), 3) := by decide +kernel
theorem dX1_fewestPieces_85 : decode cX1_fewestPieces 85 = .ok (.aload_n 0, 1) := by decide +kernel
theorem dX1_fewestPieces_86 : decode cX1_fewestPieces 86 = .ok (.getfield 15, 3) := by decide +kernel
theorem dX1_fewestPieces_89 : decode cX1_fewestPieces 89 = .ok (.aload_n 0, 1) := by decide +kernel
theorem dX1_fewestPieces_90 : decode cX1_fewestPieces 90 = .ok (.getfield 19, 3) := by decide +kernel
theorem dX1_fewestPieces_93 : decode cX1_fewestPieces 93 = .ok (.iaload, 1) := by decide +kernel
theorem dX1_fewestPieces_94 : decode cX1_fewestPieces 94 = .ok (.ireturn, 1) := by decide +kernel
theorem dX1_piecesCutAt_0 : decode cX1_piecesCutAt 0 = .ok (.iconst 0, 1) := by decide +kernel
theorem dX1_piecesCutAt_1 : decode cX1_piecesCutAt 1 = .ok (.istore_n 2, 1) := by decide +kernel
theorem dX1_piecesCutAt_2 : decode cX1_piecesCutAt 2 = .ok (.iconst 0, 1) := by decide +kernel
theorem dX1_piecesCutAt_3 : decode cX1_piecesCutAt 3 = .ok (.istore_n 3, 1) := by decide +kernel
theorem dX1_piecesCutAt_4 : decode cX1_piecesCutAt 4 = .ok (.iconst 1, 1) := by decide +kernel
theorem dX1_piecesCutAt_5 : decode cX1_piecesCutAt 5 = .ok (.istore 4, 2) := by decide +kernel
theorem dX1_piecesCutAt_7 : decode cX1_piecesCutAt 7 = .ok (.iload 4, 2) := by decide +kernel
theorem dX1_piecesCutAt_9 : decode cX1_piecesCutAt 9 = .ok (.aload_n 0, 1) := by decide +kernel
theorem dX1_piecesCutAt_10 : decode cX1_piecesCutAt 10 = .ok (.getfield 19, 3) := by decide +kernel
theorem dX1_piecesCutAt_13 : decode cX1_piecesCutAt 13 = .ok (.if_icmp .gt 47, 3) := by decide +kernel
theorem dX1_piecesCutAt_16 : decode cX1_piecesCutAt 16 = .ok (.iload 4, 2) := by decide +kernel
theorem dX1_piecesCutAt_18 : decode cX1_piecesCutAt 18 = .ok (.aload_n 0, 1) := by decide +kernel
theorem dX1_piecesCutAt_19 : decode cX1_piecesCutAt 19 = .ok (.getfield 19, 3) := by decide +kernel
theorem dX1_piecesCutAt_22 : decode cX1_piecesCutAt 22 = .ok (.if_icmp .eq 12, 3) := by decide +kernel
theorem dX1_piecesCutAt_25 : decode cX1_piecesCutAt 25 = .ok (.iload_n 1, 1) := by decide +kernel
theorem dX1_piecesCutAt_26 : decode cX1_piecesCutAt 26 = .ok (.iload 4, 2) := by decide +kernel
theorem dX1_piecesCutAt_28 : decode cX1_piecesCutAt 28 = .ok (.invokestatic 43, 3) := by decide +kernel
theorem dX1_piecesCutAt_31 : decode cX1_piecesCutAt 31 = .ok (.ifCond .eq 23, 3) := by decide +kernel
theorem dX1_piecesCutAt_34 : decode cX1_piecesCutAt 34 = .ok (.aload_n 0, 1) := by decide +kernel
theorem dX1_piecesCutAt_35 : decode cX1_piecesCutAt 35 = .ok (.iload_n 3, 1) := by decide +kernel
theorem dX1_piecesCutAt_36 : decode cX1_piecesCutAt 36 = .ok (.invokevirtual 49, 3) := by decide +kernel
theorem dX1_piecesCutAt_39 : decode cX1_piecesCutAt 39 = .ok (.iload 4, 2) := by decide +kernel
theorem dX1_piecesCutAt_41 : decode cX1_piecesCutAt 41 = .ok (.iload_n 3, 1) := by decide +kernel
theorem dX1_piecesCutAt_42 : decode cX1_piecesCutAt 42 = .ok (.isub, 1) := by decide +kernel
theorem dX1_piecesCutAt_43 : decode cX1_piecesCutAt 43 = .ok (.if_icmp .ge 5, 3) := by decide +kernel
theorem dX1_piecesCutAt_46 : decode cX1_piecesCutAt 46 = .ok (.iconst (-1), 1) := by decide +kernel
theorem dX1_piecesCutAt_47 : decode cX1_piecesCutAt 47 = .ok (.ireturn, 1) := by decide +kernel
theorem dX1_piecesCutAt_48 : decode cX1_piecesCutAt 48 = .ok (.iinc 2 1, 3) := by decide +kernel
theorem dX1_piecesCutAt_51 : decode cX1_piecesCutAt 51 = .ok (.iload 4, 2) := by decide +kernel
theorem dX1_piecesCutAt_53 : decode cX1_piecesCutAt 53 = .ok (.istore_n 3, 1) := by decide +kernel
theorem dX1_piecesCutAt_54 : decode cX1_piecesCutAt 54 = .ok (.iinc 4 1, 3) := by decide +kernel
theorem dX1_piecesCutAt_57 : decode cX1_piecesCutAt 57 = .ok (.goto (-50), 3) := by decide +kernel
theorem dX1_piecesCutAt_60 : decode cX1_piecesCutAt 60 = .ok (.iload_n 2, 1) := by decide +kernel
theorem dX1_piecesCutAt_61 : decode cX1_piecesCutAt 61 = .ok (.ireturn, 1) := by decide +kernel
theorem dX1_isTextSound_0 : decode cX1_isTextSound 0 = .ok (.aload_n 0, 1) := by decide +kernel
theorem dX1_isTextSound_1 : decode cX1_isTextSound 1 = .ok (.invokevirtual 59, 3) := by decide +kernel
theorem dX1_isTextSound_4 : decode cX1_isTextSound 4 = .ok (.invokestatic 69, 3) := by decide +kernel
theorem dX1_isTextSound_7 : decode cX1_isTextSound 7 = .ok (.istore_n 1, 1) := by decide +kernel
theorem dX1_isTextSound_8 : decode cX1_isTextSound 8 = .ok (.aload_n 0, 1) := by decide +kernel
theorem dX1_isTextSound_9 : decode cX1_isTextSound 9 = .ok (.invokevirtual 59, 3) := by decide +kernel
theorem dX1_isTextSound_12 : decode cX1_isTextSound 12 = .ok (.invokestatic 72, 3) := by decide +kernel
theorem dX1_isTextSound_15 : decode cX1_isTextSound 15 = .ok (.istore_n 2, 1) := by decide +kernel
theorem dX1_isTextSound_16 : decode cX1_isTextSound 16 = .ok (.aload_n 0, 1) := by decide +kernel
theorem dX1_isTextSound_17 : decode cX1_isTextSound 17 = .ok (.getfield 19, 3) := by decide +kernel
theorem dX1_isTextSound_20 : decode cX1_isTextSound 20 = .ok (.bipush 30, 2) := by decide +kernel
theorem dX1_isTextSound_22 : decode cX1_isTextSound 22 = .ok (.if_icmp .gt 55, 3) := by decide +kernel
theorem dX1_isTextSound_25 : decode cX1_isTextSound 25 = .ok (.iload_n 1, 1) := by decide +kernel
theorem dX1_isTextSound_26 : decode cX1_isTextSound 26 = .ok (.aload_n 0, 1) := by decide +kernel
theorem dX1_isTextSound_27 : decode cX1_isTextSound 27 = .ok (.invokevirtual 77, 3) := by decide +kernel
theorem dX1_isTextSound_30 : decode cX1_isTextSound 30 = .ok (.invokestatic 69, 3) := by decide +kernel
theorem dX1_isTextSound_33 : decode cX1_isTextSound 33 = .ok (.if_icmp .ne 44, 3) := by decide +kernel
theorem dX1_isTextSound_36 : decode cX1_isTextSound 36 = .ok (.iload_n 2, 1) := by decide +kernel
theorem dX1_isTextSound_37 : decode cX1_isTextSound 37 = .ok (.aload_n 0, 1) := by decide +kernel
theorem dX1_isTextSound_38 : decode cX1_isTextSound 38 = .ok (.invokevirtual 80, 3) := by decide +kernel
theorem dX1_isTextSound_41 : decode cX1_isTextSound 41 = .ok (.if_icmp .ne 36, 3) := by decide +kernel
theorem dX1_isTextSound_44 : decode cX1_isTextSound 44 = .ok (.iload_n 2, 1) := by decide +kernel
theorem dX1_isTextSound_45 : decode cX1_isTextSound 45 = .ok (.aload_n 0, 1) := by decide +kernel
theorem dX1_isTextSound_46 : decode cX1_isTextSound 46 = .ok (.iload_n 1, 1) := by decide +kernel
theorem dX1_isTextSound_47 : decode cX1_isTextSound 47 = .ok (.invokevirtual 83, 3) := by decide +kernel
theorem dX1_isTextSound_50 : decode cX1_isTextSound 50 = .ok (.if_icmp .ne 27, 3) := by decide +kernel
theorem dX1_isTextSound_53 : decode cX1_isTextSound 53 = .ok (.aload_n 0, 1) := by decide +kernel
theorem dX1_isTextSound_54 : decode cX1_isTextSound 54 = .ok (.invokevirtual 86, 3) := by decide +kernel
theorem dX1_isTextSound_57 : decode cX1_isTextSound 57 = .ok (.aload_n 0, 1) := by decide +kernel
theorem dX1_isTextSound_58 : decode cX1_isTextSound 58 = .ok (.invokevirtual 90, 3) := by decide +kernel
theorem dX1_isTextSound_61 : decode cX1_isTextSound 61 = .ok (.iconst (-1), 1) := by decide +kernel
theorem dX1_isTextSound_62 : decode cX1_isTextSound 62 = .ok (.if_icmp .ne 7, 3) := by decide +kernel
theorem dX1_isTextSound_65 : decode cX1_isTextSound 65 = .ok (.iconst 1, 1) := by decide +kernel
theorem dX1_isTextSound_66 : decode cX1_isTextSound 66 = .ok (.goto 4, 3) := by decide +kernel
theorem dX1_isTextSound_69 : decode cX1_isTextSound 69 = .ok (.iconst 0, 1) := by decide +kernel
theorem dX1_isTextSound_70 : decode cX1_isTextSound 70 = .ok (.if_icmp .ne 7, 3) := by decide +kernel
theorem dX1_isTextSound_73 : decode cX1_isTextSound 73 = .ok (.iconst 1, 1) := by decide +kernel
theorem dX1_isTextSound_74 : decode cX1_isTextSound 74 = .ok (.goto 4, 3) := by decide +kernel
theorem dX1_isTextSound_77 : decode cX1_isTextSound 77 = .ok (.iconst 0, 1) := by decide +kernel
theorem dX1_isTextSound_78 : decode cX1_isTextSound 78 = .ok (.ireturn, 1) := by decide +kernel
theorem dX1_digestFrom_0 : decode cX1_digestFrom 0 = .ok (.lload_n 1, 1) := by decide +kernel
theorem dX1_digestFrom_1 : decode cX1_digestFrom 1 = .ok (.aload_n 0, 1) := by decide +kernel
theorem dX1_digestFrom_2 : decode cX1_digestFrom 2 = .ok (.getfield 19, 3) := by decide +kernel
theorem dX1_digestFrom_5 : decode cX1_digestFrom 5 = .ok (.invokestatic 93, 3) := by decide +kernel
theorem dX1_digestFrom_8 : decode cX1_digestFrom 8 = .ok (.lstore_n 3, 1) := by decide +kernel
theorem dX1_digestFrom_9 : decode cX1_digestFrom 9 = .ok (.iconst 0, 1) := by decide +kernel
theorem dX1_digestFrom_10 : decode cX1_digestFrom 10 = .ok (.istore 5, 2) := by decide +kernel
theorem dX1_digestFrom_12 : decode cX1_digestFrom 12 = .ok (.iload 5, 2) := by decide +kernel
theorem dX1_digestFrom_14 : decode cX1_digestFrom 14 = .ok (.aload_n 0, 1) := by decide +kernel
theorem dX1_digestFrom_15 : decode cX1_digestFrom 15 = .ok (.getfield 19, 3) := by decide +kernel
theorem dX1_digestFrom_18 : decode cX1_digestFrom 18 = .ok (.if_icmp .ge 31, 3) := by decide +kernel
theorem dX1_digestFrom_21 : decode cX1_digestFrom 21 = .ok (.lload_n 3, 1) := by decide +kernel
theorem dX1_digestFrom_22 : decode cX1_digestFrom 22 = .ok (.aload_n 0, 1) := by decide +kernel
theorem dX1_digestFrom_23 : decode cX1_digestFrom 23 = .ok (.iload 5, 2) := by decide +kernel
theorem dX1_digestFrom_25 : decode cX1_digestFrom 25 = .ok (.invokevirtual 23, 3) := by decide +kernel
theorem dX1_digestFrom_28 : decode cX1_digestFrom 28 = .ok (.invokestatic 93, 3) := by decide +kernel
theorem dX1_digestFrom_31 : decode cX1_digestFrom 31 = .ok (.lstore_n 3, 1) := by decide +kernel
theorem dX1_digestFrom_32 : decode cX1_digestFrom 32 = .ok (.lload_n 3, 1) := by decide +kernel
theorem dX1_digestFrom_33 : decode cX1_digestFrom 33 = .ok (.aload_n 0, 1) := by decide +kernel
theorem dX1_digestFrom_34 : decode cX1_digestFrom 34 = .ok (.iload 5, 2) := by decide +kernel
theorem dX1_digestFrom_36 : decode cX1_digestFrom 36 = .ok (.invokevirtual 36, 3) := by decide +kernel
theorem dX1_digestFrom_39 : decode cX1_digestFrom 39 = .ok (.invokestatic 93, 3) := by decide +kernel
theorem dX1_digestFrom_42 : decode cX1_digestFrom 42 = .ok (.lstore_n 3, 1) := by decide +kernel
theorem dX1_digestFrom_43 : decode cX1_digestFrom 43 = .ok (.iinc 5 1, 3) := by decide +kernel
theorem dX1_digestFrom_46 : decode cX1_digestFrom 46 = .ok (.goto (-34), 3) := by decide +kernel
theorem dX1_digestFrom_49 : decode cX1_digestFrom 49 = .ok (.iconst 0, 1) := by decide +kernel
theorem dX1_digestFrom_50 : decode cX1_digestFrom 50 = .ok (.istore 5, 2) := by decide +kernel
theorem dX1_digestFrom_52 : decode cX1_digestFrom 52 = .ok (.iload 5, 2) := by decide +kernel
theorem dX1_digestFrom_54 : decode cX1_digestFrom 54 = .ok (.bipush 13, 2) := by decide +kernel
theorem dX1_digestFrom_56 : decode cX1_digestFrom 56 = .ok (.if_icmp .gt 23, 3) := by decide +kernel
theorem dX1_digestFrom_59 : decode cX1_digestFrom 59 = .ok (.lload_n 3, 1) := by decide +kernel
theorem dX1_digestFrom_60 : decode cX1_digestFrom 60 = .ok (.aload_n 0, 1) := by decide +kernel
theorem dX1_digestFrom_61 : decode cX1_digestFrom 61 = .ok (.iload 5, 2) := by decide +kernel
theorem dX1_digestFrom_63 : decode cX1_digestFrom 63 = .ok (.invokevirtual 97, 3) := by decide +kernel
theorem dX1_digestFrom_66 : decode cX1_digestFrom 66 = .ok (.invokestatic 72, 3) := by decide +kernel
theorem dX1_digestFrom_69 : decode cX1_digestFrom 69 = .ok (.invokestatic 93, 3) := by decide +kernel
theorem dX1_digestFrom_72 : decode cX1_digestFrom 72 = .ok (.lstore_n 3, 1) := by decide +kernel
theorem dX1_digestFrom_73 : decode cX1_digestFrom 73 = .ok (.iinc 5 1, 3) := by decide +kernel
theorem dX1_digestFrom_76 : decode cX1_digestFrom 76 = .ok (.goto (-24), 3) := by decide +kernel
theorem dX1_digestFrom_79 : decode cX1_digestFrom 79 = .ok (.lload_n 3, 1) := by decide +kernel
theorem dX1_digestFrom_80 : decode cX1_digestFrom 80 = .ok (.aload_n 0, 1) := by decide +kernel
theorem dX1_digestFrom_81 : decode cX1_digestFrom 81 = .ok (.invokevirtual 90, 3) := by decide +kernel
theorem dX1_digestFrom_84 : decode cX1_digestFrom 84 = .ok (.invokestatic 93, 3) := by decide +kernel
theorem dX1_digestFrom_87 : decode cX1_digestFrom 87 = .ok (.lstore_n 3, 1) := by decide +kernel
theorem dX1_digestFrom_88 : decode cX1_digestFrom 88 = .ok (.lload_n 3, 1) := by decide +kernel
theorem dX1_digestFrom_89 : decode cX1_digestFrom 89 = .ok (.aload_n 0, 1) := by decide +kernel
theorem dX1_digestFrom_90 : decode cX1_digestFrom 90 = .ok (.invokevirtual 59, 3) := by decide +kernel
theorem dX1_digestFrom_93 : decode cX1_digestFrom 93 = .ok (.invokestatic 72, 3) := by decide +kernel
theorem dX1_digestFrom_96 : decode cX1_digestFrom 96 = .ok (.invokestatic 93, 3) := by decide +kernel
theorem dX1_digestFrom_99 : decode cX1_digestFrom 99 = .ok (.lstore_n 3, 1) := by decide +kernel
theorem dX1_digestFrom_100 : decode cX1_digestFrom 100 = .ok (.lload_n 3, 1) := by decide +kernel
theorem dX1_digestFrom_101 : decode cX1_digestFrom 101 = .ok (.aload_n 0, 1) := by decide +kernel
theorem dX1_digestFrom_102 : decode cX1_digestFrom 102 = .ok (.invokevirtual 59, 3) := by decide +kernel
theorem dX1_digestFrom_105 : decode cX1_digestFrom 105 = .ok (.invokestatic 69, 3) := by decide +kernel
theorem dX1_digestFrom_108 : decode cX1_digestFrom 108 = .ok (.invokestatic 93, 3) := by decide +kernel
theorem dX1_digestFrom_111 : decode cX1_digestFrom 111 = .ok (.lstore_n 3, 1) := by decide +kernel
theorem dX1_digestFrom_112 : decode cX1_digestFrom 112 = .ok (.lload_n 3, 1) := by decide +kernel
theorem dX1_digestFrom_113 : decode cX1_digestFrom 113 = .ok (.aload_n 0, 1) := by decide +kernel
theorem dX1_digestFrom_114 : decode cX1_digestFrom 114 = .ok (.invokevirtual 80, 3) := by decide +kernel
theorem dX1_digestFrom_117 : decode cX1_digestFrom 117 = .ok (.invokestatic 93, 3) := by decide +kernel
theorem dX1_digestFrom_120 : decode cX1_digestFrom 120 = .ok (.lreturn, 1) := by decide +kernel
theorem dX2_init_0 : decode cX2_init 0 = .ok (.aload_n 0, 1) := by decide +kernel
theorem dX2_init_1 : decode cX2_init 1 = .ok (.invokespecial 1, 3) := by decide +kernel
theorem dX2_init_4 : decode cX2_init 4 = .ok (.aload_n 0, 1) := by decide +kernel
theorem dX2_init_5 : decode cX2_init 5 = .ok (.iconst 3, 1) := by decide +kernel
theorem dX2_init_6 : decode cX2_init 6 = .ok (.anewarray 9, 3) := by decide +kernel
theorem dX2_init_9 : decode cX2_init 9 = .ok (.putfield 11, 3) := by decide +kernel
theorem dX2_init_12 : decode cX2_init 12 = .ok (.iconst 0, 1) := by decide +kernel
theorem dX2_init_13 : decode cX2_init 13 = .ok (.istore_n 1, 1) := by decide +kernel
theorem dX2_init_14 : decode cX2_init 14 = .ok (.iload_n 1, 1) := by decide +kernel
theorem dX2_init_15 : decode cX2_init 15 = .ok (.iconst 3, 1) := by decide +kernel
theorem dX2_init_16 : decode cX2_init 16 = .ok (.if_icmp .ge 22, 3) := by decide +kernel
theorem dX2_init_19 : decode cX2_init 19 = .ok (.aload_n 0, 1) := by decide +kernel
theorem dX2_init_20 : decode cX2_init 20 = .ok (.getfield 11, 3) := by decide +kernel
theorem dX2_init_23 : decode cX2_init 23 = .ok (.iload_n 1, 1) := by decide +kernel
theorem dX2_init_24 : decode cX2_init 24 = .ok (.new 9, 3) := by decide +kernel
theorem dX2_init_27 : decode cX2_init 27 = .ok (.dup, 1) := by decide +kernel
theorem dX2_init_28 : decode cX2_init 28 = .ok (.invokespecial 15, 3) := by decide +kernel
theorem dX2_init_31 : decode cX2_init 31 = .ok (.aastore, 1) := by decide +kernel
theorem dX2_init_32 : decode cX2_init 32 = .ok (.iinc 1 1, 3) := by decide +kernel
theorem dX2_init_35 : decode cX2_init 35 = .ok (.goto (-21), 3) := by decide +kernel
theorem dX2_init_38 : decode cX2_init 38 = .ok (.return_, 1) := by decide +kernel
theorem dX2_add_0 : decode cX2_add 0 = .ok (.aload_n 0, 1) := by decide +kernel
theorem dX2_add_1 : decode cX2_add 1 = .ok (.iload_n 1, 1) := by decide +kernel
theorem dX2_add_2 : decode cX2_add 2 = .ok (.invokevirtual 16, 3) := by decide +kernel
theorem dX2_add_5 : decode cX2_add 5 = .ok (.astore_n 3, 1) := by decide +kernel
theorem dX2_add_6 : decode cX2_add 6 = .ok (.iload_n 2, 1) := by decide +kernel
theorem dX2_add_7 : decode cX2_add 7 = .ok (.invokestatic 20, 3) := by decide +kernel
theorem dX2_add_10 : decode cX2_add 10 = .ok (.aload_n 0, 1) := by decide +kernel
theorem dX2_add_11 : decode cX2_add 11 = .ok (.aload_n 3, 1) := by decide +kernel
theorem dX2_add_12 : decode cX2_add 12 = .ok (.aload_n 3, 1) := by decide +kernel
theorem dX2_add_13 : decode cX2_add 13 = .ok (.invokevirtual 24, 3) := by decide +kernel
theorem dX2_add_16 : decode cX2_add 16 = .ok (.iload_n 2, 1) := by decide +kernel
theorem dX2_add_17 : decode cX2_add 17 = .ok (.invokevirtual 28, 3) := by decide +kernel
theorem dX2_add_20 : decode cX2_add 20 = .ok (.ireturn, 1) := by decide +kernel
theorem dX2_put_0 : decode cX2_put 0 = .ok (.aload_n 0, 1) := by decide +kernel
theorem dX2_put_1 : decode cX2_put 1 = .ok (.iload_n 1, 1) := by decide +kernel
theorem dX2_put_2 : decode cX2_put 2 = .ok (.invokevirtual 16, 3) := by decide +kernel
theorem dX2_put_5 : decode cX2_put 5 = .ok (.astore 4, 2) := by decide +kernel
theorem dX2_put_7 : decode cX2_put 7 = .ok (.aload 4, 2) := by decide +kernel
theorem dX2_put_9 : decode cX2_put 9 = .ok (.iload_n 2, 1) := by decide +kernel
theorem dX2_put_10 : decode cX2_put 10 = .ok (.invokestatic 32, 3) := by decide +kernel
theorem dX2_put_13 : decode cX2_put 13 = .ok (.iload_n 3, 1) := by decide +kernel
theorem dX2_put_14 : decode cX2_put 14 = .ok (.invokestatic 20, 3) := by decide +kernel
theorem dX2_put_17 : decode cX2_put 17 = .ok (.aload 4, 2) := by decide +kernel
theorem dX2_put_19 : decode cX2_put 19 = .ok (.iload_n 2, 1) := by decide +kernel
theorem dX2_put_20 : decode cX2_put 20 = .ok (.invokevirtual 36, 3) := by decide +kernel
theorem dX2_put_23 : decode cX2_put 23 = .ok (.istore 5, 2) := by decide +kernel
theorem dX2_put_25 : decode cX2_put 25 = .ok (.aload 4, 2) := by decide +kernel
theorem dX2_put_27 : decode cX2_put 27 = .ok (.iload_n 2, 1) := by decide +kernel
theorem dX2_put_28 : decode cX2_put 28 = .ok (.iload_n 3, 1) := by decide +kernel
theorem dX2_put_29 : decode cX2_put 29 = .ok (.invokevirtual 40, 3) := by decide +kernel
theorem dX2_put_32 : decode cX2_put 32 = .ok (.aload_n 0, 1) := by decide +kernel
theorem dX2_put_33 : decode cX2_put 33 = .ok (.iload 5, 2) := by decide +kernel
theorem dX2_put_35 : decode cX2_put 35 = .ok (.invokevirtual 44, 3) := by decide +kernel
theorem dX2_put_38 : decode cX2_put 38 = .ok (.ireturn, 1) := by decide +kernel
theorem dX2_insert_0 : decode cX2_insert 0 = .ok (.aload_n 0, 1) := by decide +kernel
theorem dX2_insert_1 : decode cX2_insert 1 = .ok (.iload_n 1, 1) := by decide +kernel
theorem dX2_insert_2 : decode cX2_insert 2 = .ok (.invokevirtual 16, 3) := by decide +kernel
theorem dX2_insert_5 : decode cX2_insert 5 = .ok (.astore 4, 2) := by decide +kernel
theorem dX2_insert_7 : decode cX2_insert 7 = .ok (.iload_n 2, 1) := by decide +kernel
theorem dX2_insert_8 : decode cX2_insert 8 = .ok (.ifCond .lt 12, 3) := by decide +kernel
theorem dX2_insert_11 : decode cX2_insert 11 = .ok (.iload_n 2, 1) := by decide +kernel
theorem dX2_insert_12 : decode cX2_insert 12 = .ok (.aload 4, 2) := by decide +kernel
theorem dX2_insert_14 : decode cX2_insert 14 = .ok (.invokevirtual 24, 3) := by decide +kernel
theorem dX2_insert_17 : decode cX2_insert 17 = .ok (.if_icmp .le 11, 3) := by decide +kernel
theorem dX2_insert_20 : decode cX2_insert 20 = .ok (.new 47, 3) := by decide +kernel
theorem dX2_insert_23 : decode cX2_insert 23 = .ok (.dup, 1) := by decide +kernel
theorem dX2_insert_24 : decode cX2_insert 24 = .ok (.invokespecial 49, 3) := by decide +kernel
theorem dX2_insert_27 : decode cX2_insert 27 = .ok (.athrow, 1) := by decide +kernel
theorem dX2_insert_28 : decode cX2_insert 28 = .ok (.iload_n 3, 1) := by decide +kernel
theorem dX2_insert_29 : decode cX2_insert 29 = .ok (.invokestatic 20, 3) := by decide +kernel
theorem dX2_insert_32 : decode cX2_insert 32 = .ok (.aload_n 0, 1) := by decide +kernel
theorem dX2_insert_33 : decode cX2_insert 33 = .ok (.aload 4, 2) := by decide +kernel
theorem dX2_insert_35 : decode cX2_insert 35 = .ok (.iload_n 2, 1) := by decide +kernel
theorem dX2_insert_36 : decode cX2_insert 36 = .ok (.iload_n 3, 1) := by decide +kernel
theorem dX2_insert_37 : decode cX2_insert 37 = .ok (.invokevirtual 28, 3) := by decide +kernel
theorem dX2_insert_40 : decode cX2_insert 40 = .ok (.ireturn, 1) := by decide +kernel
theorem dX2_drop_0 : decode cX2_drop 0 = .ok (.aload_n 0, 1) := by decide +kernel
theorem dX2_drop_1 : decode cX2_drop 1 = .ok (.iload_n 1, 1) := by decide +kernel
theorem dX2_drop_2 : decode cX2_drop 2 = .ok (.invokevirtual 16, 3) := by decide +kernel
theorem dX2_drop_5 : decode cX2_drop 5 = .ok (.astore_n 3, 1) := by decide +kernel
theorem dX2_drop_6 : decode cX2_drop 6 = .ok (.aload_n 3, 1) := by decide +kernel
theorem dX2_drop_7 : decode cX2_drop 7 = .ok (.iload_n 2, 1) := by decide +kernel
theorem dX2_drop_8 : decode cX2_drop 8 = .ok (.invokestatic 32, 3) := by decide +kernel
theorem dX2_drop_11 : decode cX2_drop 11 = .ok (.aload_n 3, 1) := by decide +kernel
theorem dX2_drop_12 : decode cX2_drop 12 = .ok (.iload_n 2, 1) := by decide +kernel
theorem dX2_drop_13 : decode cX2_drop 13 = .ok (.invokevirtual 36, 3) := by decide +kernel
theorem dX2_drop_16 : decode cX2_drop 16 = .ok (.istore 4, 2) := by decide +kernel
theorem dX2_drop_18 : decode cX2_drop 18 = .ok (.aload_n 3, 1) := by decide +kernel
theorem dX2_drop_19 : decode cX2_drop 19 = .ok (.aload_n 3, 1) := by decide +kernel
theorem dX2_drop_20 : decode cX2_drop 20 = .ok (.invokevirtual 50, 3) := by decide +kernel
theorem dX2_drop_23 : decode cX2_drop 23 = .ok (.iconst 1, 1) := by decide +kernel
theorem dX2_drop_24 : decode cX2_drop 24 = .ok (.iload_n 2, 1) := by decide +kernel
theorem dX2_drop_25 : decode cX2_drop 25 = .ok (.ishl, 1) := by decide +kernel
theorem dX2_drop_26 : decode cX2_drop 26 = .ok (.iconst (-1), 1) := by decide +kernel
theorem dX2_drop_27 : decode cX2_drop 27 = .ok (.ixor, 1) := by decide +kernel
theorem dX2_drop_28 : decode cX2_drop 28 = .ok (.iand, 1) := by decide +kernel
theorem dX2_drop_29 : decode cX2_drop 29 = .ok (.invokevirtual 53, 3) := by decide +kernel
theorem dX2_drop_32 : decode cX2_drop 32 = .ok (.pop, 1) := by decide +kernel
theorem dX2_drop_33 : decode cX2_drop 33 = .ok (.aload_n 0, 1) := by decide +kernel
theorem dX2_drop_34 : decode cX2_drop 34 = .ok (.iload 4, 2) := by decide +kernel
theorem dX2_drop_36 : decode cX2_drop 36 = .ok (.invokevirtual 44, 3) := by decide +kernel
theorem dX2_drop_39 : decode cX2_drop 39 = .ok (.ireturn, 1) := by decide +kernel
theorem dX2_clear_0 : decode cX2_clear 0 = .ok (.aload_n 0, 1) := by decide +kernel
theorem dX2_clear_1 : decode cX2_clear 1 = .ok (.aload_n 0, 1) := by decide +kernel
theorem dX2_clear_2 : decode cX2_clear 2 = .ok (.iload_n 1, 1) := by decide +kernel
theorem dX2_clear_3 : decode cX2_clear 3 = .ok (.invokevirtual 16, 3) := by decide +kernel
theorem dX2_clear_6 : decode cX2_clear 6 = .ok (.iconst 0, 1) := by decide +kernel
theorem dX2_clear_7 : decode cX2_clear 7 = .ok (.invokevirtual 53, 3) := by decide +kernel
theorem dX2_clear_10 : decode cX2_clear 10 = .ok (.invokevirtual 44, 3) := by decide +kernel
theorem dX2_clear_13 : decode cX2_clear 13 = .ok (.ireturn, 1) := by decide +kernel
theorem dX2_copy_0 : decode cX2_copy 0 = .ok (.aload_n 0, 1) := by decide +kernel
theorem dX2_copy_1 : decode cX2_copy 1 = .ok (.iload_n 1, 1) := by decide +kernel
theorem dX2_copy_2 : decode cX2_copy 2 = .ok (.invokevirtual 16, 3) := by decide +kernel
theorem dX2_copy_5 : decode cX2_copy 5 = .ok (.astore_n 3, 1) := by decide +kernel
theorem dX2_copy_6 : decode cX2_copy 6 = .ok (.aload_n 0, 1) := by decide +kernel
theorem dX2_copy_7 : decode cX2_copy 7 = .ok (.iload_n 2, 1) := by decide +kernel
theorem dX2_copy_8 : decode cX2_copy 8 = .ok (.invokevirtual 16, 3) := by decide +kernel
theorem dX2_copy_11 : decode cX2_copy 11 = .ok (.astore 4, 2) := by decide +kernel
theorem dX2_copy_13 : decode cX2_copy 13 = .ok (.aload 4, 2) := by decide +kernel
theorem dX2_copy_15 : decode cX2_copy 15 = .ok (.aload_n 3, 1) := by decide +kernel
theorem dX2_copy_16 : decode cX2_copy 16 = .ok (.iconst 0, 1) := by decide +kernel
theorem dX2_copy_17 : decode cX2_copy 17 = .ok (.aload_n 3, 1) := by decide +kernel
theorem dX2_copy_18 : decode cX2_copy 18 = .ok (.invokevirtual 24, 3) := by decide +kernel
theorem dX2_copy_21 : decode cX2_copy 21 = .ok (.invokevirtual 56, 3) := by decide +kernel
theorem dX2_copy_24 : decode cX2_copy 24 = .ok (.aload_n 0, 1) := by decide +kernel
theorem dX2_copy_25 : decode cX2_copy 25 = .ok (.aload 4, 2) := by decide +kernel
theorem dX2_copy_27 : decode cX2_copy 27 = .ok (.invokevirtual 24, 3) := by decide +kernel
theorem dX2_copy_30 : decode cX2_copy 30 = .ok (.invokevirtual 44, 3) := by decide +kernel
theorem dX2_copy_33 : decode cX2_copy 33 = .ok (.ireturn, 1) := by decide +kernel
theorem dX2_join_0 : decode cX2_join 0 = .ok (.aload_n 0, 1) := by decide +kernel
theorem dX2_join_1 : decode cX2_join 1 = .ok (.iload_n 1, 1) := by decide +kernel
theorem dX2_join_2 : decode cX2_join 2 = .ok (.invokevirtual 16, 3) := by decide +kernel
theorem dX2_join_5 : decode cX2_join 5 = .ok (.astore_n 3, 1) := by decide +kernel
theorem dX2_join_6 : decode cX2_join 6 = .ok (.aload_n 0, 1) := by decide +kernel
theorem dX2_join_7 : decode cX2_join 7 = .ok (.iload_n 2, 1) := by decide +kernel
theorem dX2_join_8 : decode cX2_join 8 = .ok (.invokevirtual 16, 3) := by decide +kernel
theorem dX2_join_11 : decode cX2_join 11 = .ok (.astore 4, 2) := by decide +kernel
theorem dX2_join_13 : decode cX2_join 13 = .ok (.aload_n 3, 1) := by decide +kernel
theorem dX2_join_14 : decode cX2_join 14 = .ok (.invokevirtual 24, 3) := by decide +kernel
theorem dX2_join_17 : decode cX2_join 17 = .ok (.aload 4, 2) := by decide +kernel
theorem dX2_join_19 : decode cX2_join 19 = .ok (.invokevirtual 24, 3) := by decide +kernel
theorem dX2_join_22 : decode cX2_join 22 = .ok (.iadd, 1) := by decide +kernel
theorem dX2_join_23 : decode cX2_join 23 = .ok (.bipush 30, 2) := by decide +kernel
theorem dX2_join_25 : decode cX2_join 25 = .ok (.if_icmp .le 8, 3) := by decide +kernel
theorem dX2_join_28 : decode cX2_join 28 = .ok (.aload_n 0, 1) := by decide +kernel
theorem dX2_join_29 : decode cX2_join 29 = .ok (.invokevirtual 60, 3) := by decide +kernel
theorem dX2_join_32 : decode cX2_join 32 = .ok (.ireturn, 1) := by decide +kernel
theorem dX2_join_33 : decode cX2_join 33 = .ok (.aload_n 3, 1) := by decide +kernel
theorem dX2_join_34 : decode cX2_join 34 = .ok (.aload 4, 2) := by decide +kernel
theorem dX2_join_36 : decode cX2_join 36 = .ok (.invokevirtual 63, 3) := by decide +kernel
theorem dX2_join_39 : decode cX2_join 39 = .ok (.aload_n 0, 1) := by decide +kernel
theorem dX2_join_40 : decode cX2_join 40 = .ok (.aload_n 3, 1) := by decide +kernel
theorem dX2_join_41 : decode cX2_join 41 = .ok (.invokevirtual 24, 3) := by decide +kernel
theorem dX2_join_44 : decode cX2_join 44 = .ok (.invokevirtual 44, 3) := by decide +kernel
theorem dX2_join_47 : decode cX2_join 47 = .ok (.ireturn, 1) := by decide +kernel
theorem dX2_turn_0 : decode cX2_turn 0 = .ok (.aload_n 0, 1) := by decide +kernel
theorem dX2_turn_1 : decode cX2_turn 1 = .ok (.aload_n 0, 1) := by decide +kernel
theorem dX2_turn_2 : decode cX2_turn 2 = .ok (.iload_n 1, 1) := by decide +kernel
theorem dX2_turn_3 : decode cX2_turn 3 = .ok (.invokevirtual 16, 3) := by decide +kernel
theorem dX2_turn_6 : decode cX2_turn 6 = .ok (.invokevirtual 67, 3) := by decide +kernel
theorem dX2_turn_9 : decode cX2_turn 9 = .ok (.ifCond .eq 7, 3) := by decide +kernel
theorem dX2_turn_12 : decode cX2_turn 12 = .ok (.iconst 1, 1) := by decide +kernel
theorem dX2_turn_13 : decode cX2_turn 13 = .ok (.goto 4, 3) := by decide +kernel
theorem dX2_turn_16 : decode cX2_turn 16 = .ok (.iconst 0, 1) := by decide +kernel
theorem dX2_turn_17 : decode cX2_turn 17 = .ok (.invokevirtual 44, 3) := by decide +kernel
theorem dX2_turn_20 : decode cX2_turn 20 = .ok (.ireturn, 1) := by decide +kernel
theorem dX2_fill_0 : decode cX2_fill 0 = .ok (.aload_n 0, 1) := by decide +kernel
theorem dX2_fill_1 : decode cX2_fill 1 = .ok (.iload_n 1, 1) := by decide +kernel
theorem dX2_fill_2 : decode cX2_fill 2 = .ok (.invokevirtual 16, 3) := by decide +kernel
theorem dX2_fill_5 : decode cX2_fill 5 = .ok (.astore 4, 2) := by decide +kernel
theorem dX2_fill_7 : decode cX2_fill 7 = .ok (.iload_n 2, 1) := by decide +kernel
theorem dX2_fill_8 : decode cX2_fill 8 = .ok (.invokestatic 20, 3) := by decide +kernel
theorem dX2_fill_11 : decode cX2_fill 11 = .ok (.iload_n 3, 1) := by decide +kernel
theorem dX2_fill_12 : decode cX2_fill 12 = .ok (.ifCond .lt 18, 3) := by decide +kernel
theorem dX2_fill_15 : decode cX2_fill 15 = .ok (.iload_n 3, 1) := by decide +kernel
theorem dX2_fill_16 : decode cX2_fill 16 = .ok (.bipush 30, 2) := by decide +kernel
theorem dX2_fill_18 : decode cX2_fill 18 = .ok (.if_icmp .gt 12, 3) := by decide +kernel
theorem dX2_fill_21 : decode cX2_fill 21 = .ok (.iload_n 2, 1) := by decide +kernel
theorem dX2_fill_22 : decode cX2_fill 22 = .ok (.iload_n 3, 1) := by decide +kernel
theorem dX2_fill_23 : decode cX2_fill 23 = .ok (.iadd, 1) := by decide +kernel
theorem dX2_fill_24 : decode cX2_fill 24 = .ok (.sipush 256, 3) := by decide +kernel
theorem dX2_fill_27 : decode cX2_fill 27 = .ok (.if_icmp .le 11, 3) := by decide +kernel
theorem dX2_fill_30 : decode cX2_fill 30 = .ok (.new 71, 3) := by decide +kernel
theorem dX2_fill_33 : decode cX2_fill 33 = .ok (.dup, 1) := by decide +kernel
theorem dX2_fill_34 : decode cX2_fill 34 = .ok (.invokespecial 73, 3) := by decide +kernel
theorem dX2_fill_37 : decode cX2_fill 37 = .ok (.athrow, 1) := by decide +kernel
theorem dX2_fill_38 : decode cX2_fill 38 = .ok (.aload 4, 2) := by decide +kernel
theorem dX2_fill_40 : decode cX2_fill 40 = .ok (.iconst 0, 1) := by decide +kernel
theorem dX2_fill_41 : decode cX2_fill 41 = .ok (.invokevirtual 53, 3) := by decide +kernel
theorem dX2_fill_44 : decode cX2_fill 44 = .ok (.istore 5, 2) := by decide +kernel
theorem dX2_fill_46 : decode cX2_fill 46 = .ok (.iconst 0, 1) := by decide +kernel
theorem dX2_fill_47 : decode cX2_fill 47 = .ok (.istore 6, 2) := by decide +kernel
theorem dX2_fill_49 : decode cX2_fill 49 = .ok (.iload 6, 2) := by decide +kernel
theorem dX2_fill_51 : decode cX2_fill 51 = .ok (.iload_n 3, 1) := by decide +kernel
theorem dX2_fill_52 : decode cX2_fill 52 = .ok (.if_icmp .ge 20, 3) := by decide +kernel
theorem dX2_fill_55 : decode cX2_fill 55 = .ok (.aload 4, 2) := by decide +kernel
theorem dX2_fill_57 : decode cX2_fill 57 = .ok (.iload 6, 2) := by decide +kernel
theorem dX2_fill_59 : decode cX2_fill 59 = .ok (.iload_n 2, 1) := by decide +kernel
theorem dX2_fill_60 : decode cX2_fill 60 = .ok (.iload 6, 2) := by decide +kernel
theorem dX2_fill_62 : decode cX2_fill 62 = .ok (.iadd, 1) := by decide +kernel
theorem dX2_fill_63 : decode cX2_fill 63 = .ok (.invokevirtual 74, 3) := by decide +kernel
theorem dX2_fill_66 : decode cX2_fill 66 = .ok (.iinc 6 1, 3) := by decide +kernel
theorem dX2_fill_69 : decode cX2_fill 69 = .ok (.goto (-20), 3) := by decide +kernel
theorem dX2_fill_72 : decode cX2_fill 72 = .ok (.aload_n 0, 1) := by decide +kernel
theorem dX2_fill_73 : decode cX2_fill 73 = .ok (.iload 5, 2) := by decide +kernel
theorem dX2_fill_75 : decode cX2_fill 75 = .ok (.invokevirtual 44, 3) := by decide +kernel
theorem dX2_fill_78 : decode cX2_fill 78 = .ok (.ireturn, 1) := by decide +kernel
theorem dX2_cut_0 : decode cX2_cut 0 = .ok (.aload_n 0, 1) := by decide +kernel
theorem dX2_cut_1 : decode cX2_cut 1 = .ok (.iload_n 1, 1) := by decide +kernel
theorem dX2_cut_2 : decode cX2_cut 2 = .ok (.invokevirtual 16, 3) := by decide +kernel
theorem dX2_cut_5 : decode cX2_cut 5 = .ok (.astore 4, 2) := by decide +kernel
theorem dX2_cut_7 : decode cX2_cut 7 = .ok (.iload_n 2, 1) := by decide +kernel
theorem dX2_cut_8 : decode cX2_cut 8 = .ok (.ifCond .lt 17, 3) := by decide +kernel
theorem dX2_cut_11 : decode cX2_cut 11 = .ok (.iload_n 2, 1) := by decide +kernel
theorem dX2_cut_12 : decode cX2_cut 12 = .ok (.iload_n 3, 1) := by decide +kernel
theorem dX2_cut_13 : decode cX2_cut 13 = .ok (.if_icmp .gt 12, 3) := by decide +kernel
theorem dX2_cut_16 : decode cX2_cut 16 = .ok (.iload_n 3, 1) := by decide +kernel
theorem dX2_cut_17 : decode cX2_cut 17 = .ok (.aload 4, 2) := by decide +kernel
theorem dX2_cut_19 : decode cX2_cut 19 = .ok (.invokevirtual 24, 3) := by decide +kernel
theorem dX2_cut_22 : decode cX2_cut 22 = .ok (.if_icmp .le 11, 3) := by decide +kernel
theorem dX2_cut_25 : decode cX2_cut 25 = .ok (.new 47, 3) := by decide +kernel
theorem dX2_cut_28 : decode cX2_cut 28 = .ok (.dup, 1) := by decide +kernel
theorem dX2_cut_29 : decode cX2_cut 29 = .ok (.invokespecial 49, 3) := by decide +kernel
theorem dX2_cut_32 : decode cX2_cut 32 = .ok (.athrow, 1) := by decide +kernel
theorem dX2_cut_33 : decode cX2_cut 33 = .ok (.aload 4, 2) := by decide +kernel
theorem dX2_cut_35 : decode cX2_cut 35 = .ok (.aload 4, 2) := by decide +kernel
theorem dX2_cut_37 : decode cX2_cut 37 = .ok (.iload_n 2, 1) := by decide +kernel
theorem dX2_cut_38 : decode cX2_cut 38 = .ok (.iload_n 3, 1) := by decide +kernel
theorem dX2_cut_39 : decode cX2_cut 39 = .ok (.invokevirtual 56, 3) := by decide +kernel
theorem dX2_cut_42 : decode cX2_cut 42 = .ok (.aload_n 0, 1) := by decide +kernel
theorem dX2_cut_43 : decode cX2_cut 43 = .ok (.aload 4, 2) := by decide +kernel
theorem dX2_cut_45 : decode cX2_cut 45 = .ok (.invokevirtual 24, 3) := by decide +kernel
theorem dX2_cut_48 : decode cX2_cut 48 = .ok (.invokevirtual 44, 3) := by decide +kernel
theorem dX2_cut_51 : decode cX2_cut 51 = .ok (.ireturn, 1) := by decide +kernel
theorem dX2_keep_0 : decode cX2_keep 0 = .ok (.aload_n 0, 1) := by decide +kernel
theorem dX2_keep_1 : decode cX2_keep 1 = .ok (.iload_n 1, 1) := by decide +kernel
theorem dX2_keep_2 : decode cX2_keep 2 = .ok (.invokevirtual 16, 3) := by decide +kernel
theorem dX2_keep_5 : decode cX2_keep 5 = .ok (.astore 4, 2) := by decide +kernel
theorem dX2_keep_7 : decode cX2_keep 7 = .ok (.iload_n 2, 1) := by decide +kernel
theorem dX2_keep_8 : decode cX2_keep 8 = .ok (.invokestatic 77, 3) := by decide +kernel
theorem dX2_keep_11 : decode cX2_keep 11 = .ok (.aload_n 0, 1) := by decide +kernel
theorem dX2_keep_12 : decode cX2_keep 12 = .ok (.aload 4, 2) := by decide +kernel
theorem dX2_keep_14 : decode cX2_keep 14 = .ok (.aload 4, 2) := by decide +kernel
theorem dX2_keep_16 : decode cX2_keep 16 = .ok (.iload_n 2, 1) := by decide +kernel
theorem dX2_keep_17 : decode cX2_keep 17 = .ok (.invokevirtual 80, 3) := by decide +kernel
theorem dX2_keep_20 : decode cX2_keep 20 = .ok (.iload_n 3, 1) := by decide +kernel
theorem dX2_keep_21 : decode cX2_keep 21 = .ok (.invokestatic 83, 3) := by decide +kernel
theorem dX2_keep_24 : decode cX2_keep 24 = .ok (.invokevirtual 44, 3) := by decide +kernel
theorem dX2_keep_27 : decode cX2_keep 27 = .ok (.ireturn, 1) := by decide +kernel
theorem dX2_keepKind_0 : decode cX2_keepKind 0 = .ok (.aload_n 0, 1) := by decide +kernel
theorem dX2_keepKind_1 : decode cX2_keepKind 1 = .ok (.iload_n 1, 1) := by decide +kernel
theorem dX2_keepKind_2 : decode cX2_keepKind 2 = .ok (.invokevirtual 16, 3) := by decide +kernel
theorem dX2_keepKind_5 : decode cX2_keepKind 5 = .ok (.astore 4, 2) := by decide +kernel
theorem dX2_keepKind_7 : decode cX2_keepKind 7 = .ok (.iload_n 2, 1) := by decide +kernel
theorem dX2_keepKind_8 : decode cX2_keepKind 8 = .ok (.invokestatic 87, 3) := by decide +kernel
theorem dX2_keepKind_11 : decode cX2_keepKind 11 = .ok (.aload_n 0, 1) := by decide +kernel
theorem dX2_keepKind_12 : decode cX2_keepKind 12 = .ok (.aload 4, 2) := by decide +kernel
theorem dX2_keepKind_14 : decode cX2_keepKind 14 = .ok (.aload 4, 2) := by decide +kernel
theorem dX2_keepKind_16 : decode cX2_keepKind 16 = .ok (.iload_n 2, 1) := by decide +kernel
theorem dX2_keepKind_17 : decode cX2_keepKind 17 = .ok (.invokevirtual 90, 3) := by decide +kernel
theorem dX2_keepKind_20 : decode cX2_keepKind 20 = .ok (.iload_n 3, 1) := by decide +kernel
theorem dX2_keepKind_21 : decode cX2_keepKind 21 = .ok (.invokestatic 83, 3) := by decide +kernel
theorem dX2_keepKind_24 : decode cX2_keepKind 24 = .ok (.invokevirtual 44, 3) := by decide +kernel
theorem dX2_keepKind_27 : decode cX2_keepKind 27 = .ok (.ireturn, 1) := by decide +kernel
theorem dX2_take_0 : decode cX2_take 0 = .ok (.aload_n 0, 1) := by decide +kernel
theorem dX2_take_1 : decode cX2_take 1 = .ok (.iload_n 1, 1) := by decide +kernel
theorem dX2_take_2 : decode cX2_take 2 = .ok (.invokevirtual 16, 3) := by decide +kernel
theorem dX2_take_5 : decode cX2_take 5 = .ok (.astore 4, 2) := by decide +kernel
theorem dX2_take_7 : decode cX2_take 7 = .ok (.aload_n 0, 1) := by decide +kernel
theorem dX2_take_8 : decode cX2_take 8 = .ok (.iload_n 3, 1) := by decide +kernel
theorem dX2_take_9 : decode cX2_take 9 = .ok (.invokevirtual 16, 3) := by decide +kernel
theorem dX2_take_12 : decode cX2_take 12 = .ok (.astore 5, 2) := by decide +kernel
theorem dX2_take_14 : decode cX2_take 14 = .ok (.aload 4, 2) := by decide +kernel
theorem dX2_take_16 : decode cX2_take 16 = .ok (.iload_n 2, 1) := by decide +kernel
theorem dX2_take_17 : decode cX2_take 17 = .ok (.invokestatic 93, 3) := by decide +kernel
theorem dX2_take_20 : decode cX2_take 20 = .ok (.istore 6, 2) := by decide +kernel
theorem dX2_take_22 : decode cX2_take 22 = .ok (.aload 5, 2) := by decide +kernel
theorem dX2_take_24 : decode cX2_take 24 = .ok (.aload 4, 2) := by decide +kernel
theorem dX2_take_26 : decode cX2_take 26 = .ok (.iload 6, 2) := by decide +kernel
theorem dX2_take_28 : decode cX2_take 28 = .ok (.iload 6, 2) := by decide +kernel
theorem dX2_take_30 : decode cX2_take 30 = .ok (.aload 4, 2) := by decide +kernel
theorem dX2_take_32 : decode cX2_take 32 = .ok (.iload 6, 2) := by decide +kernel
theorem dX2_take_34 : decode cX2_take 34 = .ok (.invokevirtual 97, 3) := by decide +kernel
theorem dX2_take_37 : decode cX2_take 37 = .ok (.iadd, 1) := by decide +kernel
theorem dX2_take_38 : decode cX2_take 38 = .ok (.invokevirtual 56, 3) := by decide +kernel
theorem dX2_take_41 : decode cX2_take 41 = .ok (.aload_n 0, 1) := by decide +kernel
theorem dX2_take_42 : decode cX2_take 42 = .ok (.aload 5, 2) := by decide +kernel
theorem dX2_take_44 : decode cX2_take 44 = .ok (.invokevirtual 24, 3) := by decide +kernel
theorem dX2_take_47 : decode cX2_take 47 = .ok (.invokevirtual 44, 3) := by decide +kernel
theorem dX2_take_50 : decode cX2_take 50 = .ok (.ireturn, 1) := by decide +kernel
theorem dX2_mend_0 : decode cX2_mend 0 = .ok (.aload_n 0, 1) := by decide +kernel
theorem dX2_mend_1 : decode cX2_mend 1 = .ok (.iload_n 1, 1) := by decide +kernel
theorem dX2_mend_2 : decode cX2_mend 2 = .ok (.invokevirtual 16, 3) := by decide +kernel
theorem dX2_mend_5 : decode cX2_mend 5 = .ok (.astore_n 2, 1) := by decide +kernel
theorem dX2_mend_6 : decode cX2_mend 6 = .ok (.iconst 0, 1) := by decide +kernel
theorem dX2_mend_7 : decode cX2_mend 7 = .ok (.istore_n 3, 1) := by decide +kernel
theorem dX2_mend_8 : decode cX2_mend 8 = .ok (.iconst 0, 1) := by decide +kernel
theorem dX2_mend_9 : decode cX2_mend 9 = .ok (.istore 4, 2) := by decide +kernel
theorem dX2_mend_11 : decode cX2_mend 11 = .ok (.iload 4, 2) := by decide +kernel
theorem dX2_mend_13 : decode cX2_mend 13 = .ok (.aload_n 2, 1) := by decide +kernel
theorem dX2_mend_14 : decode cX2_mend 14 = .ok (.invokevirtual 24, 3) := by decide +kernel
theorem dX2_mend_17 : decode cX2_mend 17 = .ok (.if_icmp .ge 37, 3) := by decide +kernel
theorem dX2_mend_20 : decode cX2_mend 20 = .ok (.aload_n 2, 1) := by decide +kernel
theorem dX2_mend_21 : decode cX2_mend 21 = .ok (.iload 4, 2) := by decide +kernel
theorem dX2_mend_23 : decode cX2_mend 23 = .ok (.invokevirtual 36, 3) := by decide +kernel
theorem dX2_mend_26 : decode cX2_mend 26 = .ok (.iload_n 3, 1) := by decide +kernel
theorem dX2_mend_27 : decode cX2_mend 27 = .ok (.ifCond .ne 7, 3) := by decide +kernel
theorem dX2_mend_30 : decode cX2_mend 30 = .ok (.iconst 1, 1) := by decide +kernel
theorem dX2_mend_31 : decode cX2_mend 31 = .ok (.goto 4, 3) := by decide +kernel
theorem dX2_mend_34 : decode cX2_mend 34 = .ok (.iconst 0, 1) := by decide +kernel
theorem dX2_mend_35 : decode cX2_mend 35 = .ok (.invokestatic 100, 3) := by decide +kernel
theorem dX2_mend_38 : decode cX2_mend 38 = .ok (.ifCond .eq 10, 3) := by decide +kernel
theorem dX2_mend_41 : decode cX2_mend 41 = .ok (.iload_n 3, 1) := by decide +kernel
theorem dX2_mend_42 : decode cX2_mend 42 = .ok (.iconst 1, 1) := by decide +kernel
theorem dX2_mend_43 : decode cX2_mend 43 = .ok (.iload 4, 2) := by decide +kernel
theorem dX2_mend_45 : decode cX2_mend 45 = .ok (.ishl, 1) := by decide +kernel
theorem dX2_mend_46 : decode cX2_mend 46 = .ok (.ior, 1) := by decide +kernel
theorem dX2_mend_47 : decode cX2_mend 47 = .ok (.istore_n 3, 1) := by decide +kernel
theorem dX2_mend_48 : decode cX2_mend 48 = .ok (.iinc 4 1, 3) := by decide +kernel
theorem dX2_mend_51 : decode cX2_mend 51 = .ok (.goto (-40), 3) := by decide +kernel
theorem dX2_mend_54 : decode cX2_mend 54 = .ok (.aload_n 0, 1) := by decide +kernel
theorem dX2_mend_55 : decode cX2_mend 55 = .ok (.aload_n 2, 1) := by decide +kernel
theorem dX2_mend_56 : decode cX2_mend 56 = .ok (.iload_n 3, 1) := by decide +kernel
theorem dX2_mend_57 : decode cX2_mend 57 = .ok (.invokevirtual 53, 3) := by decide +kernel
theorem dX2_mend_60 : decode cX2_mend 60 = .ok (.invokevirtual 44, 3) := by decide +kernel
theorem dX2_mend_63 : decode cX2_mend 63 = .ok (.ireturn, 1) := by decide +kernel
theorem dX2_kind_0 : decode cX2_kind 0 = .ok (.iload_n 1, 1) := by decide +kernel
theorem dX2_kind_1 : decode cX2_kind 1 = .ok (.invokestatic 20, 3) := by decide +kernel
theorem dX2_kind_4 : decode cX2_kind 4 = .ok (.iload_n 1, 1) := by decide +kernel
theorem dX2_kind_5 : decode cX2_kind 5 = .ok (.invokestatic 106, 3) := by decide +kernel
theorem dX2_kind_8 : decode cX2_kind 8 = .ok (.ireturn, 1) := by decide +kernel
theorem dX2_ask_0 : decode cX2_ask 0 = .ok (.iload_n 1, 1) := by decide +kernel
theorem dX2_ask_1 : decode cX2_ask 1 = .ok (.invokestatic 20, 3) := by decide +kernel
theorem dX2_ask_4 : decode cX2_ask 4 = .ok (.iload_n 2, 1) := by decide +kernel
theorem dX2_ask_5 : decode cX2_ask 5 = .ok (.invokestatic 77, 3) := by decide +kernel
theorem dX2_ask_8 : decode cX2_ask 8 = .ok (.iload_n 1, 1) := by decide +kernel
theorem dX2_ask_9 : decode cX2_ask 9 = .ok (.iload_n 2, 1) := by decide +kernel
theorem dX2_ask_10 : decode cX2_ask 10 = .ok (.invokestatic 109, 3) := by decide +kernel
theorem dX2_ask_13 : decode cX2_ask 13 = .ok (.ireturn, 1) := by decide +kernel
theorem dX2_all_0 : decode cX2_all 0 = .ok (.iload_n 1, 1) := by decide +kernel
theorem dX2_all_1 : decode cX2_all 1 = .ok (.invokestatic 20, 3) := by decide +kernel
theorem dX2_all_4 : decode cX2_all 4 = .ok (.iconst 0, 1) := by decide +kernel
theorem dX2_all_5 : decode cX2_all 5 = .ok (.istore_n 2, 1) := by decide +kernel
theorem dX2_all_6 : decode cX2_all 6 = .ok (.iconst 0, 1) := by decide +kernel
theorem dX2_all_7 : decode cX2_all 7 = .ok (.istore_n 3, 1) := by decide +kernel
theorem dX2_all_8 : decode cX2_all 8 = .ok (.iload_n 3, 1) := by decide +kernel
theorem dX2_all_9 : decode cX2_all 9 = .ok (.bipush 13, 2) := by decide +kernel
theorem dX2_all_11 : decode cX2_all 11 = .ok (.if_icmp .gt 23, 3) := by decide +kernel
theorem dX2_all_14 : decode cX2_all 14 = .ok (.iload_n 1, 1) := by decide +kernel
theorem dX2_all_15 : decode cX2_all 15 = .ok (.iload_n 3, 1) := by decide +kernel
theorem dX2_all_16 : decode cX2_all 16 = .ok (.invokestatic 109, 3) := by decide +kernel
theorem dX2_all_19 : decode cX2_all 19 = .ok (.ifCond .eq 9, 3) := by decide +kernel
theorem dX2_all_22 : decode cX2_all 22 = .ok (.iload_n 2, 1) := by decide +kernel
theorem dX2_all_23 : decode cX2_all 23 = .ok (.iconst 1, 1) := by decide +kernel
theorem dX2_all_24 : decode cX2_all 24 = .ok (.iload_n 3, 1) := by decide +kernel
theorem dX2_all_25 : decode cX2_all 25 = .ok (.ishl, 1) := by decide +kernel
theorem dX2_all_26 : decode cX2_all 26 = .ok (.ior, 1) := by decide +kernel
theorem dX2_all_27 : decode cX2_all 27 = .ok (.istore_n 2, 1) := by decide +kernel
theorem dX2_all_28 : decode cX2_all 28 = .ok (.iinc 3 1, 3) := by decide +kernel
theorem dX2_all_31 : decode cX2_all 31 = .ok (.goto (-23), 3) := by decide +kernel
theorem dX2_all_34 : decode cX2_all 34 = .ok (.iload_n 2, 1) := by decide +kernel
theorem dX2_all_35 : decode cX2_all 35 = .ok (.ireturn, 1) := by decide +kernel
theorem dX2_nth_0 : decode cX2_nth 0 = .ok (.iload_n 1, 1) := by decide +kernel
theorem dX2_nth_1 : decode cX2_nth 1 = .ok (.invokestatic 87, 3) := by decide +kernel
theorem dX2_nth_4 : decode cX2_nth 4 = .ok (.iload_n 2, 1) := by decide +kernel
theorem dX2_nth_5 : decode cX2_nth 5 = .ok (.ifCond .lt 10, 3) := by decide +kernel
theorem dX2_nth_8 : decode cX2_nth 8 = .ok (.iload_n 2, 1) := by decide +kernel
theorem dX2_nth_9 : decode cX2_nth 9 = .ok (.sipush 255, 3) := by decide +kernel
theorem dX2_nth_12 : decode cX2_nth 12 = .ok (.if_icmp .le 11, 3) := by decide +kernel
theorem dX2_nth_15 : decode cX2_nth 15 = .ok (.new 71, 3) := by decide +kernel
theorem dX2_nth_18 : decode cX2_nth 18 = .ok (.dup, 1) := by decide +kernel
theorem dX2_nth_19 : decode cX2_nth 19 = .ok (.invokespecial 73, 3) := by decide +kernel
theorem dX2_nth_22 : decode cX2_nth 22 = .ok (.athrow, 1) := by decide +kernel
theorem dX2_nth_23 : decode cX2_nth 23 = .ok (.iconst 0, 1) := by decide +kernel
theorem dX2_nth_24 : decode cX2_nth 24 = .ok (.istore_n 3, 1) := by decide +kernel
theorem dX2_nth_25 : decode cX2_nth 25 = .ok (.iconst 0, 1) := by decide +kernel
theorem dX2_nth_26 : decode cX2_nth 26 = .ok (.istore 4, 2) := by decide +kernel
theorem dX2_nth_28 : decode cX2_nth 28 = .ok (.iload 4, 2) := by decide +kernel
theorem dX2_nth_30 : decode cX2_nth 30 = .ok (.sipush 255, 3) := by decide +kernel
theorem dX2_nth_33 : decode cX2_nth 33 = .ok (.if_icmp .gt 29, 3) := by decide +kernel
theorem dX2_nth_36 : decode cX2_nth 36 = .ok (.iload 4, 2) := by decide +kernel
theorem dX2_nth_38 : decode cX2_nth 38 = .ok (.invokestatic 106, 3) := by decide +kernel
theorem dX2_nth_41 : decode cX2_nth 41 = .ok (.iload_n 1, 1) := by decide +kernel
theorem dX2_nth_42 : decode cX2_nth 42 = .ok (.if_icmp .ne 14, 3) := by decide +kernel
theorem dX2_nth_45 : decode cX2_nth 45 = .ok (.iload_n 3, 1) := by decide +kernel
theorem dX2_nth_46 : decode cX2_nth 46 = .ok (.iload_n 2, 1) := by decide +kernel
theorem dX2_nth_47 : decode cX2_nth 47 = .ok (.if_icmp .ne 6, 3) := by decide +kernel
theorem dX2_nth_50 : decode cX2_nth 50 = .ok (.iload 4, 2) := by decide +kernel
theorem dX2_nth_52 : decode cX2_nth 52 = .ok (.ireturn, 1) := by decide +kernel
theorem dX2_nth_53 : decode cX2_nth 53 = .ok (.iinc 3 1, 3) := by decide +kernel
theorem dX2_nth_56 : decode cX2_nth 56 = .ok (.iinc 4 1, 3) := by decide +kernel
theorem dX2_nth_59 : decode cX2_nth 59 = .ok (.goto (-31), 3) := by decide +kernel
theorem dX2_nth_62 : decode cX2_nth 62 = .ok (.iconst (-1), 1) := by decide +kernel
theorem dX2_nth_63 : decode cX2_nth 63 = .ok (.ireturn, 1) := by decide +kernel
theorem dX2_next_0 : decode cX2_next 0 = .ok (.iload_n 1, 1) := by decide +kernel
theorem dX2_next_1 : decode cX2_next 1 = .ok (.invokestatic 77, 3) := by decide +kernel
theorem dX2_next_4 : decode cX2_next 4 = .ok (.iload_n 2, 1) := by decide +kernel
theorem dX2_next_5 : decode cX2_next 5 = .ok (.invokestatic 20, 3) := by decide +kernel
theorem dX2_next_8 : decode cX2_next 8 = .ok (.iload_n 2, 1) := by decide +kernel
theorem dX2_next_9 : decode cX2_next 9 = .ok (.istore 4, 2) := by decide +kernel
theorem dX2_next_11 : decode cX2_next 11 = .ok (.iload 4, 2) := by decide +kernel
theorem dX2_next_13 : decode cX2_next 13 = .ok (.sipush 255, 3) := by decide +kernel
theorem dX2_next_16 : decode cX2_next 16 = .ok (.if_icmp .gt 22, 3) := by decide +kernel
theorem dX2_next_19 : decode cX2_next 19 = .ok (.iload 4, 2) := by decide +kernel
theorem dX2_next_21 : decode cX2_next 21 = .ok (.iload_n 1, 1) := by decide +kernel
theorem dX2_next_22 : decode cX2_next 22 = .ok (.invokestatic 109, 3) := by decide +kernel
theorem dX2_next_25 : decode cX2_next 25 = .ok (.iload_n 3, 1) := by decide +kernel
theorem dX2_next_26 : decode cX2_next 26 = .ok (.if_icmp .ne 6, 3) := by decide +kernel
theorem dX2_next_29 : decode cX2_next 29 = .ok (.iload 4, 2) := by decide +kernel
theorem dX2_next_31 : decode cX2_next 31 = .ok (.ireturn, 1) := by decide +kernel
theorem dX2_next_32 : decode cX2_next 32 = .ok (.iinc 4 1, 3) := by decide +kernel
theorem dX2_next_35 : decode cX2_next 35 = .ok (.goto (-24), 3) := by decide +kernel
theorem dX2_next_38 : decode cX2_next 38 = .ok (.iconst (-1), 1) := by decide +kernel
theorem dX2_next_39 : decode cX2_next 39 = .ok (.ireturn, 1) := by decide +kernel
theorem dX2_run_0 : decode cX2_run 0 = .ok (.iload_n 1, 1) := by decide +kernel
theorem dX2_run_1 : decode cX2_run 1 = .ok (.invokestatic 77, 3) := by decide +kernel
theorem dX2_run_4 : decode cX2_run 4 = .ok (.iload_n 2, 1) := by decide +kernel
theorem dX2_run_5 : decode cX2_run 5 = .ok (.invokestatic 20, 3) := by decide +kernel
theorem dX2_run_8 : decode cX2_run 8 = .ok (.iload_n 2, 1) := by decide +kernel
theorem dX2_run_9 : decode cX2_run 9 = .ok (.iload_n 1, 1) := by decide +kernel
theorem dX2_run_10 : decode cX2_run 10 = .ok (.invokestatic 109, 3) := by decide +kernel
theorem dX2_run_13 : decode cX2_run 13 = .ok (.istore_n 3, 1) := by decide +kernel
theorem dX2_run_14 : decode cX2_run 14 = .ok (.iload_n 2, 1) := by decide +kernel
theorem dX2_run_15 : decode cX2_run 15 = .ok (.iconst 1, 1) := by decide +kernel
theorem dX2_run_16 : decode cX2_run 16 = .ok (.iadd, 1) := by decide +kernel
theorem dX2_run_17 : decode cX2_run 17 = .ok (.istore 4, 2) := by decide +kernel
theorem dX2_run_19 : decode cX2_run 19 = .ok (.iload 4, 2) := by decide +kernel
theorem dX2_run_21 : decode cX2_run 21 = .ok (.sipush 255, 3) := by decide +kernel
theorem dX2_run_24 : decode cX2_run 24 = .ok (.if_icmp .gt 19, 3) := by decide +kernel
theorem dX2_run_27 : decode cX2_run 27 = .ok (.iload 4, 2) := by decide +kernel
theorem dX2_run_29 : decode cX2_run 29 = .ok (.iload_n 1, 1) := by decide +kernel
theorem dX2_run_30 : decode cX2_run 30 = .ok (.invokestatic 109, 3) := by decide +kernel
theorem dX2_run_33 : decode cX2_run 33 = .ok (.iload_n 3, 1) := by decide +kernel
theorem dX2_run_34 : decode cX2_run 34 = .ok (.if_icmp .ne 9, 3) := by decide +kernel
theorem dX2_run_37 : decode cX2_run 37 = .ok (.iinc 4 1, 3) := by decide +kernel
theorem dX2_run_40 : decode cX2_run 40 = .ok (.goto (-21), 3) := by decide +kernel
theorem dX2_run_43 : decode cX2_run 43 = .ok (.iload 4, 2) := by decide +kernel
theorem dX2_run_45 : decode cX2_run 45 = .ok (.iload_n 2, 1) := by decide +kernel
theorem dX2_run_46 : decode cX2_run 46 = .ok (.isub, 1) := by decide +kernel
theorem dX2_run_47 : decode cX2_run 47 = .ok (.ireturn, 1) := by decide +kernel
theorem dX2_ofKind_0 : decode cX2_ofKind 0 = .ok (.iload_n 1, 1) := by decide +kernel
theorem dX2_ofKind_1 : decode cX2_ofKind 1 = .ok (.invokestatic 87, 3) := by decide +kernel
theorem dX2_ofKind_4 : decode cX2_ofKind 4 = .ok (.iload_n 2, 1) := by decide +kernel
theorem dX2_ofKind_5 : decode cX2_ofKind 5 = .ok (.iload_n 3, 1) := by decide +kernel
theorem dX2_ofKind_6 : decode cX2_ofKind 6 = .ok (.invokestatic 113, 3) := by decide +kernel
theorem dX2_ofKind_9 : decode cX2_ofKind 9 = .ok (.iconst 0, 1) := by decide +kernel
theorem dX2_ofKind_10 : decode cX2_ofKind 10 = .ok (.istore 4, 2) := by decide +kernel
theorem dX2_ofKind_12 : decode cX2_ofKind 12 = .ok (.iload_n 2, 1) := by decide +kernel
theorem dX2_ofKind_13 : decode cX2_ofKind 13 = .ok (.istore 5, 2) := by decide +kernel
theorem dX2_ofKind_15 : decode cX2_ofKind 15 = .ok (.iload 5, 2) := by decide +kernel
theorem dX2_ofKind_17 : decode cX2_ofKind 17 = .ok (.iload_n 3, 1) := by decide +kernel
theorem dX2_ofKind_18 : decode cX2_ofKind 18 = .ok (.if_icmp .gt 21, 3) := by decide +kernel
theorem dX2_ofKind_21 : decode cX2_ofKind 21 = .ok (.iload 5, 2) := by decide +kernel
theorem dX2_ofKind_23 : decode cX2_ofKind 23 = .ok (.invokestatic 106, 3) := by decide +kernel
theorem dX2_ofKind_26 : decode cX2_ofKind 26 = .ok (.iload_n 1, 1) := by decide +kernel
theorem dX2_ofKind_27 : decode cX2_ofKind 27 = .ok (.if_icmp .ne 6, 3) := by decide +kernel
theorem dX2_ofKind_30 : decode cX2_ofKind 30 = .ok (.iinc 4 1, 3) := by decide +kernel
theorem dX2_ofKind_33 : decode cX2_ofKind 33 = .ok (.iinc 5 1, 3) := by decide +kernel
theorem dX2_ofKind_36 : decode cX2_ofKind 36 = .ok (.goto (-21), 3) := by decide +kernel
theorem dX2_ofKind_39 : decode cX2_ofKind 39 = .ok (.iload 4, 2) := by decide +kernel
theorem dX2_ofKind_41 : decode cX2_ofKind 41 = .ok (.ireturn, 1) := by decide +kernel
theorem dX2_ofQuestion_0 : decode cX2_ofQuestion 0 = .ok (.iload_n 1, 1) := by decide +kernel
theorem dX2_ofQuestion_1 : decode cX2_ofQuestion 1 = .ok (.invokestatic 77, 3) := by decide +kernel
theorem dX2_ofQuestion_4 : decode cX2_ofQuestion 4 = .ok (.iload_n 2, 1) := by decide +kernel
theorem dX2_ofQuestion_5 : decode cX2_ofQuestion 5 = .ok (.iload_n 3, 1) := by decide +kernel
theorem dX2_ofQuestion_6 : decode cX2_ofQuestion 6 = .ok (.invokestatic 113, 3) := by decide +kernel
theorem dX2_ofQuestion_9 : decode cX2_ofQuestion 9 = .ok (.iconst 0, 1) := by decide +kernel
theorem dX2_ofQuestion_10 : decode cX2_ofQuestion 10 = .ok (.istore 4, 2) := by decide +kernel
theorem dX2_ofQuestion_12 : decode cX2_ofQuestion 12 = .ok (.iload_n 2, 1) := by decide +kernel
theorem dX2_ofQuestion_13 : decode cX2_ofQuestion 13 = .ok (.istore 5, 2) := by decide +kernel
theorem dX2_ofQuestion_15 : decode cX2_ofQuestion 15 = .ok (.iload 5, 2) := by decide +kernel
theorem dX2_ofQuestion_17 : decode cX2_ofQuestion 17 = .ok (.iload_n 3, 1) := by decide +kernel
theorem dX2_ofQuestion_18 : decode cX2_ofQuestion 18 = .ok (.if_icmp .gt 21, 3) := by decide +kernel
theorem dX2_ofQuestion_21 : decode cX2_ofQuestion 21 = .ok (.iload 5, 2) := by decide +kernel
theorem dX2_ofQuestion_23 : decode cX2_ofQuestion 23 = .ok (.iload_n 1, 1) := by decide +kernel
theorem dX2_ofQuestion_24 : decode cX2_ofQuestion 24 = .ok (.invokestatic 109, 3) := by decide +kernel
theorem dX2_ofQuestion_27 : decode cX2_ofQuestion 27 = .ok (.ifCond .eq 6, 3) := by decide +kernel
theorem dX2_ofQuestion_30 : decode cX2_ofQuestion 30 = .ok (.iinc 4 1, 3) := by decide +kernel
theorem dX2_ofQuestion_33 : decode cX2_ofQuestion 33 = .ok (.iinc 5 1, 3) := by decide +kernel
theorem dX2_ofQuestion_36 : decode cX2_ofQuestion 36 = .ok (.goto (-21), 3) := by decide +kernel
theorem dX2_ofQuestion_39 : decode cX2_ofQuestion 39 = .ok (.iload 4, 2) := by decide +kernel
theorem dX2_ofQuestion_41 : decode cX2_ofQuestion 41 = .ok (.ireturn, 1) := by decide +kernel
theorem dX2_kinds_0 : decode cX2_kinds 0 = .ok (.iload_n 1, 1) := by decide +kernel
theorem dX2_kinds_1 : decode cX2_kinds 1 = .ok (.iload_n 2, 1) := by decide +kernel
theorem dX2_kinds_2 : decode cX2_kinds 2 = .ok (.invokestatic 113, 3) := by decide +kernel
theorem dX2_kinds_5 : decode cX2_kinds 5 = .ok (.iconst 0, 1) := by decide +kernel
theorem dX2_kinds_6 : decode cX2_kinds 6 = .ok (.istore_n 3, 1) := by decide +kernel
theorem dX2_kinds_7 : decode cX2_kinds 7 = .ok (.iload_n 1, 1) := by decide +kernel
theorem dX2_kinds_8 : decode cX2_kinds 8 = .ok (.istore 4, 2) := by decide +kernel
theorem dX2_kinds_10 : decode cX2_kinds 10 = .ok (.iload 4, 2) := by decide +kernel
theorem dX2_kinds_12 : decode cX2_kinds 12 = .ok (.iload_n 2, 1) := by decide +kernel
theorem dX2_kinds_13 : decode cX2_kinds 13 = .ok (.if_icmp .gt 19, 3) := by decide +kernel
theorem dX2_kinds_16 : decode cX2_kinds 16 = .ok (.iload_n 3, 1) := by decide +kernel
theorem dX2_kinds_17 : decode cX2_kinds 17 = .ok (.iconst 1, 1) := by decide +kernel
theorem dX2_kinds_18 : decode cX2_kinds 18 = .ok (.iload 4, 2) := by decide +kernel
theorem dX2_kinds_20 : decode cX2_kinds 20 = .ok (.invokestatic 106, 3) := by decide +kernel
theorem dX2_kinds_23 : decode cX2_kinds 23 = .ok (.ishl, 1) := by decide +kernel
theorem dX2_kinds_24 : decode cX2_kinds 24 = .ok (.ior, 1) := by decide +kernel
theorem dX2_kinds_25 : decode cX2_kinds 25 = .ok (.istore_n 3, 1) := by decide +kernel
theorem dX2_kinds_26 : decode cX2_kinds 26 = .ok (.iinc 4 1, 3) := by decide +kernel
theorem dX2_kinds_29 : decode cX2_kinds 29 = .ok (.goto (-19), 3) := by decide +kernel
theorem dX2_kinds_32 : decode cX2_kinds 32 = .ok (.iload_n 3, 1) := by decide +kernel
theorem dX2_kinds_33 : decode cX2_kinds 33 = .ok (.ireturn, 1) := by decide +kernel
theorem dX2_both_0 : decode cX2_both 0 = .ok (.iload_n 1, 1) := by decide +kernel
theorem dX2_both_1 : decode cX2_both 1 = .ok (.invokestatic 87, 3) := by decide +kernel
theorem dX2_both_4 : decode cX2_both 4 = .ok (.iload_n 2, 1) := by decide +kernel
theorem dX2_both_5 : decode cX2_both 5 = .ok (.invokestatic 77, 3) := by decide +kernel
theorem dX2_both_8 : decode cX2_both 8 = .ok (.iconst 0, 1) := by decide +kernel
theorem dX2_both_9 : decode cX2_both 9 = .ok (.istore_n 3, 1) := by decide +kernel
theorem dX2_both_10 : decode cX2_both 10 = .ok (.iconst 0, 1) := by decide +kernel
theorem dX2_both_11 : decode cX2_both 11 = .ok (.istore 4, 2) := by decide +kernel
theorem dX2_both_13 : decode cX2_both 13 = .ok (.iload 4, 2) := by decide +kernel
theorem dX2_both_15 : decode cX2_both 15 = .ok (.sipush 255, 3) := by decide +kernel
theorem dX2_both_18 : decode cX2_both 18 = .ok (.if_icmp .gt 30, 3) := by decide +kernel
theorem dX2_both_21 : decode cX2_both 21 = .ok (.iload 4, 2) := by decide +kernel
theorem dX2_both_23 : decode cX2_both 23 = .ok (.invokestatic 106, 3) := by decide +kernel
theorem dX2_both_26 : decode cX2_both 26 = .ok (.iload_n 1, 1) := by decide +kernel
theorem dX2_both_27 : decode cX2_both 27 = .ok (.if_icmp .ne 15, 3) := by decide +kernel
theorem dX2_both_30 : decode cX2_both 30 = .ok (.iload 4, 2) := by decide +kernel
theorem dX2_both_32 : decode cX2_both 32 = .ok (.iload_n 2, 1) := by decide +kernel
theorem dX2_both_33 : decode cX2_both 33 = .ok (.invokestatic 109, 3) := by decide +kernel
theorem dX2_both_36 : decode cX2_both 36 = .ok (.ifCond .eq 6, 3) := by decide +kernel
theorem dX2_both_39 : decode cX2_both 39 = .ok (.iinc 3 1, 3) := by decide +kernel
theorem dX2_both_42 : decode cX2_both 42 = .ok (.iinc 4 1, 3) := by decide +kernel
theorem dX2_both_45 : decode cX2_both 45 = .ok (.goto (-32), 3) := by decide +kernel
theorem dX2_both_48 : decode cX2_both 48 = .ok (.iload_n 3, 1) := by decide +kernel
theorem dX2_both_49 : decode cX2_both 49 = .ok (.ireturn, 1) := by decide +kernel
theorem dX2_within_0 : decode cX2_within 0 = .ok (.iload_n 1, 1) := by decide +kernel
theorem dX2_within_1 : decode cX2_within 1 = .ok (.invokestatic 77, 3) := by decide +kernel
theorem dX2_within_4 : decode cX2_within 4 = .ok (.iload_n 2, 1) := by decide +kernel
theorem dX2_within_5 : decode cX2_within 5 = .ok (.invokestatic 77, 3) := by decide +kernel
theorem dX2_within_8 : decode cX2_within 8 = .ok (.iconst 0, 1) := by decide +kernel
theorem dX2_within_9 : decode cX2_within 9 = .ok (.istore_n 3, 1) := by decide +kernel
theorem dX2_within_10 : decode cX2_within 10 = .ok (.iload_n 3, 1) := by decide +kernel
theorem dX2_within_11 : decode cX2_within 11 = .ok (.sipush 255, 3) := by decide +kernel
theorem dX2_within_14 : decode cX2_within 14 = .ok (.if_icmp .gt 27, 3) := by decide +kernel
theorem dX2_within_17 : decode cX2_within 17 = .ok (.iload_n 3, 1) := by decide +kernel
theorem dX2_within_18 : decode cX2_within 18 = .ok (.iload_n 1, 1) := by decide +kernel
theorem dX2_within_19 : decode cX2_within 19 = .ok (.invokestatic 109, 3) := by decide +kernel
theorem dX2_within_22 : decode cX2_within 22 = .ok (.ifCond .eq 13, 3) := by decide +kernel
theorem dX2_within_25 : decode cX2_within 25 = .ok (.iload_n 3, 1) := by decide +kernel
theorem dX2_within_26 : decode cX2_within 26 = .ok (.iload_n 2, 1) := by decide +kernel
theorem dX2_within_27 : decode cX2_within 27 = .ok (.invokestatic 109, 3) := by decide +kernel
theorem dX2_within_30 : decode cX2_within 30 = .ok (.ifCond .ne 5, 3) := by decide +kernel
theorem dX2_within_33 : decode cX2_within 33 = .ok (.iconst 0, 1) := by decide +kernel
theorem dX2_within_34 : decode cX2_within 34 = .ok (.ireturn, 1) := by decide +kernel
theorem dX2_within_35 : decode cX2_within 35 = .ok (.iinc 3 1, 3) := by decide +kernel
theorem dX2_within_38 : decode cX2_within 38 = .ok (.goto (-28), 3) := by decide +kernel
theorem dX2_within_41 : decode cX2_within 41 = .ok (.iconst 1, 1) := by decide +kernel
theorem dX2_within_42 : decode cX2_within 42 = .ok (.ireturn, 1) := by decide +kernel
theorem dX2_differ_0 : decode cX2_differ 0 = .ok (.iload_n 1, 1) := by decide +kernel
theorem dX2_differ_1 : decode cX2_differ 1 = .ok (.invokestatic 77, 3) := by decide +kernel
theorem dX2_differ_4 : decode cX2_differ 4 = .ok (.iload_n 2, 1) := by decide +kernel
theorem dX2_differ_5 : decode cX2_differ 5 = .ok (.invokestatic 77, 3) := by decide +kernel
theorem dX2_differ_8 : decode cX2_differ 8 = .ok (.iload_n 3, 1) := by decide +kernel
theorem dX2_differ_9 : decode cX2_differ 9 = .ok (.invokestatic 20, 3) := by decide +kernel
theorem dX2_differ_12 : decode cX2_differ 12 = .ok (.iload_n 3, 1) := by decide +kernel
theorem dX2_differ_13 : decode cX2_differ 13 = .ok (.istore 4, 2) := by decide +kernel
theorem dX2_differ_15 : decode cX2_differ 15 = .ok (.iload 4, 2) := by decide +kernel
theorem dX2_differ_17 : decode cX2_differ 17 = .ok (.sipush 255, 3) := by decide +kernel
theorem dX2_differ_20 : decode cX2_differ 20 = .ok (.if_icmp .gt 27, 3) := by decide +kernel
theorem dX2_differ_23 : decode cX2_differ 23 = .ok (.iload 4, 2) := by decide +kernel
theorem dX2_differ_25 : decode cX2_differ 25 = .ok (.iload_n 1, 1) := by decide +kernel
theorem dX2_differ_26 : decode cX2_differ 26 = .ok (.invokestatic 109, 3) := by decide +kernel
theorem dX2_differ_29 : decode cX2_differ 29 = .ok (.iload 4, 2) := by decide +kernel
theorem dX2_differ_31 : decode cX2_differ 31 = .ok (.iload_n 2, 1) := by decide +kernel
theorem dX2_differ_32 : decode cX2_differ 32 = .ok (.invokestatic 109, 3) := by decide +kernel
theorem dX2_differ_35 : decode cX2_differ 35 = .ok (.if_icmp .eq 6, 3) := by decide +kernel
theorem dX2_differ_38 : decode cX2_differ 38 = .ok (.iload 4, 2) := by decide +kernel
theorem dX2_differ_40 : decode cX2_differ 40 = .ok (.ireturn, 1) := by decide +kernel
theorem dX2_differ_41 : decode cX2_differ 41 = .ok (.iinc 4 1, 3) := by decide +kernel
theorem dX2_differ_44 : decode cX2_differ 44 = .ok (.goto (-29), 3) := by decide +kernel
theorem dX2_differ_47 : decode cX2_differ 47 = .ok (.iconst (-1), 1) := by decide +kernel
theorem dX2_differ_48 : decode cX2_differ 48 = .ok (.ireturn, 1) := by decide +kernel
theorem dX2_length_0 : decode cX2_length 0 = .ok (.aload_n 0, 1) := by decide +kernel
theorem dX2_length_1 : decode cX2_length 1 = .ok (.iload_n 1, 1) := by decide +kernel
theorem dX2_length_2 : decode cX2_length 2 = .ok (.invokevirtual 16, 3) := by decide +kernel
theorem dX2_length_5 : decode cX2_length 5 = .ok (.invokevirtual 24, 3) := by decide +kernel
theorem dX2_length_8 : decode cX2_length 8 = .ok (.ireturn, 1) := by decide +kernel
theorem dX2_sign_0 : decode cX2_sign 0 = .ok (.aload_n 0, 1) := by decide +kernel
theorem dX2_sign_1 : decode cX2_sign 1 = .ok (.iload_n 1, 1) := by decide +kernel
theorem dX2_sign_2 : decode cX2_sign 2 = .ok (.invokevirtual 16, 3) := by decide +kernel
theorem dX2_sign_5 : decode cX2_sign 5 = .ok (.astore_n 3, 1) := by decide +kernel
theorem dX2_sign_6 : decode cX2_sign 6 = .ok (.aload_n 3, 1) := by decide +kernel
theorem dX2_sign_7 : decode cX2_sign 7 = .ok (.iload_n 2, 1) := by decide +kernel
theorem dX2_sign_8 : decode cX2_sign 8 = .ok (.invokestatic 32, 3) := by decide +kernel
theorem dX2_sign_11 : decode cX2_sign 11 = .ok (.aload_n 3, 1) := by decide +kernel
theorem dX2_sign_12 : decode cX2_sign 12 = .ok (.iload_n 2, 1) := by decide +kernel
theorem dX2_sign_13 : decode cX2_sign 13 = .ok (.invokevirtual 36, 3) := by decide +kernel
theorem dX2_sign_16 : decode cX2_sign 16 = .ok (.ireturn, 1) := by decide +kernel
theorem dX2_signs_0 : decode cX2_signs 0 = .ok (.aload_n 0, 1) := by decide +kernel
theorem dX2_signs_1 : decode cX2_signs 1 = .ok (.iload_n 1, 1) := by decide +kernel
theorem dX2_signs_2 : decode cX2_signs 2 = .ok (.invokevirtual 16, 3) := by decide +kernel
theorem dX2_signs_5 : decode cX2_signs 5 = .ok (.astore_n 2, 1) := by decide +kernel
theorem dX2_signs_6 : decode cX2_signs 6 = .ok (.new 116, 3) := by decide +kernel
theorem dX2_signs_9 : decode cX2_signs 9 = .ok (.dup, 1) := by decide +kernel
theorem dX2_signs_10 : decode cX2_signs 10 = .ok (.invokespecial 118, 3) := by decide +kernel
theorem dX2_signs_13 : decode cX2_signs 13 = .ok (.astore_n 3, 1) := by decide +kernel
theorem dX2_signs_14 : decode cX2_signs 14 = .ok (.iconst 0, 1) := by decide +kernel
theorem dX2_signs_15 : decode cX2_signs 15 = .ok (.istore 4, 2) := by decide +kernel
theorem dX2_signs_17 : decode cX2_signs 17 = .ok (.iload 4, 2) := by decide +kernel
theorem dX2_signs_19 : decode cX2_signs 19 = .ok (.aload_n 2, 1) := by decide +kernel
theorem dX2_signs_20 : decode cX2_signs 20 = .ok (.invokevirtual 24, 3) := by decide +kernel
theorem dX2_signs_23 : decode cX2_signs 23 = .ok (.if_icmp .ge 19, 3) := by decide +kernel
theorem dX2_signs_26 : decode cX2_signs 26 = .ok (.aload_n 3, 1) := by decide +kernel
theorem dX2_signs_27 : decode cX2_signs 27 = .ok (.aload_n 2, 1) := by decide +kernel
theorem dX2_signs_28 : decode cX2_signs 28 = .ok (.iload 4, 2) := by decide +kernel
theorem dX2_signs_30 : decode cX2_signs 30 = .ok (.invokevirtual 36, 3) := by decide +kernel
theorem dX2_signs_33 : decode cX2_signs 33 = .ok (.invokestatic 119, 3) := by decide +kernel
theorem dX2_signs_36 : decode cX2_signs 36 = .ok (.iinc 4 1, 3) := by decide +kernel
theorem dX2_signs_39 : decode cX2_signs 39 = .ok (.goto (-22), 3) := by decide +kernel
theorem dX2_signs_42 : decode cX2_signs 42 = .ok (.aload_n 3, 1) := by decide +kernel
theorem dX2_signs_43 : decode cX2_signs 43 = .ok (.invokevirtual 123, 3) := by decide +kernel
theorem dX2_signs_46 : decode cX2_signs 46 = .ok (.areturn, 1) := by decide +kernel
theorem dX2_kindsOf_0 : decode cX2_kindsOf 0 = .ok (.aload_n 0, 1) := by decide +kernel
theorem dX2_kindsOf_1 : decode cX2_kindsOf 1 = .ok (.iload_n 1, 1) := by decide +kernel
theorem dX2_kindsOf_2 : decode cX2_kindsOf 2 = .ok (.invokevirtual 16, 3) := by decide +kernel
theorem dX2_kindsOf_5 : decode cX2_kindsOf 5 = .ok (.astore_n 2, 1) := by decide +kernel
theorem dX2_kindsOf_6 : decode cX2_kindsOf 6 = .ok (.new 116, 3) := by decide +kernel
theorem dX2_kindsOf_9 : decode cX2_kindsOf 9 = .ok (.dup, 1) := by decide +kernel
theorem dX2_kindsOf_10 : decode cX2_kindsOf 10 = .ok (.invokespecial 118, 3) := by decide +kernel
theorem dX2_kindsOf_13 : decode cX2_kindsOf 13 = .ok (.astore_n 3, 1) := by decide +kernel
theorem dX2_kindsOf_14 : decode cX2_kindsOf 14 = .ok (.iconst 0, 1) := by decide +kernel
theorem dX2_kindsOf_15 : decode cX2_kindsOf 15 = .ok (.istore 4, 2) := by decide +kernel
theorem dX2_kindsOf_17 : decode cX2_kindsOf 17 = .ok (.iload 4, 2) := by decide +kernel
theorem dX2_kindsOf_19 : decode cX2_kindsOf 19 = .ok (.aload_n 2, 1) := by decide +kernel
theorem dX2_kindsOf_20 : decode cX2_kindsOf 20 = .ok (.invokevirtual 24, 3) := by decide +kernel
theorem dX2_kindsOf_23 : decode cX2_kindsOf 23 = .ok (.if_icmp .ge 19, 3) := by decide +kernel
theorem dX2_kindsOf_26 : decode cX2_kindsOf 26 = .ok (.aload_n 3, 1) := by decide +kernel
theorem dX2_kindsOf_27 : decode cX2_kindsOf 27 = .ok (.aload_n 2, 1) := by decide +kernel
theorem dX2_kindsOf_28 : decode cX2_kindsOf 28 = .ok (.iload 4, 2) := by decide +kernel
theorem dX2_kindsOf_30 : decode cX2_kindsOf 30 = .ok (.invokevirtual 127, 3) := by decide +kernel
theorem dX2_kindsOf_33 : decode cX2_kindsOf 33 = .ok (.invokestatic 119, 3) := by decide +kernel
theorem dX2_kindsOf_36 : decode cX2_kindsOf 36 = .ok (.iinc 4 1, 3) := by decide +kernel
theorem dX2_kindsOf_39 : decode cX2_kindsOf 39 = .ok (.goto (-22), 3) := by decide +kernel
theorem dX2_kindsOf_42 : decode cX2_kindsOf 42 = .ok (.aload_n 3, 1) := by decide +kernel
theorem dX2_kindsOf_43 : decode cX2_kindsOf 43 = .ok (.invokevirtual 123, 3) := by decide +kernel
theorem dX2_kindsOf_46 : decode cX2_kindsOf 46 = .ok (.areturn, 1) := by decide +kernel
theorem dX2_count_0 : decode cX2_count 0 = .ok (.aload_n 0, 1) := by decide +kernel
theorem dX2_count_1 : decode cX2_count 1 = .ok (.iload_n 1, 1) := by decide +kernel
theorem dX2_count_2 : decode cX2_count 2 = .ok (.invokevirtual 16, 3) := by decide +kernel
theorem dX2_count_5 : decode cX2_count 5 = .ok (.astore_n 3, 1) := by decide +kernel
theorem dX2_count_6 : decode cX2_count 6 = .ok (.iload_n 2, 1) := by decide +kernel
theorem dX2_count_7 : decode cX2_count 7 = .ok (.invokestatic 77, 3) := by decide +kernel
theorem dX2_count_10 : decode cX2_count 10 = .ok (.aload_n 3, 1) := by decide +kernel
theorem dX2_count_11 : decode cX2_count 11 = .ok (.iload_n 2, 1) := by decide +kernel
theorem dX2_count_12 : decode cX2_count 12 = .ok (.invokevirtual 80, 3) := by decide +kernel
theorem dX2_count_15 : decode cX2_count 15 = .ok (.invokestatic 130, 3) := by decide +kernel
theorem dX2_count_18 : decode cX2_count 18 = .ok (.ireturn, 1) := by decide +kernel
theorem dX2_countKind_0 : decode cX2_countKind 0 = .ok (.aload_n 0, 1) := by decide +kernel
theorem dX2_countKind_1 : decode cX2_countKind 1 = .ok (.iload_n 1, 1) := by decide +kernel
theorem dX2_countKind_2 : decode cX2_countKind 2 = .ok (.invokevirtual 16, 3) := by decide +kernel
theorem dX2_countKind_5 : decode cX2_countKind 5 = .ok (.astore_n 3, 1) := by decide +kernel
theorem dX2_countKind_6 : decode cX2_countKind 6 = .ok (.iload_n 2, 1) := by decide +kernel
theorem dX2_countKind_7 : decode cX2_countKind 7 = .ok (.invokestatic 87, 3) := by decide +kernel
theorem dX2_countKind_10 : decode cX2_countKind 10 = .ok (.aload_n 3, 1) := by decide +kernel
theorem dX2_countKind_11 : decode cX2_countKind 11 = .ok (.iload_n 2, 1) := by decide +kernel
theorem dX2_countKind_12 : decode cX2_countKind 12 = .ok (.invokevirtual 90, 3) := by decide +kernel
theorem dX2_countKind_15 : decode cX2_countKind 15 = .ok (.invokestatic 130, 3) := by decide +kernel
theorem dX2_countKind_18 : decode cX2_countKind 18 = .ok (.ireturn, 1) := by decide +kernel
theorem dX2_isAll_0 : decode cX2_isAll 0 = .ok (.aload_n 0, 1) := by decide +kernel
theorem dX2_isAll_1 : decode cX2_isAll 1 = .ok (.iload_n 1, 1) := by decide +kernel
theorem dX2_isAll_2 : decode cX2_isAll 2 = .ok (.invokevirtual 16, 3) := by decide +kernel
theorem dX2_isAll_5 : decode cX2_isAll 5 = .ok (.astore_n 3, 1) := by decide +kernel
theorem dX2_isAll_6 : decode cX2_isAll 6 = .ok (.iload_n 2, 1) := by decide +kernel
theorem dX2_isAll_7 : decode cX2_isAll 7 = .ok (.invokestatic 77, 3) := by decide +kernel
theorem dX2_isAll_10 : decode cX2_isAll 10 = .ok (.aload_n 3, 1) := by decide +kernel
theorem dX2_isAll_11 : decode cX2_isAll 11 = .ok (.iload_n 2, 1) := by decide +kernel
theorem dX2_isAll_12 : decode cX2_isAll 12 = .ok (.invokevirtual 80, 3) := by decide +kernel
theorem dX2_isAll_15 : decode cX2_isAll 15 = .ok (.aload_n 3, 1) := by decide +kernel
theorem dX2_isAll_16 : decode cX2_isAll 16 = .ok (.invokevirtual 50, 3) := by decide +kernel
theorem dX2_isAll_19 : decode cX2_isAll 19 = .ok (.if_icmp .ne 7, 3) := by decide +kernel
theorem dX2_isAll_22 : decode cX2_isAll 22 = .ok (.iconst 1, 1) := by decide +kernel
theorem dX2_isAll_23 : decode cX2_isAll 23 = .ok (.goto 4, 3) := by decide +kernel
theorem dX2_isAll_26 : decode cX2_isAll 26 = .ok (.iconst 0, 1) := by decide +kernel
theorem dX2_isAll_27 : decode cX2_isAll 27 = .ok (.ireturn, 1) := by decide +kernel
theorem dX2_first_0 : decode cX2_first 0 = .ok (.aload_n 0, 1) := by decide +kernel
theorem dX2_first_1 : decode cX2_first 1 = .ok (.iload_n 1, 1) := by decide +kernel
theorem dX2_first_2 : decode cX2_first 2 = .ok (.invokevirtual 16, 3) := by decide +kernel
theorem dX2_first_5 : decode cX2_first 5 = .ok (.astore 4, 2) := by decide +kernel
theorem dX2_first_7 : decode cX2_first 7 = .ok (.iload_n 2, 1) := by decide +kernel
theorem dX2_first_8 : decode cX2_first 8 = .ok (.invokestatic 77, 3) := by decide +kernel
theorem dX2_first_11 : decode cX2_first 11 = .ok (.iconst (-1), 1) := by decide +kernel
theorem dX2_first_12 : decode cX2_first 12 = .ok (.istore 5, 2) := by decide +kernel
theorem dX2_first_14 : decode cX2_first 14 = .ok (.iconst 0, 1) := by decide +kernel
theorem dX2_first_15 : decode cX2_first 15 = .ok (.istore 6, 2) := by decide +kernel
theorem dX2_first_17 : decode cX2_first 17 = .ok (.iload 6, 2) := by decide +kernel
theorem dX2_first_19 : decode cX2_first 19 = .ok (.aload 4, 2) := by decide +kernel
theorem dX2_first_21 : decode cX2_first 21 = .ok (.invokevirtual 24, 3) := by decide +kernel
theorem dX2_first_24 : decode cX2_first 24 = .ok (.if_icmp .ge 37, 3) := by decide +kernel
theorem dX2_first_27 : decode cX2_first 27 = .ok (.aload 4, 2) := by decide +kernel
theorem dX2_first_29 : decode cX2_first 29 = .ok (.iload 6, 2) := by decide +kernel
theorem dX2_first_31 : decode cX2_first 31 = .ok (.invokevirtual 36, 3) := by decide +kernel
theorem dX2_first_34 : decode cX2_first 34 = .ok (.iload_n 2, 1) := by decide +kernel
theorem dX2_first_35 : decode cX2_first 35 = .ok (.invokestatic 109, 3) := by decide +kernel
theorem dX2_first_38 : decode cX2_first 38 = .ok (.ifCond .eq 17, 3) := by decide +kernel
theorem dX2_first_41 : decode cX2_first 41 = .ok (.iload_n 3, 1) := by decide +kernel
theorem dX2_first_42 : decode cX2_first 42 = .ok (.ifCond .ne 9, 3) := by decide +kernel
theorem dX2_first_45 : decode cX2_first 45 = .ok (.iload 5, 2) := by decide +kernel
theorem dX2_first_47 : decode cX2_first 47 = .ok (.iconst (-1), 1) := by decide +kernel
theorem dX2_first_48 : decode cX2_first 48 = .ok (.if_icmp .ne 7, 3) := by decide +kernel
theorem dX2_first_51 : decode cX2_first 51 = .ok (.iload 6, 2) := by decide +kernel
theorem dX2_first_53 : decode cX2_first 53 = .ok (.istore 5, 2) := by decide +kernel
theorem dX2_first_55 : decode cX2_first 55 = .ok (.iinc 6 1, 3) := by decide +kernel
theorem dX2_first_58 : decode cX2_first 58 = .ok (.goto (-41), 3) := by decide +kernel
theorem dX2_first_61 : decode cX2_first 61 = .ok (.iload 5, 2) := by decide +kernel
theorem dX2_first_63 : decode cX2_first 63 = .ok (.ireturn, 1) := by decide +kernel
theorem dX2_alike_0 : decode cX2_alike 0 = .ok (.aload_n 0, 1) := by decide +kernel
theorem dX2_alike_1 : decode cX2_alike 1 = .ok (.iload_n 1, 1) := by decide +kernel
theorem dX2_alike_2 : decode cX2_alike 2 = .ok (.invokevirtual 16, 3) := by decide +kernel
theorem dX2_alike_5 : decode cX2_alike 5 = .ok (.astore_n 3, 1) := by decide +kernel
theorem dX2_alike_6 : decode cX2_alike 6 = .ok (.aload_n 0, 1) := by decide +kernel
theorem dX2_alike_7 : decode cX2_alike 7 = .ok (.iload_n 2, 1) := by decide +kernel
theorem dX2_alike_8 : decode cX2_alike 8 = .ok (.invokevirtual 16, 3) := by decide +kernel
theorem dX2_alike_11 : decode cX2_alike 11 = .ok (.astore 4, 2) := by decide +kernel
theorem dX2_alike_13 : decode cX2_alike 13 = .ok (.aload_n 3, 1) := by decide +kernel
theorem dX2_alike_14 : decode cX2_alike 14 = .ok (.invokevirtual 24, 3) := by decide +kernel
theorem dX2_alike_17 : decode cX2_alike 17 = .ok (.aload 4, 2) := by decide +kernel
theorem dX2_alike_19 : decode cX2_alike 19 = .ok (.invokevirtual 24, 3) := by decide +kernel
theorem dX2_alike_22 : decode cX2_alike 22 = .ok (.if_icmp .eq 5, 3) := by decide +kernel
theorem dX2_alike_25 : decode cX2_alike 25 = .ok (.iconst 0, 1) := by decide +kernel
theorem dX2_alike_26 : decode cX2_alike 26 = .ok (.ireturn, 1) := by decide +kernel
theorem dX2_alike_27 : decode cX2_alike 27 = .ok (.iconst 0, 1) := by decide +kernel
theorem dX2_alike_28 : decode cX2_alike 28 = .ok (.istore 5, 2) := by decide +kernel
theorem dX2_alike_30 : decode cX2_alike 30 = .ok (.iload 5, 2) := by decide +kernel
theorem dX2_alike_32 : decode cX2_alike 32 = .ok (.aload_n 3, 1) := by decide +kernel
theorem dX2_alike_33 : decode cX2_alike 33 = .ok (.invokevirtual 24, 3) := by decide +kernel
theorem dX2_alike_36 : decode cX2_alike 36 = .ok (.if_icmp .ge 27, 3) := by decide +kernel
theorem dX2_alike_39 : decode cX2_alike 39 = .ok (.aload_n 3, 1) := by decide +kernel
theorem dX2_alike_40 : decode cX2_alike 40 = .ok (.iload 5, 2) := by decide +kernel
theorem dX2_alike_42 : decode cX2_alike 42 = .ok (.invokevirtual 127, 3) := by decide +kernel
theorem dX2_alike_45 : decode cX2_alike 45 = .ok (.aload 4, 2) := by decide +kernel
theorem dX2_alike_47 : decode cX2_alike 47 = .ok (.iload 5, 2) := by decide +kernel
theorem dX2_alike_49 : decode cX2_alike 49 = .ok (.invokevirtual 127, 3) := by decide +kernel
theorem dX2_alike_52 : decode cX2_alike 52 = .ok (.if_icmp .eq 5, 3) := by decide +kernel
theorem dX2_alike_55 : decode cX2_alike 55 = .ok (.iconst 0, 1) := by decide +kernel
theorem dX2_alike_56 : decode cX2_alike 56 = .ok (.ireturn, 1) := by decide +kernel
theorem dX2_alike_57 : decode cX2_alike 57 = .ok (.iinc 5 1, 3) := by decide +kernel
theorem dX2_alike_60 : decode cX2_alike 60 = .ok (.goto (-30), 3) := by decide +kernel
theorem dX2_alike_63 : decode cX2_alike 63 = .ok (.iconst 1, 1) := by decide +kernel
theorem dX2_alike_64 : decode cX2_alike 64 = .ok (.ireturn, 1) := by decide +kernel
theorem dX2_isName_0 : decode cX2_isName 0 = .ok (.aload_n 0, 1) := by decide +kernel
theorem dX2_isName_1 : decode cX2_isName 1 = .ok (.iload_n 1, 1) := by decide +kernel
theorem dX2_isName_2 : decode cX2_isName 2 = .ok (.invokevirtual 16, 3) := by decide +kernel
theorem dX2_isName_5 : decode cX2_isName 5 = .ok (.invokevirtual 135, 3) := by decide +kernel
theorem dX2_isName_8 : decode cX2_isName 8 = .ok (.ireturn, 1) := by decide +kernel
theorem dX2_fault_0 : decode cX2_fault 0 = .ok (.aload_n 0, 1) := by decide +kernel
theorem dX2_fault_1 : decode cX2_fault 1 = .ok (.iload_n 1, 1) := by decide +kernel
theorem dX2_fault_2 : decode cX2_fault 2 = .ok (.invokevirtual 16, 3) := by decide +kernel
theorem dX2_fault_5 : decode cX2_fault 5 = .ok (.invokevirtual 138, 3) := by decide +kernel
theorem dX2_fault_8 : decode cX2_fault 8 = .ok (.ireturn, 1) := by decide +kernel
theorem dX2_sort_0 : decode cX2_sort 0 = .ok (.aload_n 0, 1) := by decide +kernel
theorem dX2_sort_1 : decode cX2_sort 1 = .ok (.iload_n 1, 1) := by decide +kernel
theorem dX2_sort_2 : decode cX2_sort 2 = .ok (.invokevirtual 16, 3) := by decide +kernel
theorem dX2_sort_5 : decode cX2_sort 5 = .ok (.astore 4, 2) := by decide +kernel
theorem dX2_sort_7 : decode cX2_sort 7 = .ok (.iload_n 2, 1) := by decide +kernel
theorem dX2_sort_8 : decode cX2_sort 8 = .ok (.ifCond .lt 17, 3) := by decide +kernel
theorem dX2_sort_11 : decode cX2_sort 11 = .ok (.iload_n 2, 1) := by decide +kernel
theorem dX2_sort_12 : decode cX2_sort 12 = .ok (.iload_n 3, 1) := by decide +kernel
theorem dX2_sort_13 : decode cX2_sort 13 = .ok (.if_icmp .ge 12, 3) := by decide +kernel
theorem dX2_sort_16 : decode cX2_sort 16 = .ok (.iload_n 3, 1) := by decide +kernel
theorem dX2_sort_17 : decode cX2_sort 17 = .ok (.aload 4, 2) := by decide +kernel
theorem dX2_sort_19 : decode cX2_sort 19 = .ok (.invokevirtual 24, 3) := by decide +kernel
theorem dX2_sort_22 : decode cX2_sort 22 = .ok (.if_icmp .le 11, 3) := by decide +kernel
theorem dX2_sort_25 : decode cX2_sort 25 = .ok (.new 47, 3) := by decide +kernel
theorem dX2_sort_28 : decode cX2_sort 28 = .ok (.dup, 1) := by decide +kernel
theorem dX2_sort_29 : decode cX2_sort 29 = .ok (.invokespecial 49, 3) := by decide +kernel
theorem dX2_sort_32 : decode cX2_sort 32 = .ok (.athrow, 1) := by decide +kernel
theorem dX2_sort_33 : decode cX2_sort 33 = .ok (.aload 4, 2) := by decide +kernel
theorem dX2_sort_35 : decode cX2_sort 35 = .ok (.iload_n 2, 1) := by decide +kernel
theorem dX2_sort_36 : decode cX2_sort 36 = .ok (.iload_n 3, 1) := by decide +kernel
theorem dX2_sort_37 : decode cX2_sort 37 = .ok (.invokevirtual 141, 3) := by decide +kernel
theorem dX2_sort_40 : decode cX2_sort 40 = .ok (.ireturn, 1) := by decide +kernel
theorem dX2_longest_0 : decode cX2_longest 0 = .ok (.aload_n 0, 1) := by decide +kernel
theorem dX2_longest_1 : decode cX2_longest 1 = .ok (.iload_n 1, 1) := by decide +kernel
theorem dX2_longest_2 : decode cX2_longest 2 = .ok (.invokevirtual 16, 3) := by decide +kernel
theorem dX2_longest_5 : decode cX2_longest 5 = .ok (.astore_n 3, 1) := by decide +kernel
theorem dX2_longest_6 : decode cX2_longest 6 = .ok (.aload_n 3, 1) := by decide +kernel
theorem dX2_longest_7 : decode cX2_longest 7 = .ok (.iload_n 2, 1) := by decide +kernel
theorem dX2_longest_8 : decode cX2_longest 8 = .ok (.invokestatic 32, 3) := by decide +kernel
theorem dX2_longest_11 : decode cX2_longest 11 = .ok (.aload_n 3, 1) := by decide +kernel
theorem dX2_longest_12 : decode cX2_longest 12 = .ok (.iload_n 2, 1) := by decide +kernel
theorem dX2_longest_13 : decode cX2_longest 13 = .ok (.invokevirtual 97, 3) := by decide +kernel
theorem dX2_longest_16 : decode cX2_longest 16 = .ok (.ireturn, 1) := by decide +kernel
theorem dX2_pieces_0 : decode cX2_pieces 0 = .ok (.aload_n 0, 1) := by decide +kernel
theorem dX2_pieces_1 : decode cX2_pieces 1 = .ok (.iload_n 1, 1) := by decide +kernel
theorem dX2_pieces_2 : decode cX2_pieces 2 = .ok (.invokevirtual 16, 3) := by decide +kernel
theorem dX2_pieces_5 : decode cX2_pieces 5 = .ok (.invokevirtual 145, 3) := by decide +kernel
theorem dX2_pieces_8 : decode cX2_pieces 8 = .ok (.invokestatic 130, 3) := by decide +kernel
theorem dX2_pieces_11 : decode cX2_pieces 11 = .ok (.ireturn, 1) := by decide +kernel
theorem dX2_piece_0 : decode cX2_piece 0 = .ok (.aload_n 0, 1) := by decide +kernel
theorem dX2_piece_1 : decode cX2_piece 1 = .ok (.iload_n 1, 1) := by decide +kernel
theorem dX2_piece_2 : decode cX2_piece 2 = .ok (.invokevirtual 16, 3) := by decide +kernel
theorem dX2_piece_5 : decode cX2_piece 5 = .ok (.astore 4, 2) := by decide +kernel
theorem dX2_piece_7 : decode cX2_piece 7 = .ok (.aload 4, 2) := by decide +kernel
theorem dX2_piece_9 : decode cX2_piece 9 = .ok (.iload_n 2, 1) := by decide +kernel
theorem dX2_piece_10 : decode cX2_piece 10 = .ok (.invokestatic 93, 3) := by decide +kernel
theorem dX2_piece_13 : decode cX2_piece 13 = .ok (.istore 5, 2) := by decide +kernel
theorem dX2_piece_15 : decode cX2_piece 15 = .ok (.iload_n 3, 1) := by decide +kernel
theorem dX2_piece_16 : decode cX2_piece 16 = .ok (.tableswitch 50 0 2 #[28, 31, 39], 28) := by decide +kernel
theorem dX2_piece_44 : decode cX2_piece 44 = .ok (.iload 5, 2) := by decide +kernel
theorem dX2_piece_46 : decode cX2_piece 46 = .ok (.ireturn, 1) := by decide +kernel
theorem dX2_piece_47 : decode cX2_piece 47 = .ok (.aload 4, 2) := by decide +kernel
theorem dX2_piece_49 : decode cX2_piece 49 = .ok (.iload 5, 2) := by decide +kernel
theorem dX2_piece_51 : decode cX2_piece 51 = .ok (.invokevirtual 97, 3) := by decide +kernel
theorem dX2_piece_54 : decode cX2_piece 54 = .ok (.ireturn, 1) := by decide +kernel
theorem dX2_piece_55 : decode cX2_piece 55 = .ok (.aload 4, 2) := by decide +kernel
theorem dX2_piece_57 : decode cX2_piece 57 = .ok (.iload 5, 2) := by decide +kernel
theorem dX2_piece_59 : decode cX2_piece 59 = .ok (.invokevirtual 36, 3) := by decide +kernel
theorem dX2_piece_62 : decode cX2_piece 62 = .ok (.invokestatic 148, 3) := by decide +kernel
theorem dX2_piece_65 : decode cX2_piece 65 = .ok (.ireturn, 1) := by decide +kernel
theorem dX2_piece_66 : decode cX2_piece 66 = .ok (.new 71, 3) := by decide +kernel
theorem dX2_piece_69 : decode cX2_piece 69 = .ok (.dup, 1) := by decide +kernel
theorem dX2_piece_70 : decode cX2_piece 70 = .ok (.invokespecial 73, 3) := by decide +kernel
theorem dX2_piece_73 : decode cX2_piece 73 = .ok (.athrow, 1) := by decide +kernel
theorem dX2_sorts_0 : decode cX2_sorts 0 = .ok (.aload_n 0, 1) := by decide +kernel
theorem dX2_sorts_1 : decode cX2_sorts 1 = .ok (.iload_n 1, 1) := by decide +kernel
theorem dX2_sorts_2 : decode cX2_sorts 2 = .ok (.invokevirtual 16, 3) := by decide +kernel
theorem dX2_sorts_5 : decode cX2_sorts 5 = .ok (.astore_n 2, 1) := by decide +kernel
theorem dX2_sorts_6 : decode cX2_sorts 6 = .ok (.aload_n 2, 1) := by decide +kernel
theorem dX2_sorts_7 : decode cX2_sorts 7 = .ok (.invokevirtual 145, 3) := by decide +kernel
theorem dX2_sorts_10 : decode cX2_sorts 10 = .ok (.istore_n 3, 1) := by decide +kernel
theorem dX2_sorts_11 : decode cX2_sorts 11 = .ok (.new 116, 3) := by decide +kernel
theorem dX2_sorts_14 : decode cX2_sorts 14 = .ok (.dup, 1) := by decide +kernel
theorem dX2_sorts_15 : decode cX2_sorts 15 = .ok (.invokespecial 118, 3) := by decide +kernel
theorem dX2_sorts_18 : decode cX2_sorts 18 = .ok (.astore 4, 2) := by decide +kernel
theorem dX2_sorts_20 : decode cX2_sorts 20 = .ok (.iconst 0, 1) := by decide +kernel
theorem dX2_sorts_21 : decode cX2_sorts 21 = .ok (.istore 5, 2) := by decide +kernel
theorem dX2_sorts_23 : decode cX2_sorts 23 = .ok (.iload 5, 2) := by decide +kernel
theorem dX2_sorts_25 : decode cX2_sorts 25 = .ok (.aload_n 2, 1) := by decide +kernel
theorem dX2_sorts_26 : decode cX2_sorts 26 = .ok (.invokevirtual 24, 3) := by decide +kernel
theorem dX2_sorts_29 : decode cX2_sorts 29 = .ok (.if_icmp .ge 32, 3) := by decide +kernel
theorem dX2_sorts_32 : decode cX2_sorts 32 = .ok (.iload_n 3, 1) := by decide +kernel
theorem dX2_sorts_33 : decode cX2_sorts 33 = .ok (.iload 5, 2) := by decide +kernel
theorem dX2_sorts_35 : decode cX2_sorts 35 = .ok (.invokestatic 151, 3) := by decide +kernel
theorem dX2_sorts_38 : decode cX2_sorts 38 = .ok (.ifCond .eq 17, 3) := by decide +kernel
theorem dX2_sorts_41 : decode cX2_sorts 41 = .ok (.aload 4, 2) := by decide +kernel
theorem dX2_sorts_43 : decode cX2_sorts 43 = .ok (.aload_n 2, 1) := by decide +kernel
theorem dX2_sorts_44 : decode cX2_sorts 44 = .ok (.iload 5, 2) := by decide +kernel
theorem dX2_sorts_46 : decode cX2_sorts 46 = .ok (.invokevirtual 36, 3) := by decide +kernel
theorem dX2_sorts_49 : decode cX2_sorts 49 = .ok (.invokestatic 148, 3) := by decide +kernel
theorem dX2_sorts_52 : decode cX2_sorts 52 = .ok (.invokestatic 119, 3) := by decide +kernel
theorem dX2_sorts_55 : decode cX2_sorts 55 = .ok (.iinc 5 1, 3) := by decide +kernel
theorem dX2_sorts_58 : decode cX2_sorts 58 = .ok (.goto (-35), 3) := by decide +kernel
theorem dX2_sorts_61 : decode cX2_sorts 61 = .ok (.aload 4, 2) := by decide +kernel
theorem dX2_sorts_63 : decode cX2_sorts 63 = .ok (.invokevirtual 123, 3) := by decide +kernel
theorem dX2_sorts_66 : decode cX2_sorts 66 = .ok (.areturn, 1) := by decide +kernel
theorem dX2_cuts_0 : decode cX2_cuts 0 = .ok (.aload_n 0, 1) := by decide +kernel
theorem dX2_cuts_1 : decode cX2_cuts 1 = .ok (.iload_n 1, 1) := by decide +kernel
theorem dX2_cuts_2 : decode cX2_cuts 2 = .ok (.invokevirtual 16, 3) := by decide +kernel
theorem dX2_cuts_5 : decode cX2_cuts 5 = .ok (.invokevirtual 145, 3) := by decide +kernel
theorem dX2_cuts_8 : decode cX2_cuts 8 = .ok (.invokestatic 154, 3) := by decide +kernel
theorem dX2_cuts_11 : decode cX2_cuts 11 = .ok (.ireturn, 1) := by decide +kernel
theorem dX2_back_0 : decode cX2_back 0 = .ok (.aload_n 0, 1) := by decide +kernel
theorem dX2_back_1 : decode cX2_back 1 = .ok (.iload_n 1, 1) := by decide +kernel
theorem dX2_back_2 : decode cX2_back 2 = .ok (.invokevirtual 16, 3) := by decide +kernel
theorem dX2_back_5 : decode cX2_back 5 = .ok (.invokevirtual 157, 3) := by decide +kernel
theorem dX2_back_8 : decode cX2_back 8 = .ok (.invokestatic 154, 3) := by decide +kernel
theorem dX2_back_11 : decode cX2_back 11 = .ok (.ireturn, 1) := by decide +kernel
theorem dX2_fewest_0 : decode cX2_fewest 0 = .ok (.aload_n 0, 1) := by decide +kernel
theorem dX2_fewest_1 : decode cX2_fewest 1 = .ok (.iload_n 1, 1) := by decide +kernel
theorem dX2_fewest_2 : decode cX2_fewest 2 = .ok (.invokevirtual 16, 3) := by decide +kernel
theorem dX2_fewest_5 : decode cX2_fewest 5 = .ok (.invokevirtual 160, 3) := by decide +kernel
theorem dX2_fewest_8 : decode cX2_fewest 8 = .ok (.ireturn, 1) := by decide +kernel
theorem dX2_parted_0 : decode cX2_parted 0 = .ok (.aload_n 0, 1) := by decide +kernel
theorem dX2_parted_1 : decode cX2_parted 1 = .ok (.iload_n 1, 1) := by decide +kernel
theorem dX2_parted_2 : decode cX2_parted 2 = .ok (.invokevirtual 16, 3) := by decide +kernel
theorem dX2_parted_5 : decode cX2_parted 5 = .ok (.astore_n 3, 1) := by decide +kernel
theorem dX2_parted_6 : decode cX2_parted 6 = .ok (.iload_n 2, 1) := by decide +kernel
theorem dX2_parted_7 : decode cX2_parted 7 = .ok (.ifCond .lt 17, 3) := by decide +kernel
theorem dX2_parted_10 : decode cX2_parted 10 = .ok (.iload_n 2, 1) := by decide +kernel
theorem dX2_parted_11 : decode cX2_parted 11 = .ok (.aload_n 3, 1) := by decide +kernel
theorem dX2_parted_12 : decode cX2_parted 12 = .ok (.invokevirtual 50, 3) := by decide +kernel
theorem dX2_parted_15 : decode cX2_parted 15 = .ok (.invokestatic 154, 3) := by decide +kernel
theorem dX2_parted_18 : decode cX2_parted 18 = .ok (.iconst (-1), 1) := by decide +kernel
theorem dX2_parted_19 : decode cX2_parted 19 = .ok (.ixor, 1) := by decide +kernel
theorem dX2_parted_20 : decode cX2_parted 20 = .ok (.iand, 1) := by decide +kernel
theorem dX2_parted_21 : decode cX2_parted 21 = .ok (.ifCond .eq 11, 3) := by decide +kernel
theorem dX2_parted_24 : decode cX2_parted 24 = .ok (.new 71, 3) := by decide +kernel
theorem dX2_parted_27 : decode cX2_parted 27 = .ok (.dup, 1) := by decide +kernel
theorem dX2_parted_28 : decode cX2_parted 28 = .ok (.invokespecial 73, 3) := by decide +kernel
theorem dX2_parted_31 : decode cX2_parted 31 = .ok (.athrow, 1) := by decide +kernel
theorem dX2_parted_32 : decode cX2_parted 32 = .ok (.aload_n 3, 1) := by decide +kernel
theorem dX2_parted_33 : decode cX2_parted 33 = .ok (.iload_n 2, 1) := by decide +kernel
theorem dX2_parted_34 : decode cX2_parted 34 = .ok (.invokevirtual 163, 3) := by decide +kernel
theorem dX2_parted_37 : decode cX2_parted 37 = .ok (.ireturn, 1) := by decide +kernel
theorem dX2_house_0 : decode cX2_house 0 = .ok (.iload_n 1, 1) := by decide +kernel
theorem dX2_house_1 : decode cX2_house 1 = .ok (.tableswitch 60 0 4 #[35, 40, 45, 50, 55], 35) := by decide +kernel
theorem dX2_house_36 : decode cX2_house 36 = .ok (.aload_n 0, 1) := by decide +kernel
theorem dX2_house_37 : decode cX2_house 37 = .ok (.invokevirtual 166, 3) := by decide +kernel
theorem dX2_house_40 : decode cX2_house 40 = .ok (.ireturn, 1) := by decide +kernel
theorem dX2_house_41 : decode cX2_house 41 = .ok (.aload_n 0, 1) := by decide +kernel
theorem dX2_house_42 : decode cX2_house 42 = .ok (.getfield 169, 3) := by decide +kernel
theorem dX2_house_45 : decode cX2_house 45 = .ok (.ireturn, 1) := by decide +kernel
theorem dX2_house_46 : decode cX2_house 46 = .ok (.aload_n 0, 1) := by decide +kernel
theorem dX2_house_47 : decode cX2_house 47 = .ok (.getfield 173, 3) := by decide +kernel
theorem dX2_house_50 : decode cX2_house 50 = .ok (.ireturn, 1) := by decide +kernel
theorem dX2_house_51 : decode cX2_house 51 = .ok (.aload_n 0, 1) := by decide +kernel
theorem dX2_house_52 : decode cX2_house 52 = .ok (.getfield 176, 3) := by decide +kernel
theorem dX2_house_55 : decode cX2_house 55 = .ok (.ireturn, 1) := by decide +kernel
theorem dX2_house_56 : decode cX2_house 56 = .ok (.aload_n 0, 1) := by decide +kernel
theorem dX2_house_57 : decode cX2_house 57 = .ok (.invokevirtual 179, 3) := by decide +kernel
theorem dX2_house_60 : decode cX2_house 60 = .ok (.ireturn, 1) := by decide +kernel
theorem dX2_house_61 : decode cX2_house 61 = .ok (.new 71, 3) := by decide +kernel
theorem dX2_house_64 : decode cX2_house 64 = .ok (.dup, 1) := by decide +kernel
theorem dX2_house_65 : decode cX2_house 65 = .ok (.invokespecial 73, 3) := by decide +kernel
theorem dX2_house_68 : decode cX2_house 68 = .ok (.athrow, 1) := by decide +kernel
theorem dX2_knock_0 : decode cX2_knock 0 = .ok (.aload_n 0, 1) := by decide +kernel
theorem dX2_knock_1 : decode cX2_knock 1 = .ok (.dup, 1) := by decide +kernel
theorem dX2_knock_2 : decode cX2_knock 2 = .ok (.getfield 176, 3) := by decide +kernel
theorem dX2_knock_5 : decode cX2_knock 5 = .ok (.iconst 1, 1) := by decide +kernel
theorem dX2_knock_6 : decode cX2_knock 6 = .ok (.iadd, 1) := by decide +kernel
theorem dX2_knock_7 : decode cX2_knock 7 = .ok (.putfield 176, 3) := by decide +kernel
theorem dX2_knock_10 : decode cX2_knock 10 = .ok (.aload_n 0, 1) := by decide +kernel
theorem dX2_knock_11 : decode cX2_knock 11 = .ok (.getfield 176, 3) := by decide +kernel
theorem dX2_knock_14 : decode cX2_knock 14 = .ok (.ireturn, 1) := by decide +kernel
theorem dX2_isSound_0 : decode cX2_isSound 0 = .ok (.invokestatic 182, 3) := by decide +kernel
theorem dX2_isSound_3 : decode cX2_isSound 3 = .ok (.istore_n 1, 1) := by decide +kernel
theorem dX2_isSound_4 : decode cX2_isSound 4 = .ok (.iconst 0, 1) := by decide +kernel
theorem dX2_isSound_5 : decode cX2_isSound 5 = .ok (.istore_n 2, 1) := by decide +kernel
theorem dX2_isSound_6 : decode cX2_isSound 6 = .ok (.iload_n 2, 1) := by decide +kernel
theorem dX2_isSound_7 : decode cX2_isSound 7 = .ok (.iconst 3, 1) := by decide +kernel
theorem dX2_isSound_8 : decode cX2_isSound 8 = .ok (.if_icmp .ge 31, 3) := by decide +kernel
theorem dX2_isSound_11 : decode cX2_isSound 11 = .ok (.iload_n 1, 1) := by decide +kernel
theorem dX2_isSound_12 : decode cX2_isSound 12 = .ok (.ifCond .eq 19, 3) := by decide +kernel
theorem dX2_isSound_15 : decode cX2_isSound 15 = .ok (.aload_n 0, 1) := by decide +kernel
theorem dX2_isSound_16 : decode cX2_isSound 16 = .ok (.getfield 11, 3) := by decide +kernel
theorem dX2_isSound_19 : decode cX2_isSound 19 = .ok (.iload_n 2, 1) := by decide +kernel
theorem dX2_isSound_20 : decode cX2_isSound 20 = .ok (.aaload, 1) := by decide +kernel
theorem dX2_isSound_21 : decode cX2_isSound 21 = .ok (.invokevirtual 185, 3) := by decide +kernel
theorem dX2_isSound_24 : decode cX2_isSound 24 = .ok (.ifCond .eq 7, 3) := by decide +kernel
theorem dX2_isSound_27 : decode cX2_isSound 27 = .ok (.iconst 1, 1) := by decide +kernel
theorem dX2_isSound_28 : decode cX2_isSound 28 = .ok (.goto 4, 3) := by decide +kernel
theorem dX2_isSound_31 : decode cX2_isSound 31 = .ok (.iconst 0, 1) := by decide +kernel
theorem dX2_isSound_32 : decode cX2_isSound 32 = .ok (.istore_n 1, 1) := by decide +kernel
theorem dX2_isSound_33 : decode cX2_isSound 33 = .ok (.iinc 2 1, 3) := by decide +kernel
theorem dX2_isSound_36 : decode cX2_isSound 36 = .ok (.goto (-30), 3) := by decide +kernel
theorem dX2_isSound_39 : decode cX2_isSound 39 = .ok (.iload_n 1, 1) := by decide +kernel
theorem dX2_isSound_40 : decode cX2_isSound 40 = .ok (.ireturn, 1) := by decide +kernel
theorem dX2_digest_0 : decode cX2_digest 0 = .ok (.ldc2_w 188, 3) := by decide +kernel
theorem dX2_digest_3 : decode cX2_digest 3 = .ok (.lstore_n 1, 1) := by decide +kernel
theorem dX2_digest_4 : decode cX2_digest 4 = .ok (.iconst 0, 1) := by decide +kernel
theorem dX2_digest_5 : decode cX2_digest 5 = .ok (.istore_n 3, 1) := by decide +kernel
theorem dX2_digest_6 : decode cX2_digest 6 = .ok (.iload_n 3, 1) := by decide +kernel
theorem dX2_digest_7 : decode cX2_digest 7 = .ok (.iconst 3, 1) := by decide +kernel
theorem dX2_digest_8 : decode cX2_digest 8 = .ok (.if_icmp .ge 20, 3) := by decide +kernel
theorem dX2_digest_11 : decode cX2_digest 11 = .ok (.aload_n 0, 1) := by decide +kernel
theorem dX2_digest_12 : decode cX2_digest 12 = .ok (.getfield 11, 3) := by decide +kernel
theorem dX2_digest_15 : decode cX2_digest 15 = .ok (.iload_n 3, 1) := by decide +kernel
theorem dX2_digest_16 : decode cX2_digest 16 = .ok (.aaload, 1) := by decide +kernel
theorem dX2_digest_17 : decode cX2_digest 17 = .ok (.lload_n 1, 1) := by decide +kernel
theorem dX2_digest_18 : decode cX2_digest 18 = .ok (.invokevirtual 190, 3) := by decide +kernel
theorem dX2_digest_21 : decode cX2_digest 21 = .ok (.lstore_n 1, 1) := by decide +kernel
theorem dX2_digest_22 : decode cX2_digest 22 = .ok (.iinc 3 1, 3) := by decide +kernel
theorem dX2_digest_25 : decode cX2_digest 25 = .ok (.goto (-19), 3) := by decide +kernel
theorem dX2_digest_28 : decode cX2_digest 28 = .ok (.iconst 0, 1) := by decide +kernel
theorem dX2_digest_29 : decode cX2_digest 29 = .ok (.istore_n 3, 1) := by decide +kernel
theorem dX2_digest_30 : decode cX2_digest 30 = .ok (.iload_n 3, 1) := by decide +kernel
theorem dX2_digest_31 : decode cX2_digest 31 = .ok (.iconst 4, 1) := by decide +kernel
theorem dX2_digest_32 : decode cX2_digest 32 = .ok (.if_icmp .gt 19, 3) := by decide +kernel
theorem dX2_digest_35 : decode cX2_digest 35 = .ok (.lload_n 1, 1) := by decide +kernel
theorem dX2_digest_36 : decode cX2_digest 36 = .ok (.aload_n 0, 1) := by decide +kernel
theorem dX2_digest_37 : decode cX2_digest 37 = .ok (.iload_n 3, 1) := by decide +kernel
theorem dX2_digest_38 : decode cX2_digest 38 = .ok (.invokevirtual 194, 3) := by decide +kernel
theorem dX2_digest_41 : decode cX2_digest 41 = .ok (.invokestatic 197, 3) := by decide +kernel
theorem dX2_digest_44 : decode cX2_digest 44 = .ok (.lstore_n 1, 1) := by decide +kernel
theorem dX2_digest_45 : decode cX2_digest 45 = .ok (.iinc 3 1, 3) := by decide +kernel
theorem dX2_digest_48 : decode cX2_digest 48 = .ok (.goto (-18), 3) := by decide +kernel
theorem dX2_digest_51 : decode cX2_digest 51 = .ok (.lload_n 1, 1) := by decide +kernel
theorem dX2_digest_52 : decode cX2_digest 52 = .ok (.aload_n 0, 1) := by decide +kernel
theorem dX2_digest_53 : decode cX2_digest 53 = .ok (.invokevirtual 201, 3) := by decide +kernel
theorem dX2_digest_56 : decode cX2_digest 56 = .ok (.ifCond .eq 7, 3) := by decide +kernel
theorem dX2_digest_59 : decode cX2_digest 59 = .ok (.iconst 1, 1) := by decide +kernel
theorem dX2_digest_60 : decode cX2_digest 60 = .ok (.goto 4, 3) := by decide +kernel
theorem dX2_digest_63 : decode cX2_digest 63 = .ok (.iconst 0, 1) := by decide +kernel
theorem dX2_digest_64 : decode cX2_digest 64 = .ok (.invokestatic 197, 3) := by decide +kernel
theorem dX2_digest_67 : decode cX2_digest 67 = .ok (.lreturn, 1) := by decide +kernel
theorem dX2_textAt_0 : decode cX2_textAt 0 = .ok (.iload_n 1, 1) := by decide +kernel
theorem dX2_textAt_1 : decode cX2_textAt 1 = .ok (.ifCond .lt 8, 3) := by decide +kernel
theorem dX2_textAt_4 : decode cX2_textAt 4 = .ok (.iload_n 1, 1) := by decide +kernel
theorem dX2_textAt_5 : decode cX2_textAt 5 = .ok (.iconst 3, 1) := by decide +kernel
theorem dX2_textAt_6 : decode cX2_textAt 6 = .ok (.if_icmp .lt 11, 3) := by decide +kernel
theorem dX2_textAt_9 : decode cX2_textAt 9 = .ok (.new 47, 3) := by decide +kernel
theorem dX2_textAt_12 : decode cX2_textAt 12 = .ok (.dup, 1) := by decide +kernel
theorem dX2_textAt_13 : decode cX2_textAt 13 = .ok (.invokespecial 49, 3) := by decide +kernel
theorem dX2_textAt_16 : decode cX2_textAt 16 = .ok (.athrow, 1) := by decide +kernel
theorem dX2_textAt_17 : decode cX2_textAt 17 = .ok (.aload_n 0, 1) := by decide +kernel
theorem dX2_textAt_18 : decode cX2_textAt 18 = .ok (.getfield 11, 3) := by decide +kernel
theorem dX2_textAt_21 : decode cX2_textAt 21 = .ok (.iload_n 1, 1) := by decide +kernel
theorem dX2_textAt_22 : decode cX2_textAt 22 = .ok (.aaload, 1) := by decide +kernel
theorem dX2_textAt_23 : decode cX2_textAt 23 = .ok (.areturn, 1) := by decide +kernel
theorem dX2_checkPlace_0 : decode cX2_checkPlace 0 = .ok (.iload_n 1, 1) := by decide +kernel
theorem dX2_checkPlace_1 : decode cX2_checkPlace 1 = .ok (.ifCond .lt 11, 3) := by decide +kernel
theorem dX2_checkPlace_4 : decode cX2_checkPlace 4 = .ok (.iload_n 1, 1) := by decide +kernel
theorem dX2_checkPlace_5 : decode cX2_checkPlace 5 = .ok (.aload_n 0, 1) := by decide +kernel
theorem dX2_checkPlace_6 : decode cX2_checkPlace 6 = .ok (.invokevirtual 24, 3) := by decide +kernel
theorem dX2_checkPlace_9 : decode cX2_checkPlace 9 = .ok (.if_icmp .lt 11, 3) := by decide +kernel
theorem dX2_checkPlace_12 : decode cX2_checkPlace 12 = .ok (.new 47, 3) := by decide +kernel
theorem dX2_checkPlace_15 : decode cX2_checkPlace 15 = .ok (.dup, 1) := by decide +kernel
theorem dX2_checkPlace_16 : decode cX2_checkPlace 16 = .ok (.invokespecial 49, 3) := by decide +kernel
theorem dX2_checkPlace_19 : decode cX2_checkPlace 19 = .ok (.athrow, 1) := by decide +kernel
theorem dX2_checkPlace_20 : decode cX2_checkPlace 20 = .ok (.return_, 1) := by decide +kernel
theorem dX2_checkSign_0 : decode cX2_checkSign 0 = .ok (.iload_n 0, 1) := by decide +kernel
theorem dX2_checkSign_1 : decode cX2_checkSign 1 = .ok (.ifCond .lt 10, 3) := by decide +kernel
theorem dX2_checkSign_4 : decode cX2_checkSign 4 = .ok (.iload_n 0, 1) := by decide +kernel
theorem dX2_checkSign_5 : decode cX2_checkSign 5 = .ok (.sipush 255, 3) := by decide +kernel
theorem dX2_checkSign_8 : decode cX2_checkSign 8 = .ok (.if_icmp .le 11, 3) := by decide +kernel
theorem dX2_checkSign_11 : decode cX2_checkSign 11 = .ok (.new 71, 3) := by decide +kernel
theorem dX2_checkSign_14 : decode cX2_checkSign 14 = .ok (.dup, 1) := by decide +kernel
theorem dX2_checkSign_15 : decode cX2_checkSign 15 = .ok (.invokespecial 73, 3) := by decide +kernel
theorem dX2_checkSign_18 : decode cX2_checkSign 18 = .ok (.athrow, 1) := by decide +kernel
theorem dX2_checkSign_19 : decode cX2_checkSign 19 = .ok (.return_, 1) := by decide +kernel
theorem dX2_checkKind_0 : decode cX2_checkKind 0 = .ok (.iload_n 0, 1) := by decide +kernel
theorem dX2_checkKind_1 : decode cX2_checkKind 1 = .ok (.ifCond .lt 9, 3) := by decide +kernel
theorem dX2_checkKind_4 : decode cX2_checkKind 4 = .ok (.iload_n 0, 1) := by decide +kernel
theorem dX2_checkKind_5 : decode cX2_checkKind 5 = .ok (.bipush 30, 2) := by decide +kernel
theorem dX2_checkKind_7 : decode cX2_checkKind 7 = .ok (.if_icmp .le 11, 3) := by decide +kernel
theorem dX2_checkKind_10 : decode cX2_checkKind 10 = .ok (.new 71, 3) := by decide +kernel
theorem dX2_checkKind_13 : decode cX2_checkKind 13 = .ok (.dup, 1) := by decide +kernel
theorem dX2_checkKind_14 : decode cX2_checkKind 14 = .ok (.invokespecial 73, 3) := by decide +kernel
theorem dX2_checkKind_17 : decode cX2_checkKind 17 = .ok (.athrow, 1) := by decide +kernel
theorem dX2_checkKind_18 : decode cX2_checkKind 18 = .ok (.return_, 1) := by decide +kernel
theorem dX2_checkQuestion_0 : decode cX2_checkQuestion 0 = .ok (.iload_n 0, 1) := by decide +kernel
theorem dX2_checkQuestion_1 : decode cX2_checkQuestion 1 = .ok (.ifCond .lt 9, 3) := by decide +kernel
theorem dX2_checkQuestion_4 : decode cX2_checkQuestion 4 = .ok (.iload_n 0, 1) := by decide +kernel
theorem dX2_checkQuestion_5 : decode cX2_checkQuestion 5 = .ok (.bipush 13, 2) := by decide +kernel
theorem dX2_checkQuestion_7 : decode cX2_checkQuestion 7 = .ok (.if_icmp .le 11, 3) := by decide +kernel
theorem dX2_checkQuestion_10 : decode cX2_checkQuestion 10 = .ok (.new 71, 3) := by decide +kernel
theorem dX2_checkQuestion_13 : decode cX2_checkQuestion 13 = .ok (.dup, 1) := by decide +kernel
theorem dX2_checkQuestion_14 : decode cX2_checkQuestion 14 = .ok (.invokespecial 73, 3) := by decide +kernel
theorem dX2_checkQuestion_17 : decode cX2_checkQuestion 17 = .ok (.athrow, 1) := by decide +kernel
theorem dX2_checkQuestion_18 : decode cX2_checkQuestion 18 = .ok (.return_, 1) := by decide +kernel
theorem dX2_checkSpan_0 : decode cX2_checkSpan 0 = .ok (.iload_n 0, 1) := by decide +kernel
theorem dX2_checkSpan_1 : decode cX2_checkSpan 1 = .ok (.invokestatic 20, 3) := by decide +kernel
theorem dX2_checkSpan_4 : decode cX2_checkSpan 4 = .ok (.iload_n 1, 1) := by decide +kernel
theorem dX2_checkSpan_5 : decode cX2_checkSpan 5 = .ok (.invokestatic 20, 3) := by decide +kernel
theorem dX2_checkSpan_8 : decode cX2_checkSpan 8 = .ok (.iload_n 0, 1) := by decide +kernel
theorem dX2_checkSpan_9 : decode cX2_checkSpan 9 = .ok (.iload_n 1, 1) := by decide +kernel
theorem dX2_checkSpan_10 : decode cX2_checkSpan 10 = .ok (.if_icmp .le 11, 3) := by decide +kernel
theorem dX2_checkSpan_13 : decode cX2_checkSpan 13 = .ok (.new 71, 3) := by decide +kernel
theorem dX2_checkSpan_16 : decode cX2_checkSpan 16 = .ok (.dup, 1) := by decide +kernel
theorem dX2_checkSpan_17 : decode cX2_checkSpan 17 = .ok (.invokespecial 73, 3) := by decide +kernel
theorem dX2_checkSpan_20 : decode cX2_checkSpan 20 = .ok (.athrow, 1) := by decide +kernel
theorem dX2_checkSpan_21 : decode cX2_checkSpan 21 = .ok (.return_, 1) := by decide +kernel
theorem dX2_beginOfPiece_0 : decode cX2_beginOfPiece 0 = .ok (.aload_n 0, 1) := by decide +kernel
theorem dX2_beginOfPiece_1 : decode cX2_beginOfPiece 1 = .ok (.iload_n 1, 1) := by decide +kernel
theorem dX2_beginOfPiece_2 : decode cX2_beginOfPiece 2 = .ok (.invokevirtual 204, 3) := by decide +kernel
theorem dX2_beginOfPiece_5 : decode cX2_beginOfPiece 5 = .ok (.istore_n 2, 1) := by decide +kernel
theorem dX2_beginOfPiece_6 : decode cX2_beginOfPiece 6 = .ok (.iload_n 2, 1) := by decide +kernel
theorem dX2_beginOfPiece_7 : decode cX2_beginOfPiece 7 = .ok (.iconst (-1), 1) := by decide +kernel
theorem dX2_beginOfPiece_8 : decode cX2_beginOfPiece 8 = .ok (.if_icmp .ne 11, 3) := by decide +kernel
theorem dX2_beginOfPiece_11 : decode cX2_beginOfPiece 11 = .ok (.new 47, 3) := by decide +kernel
theorem dX2_beginOfPiece_14 : decode cX2_beginOfPiece 14 = .ok (.dup, 1) := by decide +kernel
theorem dX2_beginOfPiece_15 : decode cX2_beginOfPiece 15 = .ok (.invokespecial 49, 3) := by decide +kernel
theorem dX2_beginOfPiece_18 : decode cX2_beginOfPiece 18 = .ok (.athrow, 1) := by decide +kernel
theorem dX2_beginOfPiece_19 : decode cX2_beginOfPiece 19 = .ok (.iload_n 2, 1) := by decide +kernel
theorem dX2_beginOfPiece_20 : decode cX2_beginOfPiece 20 = .ok (.ireturn, 1) := by decide +kernel
theorem dX2_inserted_0 : decode cX2_inserted 0 = .ok (.aload_n 1, 1) := by decide +kernel
theorem dX2_inserted_1 : decode cX2_inserted 1 = .ok (.invokevirtual 24, 3) := by decide +kernel
theorem dX2_inserted_4 : decode cX2_inserted 4 = .ok (.bipush 30, 2) := by decide +kernel
theorem dX2_inserted_6 : decode cX2_inserted 6 = .ok (.if_icmp .lt 8, 3) := by decide +kernel
theorem dX2_inserted_9 : decode cX2_inserted 9 = .ok (.aload_n 0, 1) := by decide +kernel
theorem dX2_inserted_10 : decode cX2_inserted 10 = .ok (.invokevirtual 60, 3) := by decide +kernel
theorem dX2_inserted_13 : decode cX2_inserted 13 = .ok (.ireturn, 1) := by decide +kernel
theorem dX2_inserted_14 : decode cX2_inserted 14 = .ok (.aload_n 1, 1) := by decide +kernel
theorem dX2_inserted_15 : decode cX2_inserted 15 = .ok (.iload_n 2, 1) := by decide +kernel
theorem dX2_inserted_16 : decode cX2_inserted 16 = .ok (.iload_n 3, 1) := by decide +kernel
theorem dX2_inserted_17 : decode cX2_inserted 17 = .ok (.invokevirtual 74, 3) := by decide +kernel
theorem dX2_inserted_20 : decode cX2_inserted 20 = .ok (.aload_n 0, 1) := by decide +kernel
theorem dX2_inserted_21 : decode cX2_inserted 21 = .ok (.aload_n 1, 1) := by decide +kernel
theorem dX2_inserted_22 : decode cX2_inserted 22 = .ok (.invokevirtual 24, 3) := by decide +kernel
theorem dX2_inserted_25 : decode cX2_inserted 25 = .ok (.invokevirtual 44, 3) := by decide +kernel
theorem dX2_inserted_28 : decode cX2_inserted 28 = .ok (.ireturn, 1) := by decide +kernel
theorem dX2_sifted_0 : decode cX2_sifted 0 = .ok (.aload_n 0, 1) := by decide +kernel
theorem dX2_sifted_1 : decode cX2_sifted 1 = .ok (.iload_n 2, 1) := by decide +kernel
theorem dX2_sifted_2 : decode cX2_sifted 2 = .ok (.ifCond .eq 7, 3) := by decide +kernel
theorem dX2_sifted_5 : decode cX2_sifted 5 = .ok (.iload_n 1, 1) := by decide +kernel
theorem dX2_sifted_6 : decode cX2_sifted 6 = .ok (.goto 11, 3) := by decide +kernel
theorem dX2_sifted_9 : decode cX2_sifted 9 = .ok (.aload_n 0, 1) := by decide +kernel
theorem dX2_sifted_10 : decode cX2_sifted 10 = .ok (.invokevirtual 50, 3) := by decide +kernel
theorem dX2_sifted_13 : decode cX2_sifted 13 = .ok (.iload_n 1, 1) := by decide +kernel
theorem dX2_sifted_14 : decode cX2_sifted 14 = .ok (.iconst (-1), 1) := by decide +kernel
theorem dX2_sifted_15 : decode cX2_sifted 15 = .ok (.ixor, 1) := by decide +kernel
theorem dX2_sifted_16 : decode cX2_sifted 16 = .ok (.iand, 1) := by decide +kernel
theorem dX2_sifted_17 : decode cX2_sifted 17 = .ok (.invokevirtual 53, 3) := by decide +kernel
theorem dX2_sifted_20 : decode cX2_sifted 20 = .ok (.ireturn, 1) := by decide +kernel
theorem dX2_acted_0 : decode cX2_acted 0 = .ok (.aload_n 0, 1) := by decide +kernel
theorem dX2_acted_1 : decode cX2_acted 1 = .ok (.dup, 1) := by decide +kernel
theorem dX2_acted_2 : decode cX2_acted 2 = .ok (.getfield 169, 3) := by decide +kernel
theorem dX2_acted_5 : decode cX2_acted 5 = .ok (.iconst 1, 1) := by decide +kernel
theorem dX2_acted_6 : decode cX2_acted 6 = .ok (.iadd, 1) := by decide +kernel
theorem dX2_acted_7 : decode cX2_acted 7 = .ok (.putfield 169, 3) := by decide +kernel
theorem dX2_acted_10 : decode cX2_acted 10 = .ok (.iload_n 1, 1) := by decide +kernel
theorem dX2_acted_11 : decode cX2_acted 11 = .ok (.ireturn, 1) := by decide +kernel
theorem dX2_refused_0 : decode cX2_refused 0 = .ok (.aload_n 0, 1) := by decide +kernel
theorem dX2_refused_1 : decode cX2_refused 1 = .ok (.dup, 1) := by decide +kernel
theorem dX2_refused_2 : decode cX2_refused 2 = .ok (.getfield 173, 3) := by decide +kernel
theorem dX2_refused_5 : decode cX2_refused 5 = .ok (.iconst 1, 1) := by decide +kernel
theorem dX2_refused_6 : decode cX2_refused 6 = .ok (.iadd, 1) := by decide +kernel
theorem dX2_refused_7 : decode cX2_refused 7 = .ok (.putfield 173, 3) := by decide +kernel
theorem dX2_refused_10 : decode cX2_refused 10 = .ok (.bipush (-9), 2) := by decide +kernel
theorem dX2_refused_12 : decode cX2_refused 12 = .ok (.ireturn, 1) := by decide +kernel
theorem dX2_signsInAll_0 : decode cX2_signsInAll 0 = .ok (.iconst 0, 1) := by decide +kernel
theorem dX2_signsInAll_1 : decode cX2_signsInAll 1 = .ok (.istore_n 1, 1) := by decide +kernel
theorem dX2_signsInAll_2 : decode cX2_signsInAll 2 = .ok (.iconst 0, 1) := by decide +kernel
theorem dX2_signsInAll_3 : decode cX2_signsInAll 3 = .ok (.istore_n 2, 1) := by decide +kernel
theorem dX2_signsInAll_4 : decode cX2_signsInAll 4 = .ok (.iload_n 2, 1) := by decide +kernel
theorem dX2_signsInAll_5 : decode cX2_signsInAll 5 = .ok (.iconst 3, 1) := by decide +kernel
theorem dX2_signsInAll_6 : decode cX2_signsInAll 6 = .ok (.if_icmp .ge 21, 3) := by decide +kernel
theorem dX2_signsInAll_9 : decode cX2_signsInAll 9 = .ok (.iload_n 1, 1) := by decide +kernel
theorem dX2_signsInAll_10 : decode cX2_signsInAll 10 = .ok (.aload_n 0, 1) := by decide +kernel
theorem dX2_signsInAll_11 : decode cX2_signsInAll 11 = .ok (.getfield 11, 3) := by decide +kernel
theorem dX2_signsInAll_14 : decode cX2_signsInAll 14 = .ok (.iload_n 2, 1) := by decide +kernel
theorem dX2_signsInAll_15 : decode cX2_signsInAll 15 = .ok (.aaload, 1) := by decide +kernel
theorem dX2_signsInAll_16 : decode cX2_signsInAll 16 = .ok (.invokevirtual 24, 3) := by decide +kernel
theorem dX2_signsInAll_19 : decode cX2_signsInAll 19 = .ok (.iadd, 1) := by decide +kernel
theorem dX2_signsInAll_20 : decode cX2_signsInAll 20 = .ok (.istore_n 1, 1) := by decide +kernel
theorem dX2_signsInAll_21 : decode cX2_signsInAll 21 = .ok (.iinc 2 1, 3) := by decide +kernel
theorem dX2_signsInAll_24 : decode cX2_signsInAll 24 = .ok (.goto (-20), 3) := by decide +kernel
theorem dX2_signsInAll_27 : decode cX2_signsInAll 27 = .ok (.iload_n 1, 1) := by decide +kernel
theorem dX2_signsInAll_28 : decode cX2_signsInAll 28 = .ok (.ireturn, 1) := by decide +kernel
theorem dX2_namesInAll_0 : decode cX2_namesInAll 0 = .ok (.iconst 0, 1) := by decide +kernel
theorem dX2_namesInAll_1 : decode cX2_namesInAll 1 = .ok (.istore_n 1, 1) := by decide +kernel
theorem dX2_namesInAll_2 : decode cX2_namesInAll 2 = .ok (.iconst 0, 1) := by decide +kernel
theorem dX2_namesInAll_3 : decode cX2_namesInAll 3 = .ok (.istore_n 2, 1) := by decide +kernel
theorem dX2_namesInAll_4 : decode cX2_namesInAll 4 = .ok (.iload_n 2, 1) := by decide +kernel
theorem dX2_namesInAll_5 : decode cX2_namesInAll 5 = .ok (.iconst 3, 1) := by decide +kernel
theorem dX2_namesInAll_6 : decode cX2_namesInAll 6 = .ok (.if_icmp .ge 24, 3) := by decide +kernel
theorem dX2_namesInAll_9 : decode cX2_namesInAll 9 = .ok (.aload_n 0, 1) := by decide +kernel
theorem dX2_namesInAll_10 : decode cX2_namesInAll 10 = .ok (.getfield 11, 3) := by decide +kernel
theorem dX2_namesInAll_13 : decode cX2_namesInAll 13 = .ok (.iload_n 2, 1) := by decide +kernel
theorem dX2_namesInAll_14 : decode cX2_namesInAll 14 = .ok (.aaload, 1) := by decide +kernel
theorem dX2_namesInAll_15 : decode cX2_namesInAll 15 = .ok (.invokevirtual 135, 3) := by decide +kernel
theorem dX2_namesInAll_18 : decode cX2_namesInAll 18 = .ok (.ifCond .eq 6, 3) := by decide +kernel
theorem dX2_namesInAll_21 : decode cX2_namesInAll 21 = .ok (.iinc 1 1, 3) := by decide +kernel
theorem dX2_namesInAll_24 : decode cX2_namesInAll 24 = .ok (.iinc 2 1, 3) := by decide +kernel
theorem dX2_namesInAll_27 : decode cX2_namesInAll 27 = .ok (.goto (-23), 3) := by decide +kernel
theorem dX2_namesInAll_30 : decode cX2_namesInAll 30 = .ok (.iload_n 1, 1) := by decide +kernel
theorem dX2_namesInAll_31 : decode cX2_namesInAll 31 = .ok (.ireturn, 1) := by decide +kernel
theorem dX2_areKindsSound_0 : decode cX2_areKindsSound 0 = .ok (.iconst 0, 1) := by decide +kernel
theorem dX2_areKindsSound_1 : decode cX2_areKindsSound 1 = .ok (.istore_n 0, 1) := by decide +kernel
theorem dX2_areKindsSound_2 : decode cX2_areKindsSound 2 = .ok (.iconst 0, 1) := by decide +kernel
theorem dX2_areKindsSound_3 : decode cX2_areKindsSound 3 = .ok (.istore_n 1, 1) := by decide +kernel
theorem dX2_areKindsSound_4 : decode cX2_areKindsSound 4 = .ok (.iload_n 1, 1) := by decide +kernel
theorem dX2_areKindsSound_5 : decode cX2_areKindsSound 5 = .ok (.sipush 255, 3) := by decide +kernel
theorem dX2_areKindsSound_8 : decode cX2_areKindsSound 8 = .ok (.if_icmp .gt 27, 3) := by decide +kernel
theorem dX2_areKindsSound_11 : decode cX2_areKindsSound 11 = .ok (.iload_n 1, 1) := by decide +kernel
theorem dX2_areKindsSound_12 : decode cX2_areKindsSound 12 = .ok (.invokestatic 106, 3) := by decide +kernel
theorem dX2_areKindsSound_15 : decode cX2_areKindsSound 15 = .ok (.istore_n 2, 1) := by decide +kernel
theorem dX2_areKindsSound_16 : decode cX2_areKindsSound 16 = .ok (.iload_n 2, 1) := by decide +kernel
theorem dX2_areKindsSound_17 : decode cX2_areKindsSound 17 = .ok (.ifCond .lt 12, 3) := by decide +kernel
theorem dX2_areKindsSound_20 : decode cX2_areKindsSound 20 = .ok (.iload_n 2, 1) := by decide +kernel
theorem dX2_areKindsSound_21 : decode cX2_areKindsSound 21 = .ok (.bipush 30, 2) := by decide +kernel
theorem dX2_areKindsSound_23 : decode cX2_areKindsSound 23 = .ok (.if_icmp .gt 6, 3) := by decide +kernel
theorem dX2_areKindsSound_26 : decode cX2_areKindsSound 26 = .ok (.iinc 0 1, 3) := by decide +kernel
theorem dX2_areKindsSound_29 : decode cX2_areKindsSound 29 = .ok (.iinc 1 1, 3) := by decide +kernel
theorem dX2_areKindsSound_32 : decode cX2_areKindsSound 32 = .ok (.goto (-28), 3) := by decide +kernel
theorem dX2_areKindsSound_35 : decode cX2_areKindsSound 35 = .ok (.iload_n 0, 1) := by decide +kernel
theorem dX2_areKindsSound_36 : decode cX2_areKindsSound 36 = .ok (.sipush 256, 3) := by decide +kernel
theorem dX2_areKindsSound_39 : decode cX2_areKindsSound 39 = .ok (.if_icmp .ne 7, 3) := by decide +kernel
theorem dX2_areKindsSound_42 : decode cX2_areKindsSound 42 = .ok (.iconst 1, 1) := by decide +kernel
theorem dX2_areKindsSound_43 : decode cX2_areKindsSound 43 = .ok (.goto 4, 3) := by decide +kernel
theorem dX2_areKindsSound_46 : decode cX2_areKindsSound 46 = .ok (.iconst 0, 1) := by decide +kernel
theorem dX2_areKindsSound_47 : decode cX2_areKindsSound 47 = .ok (.ireturn, 1) := by decide +kernel
theorem dX2_isIn_0 : decode cX2_isIn 0 = .ok (.iload_n 0, 1) := by decide +kernel
theorem dX2_isIn_1 : decode cX2_isIn 1 = .ok (.iload_n 1, 1) := by decide +kernel
theorem dX2_isIn_2 : decode cX2_isIn 2 = .ok (.ishr, 1) := by decide +kernel
theorem dX2_isIn_3 : decode cX2_isIn 3 = .ok (.iconst 1, 1) := by decide +kernel
theorem dX2_isIn_4 : decode cX2_isIn 4 = .ok (.iand, 1) := by decide +kernel
theorem dX2_isIn_5 : decode cX2_isIn 5 = .ok (.iconst 1, 1) := by decide +kernel
theorem dX2_isIn_6 : decode cX2_isIn 6 = .ok (.if_icmp .ne 7, 3) := by decide +kernel
theorem dX2_isIn_9 : decode cX2_isIn 9 = .ok (.iconst 1, 1) := by decide +kernel
theorem dX2_isIn_10 : decode cX2_isIn 10 = .ok (.goto 4, 3) := by decide +kernel
theorem dX2_isIn_13 : decode cX2_isIn 13 = .ok (.iconst 0, 1) := by decide +kernel
theorem dX2_isIn_14 : decode cX2_isIn 14 = .ok (.ireturn, 1) := by decide +kernel
theorem dX2_cutsOf_0 : decode cX2_cutsOf 0 = .ok (.iload_n 0, 1) := by decide +kernel
theorem dX2_cutsOf_1 : decode cX2_cutsOf 1 = .ok (.bipush (-2), 2) := by decide +kernel
theorem dX2_cutsOf_3 : decode cX2_cutsOf 3 = .ok (.iand, 1) := by decide +kernel
theorem dX2_cutsOf_4 : decode cX2_cutsOf 4 = .ok (.ireturn, 1) := by decide +kernel
theorem dX2_appendNumber_0 : decode cX2_appendNumber 0 = .ok (.aload_n 0, 1) := by decide +kernel
theorem dX2_appendNumber_1 : decode cX2_appendNumber 1 = .ok (.invokevirtual 207, 3) := by decide +kernel
theorem dX2_appendNumber_4 : decode cX2_appendNumber 4 = .ok (.ifCond .le 10, 3) := by decide +kernel
theorem dX2_appendNumber_7 : decode cX2_appendNumber 7 = .ok (.aload_n 0, 1) := by decide +kernel
theorem dX2_appendNumber_8 : decode cX2_appendNumber 8 = .ok (.bipush 32, 2) := by decide +kernel
theorem dX2_appendNumber_10 : decode cX2_appendNumber 10 = .ok (.invokevirtual 210, 3) := by decide +kernel
theorem dX2_appendNumber_13 : decode cX2_appendNumber 13 = .ok (.pop, 1) := by decide +kernel
theorem dX2_appendNumber_14 : decode cX2_appendNumber 14 = .ok (.aload_n 0, 1) := by decide +kernel
theorem dX2_appendNumber_15 : decode cX2_appendNumber 15 = .ok (.iload_n 1, 1) := by decide +kernel
theorem dX2_appendNumber_16 : decode cX2_appendNumber 16 = .ok (.invokevirtual 213, 3) := by decide +kernel
theorem dX2_appendNumber_19 : decode cX2_appendNumber 19 = .ok (.pop, 1) := by decide +kernel
theorem dX2_appendNumber_20 : decode cX2_appendNumber 20 = .ok (.return_, 1) := by decide +kernel
theorem dX2_mixed_0 : decode cX2_mixed 0 = .ok (.lload_n 0, 1) := by decide +kernel
theorem dX2_mixed_1 : decode cX2_mixed 1 = .ok (.ldc2_w 216, 3) := by decide +kernel
theorem dX2_mixed_4 : decode cX2_mixed 4 = .ok (.lmul, 1) := by decide +kernel
theorem dX2_mixed_5 : decode cX2_mixed 5 = .ok (.iload_n 2, 1) := by decide +kernel
theorem dX2_mixed_6 : decode cX2_mixed 6 = .ok (.i2l, 1) := by decide +kernel
theorem dX2_mixed_7 : decode cX2_mixed 7 = .ok (.ladd, 1) := by decide +kernel
theorem dX2_mixed_8 : decode cX2_mixed 8 = .ok (.lreturn, 1) := by decide +kernel
theorem dX3_init_0 : decode cX3_init 0 = .ok (.aload_n 0, 1) := by decide +kernel
theorem dX3_init_1 : decode cX3_init 1 = .ok (.invokespecial 1, 3) := by decide +kernel
theorem dX3_init_4 : decode cX3_init 4 = .ok (.return_, 1) := by decide +kernel
end
section
/-! the layer: ints as numbers, a heap as a function of addresses, one judgement gX with the locals as a list -/
def zI (z : Int) : Int32 := Int32.ofInt z
theorem zI_add (a b : Int) : zI a + zI b = zI (a + b) := by first | exact (Int32.ofInt_add a b).symm | (unfold zI; rw [Int32.ofInt_add])
theorem zI_sub (a b : Int) : zI a - zI b = zI (a - b) := by first | exact (Int32.ofInt_sub a b).symm | (unfold zI; rw [Int32.ofInt_sub])
theorem zI_mul (a b : Int) : zI a * zI b = zI (a * b) := by first | exact (Int32.ofInt_mul a b).symm | (unfold zI; rw [Int32.ofInt_mul])
theorem zI_neg (a : Int) : -zI a = zI (-a) := by first | exact (Int32.ofInt_neg a).symm | (unfold zI; rw [Int32.ofInt_neg])
theorem zI_of (x : Int32) : zI x.toInt = x := Int32.ofInt_toInt x
theorem zI_nat (n : Nat) : zI (n : Int) = nI n := by first | rfl | exact Int32.ofInt_eq_ofNat | simp [zI, nI]
theorem zI_toInt {z : Int} (h1 : -2147483648 ≤ z) (h2 : z ≤ 2147483647) : (zI z).toInt = z := Int32.toInt_ofInt_of_le (by omega) (by omega)
theorem zI_lt {a b : Int} (h1 : -2147483648 ≤ a) (h2 : a ≤ 2147483647) (h3 : -2147483648 ≤ b) (h4 : b ≤ 2147483647) : zI a < zI b ↔ a < b := by
  rw [Int32.lt_iff_toInt_lt, zI_toInt h1 h2, zI_toInt h3 h4]
theorem zI_le {a b : Int} (h1 : -2147483648 ≤ a) (h2 : a ≤ 2147483647) (h3 : -2147483648 ≤ b) (h4 : b ≤ 2147483647) : zI a ≤ zI b ↔ a ≤ b := by
  rw [Int32.le_iff_toInt_le, zI_toInt h1 h2, zI_toInt h3 h4]
theorem zI_eq {a b : Int} (h1 : -2147483648 ≤ a) (h2 : a ≤ 2147483647) (h3 : -2147483648 ≤ b) (h4 : b ≤ 2147483647) : zI a = zI b ↔ a = b := by
  rw [← Int32.toInt_inj, zI_toInt h1 h2, zI_toInt h3 h4]
theorem zI_0 : zI 0 = 0 := by decide +kernel
theorem zI_ix {i : Int} {n : Nat} (h1 : 0 ≤ i) (h2 : i < n) (hn : n < 2147483648) : vp_in (zI i) n ∧ (zI i).toNatClampNeg = i.toNat := by
  have e : (zI i).toInt = i := zI_toInt (by omega) (by omega)
  refine ⟨vp_in_iff.mpr ⟨by rw [e]; exact h1, by rw [e]; exact h2⟩, ?_⟩
  show (zI i).toInt.toNat = i.toNat
  rw [e]
abbrev iv (z : Int) : Value := .int (zI z)
abbrev rv (a : Nat) : Value := .ref a
def bAnd (a b : Int) : Int := (zI a &&& zI b).toInt
def bOr (a b : Int) : Int := (zI a ||| zI b).toInt
def bXor (a b : Int) : Int := (zI a ^^^ zI b).toInt
def bShl (a b : Int) : Int := (zI a <<< (zI b &&& 31)).toInt
def bShr (a b : Int) : Int := (zI a >>> (zI b &&& 31)).toInt
def bDiv (a b : Int) : Int := (zI a / zI b).toInt
def bB (a : Int) : Int := (zI a).toInt8.toInt32.toInt
/-- the world: what stands at an address -/
abbrev wd : Type := Nat → Option va_E
def ws1 (w : wd) (a : Nat) (e : va_E) : wd := fun q => if q = a then some e else w q
theorem ws1_s {w : wd} {a : Nat} {e : va_E} : ws1 w a e a = some e := if_pos rfl
theorem ws1_n {w : wd} {a q : Nat} {e : va_E} (h : q ≠ a) : ws1 w a e q = w q := if_neg h
theorem ws1_2 {w : wd} {a : Nat} {e e2 : va_E} : ws1 (ws1 w a e) a e2 = ws1 w a e2 := by
  funext q
  by_cases h : q = a
  · subst h; rw [ws1_s, ws1_s]
  · rw [ws1_n h, ws1_n h, ws1_n h]
theorem ws1_id {w : wd} {a : Nat} {e : va_E} (h : w a = some e) : ws1 w a e = w := by
  funext q
  by_cases hq : q = a
  · subst hq; rw [ws1_s, h]
  · rw [ws1_n hq]
theorem ws1_c {w : wd} {a b : Nat} {e e2 : va_E} (h : a ≠ b) : ws1 (ws1 w a e) b e2 = ws1 (ws1 w b e2) a e := by
  funext q
  by_cases h1 : q = a
  · subst h1; rw [ws1_n h, ws1_s, ws1_s]
  · by_cases h2 : q = b
    · subst h2; rw [ws1_s, ws1_n h1, ws1_s]
    · rw [ws1_n h2, ws1_n h1, ws1_n h1, ws1_n h2]
theorem wne {w : wd} {a b : Nat} {e e2 : va_E} (h1 : w a = some e) (h2 : w b = some e2) (h : e ≠ e2) : a ≠ b := fun z => h (by subst z; exact Option.some.inj (h1.symm.trans h2))
/-- the classes' and arrays' numbers: objects, byte[], int[], boolean[], Text[], int[][] -/
abbrev gK : Type := va_G × ClassId × ClassId × ClassId × ClassId × ClassId
abbrev gTys (G : gK) : List (ClassId × FieldType) := [(G.2.1, .byte), (G.2.2.1, .int), (G.2.2.2.1, .boolean), (G.2.2.2.2.1, .object RX1), (G.2.2.2.2.2, .array .int)]
def eA (c : ClassId) (n : Nat) (F : Int → Int) : va_E := .inl (c, n, .inl (fun k => zI (F (k : Int))))
def eB (G : gK) (n : Nat) (F : Int → Int) : va_E := eA G.2.1 n F
def eI (G : gK) (n : Nat) (F : Int → Int) : va_E := eA G.2.2.1 n F
def eZ (G : gK) (n : Nat) (F : Int → Int) : va_E := eA G.2.2.2.1 n F
def eQ (c : ClassId) (n : Nat) (f : Int → Option Nat) : va_E := .inl (c, n, .inr (.inr (.inr (.inr (fun k => f (k : Int))))))
def eT (G : gK) (n : Nat) (f : Int → Option Nat) : va_E := eQ G.2.2.2.2.1 n f
def eR (G : gK) (n : Nat) (f : Int → Option Nat) : va_E := eQ G.2.2.2.2.2 n f
def eO (ci : Nat) (fs : List Value) : va_E := .inr (ci, fs)
def uF (F : Int → Int) (i x : Int) : Int → Int := fun j => if j = i then x else F j
def uQ (f : Int → Option Nat) (i : Int) (x : Option Nat) : Int → Option Nat := fun j => if j = i then x else f j
theorem uF_s {F : Int → Int} {i x : Int} : uF F i x i = x := if_pos rfl
theorem uF_n {F : Int → Int} {i x j : Int} (h : j ≠ i) : uF F i x j = F j := if_neg h
theorem uQ_s {f : Int → Option Nat} {i : Int} {x : Option Nat} : uQ f i x i = x := if_pos rfl
theorem uQ_n {f : Int → Option Nat} {i j : Int} {x : Option Nat} (h : j ≠ i) : uQ f i x j = f j := if_neg h
/-- the heap holds the world; all of it lies from the base on -/
def gRep (D : va_G) (base : Nat) (w : wd) (H : Heap) : Prop := ∀ (a : Nat) (e : va_E), w a = some e → base ≤ a ∧ va_at D vwCl (a, e) H
abbrev gA (s0 : State) : Nat → Prop := fun q => s0.heap.size ≤ q
theorem gRep.set {D : va_G} {base : Nat} {w : wd} {H H1 : Heap} {a : Nat} {e0 e : va_E} (h : gRep D base w H) (ha : w a = some e0) (he : va_at D vwCl (a, e) H1) (oq : ∀ q : Nat, q ≠ a → H1[q]? = H[q]?) : gRep D base (ws1 w a e) H1 := by
  intro q x hx
  by_cases hq : q = a
  · subst hq
    rw [ws1_s] at hx
    cases hx
    exact ⟨(h _ _ ha).1, he⟩
  · rw [ws1_n hq] at hx
    exact ⟨(h _ _ hx).1, (h _ _ hx).2.kept (oq q hq)⟩
theorem gRep.push {D : va_G} {base : Nat} {w : wd} {H H1 : Heap} {e : va_E} (h : gRep D base w H) (hb : base ≤ H.size) (he : va_at D vwCl (H.size, e) H1) (oq : ∀ q : Nat, q < H.size → H1[q]? = H[q]?) : gRep D base (ws1 w H.size e) H1 ∧ w H.size = none := by
  have hn : w H.size = none := by
    cases hx : w H.size with
    | none => rfl
    | some x => exact absurd ((h _ _ hx).2.lt) (Nat.lt_irrefl _)
  refine ⟨fun q x hx => ?_, hn⟩
  by_cases hq : q = H.size
  · subst hq
    rw [ws1_s] at hx
    cases hx
    exact ⟨hb, he⟩
  · rw [ws1_n hq] at hx
    exact ⟨(h _ _ hx).1, (h _ _ hx).2.kept (oq q (h _ _ hx).2.lt)⟩
theorem gRep.keep {D : va_G} {base : Nat} {w : wd} {H H1 : Heap} (h : gRep D base w H) (oq : ∀ q : Nat, q < H.size → H1[q]? = H[q]?) : gRep D base w H1 := fun q x hx => ⟨(h _ _ hx).1, (h _ _ hx).2.kept (oq q (h _ _ hx).2.lt)⟩
/-- a start of the law: what the Statement gives there -/
def gS0 (s0 : State) : Prop := ∃ args : Array Value, (∀ w ∈ lw_tbl, w.before args s0 = true) ∧ (Jvm.Cond.and given_1 narrow_1).before args s0 = true
/-- a state behind that start: what lay below the base is as it was -/
def gEnv (s0 : State) (G : gK) (U : State) : Prop := s0.WarmedH U.vm ∧ s0.heap.size ≤ U.heap.size ∧ (∀ a : Nat, a < s0.heap.size → U.heap[a]? = s0.heap[a]?) ∧ va_K G.1 vwCl (gTys G) U
def gPc (s0 : State) (G : gK) (as : List Value) (w : wd) : Array Value → State → Prop := fun v U => v = as.toArray ∧ gEnv s0 G U ∧ gRep G.1 s0.heap.size w U.heap
def gQc (s0 : State) (G : gK) (Rt : Option Value → wd → Prop) : Array Value → State → Outcome → State → Prop := fun _ st oc t => (∃ (v : Option Value) (w' : wd), oc = .returned v ∧ Rt v w' ∧ gRep G.1 s0.heap.size w' t.heap) ∧ va_F (gA s0) st t
def gXc (s0 : State) (G : gK) (Xt : String → wd → Prop) : String → State → State → Prop := fun E st t => (∃ w' : wd, Xt E w' ∧ gRep G.1 s0.heap.size w' t.heap) ∧ va_F (gA s0) st t
/-- a contract: of a call of y with the arguments as over the world w -/
def gM (l : Launch) (s0 : State) (G : gK) (y : MethodName) (ws : List Cond) (rm : Room) (as : List Value) (w : wd) (Rt : Option Value → wd → Prop) (Xt : String → wd → Prop) : Prop := vx_Met l y ws rm (gPc s0 G as w) (gQc s0 G Rt) (gXc s0 G Xt) rm.cells rm.slots (gA s0)
abbrev noX : String → wd → Prop := fun _ _ => False
/-! a body under way -/
abbrev gBt : Type := Program × Launch × Env × Room × State × MethodId × Array Value × List Frame × Method × Code × (State → Prop)
def bp (b : gBt) : Program := b.1
def bl (b : gBt) : Launch := b.2.1
def be (b : gBt) : Env := b.2.2.1
def bR (b : gBt) : Room := b.2.2.2.1
def bs (b : gBt) : State := b.2.2.2.2.1
def bm (b : gBt) : MethodId := b.2.2.2.2.2.1
def ba (b : gBt) : Array Value := b.2.2.2.2.2.2.1
def bw (b : gBt) : List Frame := b.2.2.2.2.2.2.2.1
def bh (b : gBt) : Method := b.2.2.2.2.2.2.2.2.1
def bc (b : gBt) : Code := b.2.2.2.2.2.2.2.2.2.1
def bq (b : gBt) : State → Prop := b.2.2.2.2.2.2.2.2.2.2
def gX (b : gBt) (s0 : State) (G : gK) (k n pc : Nat) (L : List (Nat × Value)) (st : List Value) (w : wd) : Prop :=
  ∀ (H : Heap) (locs : List Loc) (ls : Array Slot), gRep G.1 s0.heap.size w H → va_S (gA s0) (bs b).heap H locs → lv_has ls (bc b).maxLocals L →
    W (bp b) (bl b) (be b) (bR b) (bs b) (bm b) (ba b) (bw b) (bh b) (bc b) H locs k n (bq b) (F0 (bm b) pc ls st)
/-- an exception on its way at pc -/
def gE (b : gBt) (s0 : State) (G : gK) (k n pc : Nat) (L : List (Nat × Value)) (st : List Value) (w : wd) (E : String) : Prop :=
  ∀ (H : Heap) (locs : List Loc) (ls : Array Slot) (ce : Cell) (q : Nat), gRep G.1 s0.heap.size w H → va_S (gA s0) (bs b).heap H locs → lv_has ls (bc b).maxLocals L → H[q]? = some ce → ce.vm = .none → (bs b).vm.findClass E = some ce.cls →
    vx_W (bp b) (bl b) (be b) (bR b) (bs b) (bm b) (ba b) (bw b) (bh b) (bc b) H locs k n (bq b) (F0 (bm b) pc ls st) q
/-- what a body knows of where it stands -/
def gAm (b : gBt) (l : Launch) (s0 : State) (G : gK) (cc : ByteArray) (own : String) (nL : Nat) (rm : Room) : Prop :=
  (bp b).tables.exec = Jvm.exec ∧ (bc b).code = cc ∧ (bs b).vm.findClass own = some (bm b).cls ∧ gS0 s0 ∧ gEnv s0 G (bs b) ∧ (bh b).locks = false ∧ (bl b).stackTraces = false ∧ (bc b).maxLocals = nL ∧ bR b = rm ∧ bl b = l
/-- .. and of its end -/
def gQm (b : gBt) (s0 : State) (G : gK) (ret : Option FieldType) (rm : Room) (nm : String) (tb : List ExceptionTableEntry) (Rt : Option Value → wd → Prop) (Xt : String → wd → Prop) : Prop :=
  (bh b).sig.returnType = ret ∧ (bc b).exceptionTable.toList = tb ∧ bq b = vx_MQ (bw b) (gQc s0 G Rt) (gXc s0 G Xt) (ba b) (bs b) rm.cells rm.slots (gA s0) ∧ (bh b).name = nm
theorem gRep.one {D : va_G} {base : Nat} {w : wd} {H : Heap} (h : gRep D base w H) {a : Nat} {e : va_E} (ha : w a = some e) : va_P D vwCl [(a, e)] H := by
  intro k q hk
  have hz : k < 1 := (List.getElem?_eq_some_iff.mp hk).1
  rw [show k = 0 by omega] at hk
  cases hk
  exact (h a e ha).2
/-- a word of the tables that lasts -/
def gw2 (w : Cond) : Bool := match w with
  | .castable _ _ => true
  | .methodLinkNest _ _ _ _ => true
  | .fieldLinkNest _ _ _ _ _ _ => true
  | .declares _ => true
  | w => goodWord w
def gT : List Cond := lw_tbl.filter gw2
theorem gt_of {w : Cond} (i : Nat) (h : lw_tbl[i]? = some w) (g : gw2 w = true) : w ∈ gT := List.mem_filter.mpr ⟨List.mem_of_getElem? h, g⟩
theorem g_lasts {s0 s : State} {args : Array Value} {w : Cond} (h0 : gS0 s0) (hW : s0.WarmedH s.vm) (hw : w ∈ gT) : w.before args s = true := by
  obtain ⟨a0, h1, -⟩ := h0
  obtain ⟨hm, hg⟩ := List.mem_filter.mp hw
  have hb := h1 w hm
  unfold gw2 at hg
  split at hg
  · exact va_tabs rfl rfl (va_Nw.warmC hW (va_tabs rfl rfl hb))
  · exact va_tabs rfl rfl (va_Nw.warmM hW (va_tabs rfl rfl hb))
  · exact va_tabs rfl rfl (va_Nw.warmF hW (va_tabs rfl rfl hb))
  · exact va_tabs rfl rfl (va_Nw.warmD hW (va_tabs rfl rfl hb))
  · exact word_at hW (good_of_word hg) hb
/-! locals -/
def gl (L : List (Nat × Value)) (i : Nat) : Option Value := match L with
  | [] => none
  | (j, v) :: r => match Nat.beq j i with
    | true => some v
    | false => gl r i
theorem gl_mem {i : Nat} {v : Value} : ∀ (L : List (Nat × Value)), gl L i = some v → (i, v) ∈ L
  | [], h => by cases h
  | (j, u) :: r, h => by
    unfold gl at h
    cases hb : Nat.beq j i with
    | true =>
      rw [hb] at h
      have e := Nat.eq_of_beq_eq_true hb
      subst e
      cases h
      exact List.mem_cons_self
    | false =>
      rw [hb] at h
      exact List.mem_cons_of_mem _ (gl_mem r h)
theorem gl_at {ls : Array Slot} {nL : Nat} {L : List (Nat × Value)} {i : Nat} {v : Value} (h : lv_has ls nL L) (hl : gl L i = some v) : ls[i]? = some (.val v) := h.2.2 (i, v) (gl_mem L hl)
abbrev lset (L : List (Nat × Value)) (i : Nat) (v : Value) : List (Nat × Value) := (i, v) :: L.filter (fun q => !(q.1 == i) && !(q.1 + 1 == i && q.2.category == 2))
abbrev lset2 (L : List (Nat × Value)) (i : Nat) (v : Value) : List (Nat × Value) := (i, v) :: L.filter (fun q => !(q.1 == i) && (!(q.1 == i + 1) && !(q.1 + 1 == i && q.2.category == 2)))
theorem zI_bAnd (a b : Int) : zI (bAnd a b) = zI a &&& zI b := zI_of _
theorem zI_bOr (a b : Int) : zI (bOr a b) = zI a ||| zI b := zI_of _
theorem zI_bXor (a b : Int) : zI (bXor a b) = zI a ^^^ zI b := zI_of _
theorem zI_bShl (a b : Int) : zI (bShl a b) = zI a <<< (zI b &&& 31) := zI_of _
theorem zI_bShr (a b : Int) : zI (bShr a b) = zI a >>> (zI b &&& 31) := zI_of _
theorem zI_bDiv (a b : Int) : zI (bDiv a b) = zI a / zI b := zI_of _
theorem zI_bB (a : Int) : zI (bB a) = (zI a).toInt8.toInt32 := zI_of _
def b2 (q : Bool) : Int := match q with
  | true => 1
  | false => 0
abbrev inr (z : Int) : Prop := -2147483648 ≤ z ∧ z ≤ 2147483647
section GR
variable {b : gBt} {l : Launch} {s0 : State} {G : gK} {cc : ByteArray} {own : String} {nL : Nat} {rm : Room} {k n pc : Nat} {L : List (Nat × Value)} {st : List Value} {w : wd}
theorem gAm.word (Z : gAm b l s0 G cc own nL rm) {q : Cond} (hq : q ∈ gT) : q.before (ba b) (bs b) = true := by
  obtain ⟨-, -, -, h0, hE, -⟩ := Z
  exact g_lasts h0 hE.1 hq
theorem x_sub (ks : List Nat) {L' : List (Nat × Value)} (h : lv_pick L ks = L') (kk : gX b s0 G k n pc L' st w) : gX b s0 G k n pc L st w :=
  fun H locs ls hP hS hl => kk H locs ls hP hS (lv_sub hl ks h)
theorem x_wd {k' n' : Nat} (h1 : k ≤ k') (h2 : n ≤ n') (kk : gX b s0 G k' n' pc L st w) : gX b s0 G k n pc L st w :=
  fun H locs ls hP hS hl => W.widen h1 h2 (kk H locs ls hP hS hl)
theorem x_ew {w' : wd} (h : w = w') (kk : gX b s0 G k n pc L st w') : gX b s0 G k n pc L st w := h ▸ kk
theorem x_es {st' : List Value} (h : st = st') (kk : gX b s0 G k n pc L st' w) : gX b s0 G k n pc L st w := h ▸ kk
theorem x_el {L' : List (Nat × Value)} (h : L = L') (kk : gX b s0 G k n pc L' st w) : gX b s0 G k n pc L st w := h ▸ kk
/-- the top of the stack under another name -/
theorem x_tp {x y : Int} (h : x = y) (kk : gX b s0 G k n pc L (iv y :: st) w) : gX b s0 G k n pc L (iv x :: st) w := h ▸ kk
theorem x_iconst (Z : gAm b l s0 G cc own nL rm) {z : Int} (d : decode cc pc = .ok (.iconst z, 1)) (kk : gX b s0 G k n (pc + 1) L (iv z :: st) w) : gX b s0 G k n pc L st w := by
  obtain ⟨hx, hb, -⟩ := Z
  exact fun H locs ls hP hS hl => lv_iconst hx hb d rfl (kk H locs ls hP hS hl)
theorem x_bipush (Z : gAm b l s0 G cc own nL rm) {z : Int} (d : decode cc pc = .ok (.bipush z, 2)) (hz : (Int8.ofInt z).toInt32 = zI z) (kk : gX b s0 G k n (pc + 2) L (iv z :: st) w) : gX b s0 G k n pc L st w := by
  obtain ⟨hx, hb, -⟩ := Z
  exact fun H locs ls hP hS hl => lv_bipush hx hb d hz (kk H locs ls hP hS hl)
theorem x_sipush (Z : gAm b l s0 G cc own nL rm) {z : Int} (d : decode cc pc = .ok (.sipush z, 3)) (hz : (Int16.ofInt z).toInt32 = zI z) (kk : gX b s0 G k n (pc + 3) L (iv z :: st) w) : gX b s0 G k n pc L st w := by
  obtain ⟨hx, hb, -⟩ := Z
  exact fun H locs ls hP hS hl => lv_sipush hx hb d hz (kk H locs ls hP hS hl)
theorem x_ldc (Z : gAm b l s0 G cc own nL rm) {i : Nat} {v : Int32} {z : Int} (hc : Cond.constant own i v ∈ gT) (hz : v = zI z) (d : decode cc pc = .ok (.ldc i, 2)) (kk : gX b s0 G k n (pc + 2) L (iv z :: st) w) : gX b s0 G k n pc L st w := by
  have hc' := Z.word hc
  obtain ⟨hx, hb, ho, -⟩ := Z
  subst hz
  exact fun H locs ls hP hS hl => lv_ldc hx hb ho hc' d (kk H locs ls hP hS hl)
theorem x_iload_n (Z : gAm b l s0 G cc own nL rm) {q : Fin 4} {i : Nat} {x : Int32} (d : decode cc pc = .ok (.iload_n q, 1)) (hi : (q : Nat) = i) (hL : gl L i = some (.int x)) (kk : gX b s0 G k n (pc + 1) L (.int x :: st) w) : gX b s0 G k n pc L st w := by
  obtain ⟨hx, hb, -⟩ := Z
  exact fun H locs ls hP hS hl => lv_iload_n hx hb d hi (gl_at hl hL) (kk H locs ls hP hS hl)
theorem x_iload (Z : gAm b l s0 G cc own nL rm) {i : Nat} {x : Int32} (d : decode cc pc = .ok (.iload i, 2)) (hL : gl L i = some (.int x)) (kk : gX b s0 G k n (pc + 2) L (.int x :: st) w) : gX b s0 G k n pc L st w := by
  obtain ⟨hx, hb, -⟩ := Z
  exact fun H locs ls hP hS hl => lv_iload hx hb d (gl_at hl hL) (kk H locs ls hP hS hl)
theorem x_aload_n (Z : gAm b l s0 G cc own nL rm) {q : Fin 4} {i : Nat} {x : Nat} (d : decode cc pc = .ok (.aload_n q, 1)) (hi : (q : Nat) = i) (hL : gl L i = some (.ref x)) (kk : gX b s0 G k n (pc + 1) L (.ref x :: st) w) : gX b s0 G k n pc L st w := by
  obtain ⟨hx, hb, -⟩ := Z
  exact fun H locs ls hP hS hl => lv_aload_n hx hb d hi (gl_at hl hL) (kk H locs ls hP hS hl)
theorem x_aload (Z : gAm b l s0 G cc own nL rm) {i : Nat} {x : Nat} (d : decode cc pc = .ok (.aload i, 2)) (hL : gl L i = some (.ref x)) (kk : gX b s0 G k n (pc + 2) L (.ref x :: st) w) : gX b s0 G k n pc L st w := by
  obtain ⟨hx, hb, -⟩ := Z
  exact fun H locs ls hP hS hl => lv_aload hx hb d (gl_at hl hL) (kk H locs ls hP hS hl)
theorem x_lload_n (Z : gAm b l s0 G cc own nL rm) {q : Fin 4} {i : Nat} {x : Int64} (d : decode cc pc = .ok (.lload_n q, 1)) (hi : (q : Nat) = i) (hL : gl L i = some (.long x)) (kk : gX b s0 G k n (pc + 1) L (.long x :: st) w) : gX b s0 G k n pc L st w := by
  obtain ⟨hx, hb, -⟩ := Z
  exact fun H locs ls hP hS hl => lv_lload_n hx hb d hi (gl_at hl hL) (kk H locs ls hP hS hl)
theorem x_istore_n (Z : gAm b l s0 G cc own nL rm) {q : Fin 4} {i : Nat} {x : Int32} {L' : List (Nat × Value)} (d : decode cc pc = .ok (.istore_n q, 1)) (hi : (q : Nat) = i) (hn : i < nL) (hL : lset L i (.int x) = L') (kk : gX b s0 G k n (pc + 1) L' st w) : gX b s0 G k n pc L (.int x :: st) w := by
  obtain ⟨hx, hb, -, -, -, -, -, hml, -⟩ := Z
  exact fun H locs ls hP hS hl => lv_istore_n hx hb d hi hl (by rw [hml]; exact hn) hL (fun ls' hl' => kk H locs ls' hP hS hl')
theorem x_istore (Z : gAm b l s0 G cc own nL rm) {i : Nat} {x : Int32} {L' : List (Nat × Value)} (d : decode cc pc = .ok (.istore i, 2)) (hn : i < nL) (hL : lset L i (.int x) = L') (kk : gX b s0 G k n (pc + 2) L' st w) : gX b s0 G k n pc L (.int x :: st) w := by
  obtain ⟨hx, hb, -, -, -, -, -, hml, -⟩ := Z
  exact fun H locs ls hP hS hl => lv_istore hx hb d hl (by rw [hml]; exact hn) hL (fun ls' hl' => kk H locs ls' hP hS hl')
theorem x_astore_n (Z : gAm b l s0 G cc own nL rm) {q : Fin 4} {i : Nat} {x : Nat} {L' : List (Nat × Value)} (d : decode cc pc = .ok (.astore_n q, 1)) (hi : (q : Nat) = i) (hn : i < nL) (hL : lset L i (.ref x) = L') (kk : gX b s0 G k n (pc + 1) L' st w) : gX b s0 G k n pc L (.ref x :: st) w := by
  obtain ⟨hx, hb, -, -, -, -, -, hml, -⟩ := Z
  exact fun H locs ls hP hS hl => lv_astore_n hx hb d hi hl (by rw [hml]; exact hn) hL (fun ls' hl' => kk H locs ls' hP hS hl')
theorem x_astore (Z : gAm b l s0 G cc own nL rm) {i : Nat} {x : Nat} {L' : List (Nat × Value)} (d : decode cc pc = .ok (.astore i, 2)) (hn : i < nL) (hL : lset L i (.ref x) = L') (kk : gX b s0 G k n (pc + 2) L' st w) : gX b s0 G k n pc L (.ref x :: st) w := by
  obtain ⟨hx, hb, -, -, -, -, -, hml, -⟩ := Z
  exact fun H locs ls hP hS hl => lv_astore hx hb d hl (by rw [hml]; exact hn) hL (fun ls' hl' => kk H locs ls' hP hS hl')
theorem x_lstore_n (Z : gAm b l s0 G cc own nL rm) {q : Fin 4} {i : Nat} {x : Int64} {L' : List (Nat × Value)} (d : decode cc pc = .ok (.lstore_n q, 1)) (hi : (q : Nat) = i) (hn : i + 1 < nL) (hL : lset2 L i (.long x) = L') (kk : gX b s0 G k n (pc + 1) L' st w) : gX b s0 G k n pc L (.long x :: st) w := by
  obtain ⟨hx, hb, -, -, -, -, -, hml, -⟩ := Z
  exact fun H locs ls hP hS hl => lv_lstore_n hx hb d hi hl (by rw [hml]; exact hn) hL (fun ls' hl' => kk H locs ls' hP hS hl')
theorem x_iinc (Z : gAm b l s0 G cc own nL rm) {i : Nat} {z c : Int} {L' : List (Nat × Value)} (d : decode cc pc = .ok (.iinc i c, 3)) (hl0 : gl L i = some (iv z)) (hn : i < nL) (hL : lset L i (iv (z + c)) = L') (kk : gX b s0 G k n (pc + 3) L' st w) : gX b s0 G k n pc L st w := by
  obtain ⟨hx, hb, -, -, -, -, -, hml, -⟩ := Z
  obtain ⟨j, hj⟩ := List.getElem?_of_mem (gl_mem L hl0)
  exact fun H locs ls hP hS hl => lv_iinc hx hb d hl hj (zI_add z c) (by rw [hml]; exact hn) hL (fun ls' hl' => kk H locs ls' hP hS hl')
theorem x_iadd (Z : gAm b l s0 G cc own nL rm) {x y : Int} (d : decode cc pc = .ok (.iadd, 1)) (kk : gX b s0 G k n (pc + 1) L (iv (x + y) :: st) w) : gX b s0 G k n pc L (iv y :: iv x :: st) w := by
  obtain ⟨hx, hb, -⟩ := Z
  exact fun H locs ls hP hS hl => lv_iadd hx hb d (by rw [zI_add]; exact kk H locs ls hP hS hl)
theorem x_isub (Z : gAm b l s0 G cc own nL rm) {x y : Int} (d : decode cc pc = .ok (.isub, 1)) (kk : gX b s0 G k n (pc + 1) L (iv (x - y) :: st) w) : gX b s0 G k n pc L (iv y :: iv x :: st) w := by
  obtain ⟨hx, hb, -⟩ := Z
  exact fun H locs ls hP hS hl => lv_isub hx hb d (by rw [zI_sub]; exact kk H locs ls hP hS hl)
theorem x_imul (Z : gAm b l s0 G cc own nL rm) {x y : Int} (d : decode cc pc = .ok (.imul, 1)) (kk : gX b s0 G k n (pc + 1) L (iv (x * y) :: st) w) : gX b s0 G k n pc L (iv y :: iv x :: st) w := by
  obtain ⟨hx, hb, -⟩ := Z
  exact fun H locs ls hP hS hl => lv_imul hx hb d (by rw [zI_mul]; exact kk H locs ls hP hS hl)
theorem x_iand (Z : gAm b l s0 G cc own nL rm) {x y : Int} (d : decode cc pc = .ok (.iand, 1)) (kk : gX b s0 G k n (pc + 1) L (iv (bAnd x y) :: st) w) : gX b s0 G k n pc L (iv y :: iv x :: st) w := by
  obtain ⟨hx, hb, -⟩ := Z
  exact fun H locs ls hP hS hl => lv_iand hx hb d (by rw [← zI_bAnd]; exact kk H locs ls hP hS hl)
theorem x_ior (Z : gAm b l s0 G cc own nL rm) {x y : Int} (d : decode cc pc = .ok (.ior, 1)) (kk : gX b s0 G k n (pc + 1) L (iv (bOr x y) :: st) w) : gX b s0 G k n pc L (iv y :: iv x :: st) w := by
  obtain ⟨hx, hb, -⟩ := Z
  exact fun H locs ls hP hS hl => lv_ior hx hb d (by rw [← zI_bOr]; exact kk H locs ls hP hS hl)
theorem x_ixor (Z : gAm b l s0 G cc own nL rm) {x y : Int} (d : decode cc pc = .ok (.ixor, 1)) (kk : gX b s0 G k n (pc + 1) L (iv (bXor x y) :: st) w) : gX b s0 G k n pc L (iv y :: iv x :: st) w := by
  obtain ⟨hx, hb, -⟩ := Z
  exact fun H locs ls hP hS hl => lv_ixor hx hb d (by rw [← zI_bXor]; exact kk H locs ls hP hS hl)
theorem x_ishl (Z : gAm b l s0 G cc own nL rm) {x y : Int} (d : decode cc pc = .ok (.ishl, 1)) (kk : gX b s0 G k n (pc + 1) L (iv (bShl x y) :: st) w) : gX b s0 G k n pc L (iv y :: iv x :: st) w := by
  obtain ⟨hx, hb, -⟩ := Z
  exact fun H locs ls hP hS hl => lv_ishl hx hb d (by rw [← zI_bShl]; exact kk H locs ls hP hS hl)
theorem x_ishr (Z : gAm b l s0 G cc own nL rm) {x y : Int} (d : decode cc pc = .ok (.ishr, 1)) (kk : gX b s0 G k n (pc + 1) L (iv (bShr x y) :: st) w) : gX b s0 G k n pc L (iv y :: iv x :: st) w := by
  obtain ⟨hx, hb, -⟩ := Z
  exact fun H locs ls hP hS hl => lv_ishr hx hb d (by rw [← zI_bShr]; exact kk H locs ls hP hS hl)
theorem x_idiv (Z : gAm b l s0 G cc own nL rm) {x y : Int} (d : decode cc pc = .ok (.idiv, 1)) (hr : inr y) (hy : y ≠ 0) (kk : gX b s0 G k n (pc + 1) L (iv (bDiv x y) :: st) w) : gX b s0 G k n pc L (iv y :: iv x :: st) w := by
  obtain ⟨hx, hb, -⟩ := Z
  exact fun H locs ls hP hS hl => lv_idiv hx hb d (fun q => hy ((zI_eq hr.1 hr.2 (by omega) (by omega)).mp (q.trans zI_0.symm))) (by rw [← zI_bDiv]; exact kk H locs ls hP hS hl)
theorem x_i2b (Z : gAm b l s0 G cc own nL rm) {x : Int} (d : decode cc pc = .ok (.i2b, 1)) (kk : gX b s0 G k n (pc + 1) L (iv (bB x) :: st) w) : gX b s0 G k n pc L (iv x :: st) w := by
  obtain ⟨hx, hb, -⟩ := Z
  exact fun H locs ls hP hS hl => lv_i2b hx hb d (zI_bB x).symm (kk H locs ls hP hS hl)
theorem x_i2l (Z : gAm b l s0 G cc own nL rm) {x : Int32} (d : decode cc pc = .ok (.i2l, 1)) (kk : gX b s0 G k n (pc + 1) L (.long x.toInt64 :: st) w) : gX b s0 G k n pc L (.int x :: st) w := by
  obtain ⟨hx, hb, -⟩ := Z
  exact fun H locs ls hP hS hl => lv_i2l hx hb d rfl (kk H locs ls hP hS hl)
theorem x_ladd (Z : gAm b l s0 G cc own nL rm) {x y : Int64} (d : decode cc pc = .ok (.ladd, 1)) (kk : gX b s0 G k n (pc + 1) L (.long (x + y) :: st) w) : gX b s0 G k n pc L (.long y :: .long x :: st) w := by
  obtain ⟨hx, hb, -⟩ := Z
  exact fun H locs ls hP hS hl => lv_ladd hx hb d (kk H locs ls hP hS hl)
theorem x_lmul (Z : gAm b l s0 G cc own nL rm) {x y : Int64} (d : decode cc pc = .ok (.lmul, 1)) (kk : gX b s0 G k n (pc + 1) L (.long (x * y) :: st) w) : gX b s0 G k n pc L (.long y :: .long x :: st) w := by
  obtain ⟨hx, hb, -⟩ := Z
  exact fun H locs ls hP hS hl => lv_lmul hx hb d (kk H locs ls hP hS hl)
theorem x_lconst (Z : gAm b l s0 G cc own nL rm) {q : Fin 2} (d : decode cc pc = .ok (.lconst q, 1)) (kk : gX b s0 G k n (pc + 1) L (.long (Int64.ofNat (q : Nat)) :: st) w) : gX b s0 G k n pc L st w := by
  obtain ⟨hx, hb, -⟩ := Z
  exact fun H locs ls hP hS hl => lv_lconst hx hb d rfl (kk H locs ls hP hS hl)
theorem x_ldc2 (Z : gAm b l s0 G cc own nL rm) {i : Nat} {v : Int64} (hc : Cond.constantLong own i v ∈ gT) (d : decode cc pc = .ok (.ldc2_w i, 3)) (kk : gX b s0 G k n (pc + 3) L (.long v :: st) w) : gX b s0 G k n pc L st w := by
  have hc' := Z.word hc
  obtain ⟨hx, hb, ho, -⟩ := Z
  exact fun H locs ls hP hS hl => lv_ldc2 hx hb ho hc' d (kk H locs ls hP hS hl)
theorem x_dup (Z : gAm b l s0 G cc own nL rm) {v : Value} (d : decode cc pc = .ok (.dup, 1)) (hv : v.category = 1) (kk : gX b s0 G k n (pc + 1) L (v :: v :: st) w) : gX b s0 G k n pc L (v :: st) w := by
  obtain ⟨hx, hb, -⟩ := Z
  exact fun H locs ls hP hS hl => lv_dup hx hb d hv (kk H locs ls hP hS hl)
theorem x_pop (Z : gAm b l s0 G cc own nL rm) {v : Value} (d : decode cc pc = .ok (.pop, 1)) (hv : v.category = 1) (kk : gX b s0 G k n (pc + 1) L st w) : gX b s0 G k n pc L (v :: st) w := by
  obtain ⟨hx, hb, -⟩ := Z
  exact fun H locs ls hP hS hl => lv_pop hx hb d hv (kk H locs ls hP hS hl)
theorem x_pop2_2 (Z : gAm b l s0 G cc own nL rm) {v : Value} (d : decode cc pc = .ok (.pop2, 1)) (hv : v.category = 2) (kk : gX b s0 G k n (pc + 1) L st w) : gX b s0 G k n pc L (v :: st) w := by
  obtain ⟨hx, hb, -⟩ := Z
  exact fun H locs ls hP hS hl => lv_pop2_2 hx hb d hv (kk H locs ls hP hS hl)
theorem x_dup_x1 (Z : gAm b l s0 G cc own nL rm) {v u : Value} (d : decode cc pc = .ok (.dup_x1, 1)) (hv : v.category = 1) (hu : u.category = 1) (kk : gX b s0 G k n (pc + 1) L (v :: u :: v :: st) w) : gX b s0 G k n pc L (v :: u :: st) w := by
  obtain ⟨hx, hb, -⟩ := Z
  exact fun H locs ls hP hS hl => lv_dup_x1 hx hb d hv hu (kk H locs ls hP hS hl)
theorem x_dup2 (Z : gAm b l s0 G cc own nL rm) {v u : Value} (d : decode cc pc = .ok (.dup2, 1)) (hv : v.category = 1) (hu : u.category = 1) (kk : gX b s0 G k n (pc + 1) L (v :: u :: v :: u :: st) w) : gX b s0 G k n pc L (v :: u :: st) w := by
  obtain ⟨hx, hb, -⟩ := Z
  exact fun H locs ls hP hS hl => lv_dup2_11 hx hb d hv hu (kk H locs ls hP hS hl)
theorem x_goto (Z : gAm b l s0 G cc own nL rm) {off : Int} (t : Nat) (d : decode cc pc = .ok (.goto off, 3)) (ht : (pc : Int) + off = (t : Int)) (kk : gX b s0 G k n t L st w) : gX b s0 G k n pc L st w := by
  obtain ⟨hx, hb, -⟩ := Z
  exact fun H locs ls hP hS hl => lv_goto hx hb d ht (kk H locs ls hP hS hl)
theorem x_icmp_eq (Z : gAm b l s0 G cc own nL rm) {x y off : Int} (t : Nat) (d : decode cc pc = .ok (.if_icmp .eq off, 3)) (ht : (pc : Int) + off = (t : Int)) (rx : inr x) (ry : inr y) (kt : x = y → gX b s0 G k n t L st w) (kf : x ≠ y → gX b s0 G k n (pc + 3) L st w) : gX b s0 G k n pc L (iv y :: iv x :: st) w := by
  obtain ⟨hx, hb, -⟩ := Z
  have e := zI_eq rx.1 rx.2 ry.1 ry.2
  exact fun H locs ls hP hS hl => lv_icmp_eq hx hb d ht (fun h => kt (e.mp h) H locs ls hP hS hl) (fun h => kf (fun q => h (e.mpr q)) H locs ls hP hS hl)
theorem x_if_eq (Z : gAm b l s0 G cc own nL rm) {x off : Int} (t : Nat) (d : decode cc pc = .ok (.ifCond .eq off, 3)) (ht : (pc : Int) + off = (t : Int)) (rx : inr x) (kt : x = 0 → gX b s0 G k n t L st w) (kf : x ≠ 0 → gX b s0 G k n (pc + 3) L st w) : gX b s0 G k n pc L (iv x :: st) w := by
  obtain ⟨hx, hb, -⟩ := Z
  have r0 : inr 0 := ⟨by omega, by omega⟩
  have e : zI x = 0 ↔ x = 0 := by rw [← zI_0]; exact zI_eq rx.1 rx.2 r0.1 r0.2
  exact fun H locs ls hP hS hl => lv_if_eq hx hb d ht (fun h => kt (e.mp h) H locs ls hP hS hl) (fun h => kf (fun q => h (e.mpr q)) H locs ls hP hS hl)
theorem x_icmp_ne (Z : gAm b l s0 G cc own nL rm) {x y off : Int} (t : Nat) (d : decode cc pc = .ok (.if_icmp .ne off, 3)) (ht : (pc : Int) + off = (t : Int)) (rx : inr x) (ry : inr y) (kt : x ≠ y → gX b s0 G k n t L st w) (kf : x = y → gX b s0 G k n (pc + 3) L st w) : gX b s0 G k n pc L (iv y :: iv x :: st) w := by
  obtain ⟨hx, hb, -⟩ := Z
  have e := zI_eq rx.1 rx.2 ry.1 ry.2
  exact fun H locs ls hP hS hl => lv_icmp_ne hx hb d ht (fun h => kt (fun q => h (e.mpr q)) H locs ls hP hS hl) (fun h => kf (e.mp h) H locs ls hP hS hl)
theorem x_if_ne (Z : gAm b l s0 G cc own nL rm) {x off : Int} (t : Nat) (d : decode cc pc = .ok (.ifCond .ne off, 3)) (ht : (pc : Int) + off = (t : Int)) (rx : inr x) (kt : x ≠ 0 → gX b s0 G k n t L st w) (kf : x = 0 → gX b s0 G k n (pc + 3) L st w) : gX b s0 G k n pc L (iv x :: st) w := by
  obtain ⟨hx, hb, -⟩ := Z
  have r0 : inr 0 := ⟨by omega, by omega⟩
  have e : zI x = 0 ↔ x = 0 := by rw [← zI_0]; exact zI_eq rx.1 rx.2 r0.1 r0.2
  exact fun H locs ls hP hS hl => lv_if_ne hx hb d ht (fun h => kt (fun q => h (e.mpr q)) H locs ls hP hS hl) (fun h => kf (e.mp h) H locs ls hP hS hl)
theorem x_icmp_lt (Z : gAm b l s0 G cc own nL rm) {x y off : Int} (t : Nat) (d : decode cc pc = .ok (.if_icmp .lt off, 3)) (ht : (pc : Int) + off = (t : Int)) (rx : inr x) (ry : inr y) (kt : x < y → gX b s0 G k n t L st w) (kf : y ≤ x → gX b s0 G k n (pc + 3) L st w) : gX b s0 G k n pc L (iv y :: iv x :: st) w := by
  obtain ⟨hx, hb, -⟩ := Z
  have e := zI_lt rx.1 rx.2 ry.1 ry.2
  exact fun H locs ls hP hS hl => lv_icmp_lt hx hb d ht (fun h => kt (e.mp h) H locs ls hP hS hl) (fun h => kf (Int.not_lt.mp (fun q => h (e.mpr q))) H locs ls hP hS hl)
theorem x_if_lt (Z : gAm b l s0 G cc own nL rm) {x off : Int} (t : Nat) (d : decode cc pc = .ok (.ifCond .lt off, 3)) (ht : (pc : Int) + off = (t : Int)) (rx : inr x) (kt : x < 0 → gX b s0 G k n t L st w) (kf : 0 ≤ x → gX b s0 G k n (pc + 3) L st w) : gX b s0 G k n pc L (iv x :: st) w := by
  obtain ⟨hx, hb, -⟩ := Z
  have r0 : inr 0 := ⟨by omega, by omega⟩
  have e : zI x < 0 ↔ x < 0 := by rw [← zI_0]; exact zI_lt rx.1 rx.2 r0.1 r0.2
  exact fun H locs ls hP hS hl => lv_if_lt hx hb d ht (fun h => kt (e.mp h) H locs ls hP hS hl) (fun h => kf (Int.not_lt.mp (fun q => h (e.mpr q))) H locs ls hP hS hl)
theorem x_icmp_ge (Z : gAm b l s0 G cc own nL rm) {x y off : Int} (t : Nat) (d : decode cc pc = .ok (.if_icmp .ge off, 3)) (ht : (pc : Int) + off = (t : Int)) (rx : inr x) (ry : inr y) (kt : y ≤ x → gX b s0 G k n t L st w) (kf : x < y → gX b s0 G k n (pc + 3) L st w) : gX b s0 G k n pc L (iv y :: iv x :: st) w := by
  obtain ⟨hx, hb, -⟩ := Z
  have e := zI_le ry.1 ry.2 rx.1 rx.2
  exact fun H locs ls hP hS hl => lv_icmp_ge hx hb d ht (fun h => kt (e.mp h) H locs ls hP hS hl) (fun h => kf (Int.not_le.mp (fun q => h (e.mpr q))) H locs ls hP hS hl)
theorem x_if_ge (Z : gAm b l s0 G cc own nL rm) {x off : Int} (t : Nat) (d : decode cc pc = .ok (.ifCond .ge off, 3)) (ht : (pc : Int) + off = (t : Int)) (rx : inr x) (kt : 0 ≤ x → gX b s0 G k n t L st w) (kf : x < 0 → gX b s0 G k n (pc + 3) L st w) : gX b s0 G k n pc L (iv x :: st) w := by
  obtain ⟨hx, hb, -⟩ := Z
  have r0 : inr 0 := ⟨by omega, by omega⟩
  have e : 0 ≤ zI x ↔ 0 ≤ x := by rw [← zI_0]; exact zI_le r0.1 r0.2 rx.1 rx.2
  exact fun H locs ls hP hS hl => lv_if_ge hx hb d ht (fun h => kt (e.mp h) H locs ls hP hS hl) (fun h => kf (Int.not_le.mp (fun q => h (e.mpr q))) H locs ls hP hS hl)
theorem x_icmp_gt (Z : gAm b l s0 G cc own nL rm) {x y off : Int} (t : Nat) (d : decode cc pc = .ok (.if_icmp .gt off, 3)) (ht : (pc : Int) + off = (t : Int)) (rx : inr x) (ry : inr y) (kt : y < x → gX b s0 G k n t L st w) (kf : x ≤ y → gX b s0 G k n (pc + 3) L st w) : gX b s0 G k n pc L (iv y :: iv x :: st) w := by
  obtain ⟨hx, hb, -⟩ := Z
  have e := zI_lt ry.1 ry.2 rx.1 rx.2
  exact fun H locs ls hP hS hl => lv_icmp_gt hx hb d ht (fun h => kt (e.mp h) H locs ls hP hS hl) (fun h => kf (Int.not_lt.mp (fun q => h (e.mpr q))) H locs ls hP hS hl)
theorem x_if_gt (Z : gAm b l s0 G cc own nL rm) {x off : Int} (t : Nat) (d : decode cc pc = .ok (.ifCond .gt off, 3)) (ht : (pc : Int) + off = (t : Int)) (rx : inr x) (kt : 0 < x → gX b s0 G k n t L st w) (kf : x ≤ 0 → gX b s0 G k n (pc + 3) L st w) : gX b s0 G k n pc L (iv x :: st) w := by
  obtain ⟨hx, hb, -⟩ := Z
  have r0 : inr 0 := ⟨by omega, by omega⟩
  have e : 0 < zI x ↔ 0 < x := by rw [← zI_0]; exact zI_lt r0.1 r0.2 rx.1 rx.2
  exact fun H locs ls hP hS hl => lv_if_gt hx hb d ht (fun h => kt (e.mp h) H locs ls hP hS hl) (fun h => kf (Int.not_lt.mp (fun q => h (e.mpr q))) H locs ls hP hS hl)
theorem x_icmp_le (Z : gAm b l s0 G cc own nL rm) {x y off : Int} (t : Nat) (d : decode cc pc = .ok (.if_icmp .le off, 3)) (ht : (pc : Int) + off = (t : Int)) (rx : inr x) (ry : inr y) (kt : x ≤ y → gX b s0 G k n t L st w) (kf : y < x → gX b s0 G k n (pc + 3) L st w) : gX b s0 G k n pc L (iv y :: iv x :: st) w := by
  obtain ⟨hx, hb, -⟩ := Z
  have e := zI_le rx.1 rx.2 ry.1 ry.2
  exact fun H locs ls hP hS hl => lv_icmp_le hx hb d ht (fun h => kt (e.mp h) H locs ls hP hS hl) (fun h => kf (Int.not_le.mp (fun q => h (e.mpr q))) H locs ls hP hS hl)
theorem x_if_le (Z : gAm b l s0 G cc own nL rm) {x off : Int} (t : Nat) (d : decode cc pc = .ok (.ifCond .le off, 3)) (ht : (pc : Int) + off = (t : Int)) (rx : inr x) (kt : x ≤ 0 → gX b s0 G k n t L st w) (kf : 0 < x → gX b s0 G k n (pc + 3) L st w) : gX b s0 G k n pc L (iv x :: st) w := by
  obtain ⟨hx, hb, -⟩ := Z
  have r0 : inr 0 := ⟨by omega, by omega⟩
  have e : zI x ≤ 0 ↔ x ≤ 0 := by rw [← zI_0]; exact zI_le rx.1 rx.2 r0.1 r0.2
  exact fun H locs ls hP hS hl => lv_if_le hx hb d ht (fun h => kt (e.mp h) H locs ls hP hS hl) (fun h => kf (Int.not_le.mp (fun q => h (e.mpr q))) H locs ls hP hS hl)
theorem b2_in (q : Bool) : inr (b2 q) := by cases q <;> exact ⟨by decide, by decide⟩
theorem b2_0 {q : Bool} (h : b2 q = 0) : q = false := by cases q with
  | true => exact absurd h (by decide)
  | false => rfl
theorem b2_1 {q : Bool} (h : b2 q ≠ 0) : q = true := by cases q with
  | true => rfl
  | false => exact absurd rfl h
theorem x_ifb_eq (Z : gAm b l s0 G cc own nL rm) {q : Bool} {off : Int} (t : Nat) (d : decode cc pc = .ok (.ifCond .eq off, 3)) (ht : (pc : Int) + off = (t : Int)) (kt : q = false → gX b s0 G k n t L st w) (kf : q = true → gX b s0 G k n (pc + 3) L st w) : gX b s0 G k n pc L (iv (b2 q) :: st) w :=
  x_if_eq Z t d ht (b2_in q) (fun h => kt (b2_0 h)) (fun h => kf (b2_1 h))
theorem x_ifb_ne (Z : gAm b l s0 G cc own nL rm) {q : Bool} {off : Int} (t : Nat) (d : decode cc pc = .ok (.ifCond .ne off, 3)) (ht : (pc : Int) + off = (t : Int)) (kt : q = true → gX b s0 G k n t L st w) (kf : q = false → gX b s0 G k n (pc + 3) L st w) : gX b s0 G k n pc L (iv (b2 q) :: st) w :=
  x_if_ne Z t d ht (b2_in q) (fun h => kt (b2_1 h)) (fun h => kf (b2_0 h))
theorem x_icmpb_ne (Z : gAm b l s0 G cc own nL rm) {p q : Bool} {off : Int} (t : Nat) (d : decode cc pc = .ok (.if_icmp .ne off, 3)) (ht : (pc : Int) + off = (t : Int)) (kt : p ≠ q → gX b s0 G k n t L st w) (kf : p = q → gX b s0 G k n (pc + 3) L st w) : gX b s0 G k n pc L (iv (b2 q) :: iv (b2 p) :: st) w :=
  x_icmp_ne Z t d ht (b2_in p) (b2_in q) (fun h => kt (fun e => h (by rw [e]))) (fun h => kf (by cases p <;> cases q <;> first | rfl | exact absurd h (by decide)))
theorem x_icmpb_eq (Z : gAm b l s0 G cc own nL rm) {p q : Bool} {off : Int} (t : Nat) (d : decode cc pc = .ok (.if_icmp .eq off, 3)) (ht : (pc : Int) + off = (t : Int)) (kt : p = q → gX b s0 G k n t L st w) (kf : p ≠ q → gX b s0 G k n (pc + 3) L st w) : gX b s0 G k n pc L (iv (b2 q) :: iv (b2 p) :: st) w :=
  x_icmp_eq Z t d ht (b2_in p) (b2_in q) (fun h => kt (by cases p <;> cases q <;> first | rfl | exact absurd h (by decide))) (fun h => kf (fun e => h (by rw [e])))
theorem x_tabIn (Z : gAm b l s0 G cc own nL rm) {dflt lo hi : Int} {offs : Array Int} {len : Nat} {x off : Int} (t : Nat) (d : decode cc pc = .ok (.tableswitch dflt lo hi offs, len)) (rx : inr x) (h1 : lo ≤ x) (h2 : x ≤ hi) (ho : offs[(x - lo).toNat]? = some off) (ht : (pc : Int) + off = (t : Int)) (kk : gX b s0 G k n t L st w) : gX b s0 G k n pc L (iv x :: st) w := by
  obtain ⟨hx, hb, -⟩ := Z
  have e := zI_toInt rx.1 rx.2
  exact fun H locs ls hP hS hl => lv_tableIn hx hb d (by rw [e]; omega) (by rw [e]; omega) (by rw [e]; exact ho) ht (kk H locs ls hP hS hl)
theorem x_tabOut (Z : gAm b l s0 G cc own nL rm) {dflt lo hi : Int} {offs : Array Int} {len : Nat} {x : Int} (t : Nat) (d : decode cc pc = .ok (.tableswitch dflt lo hi offs, len)) (rx : inr x) (h : x < lo ∨ hi < x) (ht : (pc : Int) + dflt = (t : Int)) (kk : gX b s0 G k n t L st w) : gX b s0 G k n pc L (iv x :: st) w := by
  obtain ⟨hx, hb, -⟩ := Z
  have e := zI_toInt rx.1 rx.2
  exact fun H locs ls hP hS hl => lv_tableOut hx hb d (by rw [e]; exact h) ht (kk H locs ls hP hS hl)
theorem x_look (Z : gAm b l s0 G cc own nL rm) {dflt : Int} {ps : Array (Int × Int)} {len : Nat} {x off : Int} (t : Nat) (d : decode cc pc = .ok (.lookupswitch dflt ps, len)) (rx : inr x) (hp : (ps.toList.zip (ps.toList.drop 1)).all (fun (a, next) => a.1 < next.1) = true) (ho : Op.lookupswitch.offset ps.toList dflt x = off) (ht : (pc : Int) + off = (t : Int)) (kk : gX b s0 G k n t L st w) : gX b s0 G k n pc L (iv x :: st) w := by
  obtain ⟨hx, hb, -⟩ := Z
  have e := zI_toInt rx.1 rx.2
  exact fun H locs ls hP hS hl => lv_lookup hx hb d hp (by rw [e]; exact ho) ht (kk H locs ls hP hS hl)
/-! fields -/
theorem x_getf (Z : gAm b l s0 G cc own nL rm) {ref C : String} {T : u_T} {N ci j index a : Nat} {fs : List Value} {v : Value} (hin : ∀ q ∈ u_ws C T N, q ∈ gT) (hc : vwCl[ci]? = some (C, T, N)) (hj : j < N) (hlk : Cond.fieldLink own index ref (T j).2.1 (T j).2.2.1 ∈ gT) (href : (T j).1 = ref) (d : decode cc pc = .ok (.getfield index, 3)) (hw : w a = some (eO ci fs)) (hv : fs[j]? = some v) (kk : gX b s0 G k n (pc + 3) L (v :: st) w) : gX b s0 G k n pc L (rv a :: st) w := by
  have hts : ∀ q ∈ gT, q.before (ba b) (bs b) = true := fun q h => Z.word h
  obtain ⟨hx, hb, ho, -, hE, -⟩ := Z
  exact fun H locs ls hP hS hl => va_get hx hb hts hin ho hE.2.2.2 (hP.one hw) 0 rfl hc j hj (hts _ hlk) (by intro x h; rw [← href]; exact h) hv d (kk H locs ls hP hS hl)
theorem x_getfN (Z : gAm b l s0 G cc own nL rm) {ref C host : String} {T : u_T} {N ci j index a : Nat} {fs : List Value} {v : Value} (hin : ∀ q ∈ u_ws C T N, q ∈ gT) (hc : vwCl[ci]? = some (C, T, N)) (hj : j < N) (hlk : Cond.fieldLinkNest own index ref (T j).2.1 (T j).2.2.1 host ∈ gT) (href : (T j).1 = ref) (d : decode cc pc = .ok (.getfield index, 3)) (hw : w a = some (eO ci fs)) (hv : fs[j]? = some v) (kk : gX b s0 G k n (pc + 3) L (v :: st) w) : gX b s0 G k n pc L (rv a :: st) w := by
  have hts : ∀ q ∈ gT, q.before (ba b) (bs b) = true := fun q h => Z.word h
  obtain ⟨hx, hb, ho, -, hE, -⟩ := Z
  exact fun H locs ls hP hS hl => va_getN hx hb hts hin ho hE.2.2.2 (hP.one hw) 0 rfl hc j hj (hts _ hlk) (by intro x h; rw [← href]; exact h) hv d (kk H locs ls hP hS hl)
theorem g_obj {D : va_G} {base : Nat} {H : Heap} {a ci : Nat} {fs : List Value} {C : String} {T : u_T} {N : Nat} (hP : gRep D base w H) (hw : w a = some (eO ci fs)) (hc : vwCl[ci]? = some (C, T, N)) : t_OB a (D.1 ci) N (D.2 ci) H (vp_V fs) := by
  obtain ⟨r, h1, h2⟩ := (hP a _ hw).2
  cases h1.symm.trans hc
  exact h2
theorem x_putf (Z : gAm b l s0 G cc own nL rm) {ref C : String} {T : u_T} {N ci j index a : Nat} {fs fs' : List Value} {v : Value} {ty : FieldType} (ty0 : Nat → FieldType) (hty : ∀ k, k < N → parseFieldDescriptor (T k).2.2.1 = some (ty0 k)) (hnm : ∀ a, a < N → ∀ b, b < N → a ≠ b → (T a).2.1 ≠ (T b).2.1) (hin : ∀ q ∈ u_ws C T N, q ∈ gT) (hc : vwCl[ci]? = some (C, T, N)) (hj : j < N) (hlk : Cond.fieldLink own index ref (T j).2.1 (T j).2.2.1 ∈ gT) (href : (T j).1 = ref) (hfin : (T j).2.2.2 = false) (htj : ty0 j = ty) (hn : narrow ty v = v) (hfit : fits ty v = true) (d : decode cc pc = .ok (.putfield index, 3)) (hw : w a = some (eO ci fs)) (hl : j < fs.length) (hfs : fs.set j v = fs') (kk : gX b s0 G k n (pc + 3) L st (ws1 w a (eO ci fs'))) : gX b s0 G k n pc L (v :: rv a :: st) w := by
  have hts : ∀ q ∈ gT, q.before (ba b) (bs b) = true := fun q h => Z.word h
  obtain ⟨hx, hb, ho, -, hE, -⟩ := Z
  subst hfs
  subst href
  have hK := hE.2.2.2
  have hap := va_apart (own := own) hts hin ty0 hty hnm hK hc
  have hd := hty j hj
  rw [htj] at hd
  intro H locs ls hP hS hll
  obtain ⟨cell, q1, q2, q3, q4⟩ := g_obj hP hw hc
  obtain ⟨hSl, hfc, kC, hkC, hkind⟩ := hK.1 ci _ hc
  obtain ⟨cf, kf, fi, f, hi, hsl⟩ := hSl j hj
  have hlay := hts _ (hin _ (u_in_lay hj))
  unfold u_lay at hlay
  rw [if_neg (by rw [hfin]; decide)] at hlay
  have hst := (u_facts hfc hkC (u_lays hts hin hj) hi).1
  have h6 := u_store hfc hkC hkind hlay hi hd hn hfit
  refine W.putK hx hb (f := f) ⟨ho, hts _ hlk, ⟨_, _, _, hi⟩, hst⟩ (by rw [q2]; exact h6) q1 q3 (by rw [hsl]; exact k2_hasslot (q4 j hj)) rfl rfl d fun H' e1 e2 e3 => ?_
  rw [hsl] at e1 ⊢
  exact kk H' _ ls (hP.set hw ⟨_, hc, t_OB.to (V := updV (vp_V fs) j v) ⟨_, e1, q2, q3, t_set q4 hap hj v⟩ (fun i _ => vp_updV_set hl v i)⟩ e3) (hS.put e2 e3 (hP a _ hw).1) hll
theorem x_putfN (Z : gAm b l s0 G cc own nL rm) {ref C host : String} {T : u_T} {N ci j index a : Nat} {fs fs' : List Value} {v : Value} {ty : FieldType} (ty0 : Nat → FieldType) (hty : ∀ k, k < N → parseFieldDescriptor (T k).2.2.1 = some (ty0 k)) (hnm : ∀ a, a < N → ∀ b, b < N → a ≠ b → (T a).2.1 ≠ (T b).2.1) (hin : ∀ q ∈ u_ws C T N, q ∈ gT) (hc : vwCl[ci]? = some (C, T, N)) (hj : j < N) (hlk : Cond.fieldLinkNest own index ref (T j).2.1 (T j).2.2.1 host ∈ gT) (href : (T j).1 = ref) (hfin : (T j).2.2.2 = false) (htj : ty0 j = ty) (hn : narrow ty v = v) (hfit : fits ty v = true) (d : decode cc pc = .ok (.putfield index, 3)) (hw : w a = some (eO ci fs)) (hl : j < fs.length) (hfs : fs.set j v = fs') (kk : gX b s0 G k n (pc + 3) L st (ws1 w a (eO ci fs'))) : gX b s0 G k n pc L (v :: rv a :: st) w := by
  have hts : ∀ q ∈ gT, q.before (ba b) (bs b) = true := fun q h => Z.word h
  obtain ⟨hx, hb, ho, -, hE, -⟩ := Z
  subst hfs
  subst href
  have hK := hE.2.2.2
  have hap := va_apart (own := own) hts hin ty0 hty hnm hK hc
  have hd := hty j hj
  rw [htj] at hd
  intro H locs ls hP hS hll
  obtain ⟨cell, q1, q2, q3, q4⟩ := g_obj hP hw hc
  obtain ⟨hSl, hfc, kC, hkC, hkind⟩ := hK.1 ci _ hc
  obtain ⟨cf, kf, fi, f, hi, hsl⟩ := hSl j hj
  have hlay := hts _ (hin _ (u_in_lay hj))
  unfold u_lay at hlay
  rw [if_neg (by rw [hfin]; decide)] at hlay
  have hst := (u_facts hfc hkC (u_lays hts hin hj) hi).1
  have h6 := u_store hfc hkC hkind hlay hi hd hn hfit
  refine va_WputK hx hb ho (hts _ hlk) hi hst (by rw [q2]; exact h6) q1 q3 (by rw [hsl]; exact k2_hasslot (q4 j hj)) rfl rfl d fun H' e1 e2 e3 => ?_
  rw [hsl] at e1 ⊢
  exact kk H' _ ls (hP.set hw ⟨_, hc, t_OB.to (V := updV (vp_V fs) j v) ⟨_, e1, q2, q3, t_set q4 hap hj v⟩ (fun i _ => vp_updV_set hl v i)⟩ e3) (hS.put e2 e3 (hP a _ hw).1) hll
end GR
section GC
variable {b : gBt} {l : Launch} {s0 : State} {G : gK} {cc : ByteArray} {own : String} {nL : Nat} {rm : Room} {k n pc : Nat} {L : List (Nat × Value)} {st rest : List Value} {w : wd}
theorem x_putfF (Z : gAm b l s0 G cc own nL rm) {ref C : String} {T : u_T} {N ci j index a : Nat} {fs fs' : List Value} {v : Value} {ty : FieldType} (ty0 : Nat → FieldType) (hty : ∀ k, k < N → parseFieldDescriptor (T k).2.2.1 = some (ty0 k)) (hnm : ∀ a, a < N → ∀ b, b < N → a ≠ b → (T a).2.1 ≠ (T b).2.1) (hin : ∀ q ∈ u_ws C T N, q ∈ gT) (hc : vwCl[ci]? = some (C, T, N)) (hj : j < N) (hlk : Cond.fieldLink own index ref (T j).2.1 (T j).2.2.1 ∈ gT) (href : (T j).1 = ref) (hfin : (T j).2.2.2 = true) (hnm0 : (bh b).name = "<init>") (hdecl : (T j).1 = own) (htj : ty0 j = ty) (hn : narrow ty v = v) (hfit : fits ty v = true) (d : decode cc pc = .ok (.putfield index, 3)) (hw : w a = some (eO ci fs)) (hl : j < fs.length) (hfs : fs.set j v = fs') (kk : gX b s0 G k n (pc + 3) L st (ws1 w a (eO ci fs'))) : gX b s0 G k n pc L (v :: rv a :: st) w := by
  have hts : ∀ q ∈ gT, q.before (ba b) (bs b) = true := fun q h => Z.word h
  obtain ⟨hx, hb, ho, -, hE, -⟩ := Z
  subst hfs
  subst href
  have hK := hE.2.2.2
  have hap := va_apart (own := own) hts hin ty0 hty hnm hK hc
  have hd := hty j hj
  rw [htj] at hd
  intro H locs ls hP hS hll
  obtain ⟨cell, q1, q2, q3, q4⟩ := g_obj hP hw hc
  obtain ⟨hSl, hfc, kC, hkC, hkind⟩ := hK.1 ci _ hc
  obtain ⟨cf, kf, fi, f, hi, hsl⟩ := hSl j hj
  have hlay := hts _ (hin _ (u_in_lay hj))
  unfold u_lay at hlay
  rw [if_pos hfin] at hlay
  have hst := (u_facts hfc hkC (u_lays hts hin hj) hi).1
  have hcf : (bm b).cls = cf := by
    obtain ⟨_, _, c', _, _, _, -, -, hf', -, -, -, hown2, -⟩ := Cond.laysFinal_spec hlay
    have e1 : c' = cf := by have := hi.symm.trans hf'; simp at this; exact this.1.symm
    rw [hdecl] at hown2
    rw [← e1]; exact Option.some.inj (ho.symm.trans hown2)
  have h6 := u_fits hfc hkC hkind (Or.inr hlay) hi hd hn hfit
  refine W.putFinK hx hb ho (hts _ hlk) hi hst hcf hnm0 (by rw [q2]; exact h6) q1 q3 (by rw [hsl]; exact k2_hasslot (q4 j hj)) rfl rfl d fun H' e1 e2 e3 => ?_
  rw [hsl] at e1 ⊢
  exact kk H' _ ls (hP.set hw ⟨_, hc, t_OB.to (V := updV (vp_V fs) j v) ⟨_, e1, q2, q3, t_set q4 hap hj v⟩ (fun i _ => vp_updV_set hl v i)⟩ e3) (hS.put e2 e3 (hP a _ hw).1) hll
/-! statics -/
theorem x_gets (Z : gAm b l s0 G cc own nL rm) {C nm d0 ref : String} {v : Value} {index : Nat} (hZ : va_Z C nm d0 v (gA s0) (bs b) (bs b).heap) (hlk : Cond.fieldLink own index ref nm d0 ∈ gT) (href : C = ref) (d : decode cc pc = .ok (.getstatic index, 3)) (kk : gX b s0 G k n (pc + 3) L (v :: st) w) : gX b s0 G k n pc L st w := by
  have hlk' := Z.word hlk
  obtain ⟨hx, hb, ho, -⟩ := Z
  subst href
  exact fun H locs ls hP hS hl => va_gets hx hb hZ hS ho hlk' (fun _ h => h) d (kk H locs ls hP hS hl)
theorem x_tb (Z : gAm b l s0 G cc own nL rm) {t N : Nat} {F : Int → Int} {i : Int} (hT : va_T .byte t N (fun j => iv (F (j : Int))) (gA s0) (bs b) (bs b).heap) (hN : N < 2147483648) (h1 : 0 ≤ i) (h2 : i < N) (d : decode cc pc = .ok (.baload, 1)) (kk : gX b s0 G k n (pc + 1) L (iv (F i) :: st) w) : gX b s0 G k n pc L (iv i :: rv t :: st) w := by
  obtain ⟨hx, hb, -⟩ := Z
  have e := zI_ix h1 h2 hN
  exact fun H locs ls hP hS hl => va_tb hx hb hT hS e.1 (v := iv (F i)) (by show iv (F (((zI i).toNatClampNeg : Nat) : Int)) = _; rw [e.2, Int.toNat_of_nonneg h1]) d (kk H locs ls hP hS hl)
theorem x_ti (Z : gAm b l s0 G cc own nL rm) {t N : Nat} {F : Int → Int} {i : Int} (hT : va_T .int t N (fun j => iv (F (j : Int))) (gA s0) (bs b) (bs b).heap) (hN : N < 2147483648) (h1 : 0 ≤ i) (h2 : i < N) (d : decode cc pc = .ok (.iaload, 1)) (kk : gX b s0 G k n (pc + 1) L (iv (F i) :: st) w) : gX b s0 G k n pc L (iv i :: rv t :: st) w := by
  obtain ⟨hx, hb, -⟩ := Z
  have e := zI_ix h1 h2 hN
  exact fun H locs ls hP hS hl => va_ti hx hb hT hS e.1 (v := iv (F i)) (by show iv (F (((zI i).toNatClampNeg : Nat) : Int)) = _; rw [e.2, Int.toNat_of_nonneg h1]) d (kk H locs ls hP hS hl)
/-! arrays -/
theorem g_arr {D : va_G} {base : Nat} {H : Heap} {a len : Nat} {c : ClassId} {F : Int → Int} (hP : gRep D base w H) (hw : w a = some (eA c len F)) : H[a]? = some (arrV c len (fun j => iv (F (j : Int)))) := (hP a _ hw).2
theorem g_arq {D : va_G} {base : Nat} {H : Heap} {a len : Nat} {c : ClassId} {f : Int → Option Nat} (hP : gRep D base w H) (hw : w a = some (eQ c len f)) : H[a]? = some (arrV c len (fun j => va_rf (f (j : Int)))) := (hP a _ hw).2
theorem g_rd {c : ClassId} {len : Nat} {F : Int → Value} {i : Int} (h1 : 0 ≤ i) (h2 : i < len) (hN : len < 2147483648) : ¬ (zI i < 0 ∨ (arrV c len (fun j => F (j : Int))).slots.size ≤ (zI i).toNatClampNeg) ∧ (arrV c len (fun j => F (j : Int))).slots[(zI i).toNatClampNeg]? = some (F i) := by
  have e := zI_ix h1 h2 hN
  have hlt : (zI i).toNatClampNeg < len := by rw [e.2]; omega
  refine ⟨by rw [arrV_size]; exact e.1, ?_⟩
  rw [arrV_read _ _ hlt]
  show some (F (((zI i).toNatClampNeg : Nat) : Int)) = _
  rw [e.2, Int.toNat_of_nonneg h1]
theorem g_wr {c : ClassId} {len : Nat} {F : Int → Value} {i : Int} {v : Value} (h1 : 0 ≤ i) (h2 : i < len) (hN : len < 2147483648) : (arrV c len (fun j => F (j : Int))).setSlot (zI i).toNatClampNeg v = arrV c len (fun j => (fun q : Int => if q = i then v else F q) (j : Int)) := by
  have e := zI_ix h1 h2 hN
  rw [arrV_store, e.2]
  congr 1
  funext j
  show updV (fun j : Nat => F (j : Int)) i.toNat v j = if (j : Int) = i then v else F (j : Int)
  unfold updV
  by_cases h : j = i.toNat
  · rw [if_pos h, if_pos (by omega)]
  · rw [if_neg h, if_neg (by omega)]
theorem g_uF {F : Int → Int} {i x : Int} : (fun j : Nat => (fun q : Int => if q = i then iv x else iv (F q)) (j : Int)) = (fun j : Nat => iv (uF F i x (j : Int))) := by
  funext j
  show (if (j : Int) = i then iv x else iv (F (j : Int))) = iv (if (j : Int) = i then x else F (j : Int))
  split <;> rfl
theorem g_uQ {f : Int → Option Nat} {i : Int} {x : Option Nat} : (fun j : Nat => (fun q : Int => if q = i then va_rf x else va_rf (f q)) (j : Int)) = (fun j : Nat => va_rf (uQ f i x (j : Int))) := by
  funext j
  show (if (j : Int) = i then va_rf x else va_rf (f (j : Int))) = va_rf (if (j : Int) = i then x else f (j : Int))
  split <;> rfl
theorem x_iald (Z : gAm b l s0 G cc own nL rm) {a len : Nat} {F : Int → Int} {i : Int} (d : decode cc pc = .ok (.iaload, 1)) (hw : w a = some (eI G len F)) (hN : len < 2147483648) (h1 : 0 ≤ i) (h2 : i < len) (kk : gX b s0 G k n (pc + 1) L (iv (F i) :: st) w) : gX b s0 G k n pc L (iv i :: rv a :: st) w := by
  obtain ⟨hx, hb, -, -, hE, -⟩ := Z
  have e := g_rd (c := G.2.2.1) (F := fun q => iv (F q)) h1 h2 hN
  exact fun H locs ls hP hS hl => W.iald hx hb (g_arr hP hw) ((hE.2.2.2.2 1 _ rfl).1 len (fun j => iv (F (j : Int)))) (fun q => by cases q) e.1 e.2 rfl rfl d (kk H locs ls hP hS hl)
theorem x_bald (Z : gAm b l s0 G cc own nL rm) {a len : Nat} {F : Int → Int} {i : Int} (d : decode cc pc = .ok (.baload, 1)) (hw : w a = some (eB G len F)) (hN : len < 2147483648) (h1 : 0 ≤ i) (h2 : i < len) (kk : gX b s0 G k n (pc + 1) L (iv (F i) :: st) w) : gX b s0 G k n pc L (iv i :: rv a :: st) w := by
  obtain ⟨hx, hb, -, -, hE, -⟩ := Z
  have e := g_rd (c := G.2.1) (F := fun q => iv (F q)) h1 h2 hN
  exact fun H locs ls hP hS hl => W.bald hx hb (g_arr hP hw) ((hE.2.2.2.2 0 _ rfl).1 len (fun j => iv (F (j : Int)))) (fun q => by cases q) e.1 e.2 rfl rfl d (kk H locs ls hP hS hl)
theorem x_zald (Z : gAm b l s0 G cc own nL rm) {a len : Nat} {F : Int → Int} {i : Int} (d : decode cc pc = .ok (.baload, 1)) (hw : w a = some (eZ G len F)) (hN : len < 2147483648) (h1 : 0 ≤ i) (h2 : i < len) (kk : gX b s0 G k n (pc + 1) L (iv (F i) :: st) w) : gX b s0 G k n pc L (iv i :: rv a :: st) w := by
  obtain ⟨hx, hb, -, -, hE, -⟩ := Z
  have e := g_rd (c := G.2.2.2.1) (F := fun q => iv (F q)) h1 h2 hN
  exact fun H locs ls hP hS hl => W.zald hx hb (g_arr hP hw) ((hE.2.2.2.2 2 _ rfl).1 len (fun j => iv (F (j : Int)))) (fun q => by cases q) e.1 e.2 rfl rfl d (kk H locs ls hP hS hl)
theorem x_aaldT (Z : gAm b l s0 G cc own nL rm) {a len q : Nat} {f : Int → Option Nat} {i : Int} (d : decode cc pc = .ok (.aaload, 1)) (hw : w a = some (eT G len f)) (hN : len < 2147483648) (h1 : 0 ≤ i) (h2 : i < len) (hq : f i = some q) (kk : gX b s0 G k n (pc + 1) L (rv q :: st) w) : gX b s0 G k n pc L (iv i :: rv a :: st) w := by
  obtain ⟨hx, hb, -, -, hE, -⟩ := Z
  have e := g_rd (c := G.2.2.2.2.1) (F := fun q => va_rf (f q)) h1 h2 hN
  rw [show va_rf (f i) = rv q by rw [hq]; rfl] at e
  exact fun H locs ls hP hS hl => W.aald (ty := .object RX1) hx hb (g_arq hP hw) ((hE.2.2.2.2 3 _ rfl).1 len (fun j => va_rf (f (j : Int)))) rfl (fun q => by cases q) e.1 e.2 rfl rfl d (kk H locs ls hP hS hl)
theorem x_aaldR (Z : gAm b l s0 G cc own nL rm) {a len q : Nat} {f : Int → Option Nat} {i : Int} (d : decode cc pc = .ok (.aaload, 1)) (hw : w a = some (eR G len f)) (hN : len < 2147483648) (h1 : 0 ≤ i) (h2 : i < len) (hq : f i = some q) (kk : gX b s0 G k n (pc + 1) L (rv q :: st) w) : gX b s0 G k n pc L (iv i :: rv a :: st) w := by
  obtain ⟨hx, hb, -, -, hE, -⟩ := Z
  have e := g_rd (c := G.2.2.2.2.2) (F := fun q => va_rf (f q)) h1 h2 hN
  rw [show va_rf (f i) = rv q by rw [hq]; rfl] at e
  exact fun H locs ls hP hS hl => W.aald (ty := .array .int) hx hb (g_arq hP hw) ((hE.2.2.2.2 4 _ rfl).1 len (fun j => va_rf (f (j : Int)))) rfl (fun q => by cases q) e.1 e.2 rfl rfl d (kk H locs ls hP hS hl)
theorem x_iast (Z : gAm b l s0 G cc own nL rm) {a len : Nat} {F : Int → Int} {i x : Int} (d : decode cc pc = .ok (.iastore, 1)) (hw : w a = some (eI G len F)) (hN : len < 2147483648) (h1 : 0 ≤ i) (h2 : i < len) (kk : gX b s0 G k n (pc + 1) L st (ws1 w a (eI G len (uF F i x)))) : gX b s0 G k n pc L (iv x :: iv i :: rv a :: st) w := by
  obtain ⟨hx, hb, -, -, hE, -⟩ := Z
  have e := g_rd (c := G.2.2.1) (F := fun q => iv (F q)) h1 h2 hN
  intro H locs ls hP hS hl
  refine W.iast hx hb (g_arr hP hw) ((hE.2.2.2.2 1 _ rfl).1 len (fun j => iv (F (j : Int)))) (fun q => by cases q) e.1 rfl rfl d fun H1 e1 z oq => ?_
  refine kk H1 _ ls (hP.set hw ?_ oq) (hS.put z oq (hP a _ hw).1) hl
  rw [g_wr (F := fun q => iv (F q)) h1 h2 hN, g_uF] at e1
  exact e1
theorem g_nb {x : Int} : narrow .byte (iv x) = iv (bB x) := by
  show narrow .byte (.int (zI x)) = .int (zI (bB x))
  rw [zI_bB]
  first | rfl | simp [narrow]
theorem g_nz {q : Bool} : narrow .boolean (iv (b2 q)) = iv (b2 q) := by
  cases q <;> (first | rfl | decide +kernel | simp [narrow])
theorem x_bast (Z : gAm b l s0 G cc own nL rm) {a len : Nat} {F : Int → Int} {i x : Int} (d : decode cc pc = .ok (.bastore, 1)) (hw : w a = some (eB G len F)) (hN : len < 2147483648) (h1 : 0 ≤ i) (h2 : i < len) (kk : gX b s0 G k n (pc + 1) L st (ws1 w a (eB G len (uF F i (bB x))))) : gX b s0 G k n pc L (iv x :: iv i :: rv a :: st) w := by
  obtain ⟨hx, hb, -, -, hE, -⟩ := Z
  have e := g_rd (c := G.2.1) (F := fun q => iv (F q)) h1 h2 hN
  intro H locs ls hP hS hl
  refine W.bast hx hb (g_arr hP hw) ((hE.2.2.2.2 0 _ rfl).1 len (fun j => iv (F (j : Int)))) (fun q => by cases q) e.1 rfl rfl d fun H1 e1 z oq => ?_
  refine kk H1 _ ls (hP.set hw ?_ oq) (hS.put z oq (hP a _ hw).1) hl
  rw [show narrow .byte (.int (zI x)) = iv (bB x) from g_nb, g_wr (F := fun q => iv (F q)) h1 h2 hN, g_uF] at e1
  exact e1
theorem x_zast (Z : gAm b l s0 G cc own nL rm) {a len : Nat} {F : Int → Int} {i : Int} {q : Bool} (d : decode cc pc = .ok (.bastore, 1)) (hw : w a = some (eZ G len F)) (hN : len < 2147483648) (h1 : 0 ≤ i) (h2 : i < len) (kk : gX b s0 G k n (pc + 1) L st (ws1 w a (eZ G len (uF F i (b2 q))))) : gX b s0 G k n pc L (iv (b2 q) :: iv i :: rv a :: st) w := by
  obtain ⟨hx, hb, -, -, hE, -⟩ := Z
  have e := g_rd (c := G.2.2.2.1) (F := fun q => iv (F q)) h1 h2 hN
  intro H locs ls hP hS hl
  refine W.zast hx hb (g_arr hP hw) ((hE.2.2.2.2 2 _ rfl).1 len (fun j => iv (F (j : Int)))) (fun q => by cases q) e.1 rfl rfl d fun H1 e1 z oq => ?_
  refine kk H1 _ ls (hP.set hw ?_ oq) (hS.put z oq (hP a _ hw).1) hl
  rw [show narrow .boolean (.int (zI (b2 q))) = iv (b2 q) from g_nz, g_wr (F := fun q => iv (F q)) h1 h2 hN, g_uF] at e1
  exact e1
theorem x_aastT (Z : gAm b l s0 G cc own nL rm) {a len v : Nat} {vs : List Value} {f : Int → Option Nat} {i : Int} (d : decode cc pc = .ok (.aastore, 1)) (hw : w a = some (eT G len f)) (hv : w v = some (eO 2 vs)) (hN : len < 2147483648) (h1 : 0 ≤ i) (h2 : i < len) (kk : gX b s0 G k n (pc + 1) L st (ws1 w a (eT G len (uQ f i (some v))))) : gX b s0 G k n pc L (rv v :: iv i :: rv a :: st) w := by
  obtain ⟨hx, hb, -, -, hE, -⟩ := Z
  have hK := hE.2.2.2
  have e := g_rd (c := G.2.2.2.2.1) (F := fun q => va_rf (f q)) h1 h2 hN
  intro H locs ls hP hS hl
  obtain ⟨cellV, q1, q2, q3, -⟩ := g_obj hP hv (C := RX1) (T := TX1) (N := 3) rfl
  have hcls := (hK.1 2 (RX1, TX1, 3) rfl).2
  obtain ⟨kA, comp, k1, k2, k3, -⟩ := (hK.2 3 _ rfl).2
  have hcomp : comp = G.1.1 2 := Option.some.inj (k3.symm.trans hcls.1)
  subst hcomp
  obtain ⟨kC, hkC, -⟩ := hcls.2
  refine W.aast hx hb (g_arq hP hw) (fun q h => by cases h) (fun h => by cases h) k1 k2 rfl hkC ⟨fun q => e.1 (Or.inl q), Nat.not_le.mp fun q => e.1 (Or.inr q)⟩ q1 (fun q h => by rw [q3] at h; cases h) (by rw [q2]; exact hkC) (by rw [q2]; exact va_assign hcls) rfl rfl d fun H1 e1 z oq => ?_
  refine kk H1 _ ls (hP.set hw ?_ oq) (hS.put z oq (hP a _ hw).1) hl
  rw [show (Value.ref v) = va_rf (some v) from rfl, g_wr (F := fun q => va_rf (f q)) h1 h2 hN, g_uQ] at e1
  exact e1
theorem x_alenI (Z : gAm b l s0 G cc own nL rm) {a len : Nat} {F : Int → Int} (d : decode cc pc = .ok (.arraylength, 1)) (hw : w a = some (eI G len F)) (kk : gX b s0 G k n (pc + 1) L (iv (len : Int) :: st) w) : gX b s0 G k n pc L (rv a :: st) w := by
  obtain ⟨hx, hb, -, -, hE, -⟩ := Z
  exact fun H locs ls hP hS hl => W.alen (n := zI (len : Int)) hx hb (g_arr hP hw) ((hE.2.2.2.2 1 _ rfl).1 len (fun j => iv (F (j : Int)))) (by rw [arrV_size, zI_nat]; rfl) rfl rfl d (kk H locs ls hP hS hl)
end GC
section GD
variable {b : gBt} {l : Launch} {s0 : State} {G : gK} {cc : ByteArray} {own : String} {nL : Nat} {rm : Room} {k n pc : Nat} {L : List (Nat × Value)} {st rest : List Value} {w : wd}
/-! new cells -/
theorem va_S.new {A : Nat → Prop} {H0 H H1 : Heap} {locs : List Loc} (h : va_S A H0 H locs) (z : H1.size = H.size + 1) (oq : ∀ q : Nat, q < H.size → H1[q]? = H[q]?) : va_S A H0 H1 locs :=
  ⟨Nat.le_trans h.1 (by omega), fun x h1 h2 => (oq x (Nat.lt_of_lt_of_le h1 h.1)).trans (h.2.1 x h1 h2), h.2.2⟩
theorem g_base {H : Heap} {locs : List Loc} (hE : gEnv s0 G (bs b)) (hS : va_S (gA s0) (bs b).heap H locs) : s0.heap.size ≤ H.size := Nat.le_trans hE.2.1 hS.1
theorem x_new (Z : gAm b l s0 G cc own nL rm) {C : String} {T : u_T} {N ci index : Nat} {fs : List Value} (ty : Nat → FieldType) (hty : ∀ k, k < N → parseFieldDescriptor (T k).2.2.1 = some (ty k)) (hin : ∀ q ∈ u_ws C T N, q ∈ gT) (hc : vwCl[ci]? = some (C, T, N)) (hcl : Cond.classLink own index C ∈ gT) (hinst : Cond.instantiable C N ∈ gT) (hini : Cond.initialized C ∈ gT) (hfs : ∀ j, j < N → defaultValue (ty j) = vp_V fs j) (hk : k + 1 ≤ rm.cells) (hn : n + N ≤ rm.slots) (d : decode cc pc = .ok (.new index, 3)) (kk : ∀ q : Nat, w q = none → gX b s0 G (k + 1) (n + N) (pc + 3) L (rv q :: st) (ws1 w q (eO ci fs))) : gX b s0 G k n pc L st w := by
  have hts : ∀ q ∈ gT, q.before (ba b) (bs b) = true := fun q h => Z.word h
  obtain ⟨hx, hb, ho, -, hE, -, -, -, hR, -⟩ := Z
  intro H locs ls hP hS hl
  have hKn := hE.2.2.2.1 ci _ hc
  refine W.newcK hx hb ho (hts _ hcl) (hts _ hinst) (hts _ hini) rfl d (by rw [hR]; exact hk) (by rw [hR]; exact hn) hKn.2.1 rfl fun H1 kC hkC e1 z1 o1 => ?_
  obtain ⟨p1, p2⟩ := hP.push (e := eO ci fs) (g_base hE hS) ⟨_, hc, (u_born ty hts hin hKn hkC e1 hty).to hfs⟩ o1
  exact kk H.size p2 H1 locs ls p1 (hS.new z1 o1) hl
theorem g_newcls {s : State} {k0 : Nat} {cA cB : ClassId} {ty : FieldType} (hK : va_RA s cB ty) (ht : ∀ C, ty ≠ .object C) (h : s.vm.findClass ("[" ++ ty.toString) = some cA) : cA = cB := by
  unfold va_RA at hK
  split at hK
  · exact absurd rfl (ht _)
  · exact Option.some.inj (h.symm.trans hK)
theorem x_newI (Z : gAm b l s0 G cc own nL rm) {x : Int} (N : Nat) (harr : Cond.arrayClass .int ∈ gT) (hx0 : x = (N : Int)) (hN : N < 100000000) (hk : k + 1 ≤ rm.cells) (hn : n + N ≤ rm.slots) (d : decode cc pc = .ok (.newarray .int, 2)) (kk : ∀ q : Nat, w q = none → gX b s0 G (k + 1) (n + N) (pc + 2) L (rv q :: st) (ws1 w q (eI G N (fun _ => 0)))) : gX b s0 G k n pc L (iv x :: st) w := by
  have ha := Z.word harr
  obtain ⟨hx, hb, ho, -, hE, -, -, -, hR, -⟩ := Z
  subst hx0
  have et : (zI (N : Int)).toInt = (N : Int) := zI_toInt (by omega) (by omega)
  intro H locs ls hP hS hl
  refine va_newaK (atype := .int) hx hb ha rfl d rfl (by rw [Int32.lt_iff_toInt_lt, et, Int32.toInt_zero]; omega) (N := N) (by show (zI (N : Int)).toInt.toNat = N; rw [et]; rfl) (by show N * 4 ≤ 536870912; omega) (by rw [hR]; exact hk) (by rw [hR]; exact hn) rfl fun H1 cA e1 z1 o1 _ hNm => ?_
  have hcA : cA = G.2.2.1 := g_newcls (k0 := 0) (hE.2.2.2.2 1 _ rfl).2 (by intro C h; cases h) hNm
  subst hcA
  obtain ⟨p1, p2⟩ := hP.push (e := eI G N (fun _ => 0)) (g_base hE hS) (e1.trans (by show some (arrV G.2.2.1 N fun _ => Value.int 0) = some (arrV G.2.2.1 N fun _ => Value.int (zI 0)); rw [zI_0])) o1
  exact kk H.size p2 H1 locs ls p1 (hS.new z1 o1) hl
theorem x_newB (Z : gAm b l s0 G cc own nL rm) {x : Int} (N : Nat) (harr : Cond.arrayClass .byte ∈ gT) (hx0 : x = (N : Int)) (hN : N < 100000000) (hk : k + 1 ≤ rm.cells) (hn : n + N ≤ rm.slots) (d : decode cc pc = .ok (.newarray .byte, 2)) (kk : ∀ q : Nat, w q = none → gX b s0 G (k + 1) (n + N) (pc + 2) L (rv q :: st) (ws1 w q (eB G N (fun _ => 0)))) : gX b s0 G k n pc L (iv x :: st) w := by
  have ha := Z.word harr
  obtain ⟨hx, hb, ho, -, hE, -, -, -, hR, -⟩ := Z
  subst hx0
  have et : (zI (N : Int)).toInt = (N : Int) := zI_toInt (by omega) (by omega)
  intro H locs ls hP hS hl
  refine va_newaK (atype := .byte) hx hb ha rfl d rfl (by rw [Int32.lt_iff_toInt_lt, et, Int32.toInt_zero]; omega) (N := N) (by show (zI (N : Int)).toInt.toNat = N; rw [et]; rfl) (by show N * 1 ≤ 536870912; omega) (by rw [hR]; exact hk) (by rw [hR]; exact hn) rfl fun H1 cA e1 z1 o1 _ hNm => ?_
  have hcA : cA = G.2.1 := g_newcls (k0 := 0) (hE.2.2.2.2 0 _ rfl).2 (by intro C h; cases h) hNm
  subst hcA
  obtain ⟨p1, p2⟩ := hP.push (e := eB G N (fun _ => 0)) (g_base hE hS) (e1.trans (by show some (arrV G.2.1 N fun _ => Value.int 0) = some (arrV G.2.1 N fun _ => Value.int (zI 0)); rw [zI_0])) o1
  exact kk H.size p2 H1 locs ls p1 (hS.new z1 o1) hl
theorem x_newZ (Z : gAm b l s0 G cc own nL rm) {x : Int} (N : Nat) (harr : Cond.arrayClass .boolean ∈ gT) (hx0 : x = (N : Int)) (hN : N < 100000000) (hk : k + 1 ≤ rm.cells) (hn : n + N ≤ rm.slots) (d : decode cc pc = .ok (.newarray .boolean, 2)) (kk : ∀ q : Nat, w q = none → gX b s0 G (k + 1) (n + N) (pc + 2) L (rv q :: st) (ws1 w q (eZ G N (fun _ => 0)))) : gX b s0 G k n pc L (iv x :: st) w := by
  have ha := Z.word harr
  obtain ⟨hx, hb, ho, -, hE, -, -, -, hR, -⟩ := Z
  subst hx0
  have et : (zI (N : Int)).toInt = (N : Int) := zI_toInt (by omega) (by omega)
  intro H locs ls hP hS hl
  refine va_newaK (atype := .boolean) hx hb ha rfl d rfl (by rw [Int32.lt_iff_toInt_lt, et, Int32.toInt_zero]; omega) (N := N) (by show (zI (N : Int)).toInt.toNat = N; rw [et]; rfl) (by show N * 1 ≤ 536870912; omega) (by rw [hR]; exact hk) (by rw [hR]; exact hn) rfl fun H1 cA e1 z1 o1 _ hNm => ?_
  have hcA : cA = G.2.2.2.1 := g_newcls (k0 := 0) (hE.2.2.2.2 2 _ rfl).2 (by intro C h; cases h) hNm
  subst hcA
  obtain ⟨p1, p2⟩ := hP.push (e := eZ G N (fun _ => 0)) (g_base hE hS) (e1.trans (by show some (arrV G.2.2.2.1 N fun _ => Value.int 0) = some (arrV G.2.2.2.1 N fun _ => Value.int (zI 0)); rw [zI_0])) o1
  exact kk H.size p2 H1 locs ls p1 (hS.new z1 o1) hl
/-! ends -/
theorem gEnv.F {s t : State} {H : Heap} {locs : List Loc} (hS : va_S (gA s0) s.heap H locs) (ht : t.heap = H) : va_F (gA s0) s t := hS.F ht
theorem x_iret (Z : gAm b l s0 G cc own nL rm) {nm : String} {tb : List ExceptionTableEntry} {Rt : Option Value → wd → Prop} {Xt : String → wd → Prop} (E : gQm b s0 G (some .int) rm nm tb Rt Xt) {x : Int} (hR : Rt (some (iv x)) w) (d : decode cc pc = .ok (.ireturn, 1)) (hk : k ≤ rm.cells) (hn : n ≤ rm.slots) : gX b s0 G k n pc L [iv x] w := by
  obtain ⟨hx, hb, ho, -, hE, hlk, -⟩ := Z
  obtain ⟨hr, -, hq, -⟩ := E
  intro H locs ls hP hS hl
  rw [hq]
  exact W.widen hk hn (vx_ret (W.iret hx hb hr (fun t ht hW => ⟨⟨_, w, rfl, hR, by rw [ht]; exact hP⟩, hS.F ht⟩) hS.2.2 d hlk))
theorem x_zret (Z : gAm b l s0 G cc own nL rm) {nm : String} {tb : List ExceptionTableEntry} {Rt : Option Value → wd → Prop} {Xt : String → wd → Prop} (E : gQm b s0 G (some .boolean) rm nm tb Rt Xt) {q : Bool} (hR : Rt (some (iv (b2 q))) w) (d : decode cc pc = .ok (.ireturn, 1)) (hk : k ≤ rm.cells) (hn : n ≤ rm.slots) : gX b s0 G k n pc L [iv (b2 q)] w := by
  obtain ⟨hx, hb, ho, -, hE, hlk, -⟩ := Z
  obtain ⟨hr, -, hq, -⟩ := E
  intro H locs ls hP hS hl
  rw [hq]
  exact W.widen hk hn (vx_ret (W.zret hx hb hr g_nz (fun t ht hW => ⟨⟨_, w, rfl, hR, by rw [ht]; exact hP⟩, hS.F ht⟩) hS.2.2 d hlk))
theorem x_lret (Z : gAm b l s0 G cc own nL rm) {nm : String} {tb : List ExceptionTableEntry} {Rt : Option Value → wd → Prop} {Xt : String → wd → Prop} (E : gQm b s0 G (some .long) rm nm tb Rt Xt) {x : Int64} (hR : Rt (some (.long x)) w) (d : decode cc pc = .ok (.lreturn, 1)) (hk : k ≤ rm.cells) (hn : n ≤ rm.slots) : gX b s0 G k n pc L [.long x] w := by
  obtain ⟨hx, hb, ho, -, hE, hlk, -⟩ := Z
  obtain ⟨hr, -, hq, -⟩ := E
  intro H locs ls hP hS hl
  rw [hq]
  exact W.widen hk hn (vx_ret (W.lret hx hb hr (fun t ht hW => ⟨⟨_, w, rfl, hR, by rw [ht]; exact hP⟩, hS.F ht⟩) hS.2.2 d hlk))
theorem x_vret (Z : gAm b l s0 G cc own nL rm) {nm : String} {tb : List ExceptionTableEntry} {Rt : Option Value → wd → Prop} {Xt : String → wd → Prop} (E : gQm b s0 G none rm nm tb Rt Xt) (hR : Rt none w) (d : decode cc pc = .ok (.return_, 1)) (hk : k ≤ rm.cells) (hn : n ≤ rm.slots) : gX b s0 G k n pc L [] w := by
  obtain ⟨hx, hb, ho, -, hE, hlk, -⟩ := Z
  obtain ⟨hr, -, hq, -⟩ := E
  intro H locs ls hP hS hl
  rw [hq]
  exact W.widen hk hn (vx_ret (W.vret hx hb hr (fun t ht hW => ⟨⟨_, w, rfl, hR, by rw [ht]; exact hP⟩, hS.F ht⟩) hS.2.2 d hlk))
theorem x_aret (Z : gAm b l s0 G cc own nL rm) {C nm : String} {tb : List ExceptionTableEntry} {Rt : Option Value → wd → Prop} {Xt : String → wd → Prop} (E : gQm b s0 G (some (.object C)) rm nm tb Rt Xt) {x : Nat} (hR : Rt (some (rv x)) w) (d : decode cc pc = .ok (.areturn, 1)) (hk : k ≤ rm.cells) (hn : n ≤ rm.slots) : gX b s0 G k n pc L [rv x] w := by
  obtain ⟨hx, hb, ho, -, hE, hlk, -⟩ := Z
  obtain ⟨hr, -, hq, -⟩ := E
  intro H locs ls hP hS hl
  rw [hq]
  exact W.widen hk hn (vx_ret (W.aret hx hb hr (Or.inl ⟨C, rfl⟩) (Or.inr ⟨x, rfl⟩) (fun t ht hW => ⟨⟨_, w, rfl, hR, by rw [ht]; exact hP⟩, hS.F ht⟩) hS.2.2 d hlk))
/-- an exception that this method doesn't catch -/
theorem x_out (Z : gAm b l s0 G cc own nL rm) {nm : String} {ret : Option FieldType} {Rt : Option Value → wd → Prop} {Xt : String → wd → Prop} (E : gQm b s0 G ret rm nm [] Rt Xt) {X : String} (hX : Xt X w) (hk : k ≤ rm.cells) (hn : n ≤ rm.slots) : gE b s0 G k n pc L st w X := by
  obtain ⟨hx, hb, ho, -, hE, hlk, -⟩ := Z
  obtain ⟨hr, ht, hq, -⟩ := E
  intro H locs ls ce q hP hS hl hce hcv hcl
  rw [hq]
  exact vx_out (by rw [ht]; intro x h; cases h) hlk hce hcv hcl (fun t ht _ => ⟨⟨w, hX, by rw [ht]; exact hP⟩, hS.F ht⟩) hS.2.2 hk hn
/-! calls -/
theorem MetFree.mono {l : Launch} {x : MethodName} {S : Spec} {P : Array Value → State → Prop} {K : Program → Env → List Frame → State → Array Value → Prop} {Q Q' : Array Value → State → Outcome → State → Prop} (h : MetFree l x S P K Q) (hQ : ∀ a s o t, Q a s o t → Q' a s o t) : MetFree l x S P K Q' := by
  intro p e a1 a2 a3 s m args below hf hap hP hK
  obtain ⟨n, o, h1, h2, h3, h4⟩ := h p e a1 a2 a3 s m args below hf hap hP hK
  exact ⟨n, o, h1, h2, h3, hQ _ _ _ _ h4⟩
theorem g_met {y : MethodName} {ws : List Cond} {rm' : Room} {as : List Value} {w : wd} {Rt : Option Value → wd → Prop} (h : gM l s0 G y ws rm' as w Rt noX) : Met l y ws rm' (gPc s0 G as w) (gQc s0 G Rt) rm'.cells rm'.slots (gA s0) := by
  refine MetFree.mono h ?_
  intro a s o t hq
  rcases hq with hq | ⟨q, -, E, ce, L, ⟨⟨w', hx, -⟩, -⟩, -⟩
  · exact hq
  · exact hx.elim
theorem g_blind {as : List Value} : FrameBlind (gPc s0 G as w) := by
  intro a U g mk hp
  obtain ⟨h1, ⟨h2, h3, h4, h5⟩, h6⟩ := hp
  exact ⟨h1, ⟨h2, h3, h4, va_K.moved (u := U) (U := U.calling g mk a) (Vm.Alike.refl U.vm) h5⟩, h6⟩
theorem g_pc {H : Heap} {locs : List Loc} {as : List Value} (hE : gEnv s0 G (bs b)) (hP : gRep G.1 s0.heap.size w H) (hS : va_S (gA s0) (bs b).heap H locs) : ∀ U : State, U.heap = H → (bs b).WarmedH U.vm → gPc s0 G as w as.toArray U := by
  intro U hU hW
  obtain ⟨h2, h3, h4, h5⟩ := hE
  refine ⟨rfl, ⟨State.WarmedH.trans h2 hW, by rw [hU]; exact Nat.le_trans h3 hS.1, fun a ha => ?_, va_K.moved hW.alike h5⟩, by rw [hU]; exact hP⟩
  rw [hU, hS.2.1 a (Nat.lt_of_lt_of_le ha h3) (Nat.not_le.mpr ha)]
  exact h4 a ha
/-- behind a call that returns -/
theorem g_beh {H : Heap} {locs : List Loc} {ls : Array Slot} {mc ms : Nat} {Rt : Option Value → wd → Prop} {a : Array Value} {st0 : List Value} (hr : va_Run (bp b) (bl b) (be b) (bR b) (bs b) (bm b) (ba b) (bw b) (bh b) (bc b) H locs k n mc ms (F0 (bm b) pc ls st0) rest (gQc s0 G Rt a) (gA s0)) (hS : va_S (gA s0) (bs b).heap H locs) (hl : lv_has ls (bc b).maxLocals L)
    (kk : ∀ (v : Option Value) (w' : wd), Rt v w' → gX b s0 G (k + mc) (n + ms) (pc + 3) L (v.toList ++ rest) w') : W (bp b) (bl b) (be b) (bR b) (bs b) (bm b) (ba b) (bw b) (bh b) (bc b) H locs k n (bq b) (F0 (bm b) pc ls st0) := by
  intro T hT X
  obtain ⟨v, st₀, t, T', L', h0, X', hL', e1, e2, ⟨⟨v', w', hv, hRt, hP'⟩, hF⟩, st⟩ := hr T hT X
  cases hv
  have hS' := (vx_keep h0 e1 hS (fun _ _ h => h) (fun _ h => h) hL' hF).2.2
  obtain ⟨t2, a1, b1⟩ := kk v w' hRt T'.heap (locs ++ L') ls (by rw [e1]; exact hP') hS' hl T' rfl X'
  exact ⟨t2, st t2 a1, b1⟩
/-- behind a call that returns or throws -/
theorem g_behX {H : Heap} {locs : List Loc} {ls : Array Slot} {mc ms : Nat} {Rt : Option Value → wd → Prop} {Xt : String → wd → Prop} {a : Array Value} {st0 : List Value} (hr : vx_Run (bp b) (bl b) (be b) (bR b) (bs b) (bm b) (ba b) (bw b) (bh b) (bc b) H locs k n mc ms (F0 (bm b) pc ls st0) rest (gQc s0 G Rt a) (gXc s0 G Xt) (gA s0)) (hS : va_S (gA s0) (bs b).heap H locs) (hl : lv_has ls (bc b).maxLocals L)
    (kx : ∀ (X : String) (w' : wd), Xt X w' → gE b s0 G (k + mc) (n + ms) pc L rest w' X) (kk : ∀ (v : Option Value) (w' : wd), Rt v w' → gX b s0 G (k + mc) (n + ms) (pc + 3) L (v.toList ++ rest) w') : W (bp b) (bl b) (be b) (bR b) (bs b) (bm b) (ba b) (bw b) (bh b) (bc b) H locs k n (bq b) (F0 (bm b) pc ls st0) := by
  intro T hT X
  rcases hr T hT X with ⟨v, st₀, t, T', L', h0, X', hL', e1, e2, ⟨⟨v', w', hv, hRt, hP'⟩, hF⟩, st⟩ | ⟨q, st₀, t, T', L', E, ce, h0, X', hL', e1, e2, ⟨⟨w', hX, hP'⟩, hF⟩, hce, hcv, hcl, st⟩
  · cases hv
    have hS' := (vx_keep h0 e1 hS (fun _ _ h => h) (fun _ h => h) hL' hF).2.2
    obtain ⟨t2, a1, b1⟩ := kk v w' hRt T'.heap (locs ++ L') ls (by rw [e1]; exact hP') hS' hl T' rfl X'
    exact ⟨t2, st t2 a1, b1⟩
  · have hS' := (vx_keep h0 e1 hS (fun _ _ h => h) (fun _ h => h) hL' hF).2.2
    obtain ⟨t2, a1, b1⟩ := kx E w' hX T'.heap (locs ++ L') ls ce q (by rw [e1]; exact hP') hS' hl (by rw [e1]; exact hce) hcv hcl T' rfl X'
    exact ⟨t2, st.trans a1, b1⟩
/-- what stands of a method in the tables: its code, its class, how many arguments -/
def gOk (y : MethodName) (bytes : ByteArray) (maxL : Nat) (ret : Option FieldType) (na : Nat) : Prop :=
  Cond.code y bytes maxL ret ∈ gT ∧ Cond.initialized y.cls ∈ gT ∧ (y.cls ≠ "java/lang/invoke/MethodHandle" ∧ y.cls ≠ "java/lang/invoke/VarHandle") ∧ (parseMethodDescriptor y.desc).map (fun d => d.parameters.length) = some na
def rmIn (rm' rm : Room) (maxL k n : Nat) : Prop := rm'.frames + 1 ≤ rm.frames ∧ 8 + (maxL + 11) + rm'.locals ≤ rm.locals ∧ k + rm'.cells ≤ rm.cells ∧ n + rm'.slots ≤ rm.slots
theorem g_ws {y : MethodName} {bytes : ByteArray} {maxL : Nat} {ret : Option FieldType} {s : State} {args : Array Value} (h : (Cond.code y bytes maxL ret).before args s = true) : ∀ q ∈ [Cond.code y bytes maxL ret], ∀ (a' : Array Value) (U : State), s.WarmedH U.vm → q.before a' U = true := by
  intro q hq a' U hW
  rcases List.mem_singleton.mp hq with rfl
  exact word_at hW (Or.inl rfl) h
theorem g_par {y : MethodName} {na : Nat} (h : (parseMethodDescriptor y.desc).map (fun d => d.parameters.length) = some na) : ∀ sig, parseMethodDescriptor y.desc = some sig → na = sig.parameters.length := by
  intro sig hs
  rw [hs] at h
  exact (Option.some.inj h).symm
theorem g_callB (Z : gAm b l s0 G cc own nL rm) {y : MethodName} {bytes : ByteArray} {maxL index na : Nat} {ret : Option FieldType} {rm' : Room} (hok : gOk y bytes maxL ret na) (hlk : Cond.methodLink own index y ∈ gT) (hroom : rmIn rm' rm maxL k n) : CallB (bR b) (bs b) (ba b) own index y bytes maxL ret [Cond.code y bytes maxL ret] rm' rm'.cells rm'.slots na := by
  have h1 := Z.word hok.1
  have h2 := Z.word hok.2.1
  have h3 := Z.word hlk
  obtain ⟨-, -, -, -, -, -, -, -, hR, -⟩ := Z
  exact ⟨rfl, rfl, by rw [hR]; exact hroom.1, by rw [hR]; exact hroom.2.1, g_ws h1, List.mem_singleton.mpr rfl, h1, h2, hok.2.2.1, g_par hok.2.2.2, h3⟩
theorem g_callN (Z : gAm b l s0 G cc own nL rm) {y : MethodName} {host : String} {bytes : ByteArray} {maxL index na : Nat} {ret : Option FieldType} {rm' : Room} (hok : gOk y bytes maxL ret na) (hlk : Cond.methodLinkNest own index y host ∈ gT) (hroom : rmIn rm' rm maxL k n) : va_CN (bR b) (bs b) (ba b) own index y host bytes maxL ret [Cond.code y bytes maxL ret] rm' rm'.cells rm'.slots na := by
  have h1 := Z.word hok.1
  have h2 := Z.word hok.2.1
  have h3 := Z.word hlk
  obtain ⟨-, -, -, -, -, -, -, -, hR, -⟩ := Z
  exact ⟨⟨rfl, rfl, by rw [hR]; exact hroom.1, by rw [hR]; exact hroom.2.1, g_ws h1, List.mem_singleton.mpr rfl⟩, h1, h2, hok.2.2.1, g_par hok.2.2.2, h3⟩
theorem g_fix (Z : gAm b l s0 G cc own nL rm) : CallFix (bp b) (bm b) (bc b) cc nL (bs b) (ba b) [] own := by
  obtain ⟨hx, hb, ho, -, -, -, -, hml, -⟩ := Z
  exact ⟨hx, hb, hml, ho, fun q h => by cases h⟩
theorem g_rcv {H : Heap} {a ci : Nat} {fs : List Value} {C : String} {T : u_T} {N : Nat} (hE : gEnv s0 G (bs b)) (hP : gRep G.1 s0.heap.size w H) (hw : w a = some (eO ci fs)) (hc : vwCl[ci]? = some (C, T, N)) : ∃ cellB : Cell, H[a]? = some cellB ∧ cellB.vm.isStatics = false ∧ (bs b).vm.findClass C = some cellB.cls := by
  obtain ⟨cell, q1, q2, q3, -⟩ := g_obj hP hw hc
  exact ⟨cell, q1, by rw [q3]; rfl, by rw [q2]; exact (hE.2.2.2.1 ci _ hc).2.1⟩
theorem x_callV (Z : gAm b l s0 G cc own nL rm) {y : MethodName} {bytes : ByteArray} {maxL index na a ci N : Nat} {C : String} {T : u_T} {fs : List Value} {ret : Option FieldType} {rm' : Room} {As : List Value} {Rt : Option Value → wd → Prop} (hok : gOk y bytes maxL ret na) (hlk : Cond.methodLink own index y ∈ gT) (hi : Cond.instanceMethod y ∈ gT) (hs : Cond.selects C y y ∈ gT) (hc : vwCl[ci]? = some (C, T, N)) (d : decode cc pc = .ok (.invokevirtual index, 3)) (hM : gM l s0 G y [Cond.code y bytes maxL ret] rm' (rv a :: As) w Rt noX) (hw : w a = some (eO ci fs)) (hroom : rmIn rm' rm maxL k n) (hna : As.length = na) (hst : st = As.reverse ++ rv a :: rest) (hcat : (rest.map fun v => v.category).sum ≤ 8)
    (kk : ∀ (v : Option Value) (w' : wd), Rt v w' → gX b s0 G (k + rm'.cells) (n + rm'.slots) (pc + 3) L (v.toList ++ rest) w') : gX b s0 G k n pc L st w := by
  have hcb := g_callB Z hok hlk hroom
  have h1 := Z.word hi
  have h2 := Z.word hs
  have hfx := g_fix Z
  obtain ⟨-, -, -, -, hE, -, -, hml, hR, hbl⟩ := Z
  subst hst
  rw [← hbl] at hM
  exact fun H locs ls hP hS hl => g_beh (va_runV hfx (g_met hM) ⟨hcb, h1, h2⟩ ⟨g_blind, g_rcv hE hP hw hc, g_pc hE hP hS⟩ rfl hna (hl.1.trans hml) rfl (lv_room hcat) d ⟨by rw [hR]; exact hroom.2.2.1, by rw [hR]; exact hroom.2.2.2⟩) hS hl kk
theorem x_callS (Z : gAm b l s0 G cc own nL rm) {y : MethodName} {bytes : ByteArray} {maxL index na : Nat} {ret : Option FieldType} {rm' : Room} {As : List Value} {Rt : Option Value → wd → Prop} (hok : gOk y bytes maxL ret na) (hlk : Cond.methodLink own index y ∈ gT) (hi : Cond.static y ∈ gT) (d : decode cc pc = .ok (.invokestatic index, 3)) (hM : gM l s0 G y [Cond.code y bytes maxL ret] rm' As w Rt noX) (hroom : rmIn rm' rm maxL k n) (hna : As.length = na) (hst : st = As.reverse ++ rest) (hcat : (rest.map fun v => v.category).sum ≤ 8)
    (kk : ∀ (v : Option Value) (w' : wd), Rt v w' → gX b s0 G (k + rm'.cells) (n + rm'.slots) (pc + 3) L (v.toList ++ rest) w') : gX b s0 G k n pc L st w := by
  have hcb := g_callB Z hok hlk hroom
  have h1 := Z.word hi
  have hfx := g_fix Z
  obtain ⟨-, -, -, -, hE, -, -, hml, hR, hbl⟩ := Z
  subst hst
  rw [← hbl] at hM
  exact fun H locs ls hP hS hl => g_beh (va_runS hfx (g_met hM) ⟨hcb, h1⟩ ⟨g_blind, g_pc hE hP hS⟩ rfl hna (hl.1.trans hml) rfl (lv_room hcat) d ⟨by rw [hR]; exact hroom.2.2.1, by rw [hR]; exact hroom.2.2.2⟩) hS hl kk
theorem x_callI (Z : gAm b l s0 G cc own nL rm) {y : MethodName} {bytes : ByteArray} {maxL index na a : Nat} {rm' : Room} {As : List Value} {Rt : Option Value → wd → Prop} (hok : gOk y bytes maxL none na) (hlk : Cond.methodLink own index y ∈ gT) (hi : Cond.instanceMethod y ∈ gT) (hy1 : y.name = "<init>") (d : decode cc pc = .ok (.invokespecial index, 3)) (hM : gM l s0 G y [Cond.code y bytes maxL none] rm' (rv a :: As) w Rt noX) (hroom : rmIn rm' rm maxL k n) (hna : As.length = na) (hst : st = As.reverse ++ rv a :: rest) (hcat : (rest.map fun v => v.category).sum ≤ 8)
    (kk : ∀ (v : Option Value) (w' : wd), Rt v w' → gX b s0 G (k + rm'.cells) (n + rm'.slots) (pc + 3) L (v.toList ++ rest) w') : gX b s0 G k n pc L st w := by
  have hcb := g_callB Z hok hlk hroom
  have h1 := Z.word hi
  have hfx := g_fix Z
  obtain ⟨-, -, -, -, hE, -, -, hml, hR, hbl⟩ := Z
  subst hst
  rw [← hbl] at hM
  exact fun H locs ls hP hS hl => g_beh (va_runI hfx (g_met hM) ⟨hcb, hy1, h1⟩ ⟨g_blind, g_pc hE hP hS⟩ rfl hna (hl.1.trans hml) rfl (lv_room hcat) d ⟨by rw [hR]; exact hroom.2.2.1, by rw [hR]; exact hroom.2.2.2⟩) hS hl kk
theorem x_callSN (Z : gAm b l s0 G cc own nL rm) {y : MethodName} {host : String} {bytes : ByteArray} {maxL index na : Nat} {ret : Option FieldType} {rm' : Room} {As : List Value} {Rt : Option Value → wd → Prop} (hok : gOk y bytes maxL ret na) (hlk : Cond.methodLinkNest own index y host ∈ gT) (hi : Cond.static y ∈ gT) (d : decode cc pc = .ok (.invokestatic index, 3)) (hM : gM l s0 G y [Cond.code y bytes maxL ret] rm' As w Rt noX) (hroom : rmIn rm' rm maxL k n) (hna : As.length = na) (hst : st = As.reverse ++ rest) (hcat : (rest.map fun v => v.category).sum ≤ 8)
    (kk : ∀ (v : Option Value) (w' : wd), Rt v w' → gX b s0 G (k + rm'.cells) (n + rm'.slots) (pc + 3) L (v.toList ++ rest) w') : gX b s0 G k n pc L st w := by
  have hcb := g_callN Z hok hlk hroom
  have h1 := Z.word hi
  have hfx := g_fix Z
  obtain ⟨-, -, -, -, hE, -, -, hml, hR, hbl⟩ := Z
  subst hst
  rw [← hbl] at hM
  exact fun H locs ls hP hS hl => g_beh (va_runSN hfx (g_met hM) ⟨hcb, h1, trivial⟩ ⟨g_blind, g_pc hE hP hS⟩ rfl hna (hl.1.trans hml) rfl (lv_room hcat) d ⟨by rw [hR]; exact hroom.2.2.1, by rw [hR]; exact hroom.2.2.2⟩) hS hl kk
theorem x_callIN (Z : gAm b l s0 G cc own nL rm) {y : MethodName} {host : String} {bytes : ByteArray} {maxL index na a : Nat} {rm' : Room} {As : List Value} {Rt : Option Value → wd → Prop} (hok : gOk y bytes maxL none na) (hlk : Cond.methodLinkNest own index y host ∈ gT) (hi : Cond.instanceMethod y ∈ gT) (hy1 : y.name = "<init>") (d : decode cc pc = .ok (.invokespecial index, 3)) (hM : gM l s0 G y [Cond.code y bytes maxL none] rm' (rv a :: As) w Rt noX) (hroom : rmIn rm' rm maxL k n) (hna : As.length = na) (hst : st = As.reverse ++ rv a :: rest) (hcat : (rest.map fun v => v.category).sum ≤ 8)
    (kk : ∀ (v : Option Value) (w' : wd), Rt v w' → gX b s0 G (k + rm'.cells) (n + rm'.slots) (pc + 3) L (v.toList ++ rest) w') : gX b s0 G k n pc L st w := by
  have hcb := g_callN Z hok hlk hroom
  have h1 := Z.word hi
  have hfx := g_fix Z
  obtain ⟨-, -, -, -, hE, -, -, hml, hR, hbl⟩ := Z
  subst hst
  rw [← hbl] at hM
  exact fun H locs ls hP hS hl => g_beh (va_runIN hfx (g_met hM) ⟨hcb, hy1, h1⟩ ⟨g_blind, g_pc hE hP hS⟩ rfl hna (hl.1.trans hml) rfl (lv_room hcat) d ⟨by rw [hR]; exact hroom.2.2.1, by rw [hR]; exact hroom.2.2.2⟩) hS hl kk
/-! calls that may throw -/
theorem x_callVx (Z : gAm b l s0 G cc own nL rm) {y : MethodName} {bytes : ByteArray} {maxL index na a ci N : Nat} {C : String} {T : u_T} {fs : List Value} {ret : Option FieldType} {rm' : Room} {As : List Value} {Rt : Option Value → wd → Prop} {Xt : String → wd → Prop} (hok : gOk y bytes maxL ret na) (hlk : Cond.methodLink own index y ∈ gT) (hi : Cond.instanceMethod y ∈ gT) (hs : Cond.selects C y y ∈ gT) (hc : vwCl[ci]? = some (C, T, N)) (d : decode cc pc = .ok (.invokevirtual index, 3)) (hM : gM l s0 G y [Cond.code y bytes maxL ret] rm' (rv a :: As) w Rt Xt) (hw : w a = some (eO ci fs)) (hroom : rmIn rm' rm maxL k n) (hna : As.length = na) (hst : st = As.reverse ++ rv a :: rest) (hcat : (rest.map fun v => v.category).sum ≤ 8)
    (kx : ∀ (X : String) (w' : wd), Xt X w' → gE b s0 G (k + rm'.cells) (n + rm'.slots) pc L rest w' X) (kk : ∀ (v : Option Value) (w' : wd), Rt v w' → gX b s0 G (k + rm'.cells) (n + rm'.slots) (pc + 3) L (v.toList ++ rest) w') : gX b s0 G k n pc L st w := by
  have hcb := g_callB Z hok hlk hroom
  have h1 := Z.word hi
  have h2 := Z.word hs
  have hfx := g_fix Z
  obtain ⟨-, -, -, -, hE, -, -, hml, hR, hbl⟩ := Z
  subst hst
  rw [← hbl] at hM
  exact fun H locs ls hP hS hl => g_behX (vx_runV hfx hM ⟨hcb, h1, h2⟩ ⟨g_blind, g_rcv hE hP hw hc, g_pc hE hP hS⟩ rfl hna (hl.1.trans hml) rfl (lv_room hcat) d ⟨by rw [hR]; exact hroom.2.2.1, by rw [hR]; exact hroom.2.2.2⟩) hS hl kx kk
theorem x_callSx (Z : gAm b l s0 G cc own nL rm) {y : MethodName} {bytes : ByteArray} {maxL index na : Nat} {ret : Option FieldType} {rm' : Room} {As : List Value} {Rt : Option Value → wd → Prop} {Xt : String → wd → Prop} (hok : gOk y bytes maxL ret na) (hlk : Cond.methodLink own index y ∈ gT) (hi : Cond.static y ∈ gT) (d : decode cc pc = .ok (.invokestatic index, 3)) (hM : gM l s0 G y [Cond.code y bytes maxL ret] rm' As w Rt Xt) (hroom : rmIn rm' rm maxL k n) (hna : As.length = na) (hst : st = As.reverse ++ rest) (hcat : (rest.map fun v => v.category).sum ≤ 8)
    (kx : ∀ (X : String) (w' : wd), Xt X w' → gE b s0 G (k + rm'.cells) (n + rm'.slots) pc L rest w' X) (kk : ∀ (v : Option Value) (w' : wd), Rt v w' → gX b s0 G (k + rm'.cells) (n + rm'.slots) (pc + 3) L (v.toList ++ rest) w') : gX b s0 G k n pc L st w := by
  have hcb := g_callB Z hok hlk hroom
  have h1 := Z.word hi
  have hfx := g_fix Z
  obtain ⟨-, -, -, -, hE, -, -, hml, hR, hbl⟩ := Z
  subst hst
  rw [← hbl] at hM
  exact fun H locs ls hP hS hl => g_behX (vx_runS hfx hM ⟨hcb, h1⟩ ⟨g_blind, g_pc hE hP hS⟩ rfl hna (hl.1.trans hml) rfl (lv_room hcat) d ⟨by rw [hR]; exact hroom.2.2.1, by rw [hR]; exact hroom.2.2.2⟩) hS hl kx kk
/-! a method's contract out of its body -/
theorem g_of {y : MethodName} {ret : Option FieldType} {as : List Value} {Rt : Option Value → wd → Prop} {Xt : String → wd → Prop} (h0 : gS0 s0) (htr : l.stackTraces = false) (hy : plainName y.cls = true) (hlen : (lg_sl as).length ≤ nL)
    (body : ∀ b : gBt, gAm b l s0 G cc y.cls nL rm → gQm b s0 G ret rm y.name [] Rt Xt → gX b s0 G 0 0 0 (lv_args 0 as) [] w) : gM l s0 G y [Cond.code y cc nL ret] rm as w Rt Xt := by
  refine vx_ofW hy rfl ?_
  intro p e s m args below meth c s₁ B hml ht hv
  obtain ⟨rfl, hE, hP⟩ := hv
  have hown : s.vm.findClass y.cls = some m.cls := findClass_of_methodNamed B.named
  have htb : c.exceptionTable.toList = [] := List.eq_nil_iff_forall_not_mem.mpr ht
  have hl := lv_entry as hlen
  have K := body (p, l, e, rm, s, m, as.toArray, below, meth, c, vx_MQ below (gQc s0 G Rt) (gXc s0 G Xt) as.toArray s rm.cells rm.slots (gA s0)) ⟨B.exec, B.bytes, hown, h0, hE, B.notSynchronized, htr, hml, rfl, rfl⟩ ⟨B.returns, htb, rfl, (name_of_methodNamed B.named B.method).1⟩ s.heap [] _ hP va_S.rf (by show lv_has _ c.maxLocals _; rw [hml]; exact hl)
  rw [lg_entry_eq]
  exact K
end GD
section GH
variable {b : gBt} {l : Launch} {s0 : State} {G : gK} {cc : ByteArray} {own : String} {nL : Nat} {rm : Room} {k n pc : Nat} {L : List (Nat × Value)} {st rest : List Value} {w : wd}
abbrev exN : List String := ["java/lang/RuntimeException", "java/lang/Exception"]
theorem g_una {s : State} (h0 : gS0 s0) (hE : gEnv s0 G s) : vx_Zq Bundle.tN "UNASSIGNED_STACK" Bundle.steD (gA s0) s s.heap := by
  obtain ⟨a0, h1, h2⟩ := h0
  refine vx_Zq.moved hE.1.alike (vx_Zq.kept (vx_Zqof (h1 _ (by decide +kernel)) (h1 _ (by decide +kernel)) (flat_of_before _ h2 _ (by decide +kernel)) (fun a h => Nat.not_le.mpr h)) (fun a h _ => hE.2.2.1 a h))
theorem g_sup {s : State} (h0 : gS0 s0) (hE : gEnv s0 G s) : vx_Zq Bundle.tN "SUPPRESSED_SENTINEL" Bundle.listD (gA s0) s s.heap := by
  obtain ⟨a0, h1, h2⟩ := h0
  refine vx_Zq.moved hE.1.alike (vx_Zq.kept (vx_Zqof (h1 _ (by decide +kernel)) (h1 _ (by decide +kernel)) (flat_of_before _ h2 _ (by decide +kernel)) (fun a h => Nat.not_le.mpr h)) (fun a h _ => hE.2.2.1 a h))
theorem x_thr (Z : gAm b l s0 G cc own nL rm) {ret : Option FieldType} {nm : String} {Rt : Option Value → wd → Prop} {Xt : String → wd → Prop} (E : gQm b s0 G ret rm nm [] Rt Xt) {cls : String} {ik ic : Nat} (hcls : Bundle.fit cls = true) (hws : ∀ q ∈ Cond.classLink own ik cls :: Cond.initialized cls :: vx_at0 own ic cls exN, q ∈ gT ∧ vx_ot q = true) (d0 : decode cc pc = .ok (.new ik, 3)) (d3 : decode cc (pc + 3) = .ok (.dup, 1)) (d4 : decode cc (pc + 4) = .ok (.invokespecial ic, 3)) (d7 : decode cc (pc + 7) = .ok (.athrow, 1)) (hr1 : 6 ≤ rm.frames) (hr2 : (st.map fun v => v.category).sum + 81 ≤ rm.locals) (hr3 : k + 1 ≤ rm.cells) (hr4 : n + 6 ≤ rm.slots) (hX : Xt cls w) : gX b s0 G k n pc L st w := by
  have hat : ∀ q ∈ Cond.classLink own ik cls :: Cond.initialized cls :: vx_at0 own ic cls exN, q.before (ba b) (bs b) = true := fun q h => Z.word (hws q h).1
  obtain ⟨hx, hb, ho, h0, hE, hlk, htr, hml, hR, hbl⟩ := Z
  obtain ⟨hr, ht, hq, -⟩ := E
  intro H locs ls hP hS hl
  rw [hq]
  exact vx_throw0 (names := exN) (A := gA s0) hx hb htr ho hcls (by decide +kernel) (hat _ List.mem_cons_self) (hat _ (List.mem_cons_of_mem _ List.mem_cons_self)) (fun q h => hat q (List.mem_cons_of_mem _ (List.mem_cons_of_mem _ h))) (fun q h => (hws q h).2) (g_una h0 hE) (g_sup h0 hE) hS hl.1 d0 d3 d4 d7 (by rw [ht]; intro x h; cases h)
    (by rw [hR]; show 2 + 3 < rm.frames; omega) (by rw [hR]; exact hr2) (by rw [hR]; exact hr3) (by rw [hR]; exact hr4) hlk
    (fun t hal hz hk => ⟨⟨w, hX, hP.keep hk⟩, ⟨Nat.le_trans hS.1 hz, fun q h1 h2 => (hk q (Nat.lt_of_lt_of_le h1 hS.1)).trans (hS.2.1 q h1 h2)⟩⟩) hS.2.2 hr3 hr4
theorem x_catch (Z : gAm b l s0 G cc own nL rm) {ret : Option FieldType} {nm : String} {tb : List ExceptionTableEntry} {Rt : Option Value → wd → Prop} {Xt : String → wd → Prop} (E : gQm b s0 G ret rm nm tb Rt Xt) (pre : List ExceptionTableEntry) (x : ExceptionTableEntry) (suf : List ExceptionTableEntry) (hsplit : tb = pre ++ x :: suf) {name X : String}
    (hpass : ∀ z ∈ pre, covers z pc = false ∨ (z.catchType ≠ 0 ∧ ∃ nm : String, Cond.classLink own z.catchType nm ∈ gT ∧ va_Nc X nm (bs b))) (hx : covers x pc = true) (hx0 : x.catchType ≠ 0) (hlink : Cond.classLink own x.catchType name ∈ gT) (hcast : Cond.castable X name ∈ gT) (kk : ∀ q : Nat, gX b s0 G k n x.handlerPc L [rv q] w) : gE b s0 G k n pc L st w X := by
  have h1 := Z.word hlink
  have h2 := Z.word hcast
  have hp : ∀ z ∈ pre, covers z pc = false ∨ (z.catchType ≠ 0 ∧ ∃ nm : String, (Cond.classLink own z.catchType nm).before (ba b) (bs b) = true ∧ va_Nc X nm (bs b)) := fun z hz => (hpass z hz).imp id (fun ⟨a, nm, c, d⟩ => ⟨a, nm, Z.word c, d⟩)
  obtain ⟨hx', hb, ho, h0, hE, hlk, htr, hml, hR, hbl⟩ := Z
  obtain ⟨hr, ht, hq, -⟩ := E
  exact fun H locs ls ce q hP hS hl hce hcv hcl => vx_catch ho pre x suf (ht.trans hsplit) hp hx hx0 h1 h2 hce hcv hcl (kk q H locs ls hP hS hl)
theorem g_nc {s : State} {X Y : String} (h0 : gS0 s0) (hE : gEnv s0 G s) (h : ∀ a0 : Array Value, (Jvm.Cond.and given_1 narrow_1).before a0 s0 = true → va_Nc X Y s0) : va_Nc X Y s := by
  obtain ⟨a0, h1, h2⟩ := h0
  exact va_Nc.moved hE.1.alike (h a0 h2)
/-- a contract of a method with a table of handlers -/
theorem g_ofH {y : MethodName} {ret : Option FieldType} {as : List Value} {hh : List (Nat × Nat × Nat × Nat)} {Rt : Option Value → wd → Prop} {Xt : String → wd → Prop} (h0 : gS0 s0) (htr : l.stackTraces = false) (hy : plainName y.cls = true) (hlen : (lg_sl as).length ≤ nL)
    (body : ∀ b : gBt, gAm b l s0 G cc y.cls nL rm → gQm b s0 G ret rm y.name (tableOf hh) Rt Xt → gX b s0 G 0 0 0 (lv_args 0 as) [] w) : gM l s0 G y [Cond.codeWith y cc nL ret hh] rm as w Rt Xt := by
  refine vx_ofWH hy rfl ?_
  intro p e s m args below meth c s₁ B hml hv
  obtain ⟨rfl, hE, hP⟩ := hv
  have hown : s.vm.findClass y.cls = some m.cls := findClass_of_methodNamed B.named
  have htb : c.exceptionTable.toList = tableOf hh := vx_table (x := y) B (atoms_spec (ws := [Cond.codeWith y cc nL ret hh]) B.pre _ (List.mem_singleton.mpr rfl))
  have hl := lv_entry as hlen
  have K := body (p, l, e, rm, s, m, as.toArray, below, meth, c, vx_MQ below (gQc s0 G Rt) (gXc s0 G Xt) as.toArray s rm.cells rm.slots (gA s0)) ⟨B.exec, B.bytes, hown, h0, hE, B.notSynchronized, htr, hml, rfl, rfl⟩ ⟨B.returns, htb, rfl, (name_of_methodNamed B.named B.method).1⟩ s.heap [] _ hP va_S.rf (by show lv_has _ c.maxLocals _; rw [hml]; exact hl)
  rw [lg_entry_eq]
  exact K
def gOkH (y : MethodName) (bytes : ByteArray) (maxL : Nat) (ret : Option FieldType) (hh : List (Nat × Nat × Nat × Nat)) (na : Nat) : Prop :=
  Cond.codeWith y bytes maxL ret hh ∈ gT ∧ Cond.initialized y.cls ∈ gT ∧ (y.cls ≠ "java/lang/invoke/MethodHandle" ∧ y.cls ≠ "java/lang/invoke/VarHandle") ∧ (parseMethodDescriptor y.desc).map (fun d => d.parameters.length) = some na
theorem x_callSH (Z : gAm b l s0 G cc own nL rm) {y : MethodName} {bytes : ByteArray} {maxL index na : Nat} {ret : Option FieldType} {hh : List (Nat × Nat × Nat × Nat)} {rm' : Room} {As : List Value} {Rt : Option Value → wd → Prop} (hok : gOkH y bytes maxL ret hh na) (hlk : Cond.methodLink own index y ∈ gT) (hi : Cond.static y ∈ gT) (d : decode cc pc = .ok (.invokestatic index, 3)) (hM : gM l s0 G y [Cond.codeWith y bytes maxL ret hh] rm' As w Rt noX) (hroom : rmIn rm' rm maxL k n) (hna : As.length = na) (hst : st = As.reverse ++ rest) (hcat : (rest.map fun v => v.category).sum ≤ 8)
    (kk : ∀ (v : Option Value) (w' : wd), Rt v w' → gX b s0 G (k + rm'.cells) (n + rm'.slots) (pc + 3) L (v.toList ++ rest) w') : gX b s0 G k n pc L st w := by
  have h1 := Z.word hi
  have h2 := Z.word hlk
  have h3 := Z.word hok.1
  have h4 := Z.word hok.2.1
  have hfx := g_fix Z
  obtain ⟨-, -, -, -, hE, -, -, hml, hR, hbl⟩ := Z
  subst hst
  rw [← hbl] at hM
  exact fun H locs ls hP hS hl => g_beh (vx_runSW (hh := hh) hfx (g_met hM) ⟨⟨rfl, rfl, by rw [hR]; exact hroom.1, by rw [hR]; exact hroom.2.1, (fun q hq a' U hW => by rcases List.mem_singleton.mp hq with rfl; exact word_at hW (Or.inl rfl) h3), List.mem_singleton.mpr rfl⟩, h3, h4, hok.2.2.1, g_par hok.2.2.2, h2, h1⟩ ⟨g_blind, g_pc hE hP hS⟩ rfl hna (hl.1.trans hml) rfl (lv_room hcat) d ⟨by rw [hR]; exact hroom.2.2.1, by rw [hR]; exact hroom.2.2.2⟩) hS hl kk
end GH
end
section
/-! object init, statics, pure words, the state of a text -/
section GI
variable {b : gBt} {l : Launch} {s0 : State} {G : gK} {cc : ByteArray} {own : String} {nL : Nat} {rm : Room} {k n pc : Nat} {L : List (Nat × Value)} {st rest : List Value} {w : wd}
theorem obj_i : Cond.instanceMethod objectInit ∈ gT := by decide +kernel
theorem obj_c : Cond.code objectInit ⟨#[0xb1]⟩ 1 none ∈ gT := by decide +kernel
theorem x_objI (Z : gAm b l s0 G cc own nL rm) {idx a : Nat} (hlk : Cond.methodLink own idx objectInit ∈ gT) (d : decode cc pc = .ok (.invokespecial idx, 3)) (h1 : 1 ≤ rm.frames) (h2 : (st.map fun v => v.category).sum ≤ 8) (h3 : 20 ≤ rm.locals) (kk : gX b s0 G k n (pc + 3) L st w) : gX b s0 G k n pc L (rv a :: st) w := by
  have w1 := Z.word hlk
  have w2 := Z.word obj_i
  have w3 := Z.word obj_c
  obtain ⟨hx, hb, ho, -, -, -, -, hml, hR, -⟩ := Z
  exact fun H locs ls hP hS hl => W.objInit hx hb ho w1 w2 w3 rfl hl.1 rfl d (by rw [hR]; exact h1) (by rw [hR]; have := lv_room (pc := pc) (ls := ls) (rest := rv a :: st) (m := bm b) h2; omega) (kk H locs ls hP hS hl)
theorem st_tab0 {C nm d0 : String} {ty : FieldType} {N : Nat} {F : Int → Int} (h0 : gS0 s0) (hN : N < 2147483648) (hl : Cond.laysStatic C nm d0 ∈ lw_tbl) (hini : Cond.initialized C ∈ lw_tbl) (harr : Cond.arrayOf (.static C nm d0) ty ∈ flatC (Jvm.Cond.and given_1 narrow_1)) (hlen : Cond.eq (.length (.static C nm d0)) (.int (Int32.ofNat N)) ∈ flatC (Jvm.Cond.and given_1 narrow_1)) (hel : ∀ j, j < N → Cond.eq (.elem (.static C nm d0) (.int (Int32.ofNat j))) (.int (zI (F (j : Int)))) ∈ flatC (Jvm.Cond.and given_1 narrow_1)) : ∃ t : Nat, va_Z C nm d0 (.ref t) (gA s0) s0 s0.heap ∧ va_T ty t N (fun j => iv (F (j : Int))) (gA s0) s0 s0.heap := by
  obtain ⟨a0, h1, h2⟩ := h0
  have hf := flat_of_before _ h2
  have hA : ∀ a : Nat, a < s0.heap.size → ¬ gA s0 a := fun a h => Nat.not_le.mpr h
  obtain ⟨t, e1, e2⟩ := va_Tof (args := a0) (f := fun j => iv (F (j : Int))) (A := gA s0) (show N < 2 ^ 31 by omega) (hf _ harr) (va_eqt (hf _ hlen)) (fun j hj => va_eqt (hf _ (hel j hj))) hA
  exact ⟨t, va_Zref (h1 _ hl) (h1 _ hini) e1 hA, e2⟩
theorem st_mv {s : State} {C nm d0 : String} {v : Value} (hE : gEnv s0 G s) (h : va_Z C nm d0 v (gA s0) s0 s0.heap) : va_Z C nm d0 v (gA s0) s s.heap := va_Z.moved hE.1.alike (va_Z.kept h (fun a ha _ => hE.2.2.1 a ha))
theorem st_mvT {s : State} {ty : FieldType} {t N : Nat} {f : Nat → Value} (hE : gEnv s0 G s) (h : va_T ty t N f (gA s0) s0 s0.heap) : va_T ty t N f (gA s0) s s.heap := va_T.moved hE.1.alike (va_T.kept h (fun a ha _ => hE.2.2.1 a ha))
def kinL : List Int := [15, 15, 15, 15, 15, 15, 15, 15, 15, 15, 15, 15, 15, 15, 15, 15, 15, 15, 15, 15, 15, 15, 15, 15, 15, 15, 15, 15, 15, 15, 15, 15, 12, 24, 24, 24, 26, 24, 24, 24, 21, 22, 24, 25, 24, 20, 24, 24, 9, 9, 9, 9, 9, 9, 9, 9, 9, 9, 24, 24, 25, 25, 25, 24, 24, 1, 1, 1, 1, 1, 1, 1, 1, 1, 1, 1, 1, 1, 1, 1, 1, 1, 1, 1, 1, 1, 1, 1, 1, 1, 1, 21, 24, 22, 27, 23, 27, 2, 2, 2, 2, 2, 2, 2, 2, 2, 2, 2, 2, 2, 2, 2, 2, 2, 2, 2, 2, 2, 2, 2, 2, 2, 2, 21, 25, 22, 25, 15, 15, 15, 15, 15, 15, 15, 15, 15, 15, 15, 15, 15, 15, 15, 15, 15, 15, 15, 15, 15, 15, 15, 15, 15, 15, 15, 15, 15, 15, 15, 15, 15, 12, 24, 26, 26, 26, 26, 28, 24, 27, 28, 5, 29, 25, 16, 28, 27, 28, 25, 11, 11, 27, 2, 24, 24, 27, 11, 5, 30, 11, 11, 11, 24, 1, 1, 1, 1, 1, 1, 1, 1, 1, 1, 1, 1, 1, 1, 1, 1, 1, 1, 1, 1, 1, 1, 1, 25, 1, 1, 1, 1, 1, 1, 1, 2, 2, 2, 2, 2, 2, 2, 2, 2, 2, 2, 2, 2, 2, 2, 2, 2, 2, 2, 2, 2, 2, 2, 2, 25, 2, 2, 2, 2, 2, 2, 2, 2]
def kqL : List Int := [2147483647, 38, 512, 550, 2, 36, 0, 0, 4096, 32768, 1616904192, 75497510, 75596326, 98304, 33554432]
def fsL : List Int := [11, 2, 7, 14]
def osL : List Int := [12, 2, 7, 14, 6]
def kin (c : Int) : Int := kinL.getD c.toNat 0
def kq (q : Int) : Int := kqL.getD q.toNat 0
def fs4 (s : Int) : Int := fsL.getD s.toNat 0
def os5 (s : Int) : Int := osL.getD s.toNat 0
set_option maxRecDepth 100000 in
theorem sl_K : (List.range 256).map (fun j : Nat => Cond.eq (.elem (.static "Kindcutter$Signs" "KINDS" "[B") (.int (Int32.ofNat j))) (.int (zI (kin (j : Int))))) = ((flatC (Jvm.Cond.and given_1 narrow_1)).drop 7).take 256 := by decide +kernel
theorem sq_K : ∀ j, j < 256 → (fun j : Nat => Cond.eq (.elem (.static "Kindcutter$Signs" "KINDS" "[B") (.int (Int32.ofNat j))) (.int (zI (kin (j : Int))))) j ∈ flatC (Jvm.Cond.and given_1 narrow_1) := fun j hj => List.mem_of_mem_drop (i := 7) (List.mem_of_mem_take (i := 256) (by rw [← sl_K]; exact List.mem_map.mpr ⟨j, List.mem_range.mpr hj, rfl⟩))
set_option maxRecDepth 100000 in
theorem st_KINDS (h0 : gS0 s0) (Z : gAm b l s0 G cc own nL rm) : ∃ t : Nat, va_Z "Kindcutter$Signs" "KINDS" "[B" (.ref t) (gA s0) (bs b) (bs b).heap ∧ va_T .byte t 256 (fun j => iv (kin (j : Int))) (gA s0) (bs b) (bs b).heap := by
  obtain ⟨t, h1, h2⟩ := st_tab0 (ty := .byte) (F := kin) h0 (by decide) (C := "Kindcutter$Signs") (nm := "KINDS") (d0 := "[B") (by decide +kernel) (by decide +kernel) (by decide +kernel) (by decide +kernel) sq_K
  obtain ⟨-, -, -, -, hE, -⟩ := Z
  exact ⟨t, st_mv hE h1, st_mvT hE h2⟩
set_option maxRecDepth 100000 in
theorem sl_Q : (List.range 15).map (fun j : Nat => Cond.eq (.elem (.static "Kindcutter$Signs" "KINDS_OF_QUESTION" "[I") (.int (Int32.ofNat j))) (.int (zI (kq (j : Int))))) = ((flatC (Jvm.Cond.and given_1 narrow_1)).drop 273).take 15 := by decide +kernel
theorem sq_Q : ∀ j, j < 15 → (fun j : Nat => Cond.eq (.elem (.static "Kindcutter$Signs" "KINDS_OF_QUESTION" "[I") (.int (Int32.ofNat j))) (.int (zI (kq (j : Int))))) j ∈ flatC (Jvm.Cond.and given_1 narrow_1) := fun j hj => List.mem_of_mem_drop (i := 273) (List.mem_of_mem_take (i := 15) (by rw [← sl_Q]; exact List.mem_map.mpr ⟨j, List.mem_range.mpr hj, rfl⟩))
set_option maxRecDepth 100000 in
theorem st_KINDS_OF_QUESTION (h0 : gS0 s0) (Z : gAm b l s0 G cc own nL rm) : ∃ t : Nat, va_Z "Kindcutter$Signs" "KINDS_OF_QUESTION" "[I" (.ref t) (gA s0) (bs b) (bs b).heap ∧ va_T .int t 15 (fun j => iv (kq (j : Int))) (gA s0) (bs b) (bs b).heap := by
  obtain ⟨t, h1, h2⟩ := st_tab0 (ty := .int) (F := kq) h0 (by decide) (C := "Kindcutter$Signs") (nm := "KINDS_OF_QUESTION") (d0 := "[I") (by decide +kernel) (by decide +kernel) (by decide +kernel) (by decide +kernel) sq_Q
  obtain ⟨-, -, -, -, hE, -⟩ := Z
  exact ⟨t, st_mv hE h1, st_mvT hE h2⟩
set_option maxRecDepth 100000 in
theorem sl_F : (List.range 4).map (fun j : Nat => Cond.eq (.elem (.static "Kindcutter$Signs" "FIRST_OF_SORT" "[I") (.int (Int32.ofNat j))) (.int (zI (fs4 (j : Int))))) = ((flatC (Jvm.Cond.and given_1 narrow_1)).drop 266).take 4 := by decide +kernel
theorem sq_F : ∀ j, j < 4 → (fun j : Nat => Cond.eq (.elem (.static "Kindcutter$Signs" "FIRST_OF_SORT" "[I") (.int (Int32.ofNat j))) (.int (zI (fs4 (j : Int))))) j ∈ flatC (Jvm.Cond.and given_1 narrow_1) := fun j hj => List.mem_of_mem_drop (i := 266) (List.mem_of_mem_take (i := 4) (by rw [← sl_F]; exact List.mem_map.mpr ⟨j, List.mem_range.mpr hj, rfl⟩))
set_option maxRecDepth 100000 in
theorem st_FIRST_OF_SORT (h0 : gS0 s0) (Z : gAm b l s0 G cc own nL rm) : ∃ t : Nat, va_Z "Kindcutter$Signs" "FIRST_OF_SORT" "[I" (.ref t) (gA s0) (bs b) (bs b).heap ∧ va_T .int t 4 (fun j => iv (fs4 (j : Int))) (gA s0) (bs b) (bs b).heap := by
  obtain ⟨t, h1, h2⟩ := st_tab0 (ty := .int) (F := fs4) h0 (by decide) (C := "Kindcutter$Signs") (nm := "FIRST_OF_SORT") (d0 := "[I") (by decide +kernel) (by decide +kernel) (by decide +kernel) (by decide +kernel) sq_F
  obtain ⟨-, -, -, -, hE, -⟩ := Z
  exact ⟨t, st_mv hE h1, st_mvT hE h2⟩
set_option maxRecDepth 100000 in
theorem sl_O : (List.range 5).map (fun j : Nat => Cond.eq (.elem (.static "Kindcutter$Signs" "OTHERS_OF_SORT" "[I") (.int (Int32.ofNat j))) (.int (zI (os5 (j : Int))))) = ((flatC (Jvm.Cond.and given_1 narrow_1)).drop 291).take 5 := by decide +kernel
theorem sq_O : ∀ j, j < 5 → (fun j : Nat => Cond.eq (.elem (.static "Kindcutter$Signs" "OTHERS_OF_SORT" "[I") (.int (Int32.ofNat j))) (.int (zI (os5 (j : Int))))) j ∈ flatC (Jvm.Cond.and given_1 narrow_1) := fun j hj => List.mem_of_mem_drop (i := 291) (List.mem_of_mem_take (i := 5) (by rw [← sl_O]; exact List.mem_map.mpr ⟨j, List.mem_range.mpr hj, rfl⟩))
set_option maxRecDepth 100000 in
theorem st_OTHERS_OF_SORT (h0 : gS0 s0) (Z : gAm b l s0 G cc own nL rm) : ∃ t : Nat, va_Z "Kindcutter$Signs" "OTHERS_OF_SORT" "[I" (.ref t) (gA s0) (bs b) (bs b).heap ∧ va_T .int t 5 (fun j => iv (os5 (j : Int))) (gA s0) (bs b) (bs b).heap := by
  obtain ⟨t, h1, h2⟩ := st_tab0 (ty := .int) (F := os5) h0 (by decide) (C := "Kindcutter$Signs") (nm := "OTHERS_OF_SORT") (d0 := "[I") (by decide +kernel) (by decide +kernel) (by decide +kernel) (by decide +kernel) sq_O
  obtain ⟨-, -, -, -, hE, -⟩ := Z
  exact ⟨t, st_mv hE h1, st_mvT hE h2⟩
end GI
end
section
/-! pure words: loops as functions, what is so of signs, the state of a text -/
def forF {σ : Type} (f : Int → σ → σ) : Nat → Int → σ → σ
  | 0, _, v => v
  | k + 1, i, v => forF f k (i + 1) (f i v)
def forI {σ : Type} (f : Int → σ → σ) (i n : Int) (v : σ) : σ := forF f (n - i).toNat i v
theorem forI_s {σ : Type} {f : Int → σ → σ} {i n : Int} {v : σ} (h : i < n) : forI f i n v = forI f (i + 1) n (f i v) := by
  unfold forI
  have e : (n - i).toNat = (n - (i + 1)).toNat + 1 := by omega
  rw [e]
  rfl
theorem forI_e {σ : Type} {f : Int → σ → σ} {i n : Int} {v : σ} (h : n ≤ i) : forI f i n v = v := by
  unfold forI
  have e : (n - i).toNat = 0 := by omega
  rw [e]
  rfl
def findF (P : Int → Bool) : Nat → Int → Int
  | 0, i => i
  | k + 1, i => match P i with
    | true => i
    | false => findF P k (i + 1)
def findI (P : Int → Bool) (i n : Int) : Int := findF P (n - i).toNat i
theorem findI_h {P : Int → Bool} {i n : Int} (hp : P i = true) : findI P i n = i := by
  unfold findI
  cases (n - i).toNat with
  | zero => rfl
  | succ k => show (match P i with | true => i | false => findF P k (i + 1)) = i; rw [hp]
theorem findI_m {P : Int → Bool} {i n : Int} (h : i < n) (hp : P i = false) : findI P i n = findI P (i + 1) n := by
  unfold findI
  have e : (n - i).toNat = (n - (i + 1)).toNat + 1 := by omega
  rw [e]
  show (match P i with | true => i | false => findF P _ (i + 1)) = _
  rw [hp]
theorem findI_e {P : Int → Bool} {i n : Int} (h : n ≤ i) : findI P i n = i := by
  unfold findI
  have e : (n - i).toNat = 0 := by omega
  rw [e]
  rfl
theorem findF_in {P : Int → Bool} : ∀ (k : Nat) (i : Int), i ≤ findF P k i ∧ findF P k i ≤ i + (k : Int)
  | 0, i => ⟨Int.le_refl _, by show i ≤ i + ((0 : Nat) : Int); omega⟩
  | k + 1, i => by
    show i ≤ (match P i with | true => i | false => findF P k (i + 1)) ∧ (match P i with | true => i | false => findF P k (i + 1)) ≤ i + ((k + 1 : Nat) : Int)
    have h := findF_in (P := P) k (i + 1)
    cases P i with
    | true => exact ⟨Int.le_refl _, by show i ≤ i + ((k + 1 : Nat) : Int); omega⟩
    | false => exact ⟨by show i ≤ findF P k (i + 1); omega, by show findF P k (i + 1) ≤ i + ((k + 1 : Nat) : Int); omega⟩
theorem findI_in {P : Int → Bool} {i n : Int} (h : i ≤ n) : i ≤ findI P i n ∧ findI P i n ≤ n := by
  have h1 := findF_in (P := P) (n - i).toNat i
  unfold findI
  omega
/-! signs -/
def inB (m c : Int) : Bool := decide (bAnd (bShr m c) 1 = 1)
def blk (c : Int) : Bool := (decide (9 ≤ c) && decide (c ≤ 13)) || (decide (28 ≤ c) && decide (c ≤ 32))
def so (c q : Int) : Bool :=
  if q = 7 then blk c else if q = 10 then (inB (kq q) (kin c) || (decide (c = 60) || decide (c = 62))) else if q = 12 then (inB (kq q) (kin c) && !blk c) else if q = 13 then (inB (kq q) (kin c) && !blk c) else inB (kq q) (kin c)
def sb (c : Int) : Int := if so c 11 = true then 0 else if so c 2 = true then 1 else if so c 7 = true then 2 else if so c 14 = true then 3 else 4
def oth (s : Int) : Int := os5 s
theorem kin_in (c : Int) : 0 ≤ kin c ∧ kin c ≤ 30 := by
  have h : ∀ x ∈ kinL, 0 ≤ x ∧ x ≤ 30 := by decide +kernel
  unfold kin
  rcases Nat.lt_or_ge c.toNat kinL.length with q | q
  · rw [List.getD_eq_getElem?_getD, List.getElem?_eq_getElem q]
    exact h _ (List.getElem_mem q)
  · rw [List.getD_eq_getElem?_getD, List.getElem?_eq_none q]
    decide
theorem sb_in (c : Int) : 0 ≤ sb c ∧ sb c ≤ 4 := by
  unfold sb
  split
  · omega
  · split
    · omega
    · split
      · omega
      · split <;> omega
theorem oth_in {s : Int} (h1 : 0 ≤ s) (h2 : s ≤ 4) : 0 ≤ oth s ∧ oth s ≤ 14 := by
  rcases (by omega : s = 0 ∨ s = 1 ∨ s = 2 ∨ s = 3 ∨ s = 4) with h | h | h | h | h <;> subst h <;> decide
theorem fs4_in {s : Int} (h1 : 0 ≤ s) (h2 : s ≤ 3) : 0 ≤ fs4 s ∧ fs4 s ≤ 14 := by
  rcases (by omega : s = 0 ∨ s = 1 ∨ s = 2 ∨ s = 3) with h | h | h | h <;> subst h <;> decide
theorem bAnd1 (x : Int) : bAnd x 1 = 0 ∨ bAnd x 1 = 1 := by
  unfold bAnd
  rw [pk_and (zI x) (m := zI 1) 1 (by decide +kernel)]
  have h : (zI x).toBitVec.toNat % 2 ^ 1 = 0 ∨ (zI x).toBitVec.toNat % 2 ^ 1 = 1 := by omega
  rcases h with h | h <;> rw [h] <;> decide
theorem bAnd1_in (x : Int) : inr (bAnd x 1) := by rcases bAnd1 x with h | h <;> rw [h] <;> exact ⟨by decide, by decide⟩
theorem bAnd_in (x y : Int) : inr (bAnd x y) := ⟨Int32.le_toInt _, by have := Int32.toInt_lt (zI x &&& zI y); unfold bAnd; omega⟩
theorem bOr_in (x y : Int) : inr (bOr x y) := ⟨Int32.le_toInt _, by have := Int32.toInt_lt (zI x ||| zI y); unfold bOr; omega⟩
theorem bShl_in (x y : Int) : inr (bShl x y) := ⟨Int32.le_toInt _, by have := Int32.toInt_lt (zI x <<< (zI y &&& 31)); unfold bShl; omega⟩
theorem bXor_in (x y : Int) : inr (bXor x y) := ⟨Int32.le_toInt _, by have := Int32.toInt_lt (zI x ^^^ zI y); unfold bXor; omega⟩
theorem inB_v (m c : Int) : b2 (inB m c) = bAnd (bShr m c) 1 := by
  unfold inB
  rcases bAnd1 (bShr m c) with h | h <;> rw [h] <;> decide
/-- a sign as a byte, and back -/
theorem sgn_byte {c : Int} (h1 : 0 ≤ c) (h2 : c ≤ 255) : bAnd (bB c) 255 = c := by
  have h : ∀ k : Fin 256, bAnd (bB ((k.val : Nat) : Int)) 255 = ((k.val : Nat) : Int) := by decide +kernel
  have e := h ⟨c.toNat, by omega⟩
  have e2 : ((c.toNat : Nat) : Int) = c := Int.toNat_of_nonneg h1
  rw [e2] at e
  exact e
theorem bB_bB {c : Int} : bB (bB c) = bB c := by
  have h : narrow .byte (.int (zI (bB c))) = .int (zI (bB c)) := by rw [zI_bB]; exact pk_nb (zI c)
  have h2 : (Value.int (zI (bB (bB c)))) = .int (zI (bB c)) := g_nb.symm.trans h
  have h3 : zI (bB (bB c)) = zI (bB c) := Value.int.inj h2
  have h4 : (bB (bB c)) = (zI (bB (bB c))).toInt := by rw [zI_bB]; rfl
  rw [h4, h3, zI_bB]
  rfl
/-! a text: its object at a, its row at r, its own row of ints at bb; n signs, C place by place -/
def sgF (C : Int → Int) : Int → Int := fun j => bB (C j)
def tX (G : gK) (w : wd) (a r bb : Nat) (n : Int) (C B : Int → Int) : Prop :=
  w a = some (eO 2 [rv r, iv n, rv bb]) ∧ w r = some (eB G 30 (sgF C)) ∧ w bb = some (eI G 31 B) ∧ 0 ≤ n ∧ n ≤ 30 ∧ ∀ j, 0 ≤ C j ∧ C j ≤ 255
/-- how long the longest piece at p is -/
def lon (n : Int) (C : Int → Int) (p : Int) : Int := findI (fun e => !so (C e) (oth (sb (C p)))) (p + 1) n - p
theorem lon_in {n : Int} {C : Int → Int} {p : Int} (h : p < n) : 1 ≤ lon n C p ∧ lon n C p ≤ n - p := by
  have := findI_in (P := fun e => !so (C e) (oth (sb (C p)))) (i := p + 1) (n := n) (by omega)
  unfold lon
  omega
def mstep (P : Int → Bool) (i v : Int) : Int := if P i = true then bOr v (bShl 1 i) else v
theorem mstep_t {P : Int → Bool} {i v : Int} (h : P i = true) : mstep P i v = bOr v (bShl 1 i) := if_pos h
theorem mstep_f {P : Int → Bool} {i v : Int} (h : P i = false) : mstep P i v = v := if_neg (by rw [h]; decide)
/-- the places below n at which P holds, as a set of bits -/
def msk (P : Int → Bool) (n : Int) : Int := forI (mstep P) 0 n 0
theorem so10 {c q : Int} (h : q = 10) : so c q = (inB (kq q) (kin c) || (decide (c = 60) || decide (c = 62))) := by subst h; rfl
theorem so12 {c q : Int} (h : q = 12 ∨ q = 13) : so c q = (inB (kq q) (kin c) && !blk c) := by rcases h with h | h <;> subst h <;> rfl
theorem so_o {c q : Int} (h1 : q ≠ 7) (h2 : q ≠ 10) (h3 : q ≠ 12) (h4 : q ≠ 13) : so c q = inB (kq q) (kin c) := by
  unfold so
  rw [if_neg h1, if_neg h2, if_neg h3, if_neg h4]
theorem sb_is {c i : Int} (h0 : 0 ≤ i) (h4 : i < 4) (hf : ∀ j, 0 ≤ j → j < i → so c (fs4 j) = false) (ht : so c (fs4 i) = true) : sb c = i := by
  have e0 : fs4 0 = 11 := by decide
  have e1 : fs4 1 = 2 := by decide
  have e2 : fs4 2 = 7 := by decide
  have e3 : fs4 3 = 14 := by decide
  unfold sb
  rcases (by omega : i = 0 ∨ i = 1 ∨ i = 2 ∨ i = 3) with h | h | h | h <;> subst h
  · rw [e0] at ht; simp [ht]
  · have f0 := hf 0 (by omega) (by omega); rw [e0] at f0; rw [e1] at ht; simp [ht, f0]
  · have f0 := hf 0 (by omega) (by omega); have f1 := hf 1 (by omega) (by omega); rw [e0] at f0; rw [e1] at f1; rw [e2] at ht; simp [ht, f0, f1]
  · have f0 := hf 0 (by omega) (by omega); have f1 := hf 1 (by omega) (by omega); have f2 := hf 2 (by omega) (by omega); rw [e0] at f0; rw [e1] at f1; rw [e2] at f2; rw [e3] at ht; simp [ht, f0, f1, f2]
theorem sb_no {c : Int} (hf : ∀ j, 0 ≤ j → j < 4 → so c (fs4 j) = false) : sb c = 4 := by
  have f0 := hf 0 (by omega) (by omega)
  have f1 := hf 1 (by omega) (by omega)
  have f2 := hf 2 (by omega) (by omega)
  have f3 := hf 3 (by omega) (by omega)
  rw [show fs4 0 = 11 by decide] at f0
  rw [show fs4 1 = 2 by decide] at f1
  rw [show fs4 2 = 7 by decide] at f2
  rw [show fs4 3 = 14 by decide] at f3
  unfold sb
  simp [f0, f1, f2, f3]
section GP
variable {b : gBt} {l : Launch} {s0 : State} {G : gK} {cc : ByteArray} {own : String} {nL : Nat} {rm : Room} {k n pc : Nat} {L : List (Nat × Value)} {st : List Value} {w : wd}
theorem x_ib (q : Bool) (Z : gAm b l s0 G cc own nL rm) {z : Int} (d : decode cc pc = .ok (.iconst z, 1)) (hz : z = b2 q) (kk : gX b s0 G k n (pc + 1) L (iv (b2 q) :: st) w) : gX b s0 G k n pc L st w := by
  subst hz
  exact x_iconst Z d kk
end GP
end
section
/-! words of the tables, fields of the classes, what stands of each method -/
theorem q36 : Cond.initialized RX2 ∈ gT := gt_of 36 rfl rfl
theorem q37 : Cond.initialized RX1 ∈ gT := gt_of 37 rfl rfl
theorem q45 : Cond.initialized RX0 ∈ gT := gt_of 45 rfl rfl
theorem q72 : Cond.fieldLink RX1 9 "Kindcutter$Text" "row" "[B" ∈ gT := gt_of 72 rfl rfl
theorem q73 : Cond.fieldLink RX1 19 "Kindcutter$Text" "many" "I" ∈ gT := gt_of 73 rfl rfl
theorem q109 : Cond.static yX0_kindNumber ∈ gT := gt_of 109 rfl rfl
theorem q110 : Cond.code yX0_kindNumber cX0_kindNumber 1 (some .int) ∈ gT := gt_of 110 rfl rfl
theorem q111 : Cond.fieldLink RX0 11 "Kindcutter$Signs" "KINDS" "[B" ∈ gT := gt_of 111 rfl rfl
theorem q121 : Cond.methodLink RX1 49 yX1_longestAt ∈ gT := gt_of 121 rfl rfl
theorem q122 : Cond.instanceMethod yX1_longestAt ∈ gT := gt_of 122 rfl rfl
theorem q123 : Cond.selects RX1 yX1_longestAt yX1_longestAt ∈ gT := gt_of 123 rfl rfl
theorem q124 : Cond.code yX1_longestAt cX1_longestAt 4 (some .int) ∈ gT := gt_of 124 rfl rfl
theorem q125 : Cond.methodLink RX1 23 yX1_signAt ∈ gT := gt_of 125 rfl rfl
theorem q126 : Cond.instanceMethod yX1_signAt ∈ gT := gt_of 126 rfl rfl
theorem q127 : Cond.selects RX1 yX1_signAt yX1_signAt ∈ gT := gt_of 127 rfl rfl
theorem q128 : Cond.code yX1_signAt cX1_signAt 2 (some .int) ∈ gT := gt_of 128 rfl rfl
theorem q129 : Cond.methodLink RX1 46 yX0_sortBegunBy ∈ gT := gt_of 129 rfl rfl
theorem q130 : Cond.static yX0_sortBegunBy ∈ gT := gt_of 130 rfl rfl
theorem q131 : Cond.code yX0_sortBegunBy cX0_sortBegunBy 2 (some .int) ∈ gT := gt_of 131 rfl rfl
theorem q132 : Cond.fieldLink RX0 30 "Kindcutter$Signs" "FIRST_OF_SORT" "[I" ∈ gT := gt_of 132 rfl rfl
theorem q134 : Cond.methodLink RX0 27 yX0_isSo ∈ gT := gt_of 134 rfl rfl
theorem q135 : Cond.static yX0_isSo ∈ gT := gt_of 135 rfl rfl
theorem q136 : Cond.code yX0_isSo cX0_isSo 3 (some .boolean) ∈ gT := gt_of 136 rfl rfl
theorem q137 : Cond.fieldLink RX0 15 "Kindcutter$Signs" "KINDS_OF_QUESTION" "[I" ∈ gT := gt_of 137 rfl rfl
theorem q139 : Cond.methodLinkNest RX0 19 yX2_isIn RX2 ∈ gT := gt_of 139 rfl rfl
theorem q140 : Cond.static yX2_isIn ∈ gT := gt_of 140 rfl rfl
theorem q141 : Cond.code yX2_isIn cX2_isIn 2 (some .boolean) ∈ gT := gt_of 141 rfl rfl
theorem q142 : Cond.methodLink RX0 23 yX0_isBlank ∈ gT := gt_of 142 rfl rfl
theorem q143 : Cond.static yX0_isBlank ∈ gT := gt_of 143 rfl rfl
theorem q144 : Cond.code yX0_isBlank cX0_isBlank 1 (some .boolean) ∈ gT := gt_of 144 rfl rfl
theorem q145 : Cond.methodLink RX1 56 yX0_questionOfOthers ∈ gT := gt_of 145 rfl rfl
theorem q146 : Cond.static yX0_questionOfOthers ∈ gT := gt_of 146 rfl rfl
theorem q147 : Cond.code yX0_questionOfOthers cX0_questionOfOthers 1 (some .int) ∈ gT := gt_of 147 rfl rfl
theorem q148 : Cond.fieldLink RX0 33 "Kindcutter$Signs" "OTHERS_OF_SORT" "[I" ∈ gT := gt_of 148 rfl rfl
theorem q150 : Cond.methodLink RX1 32 yX0_isSo ∈ gT := gt_of 150 rfl rfl
theorem q184 : Cond.methodLink RX1 52 yX0_isLet ∈ gT := gt_of 184 rfl rfl
theorem q185 : Cond.static yX0_isLet ∈ gT := gt_of 185 rfl rfl
theorem q186 : Cond.code yX0_isLet cX0_isLet 2 (some .boolean) ∈ gT := gt_of 186 rfl rfl
theorem q199 : Cond.constantLong RX2 216 31 ∈ gT := gt_of 199 rfl rfl
theorem q200 : Cond.methodLink RX1 36 yX1_kindAt ∈ gT := gt_of 200 rfl rfl
theorem q201 : Cond.instanceMethod yX1_kindAt ∈ gT := gt_of 201 rfl rfl
theorem q202 : Cond.selects RX1 yX1_kindAt yX1_kindAt ∈ gT := gt_of 202 rfl rfl
theorem q203 : Cond.code yX1_kindAt cX1_kindAt 2 (some .int) ∈ gT := gt_of 203 rfl rfl
theorem q204 : Cond.methodLink RX1 27 yX0_kindNumber ∈ gT := gt_of 204 rfl rfl
set_option maxRecDepth 100000 in
theorem inX1g : ∀ q ∈ u_ws RX1 TX1 3, q ∈ gT := by decide +kernel
set_option maxRecDepth 100000 in
theorem inX2g : ∀ q ∈ u_ws RX2 TX2 4, q ∈ gT := by decide +kernel
set_option maxRecDepth 100000 in
theorem inX3g : ∀ q ∈ u_ws RX3 TX3 2, q ∈ gT := by decide +kernel
set_option maxRecDepth 100000 in
theorem inX4g : ∀ q ∈ u_ws RX4 TX4 7, q ∈ gT := by decide +kernel
set_option maxRecDepth 100000 in
theorem wsIO : ∀ q ∈ Cond.classLink RX2 47 "java/lang/IndexOutOfBoundsException" :: Cond.initialized "java/lang/IndexOutOfBoundsException" :: vx_at0 RX2 49 "java/lang/IndexOutOfBoundsException" exN, q ∈ gT ∧ vx_ot q = true := by decide +kernel
set_option maxRecDepth 100000 in
theorem wsIA : ∀ q ∈ Cond.classLink RX2 71 "java/lang/IllegalArgumentException" :: Cond.initialized "java/lang/IllegalArgumentException" :: vx_at0 RX2 73 "java/lang/IllegalArgumentException" exN, q ∈ gT ∧ vx_ot q = true := by decide +kernel
theorem okX2_isIn : gOk yX2_isIn cX2_isIn 2 (some .boolean) 2 := ⟨q141, q36, ⟨by decide +kernel, by decide +kernel⟩, by decide +kernel⟩
theorem okX0_isBlank : gOk yX0_isBlank cX0_isBlank 1 (some .boolean) 1 := ⟨q144, q45, ⟨by decide +kernel, by decide +kernel⟩, by decide +kernel⟩
theorem okX0_isSo : gOk yX0_isSo cX0_isSo 3 (some .boolean) 2 := ⟨q136, q45, ⟨by decide +kernel, by decide +kernel⟩, by decide +kernel⟩
theorem okX1_signAt : gOk yX1_signAt cX1_signAt 2 (some .int) 1 := ⟨q128, q37, ⟨by decide +kernel, by decide +kernel⟩, by decide +kernel⟩
theorem okX0_kindNumber : gOk yX0_kindNumber cX0_kindNumber 1 (some .int) 1 := ⟨q110, q45, ⟨by decide +kernel, by decide +kernel⟩, by decide +kernel⟩
theorem okX1_kindAt : gOk yX1_kindAt cX1_kindAt 2 (some .int) 1 := ⟨q203, q37, ⟨by decide +kernel, by decide +kernel⟩, by decide +kernel⟩
theorem okX0_sortBegunBy : gOk yX0_sortBegunBy cX0_sortBegunBy 2 (some .int) 1 := ⟨q131, q45, ⟨by decide +kernel, by decide +kernel⟩, by decide +kernel⟩
theorem okX0_questionOfOthers : gOk yX0_questionOfOthers cX0_questionOfOthers 1 (some .int) 1 := ⟨q147, q45, ⟨by decide +kernel, by decide +kernel⟩, by decide +kernel⟩
theorem okX1_longestAt : gOk yX1_longestAt cX1_longestAt 4 (some .int) 1 := ⟨q124, q37, ⟨by decide +kernel, by decide +kernel⟩, by decide +kernel⟩
theorem okX0_isLet : gOk yX0_isLet cX0_isLet 2 (some .boolean) 2 := ⟨q186, q45, ⟨by decide +kernel, by decide +kernel⟩, by decide +kernel⟩
end
section
/-! spec1: walks, by program -/
abbrev rmc_X2_isIn : Room := { frames := 0, cells := 0, slots := 0, locals := 0 }
set_option maxRecDepth 100000 in
theorem c_X2_isIn {l : Launch} {s0 : State} {G : gK} {w : wd} (h0 : gS0 s0) (htr : l.stackTraces = false) {m c : Int}  : gM l s0 G yX2_isIn [Cond.code yX2_isIn cX2_isIn 2 (some .boolean)] rmc_X2_isIn [iv m, iv c] w (fun v w' => v = some (iv (b2 (inB m c))) ∧ w' = w) (noX) := by
  refine g_of h0 htr (by decide +kernel) (Nat.le_of_ble_eq_true rfl) ?_
  intro b Z0 E
  have Z : gAm b l s0 G cX2_isIn RX2 2 rmc_X2_isIn := Z0
  refine x_el (L' := [(0, iv m), (1, iv c)]) rfl ?_
  refine x_iload_n Z dX2_isIn_0 rfl rfl ?_
  refine x_iload_n Z dX2_isIn_1 rfl rfl ?_
  refine x_ishr Z dX2_isIn_2 ?_
  refine x_iconst Z dX2_isIn_3 ?_
  refine x_iand Z dX2_isIn_4 ?_
  refine x_iconst Z dX2_isIn_5 ?_
  obtain ⟨hb1, hb2⟩ := bAnd1_in (bShr m c)
  refine x_icmp_ne Z 13 dX2_isIn_6 (by decide) ⟨by omega, by omega⟩ ⟨by omega, by omega⟩ (fun c6 => ?_) (fun c6 => ?_)
  ·
    refine x_ib false Z dX2_isIn_13 (by decide) ?_
    exact x_zret Z E (⟨by first | (rw [show inB m c = true from decide_eq_true c6]; done) | (rw [show inB m c = false from decide_eq_false c6]; done), rfl⟩) dX2_isIn_14 (Nat.le_of_ble_eq_true rfl) (Nat.le_of_ble_eq_true rfl)
  ·
    refine x_ib true Z dX2_isIn_9 (by decide) ?_
    refine x_goto Z 14 dX2_isIn_10 (by decide) ?_
    exact x_zret Z E (⟨by first | (rw [show inB m c = true from decide_eq_true c6]; done) | (rw [show inB m c = false from decide_eq_false c6]; done), rfl⟩) dX2_isIn_14 (Nat.le_of_ble_eq_true rfl) (Nat.le_of_ble_eq_true rfl)
abbrev rmc_X2_cutsOf : Room := { frames := 0, cells := 0, slots := 0, locals := 0 }
set_option maxRecDepth 100000 in
theorem c_X2_cutsOf {l : Launch} {s0 : State} {G : gK} {w : wd} (h0 : gS0 s0) (htr : l.stackTraces = false) {m : Int}  : gM l s0 G yX2_cutsOf [Cond.code yX2_cutsOf cX2_cutsOf 1 (some .int)] rmc_X2_cutsOf [iv m] w (fun v w' => v = some (iv (bAnd m (-2))) ∧ w' = w) (noX) := by
  refine g_of h0 htr (by decide +kernel) (Nat.le_of_ble_eq_true rfl) ?_
  intro b Z0 E
  have Z : gAm b l s0 G cX2_cutsOf RX2 1 rmc_X2_cutsOf := Z0
  refine x_el (L' := [(0, iv m)]) rfl ?_
  refine x_iload_n Z dX2_cutsOf_0 rfl rfl ?_
  refine x_bipush Z dX2_cutsOf_1 (by decide +kernel) ?_
  refine x_iand Z dX2_cutsOf_3 ?_
  exact x_iret Z E (⟨rfl, rfl⟩) dX2_cutsOf_4 (Nat.le_of_ble_eq_true rfl) (Nat.le_of_ble_eq_true rfl)
abbrev rmc_X2_mixed : Room := { frames := 0, cells := 0, slots := 0, locals := 0 }
set_option maxRecDepth 100000 in
theorem c_X2_mixed {l : Launch} {s0 : State} {G : gK} {w : wd} (h0 : gS0 s0) (htr : l.stackTraces = false) {x : Int64} {v : Int32}  : gM l s0 G yX2_mixed [Cond.code yX2_mixed cX2_mixed 3 (some .long)] rmc_X2_mixed [.long x, .int v] w (fun v9 w' => v9 = some (.long (x * 31 + v.toInt64)) ∧ w' = w) (noX) := by
  refine g_of h0 htr (by decide +kernel) (Nat.le_of_ble_eq_true rfl) ?_
  intro b Z0 E
  have Z : gAm b l s0 G cX2_mixed RX2 3 rmc_X2_mixed := Z0
  refine x_el (L' := [(0, .long x), (2, .int v)]) rfl ?_
  refine x_lload_n Z dX2_mixed_0 rfl rfl ?_
  refine x_ldc2 Z q199 dX2_mixed_1 ?_
  refine x_lmul Z dX2_mixed_4 ?_
  refine x_iload_n Z dX2_mixed_5 rfl rfl ?_
  refine x_i2l Z dX2_mixed_6 ?_
  refine x_ladd Z dX2_mixed_7 ?_
  exact x_lret Z E (⟨rfl, rfl⟩) dX2_mixed_8 (Nat.le_of_ble_eq_true rfl) (Nat.le_of_ble_eq_true rfl)
abbrev rmc_X0_isBlank : Room := { frames := 0, cells := 0, slots := 0, locals := 0 }
set_option maxRecDepth 100000 in
theorem c_X0_isBlank {l : Launch} {s0 : State} {G : gK} {w : wd} (h0 : gS0 s0) (htr : l.stackTraces = false) {c : Int} (h1 : 0 ≤ c) (h2 : c ≤ 255) : gM l s0 G yX0_isBlank [Cond.code yX0_isBlank cX0_isBlank 1 (some .boolean)] rmc_X0_isBlank [iv c] w (fun v w' => v = some (iv (b2 (blk c))) ∧ w' = w) (noX) := by
  refine g_of h0 htr (by decide +kernel) (Nat.le_of_ble_eq_true rfl) ?_
  intro b Z0 E
  have Z : gAm b l s0 G cX0_isBlank RX0 1 rmc_X0_isBlank := Z0
  refine x_el (L' := [(0, iv c)]) rfl ?_
  refine x_iload_n Z dX0_isBlank_0 rfl rfl ?_
  refine x_bipush Z dX0_isBlank_1 (by decide +kernel) ?_
  refine x_icmp_lt Z 12 dX0_isBlank_3 (by decide) ⟨by omega, by omega⟩ ⟨by omega, by omega⟩ (fun c3 => ?_) (fun c3 => ?_)
  ·
    refine x_iload_n Z dX0_isBlank_12 rfl rfl ?_
    refine x_bipush Z dX0_isBlank_13 (by decide +kernel) ?_
    refine x_icmp_lt Z 28 dX0_isBlank_15 (by decide) ⟨by omega, by omega⟩ ⟨by omega, by omega⟩ (fun c15 => ?_) (fun c15 => ?_)
    ·
      refine x_ib false Z dX0_isBlank_28 (by decide) ?_
      exact x_zret Z E (⟨by first | (rw [show blk c = true from by unfold blk; simp; omega]; done) | (rw [show blk c = false from by unfold blk; simp; omega]; done), rfl⟩) dX0_isBlank_29 (Nat.le_of_ble_eq_true rfl) (Nat.le_of_ble_eq_true rfl)
    ·
      refine x_iload_n Z dX0_isBlank_18 rfl rfl ?_
      refine x_bipush Z dX0_isBlank_19 (by decide +kernel) ?_
      refine x_icmp_gt Z 28 dX0_isBlank_21 (by decide) ⟨by omega, by omega⟩ ⟨by omega, by omega⟩ (fun c21 => ?_) (fun c21 => ?_)
      ·
        refine x_ib false Z dX0_isBlank_28 (by decide) ?_
        exact x_zret Z E (⟨by first | (rw [show blk c = true from by unfold blk; simp; omega]; done) | (rw [show blk c = false from by unfold blk; simp; omega]; done), rfl⟩) dX0_isBlank_29 (Nat.le_of_ble_eq_true rfl) (Nat.le_of_ble_eq_true rfl)
      ·
        refine x_ib true Z dX0_isBlank_24 (by decide) ?_
        refine x_goto Z 29 dX0_isBlank_25 (by decide) ?_
        exact x_zret Z E (⟨by first | (rw [show blk c = true from by unfold blk; simp; omega]; done) | (rw [show blk c = false from by unfold blk; simp; omega]; done), rfl⟩) dX0_isBlank_29 (Nat.le_of_ble_eq_true rfl) (Nat.le_of_ble_eq_true rfl)
  ·
    refine x_iload_n Z dX0_isBlank_6 rfl rfl ?_
    refine x_bipush Z dX0_isBlank_7 (by decide +kernel) ?_
    refine x_icmp_le Z 24 dX0_isBlank_9 (by decide) ⟨by omega, by omega⟩ ⟨by omega, by omega⟩ (fun c9 => ?_) (fun c9 => ?_)
    ·
      refine x_ib true Z dX0_isBlank_24 (by decide) ?_
      refine x_goto Z 29 dX0_isBlank_25 (by decide) ?_
      exact x_zret Z E (⟨by first | (rw [show blk c = true from by unfold blk; simp; omega]; done) | (rw [show blk c = false from by unfold blk; simp; omega]; done), rfl⟩) dX0_isBlank_29 (Nat.le_of_ble_eq_true rfl) (Nat.le_of_ble_eq_true rfl)
    ·
      refine x_iload_n Z dX0_isBlank_12 rfl rfl ?_
      refine x_bipush Z dX0_isBlank_13 (by decide +kernel) ?_
      refine x_icmp_lt Z 28 dX0_isBlank_15 (by decide) ⟨by omega, by omega⟩ ⟨by omega, by omega⟩ (fun c15 => ?_) (fun c15 => ?_)
      ·
        refine x_ib false Z dX0_isBlank_28 (by decide) ?_
        exact x_zret Z E (⟨by first | (rw [show blk c = true from by unfold blk; simp; omega]; done) | (rw [show blk c = false from by unfold blk; simp; omega]; done), rfl⟩) dX0_isBlank_29 (Nat.le_of_ble_eq_true rfl) (Nat.le_of_ble_eq_true rfl)
      ·
        refine x_iload_n Z dX0_isBlank_18 rfl rfl ?_
        refine x_bipush Z dX0_isBlank_19 (by decide +kernel) ?_
        refine x_icmp_gt Z 28 dX0_isBlank_21 (by decide) ⟨by omega, by omega⟩ ⟨by omega, by omega⟩ (fun c21 => ?_) (fun c21 => ?_)
        ·
          refine x_ib false Z dX0_isBlank_28 (by decide) ?_
          exact x_zret Z E (⟨by first | (rw [show blk c = true from by unfold blk; simp; omega]; done) | (rw [show blk c = false from by unfold blk; simp; omega]; done), rfl⟩) dX0_isBlank_29 (Nat.le_of_ble_eq_true rfl) (Nat.le_of_ble_eq_true rfl)
        ·
          refine x_ib true Z dX0_isBlank_24 (by decide) ?_
          refine x_goto Z 29 dX0_isBlank_25 (by decide) ?_
          exact x_zret Z E (⟨by first | (rw [show blk c = true from by unfold blk; simp; omega]; done) | (rw [show blk c = false from by unfold blk; simp; omega]; done), rfl⟩) dX0_isBlank_29 (Nat.le_of_ble_eq_true rfl) (Nat.le_of_ble_eq_true rfl)
abbrev rmc_X0_kindNumber : Room := { frames := 0, cells := 0, slots := 0, locals := 0 }
set_option maxRecDepth 100000 in
theorem c_X0_kindNumber {l : Launch} {s0 : State} {G : gK} {w : wd} (h0 : gS0 s0) (htr : l.stackTraces = false) {c : Int} (h1 : 0 ≤ c) (h2 : c ≤ 255) : gM l s0 G yX0_kindNumber [Cond.code yX0_kindNumber cX0_kindNumber 1 (some .int)] rmc_X0_kindNumber [iv c] w (fun v w' => v = some (iv (kin c)) ∧ w' = w) (noX) := by
  refine g_of h0 htr (by decide +kernel) (Nat.le_of_ble_eq_true rfl) ?_
  intro b Z0 E
  have Z : gAm b l s0 G cX0_kindNumber RX0 1 rmc_X0_kindNumber := Z0
  refine x_el (L' := [(0, iv c)]) rfl ?_
  obtain ⟨tK, hzKINDS, htK⟩ := st_KINDS h0 Z
  refine x_gets Z hzKINDS q111 rfl dX0_kindNumber_0 ?_
  refine x_iload_n Z dX0_kindNumber_3 rfl rfl ?_
  refine x_tb Z htK (by decide) (by omega) (by omega) dX0_kindNumber_4 ?_
  exact x_iret Z E (⟨rfl, rfl⟩) dX0_kindNumber_5 (Nat.le_of_ble_eq_true rfl) (Nat.le_of_ble_eq_true rfl)
abbrev rmc_X0_isSo : Room := { frames := 1, cells := 0, slots := 0, locals := 21 }
set_option maxRecDepth 100000 in
theorem c_X0_isSo {l : Launch} {s0 : State} {G : gK} {w : wd} (h0 : gS0 s0) (htr : l.stackTraces = false) {c q : Int} (h1 : 0 ≤ c) (h2 : c ≤ 255) (h3 : 0 ≤ q) (h4 : q ≤ 14) : gM l s0 G yX0_isSo [Cond.code yX0_isSo cX0_isSo 3 (some .boolean)] rmc_X0_isSo [iv c, iv q] w (fun v w' => v = some (iv (b2 (so c q))) ∧ w' = w) (noX) := by
  refine g_of h0 htr (by decide +kernel) (Nat.le_of_ble_eq_true rfl) ?_
  intro b Z0 E
  have Z : gAm b l s0 G cX0_isSo RX0 3 rmc_X0_isSo := Z0
  refine x_el (L' := [(0, iv c), (1, iv q)]) rfl ?_
  obtain ⟨tK, hzKINDS, htK⟩ := st_KINDS h0 Z
  obtain ⟨tQ, hzKINDS_OF_QUESTION, htQ⟩ := st_KINDS_OF_QUESTION h0 Z
  refine x_gets Z hzKINDS_OF_QUESTION q137 rfl dX0_isSo_0 ?_
  refine x_iload_n Z dX0_isSo_3 rfl rfl ?_
  refine x_ti Z htQ (by decide) (by omega) (by omega) dX0_isSo_4 ?_
  refine x_gets Z hzKINDS q111 rfl dX0_isSo_5 ?_
  refine x_iload_n Z dX0_isSo_8 rfl rfl ?_
  refine x_tb Z htK (by decide) (by omega) (by omega) dX0_isSo_9 ?_
  refine x_callSN Z okX2_isIn q139 q140 dX0_isSo_10 (c_X2_isIn h0 htr ) ⟨Nat.le_of_ble_eq_true rfl, Nat.le_of_ble_eq_true rfl, Nat.le_of_ble_eq_true rfl, Nat.le_of_ble_eq_true rfl⟩ rfl rfl (Nat.le_of_ble_eq_true rfl) (fun v9 w9 hR => ?_)
  obtain ⟨rfl, e9⟩ := hR
  refine x_ew e9 ?_
  simp only [Option.toList_some, Option.toList_none, List.cons_append, List.nil_append]
  refine x_istore_n (L' := [(2, _), (0, _), (1, _)]) Z dX0_isSo_13 rfl (Nat.le_of_ble_eq_true rfl) rfl ?_
  refine x_iload_n Z dX0_isSo_14 rfl rfl ?_
  rcases (by omega : (q < 7 ∨ 13 < q) ∨ q = 7 ∨ q = 8 ∨ q = 9 ∨ q = 10 ∨ q = 11 ∨ q = 12 ∨ q = 13) with hs | hs | hs | hs | hs | hs | hs | hs
  ·
    refine x_tabOut Z 100 dX0_isSo_15 ⟨by omega, by omega⟩ (by omega) (by decide) ?_
    refine x_iload_n Z dX0_isSo_100 rfl rfl ?_
    exact x_zret Z E (⟨by rw [so_o (by omega) (by omega) (by omega) (by omega)], rfl⟩) dX0_isSo_101 (Nat.le_of_ble_eq_true rfl) (Nat.le_of_ble_eq_true rfl)
  ·
    refine x_tabIn Z 56 dX0_isSo_15 ⟨by omega, by omega⟩ (by omega) (by omega) (by rw [hs]; rfl) (by decide) ?_
    refine x_iload_n Z dX0_isSo_56 rfl rfl ?_
    refine x_callS Z okX0_isBlank q142 q143 dX0_isSo_57 (c_X0_isBlank h0 htr (by omega) (by omega)) ⟨Nat.le_of_ble_eq_true rfl, Nat.le_of_ble_eq_true rfl, Nat.le_of_ble_eq_true rfl, Nat.le_of_ble_eq_true rfl⟩ rfl rfl (Nat.le_of_ble_eq_true rfl) (fun v9 w9 hR => ?_)
    obtain ⟨rfl, e9⟩ := hR
    refine x_ew e9 ?_
    simp only [Option.toList_some, Option.toList_none, List.cons_append, List.nil_append]
    exact x_zret Z E (⟨by rw [hs]; rfl, rfl⟩) dX0_isSo_60 (Nat.le_of_ble_eq_true rfl) (Nat.le_of_ble_eq_true rfl)
  ·
    refine x_tabIn Z 100 dX0_isSo_15 ⟨by omega, by omega⟩ (by omega) (by omega) (by rw [hs]; rfl) (by decide) ?_
    refine x_iload_n Z dX0_isSo_100 rfl rfl ?_
    exact x_zret Z E (⟨by rw [so_o (by omega) (by omega) (by omega) (by omega)], rfl⟩) dX0_isSo_101 (Nat.le_of_ble_eq_true rfl) (Nat.le_of_ble_eq_true rfl)
  ·
    refine x_tabIn Z 100 dX0_isSo_15 ⟨by omega, by omega⟩ (by omega) (by omega) (by rw [hs]; rfl) (by decide) ?_
    refine x_iload_n Z dX0_isSo_100 rfl rfl ?_
    exact x_zret Z E (⟨by rw [so_o (by omega) (by omega) (by omega) (by omega)], rfl⟩) dX0_isSo_101 (Nat.le_of_ble_eq_true rfl) (Nat.le_of_ble_eq_true rfl)
  ·
    refine x_tabIn Z 61 dX0_isSo_15 ⟨by omega, by omega⟩ (by omega) (by omega) (by rw [hs]; rfl) (by decide) ?_
    refine x_iload_n Z dX0_isSo_61 rfl rfl ?_
    refine x_ifb_ne Z 77 dX0_isSo_62 (by decide) (fun c62 => ?_) (fun c62 => ?_)
    ·
      refine x_ib true Z dX0_isSo_77 (by decide) ?_
      refine x_goto Z 82 dX0_isSo_78 (by decide) ?_
      exact x_zret Z E (⟨by rw [so10 (by omega)]; first | simp [c62, c68, c74] | simp [c62, c68] | simp [c62], rfl⟩) dX0_isSo_82 (Nat.le_of_ble_eq_true rfl) (Nat.le_of_ble_eq_true rfl)
    ·
      refine x_iload_n Z dX0_isSo_65 rfl rfl ?_
      refine x_bipush Z dX0_isSo_66 (by decide +kernel) ?_
      refine x_icmp_eq Z 77 dX0_isSo_68 (by decide) ⟨by omega, by omega⟩ ⟨by omega, by omega⟩ (fun c68 => ?_) (fun c68 => ?_)
      ·
        refine x_ib true Z dX0_isSo_77 (by decide) ?_
        refine x_goto Z 82 dX0_isSo_78 (by decide) ?_
        exact x_zret Z E (⟨by rw [so10 (by omega)]; first | simp [c62, c68, c74] | simp [c62, c68] | simp [c62], rfl⟩) dX0_isSo_82 (Nat.le_of_ble_eq_true rfl) (Nat.le_of_ble_eq_true rfl)
      ·
        refine x_iload_n Z dX0_isSo_71 rfl rfl ?_
        refine x_bipush Z dX0_isSo_72 (by decide +kernel) ?_
        refine x_icmp_ne Z 81 dX0_isSo_74 (by decide) ⟨by omega, by omega⟩ ⟨by omega, by omega⟩ (fun c74 => ?_) (fun c74 => ?_)
        ·
          refine x_ib false Z dX0_isSo_81 (by decide) ?_
          exact x_zret Z E (⟨by rw [so10 (by omega)]; first | simp [c62, c68, c74] | simp [c62, c68] | simp [c62], rfl⟩) dX0_isSo_82 (Nat.le_of_ble_eq_true rfl) (Nat.le_of_ble_eq_true rfl)
        ·
          refine x_ib true Z dX0_isSo_77 (by decide) ?_
          refine x_goto Z 82 dX0_isSo_78 (by decide) ?_
          exact x_zret Z E (⟨by rw [so10 (by omega)]; first | simp [c62, c68, c74] | simp [c62, c68] | simp [c62], rfl⟩) dX0_isSo_82 (Nat.le_of_ble_eq_true rfl) (Nat.le_of_ble_eq_true rfl)
  ·
    refine x_tabIn Z 100 dX0_isSo_15 ⟨by omega, by omega⟩ (by omega) (by omega) (by rw [hs]; rfl) (by decide) ?_
    refine x_iload_n Z dX0_isSo_100 rfl rfl ?_
    exact x_zret Z E (⟨by rw [so_o (by omega) (by omega) (by omega) (by omega)], rfl⟩) dX0_isSo_101 (Nat.le_of_ble_eq_true rfl) (Nat.le_of_ble_eq_true rfl)
  ·
    refine x_tabIn Z 83 dX0_isSo_15 ⟨by omega, by omega⟩ (by omega) (by omega) (by rw [hs]; rfl) (by decide) ?_
    refine x_iload_n Z dX0_isSo_83 rfl rfl ?_
    refine x_ifb_eq Z 98 dX0_isSo_84 (by decide) (fun c84 => ?_) (fun c84 => ?_)
    ·
      refine x_ib false Z dX0_isSo_98 (by decide) ?_
      exact x_zret Z E (⟨by rw [so12 (by omega)]; first | simp [c84, c91] | simp [c84], rfl⟩) dX0_isSo_99 (Nat.le_of_ble_eq_true rfl) (Nat.le_of_ble_eq_true rfl)
    ·
      refine x_iload_n Z dX0_isSo_87 rfl rfl ?_
      refine x_callS Z okX0_isBlank q142 q143 dX0_isSo_88 (c_X0_isBlank h0 htr (by omega) (by omega)) ⟨Nat.le_of_ble_eq_true rfl, Nat.le_of_ble_eq_true rfl, Nat.le_of_ble_eq_true rfl, Nat.le_of_ble_eq_true rfl⟩ rfl rfl (Nat.le_of_ble_eq_true rfl) (fun v9 w9 hR => ?_)
      obtain ⟨rfl, e9⟩ := hR
      refine x_ew e9 ?_
      simp only [Option.toList_some, Option.toList_none, List.cons_append, List.nil_append]
      refine x_ifb_ne Z 98 dX0_isSo_91 (by decide) (fun c91 => ?_) (fun c91 => ?_)
      ·
        refine x_ib false Z dX0_isSo_98 (by decide) ?_
        exact x_zret Z E (⟨by rw [so12 (by omega)]; first | simp [c84, c91] | simp [c84], rfl⟩) dX0_isSo_99 (Nat.le_of_ble_eq_true rfl) (Nat.le_of_ble_eq_true rfl)
      ·
        refine x_ib true Z dX0_isSo_94 (by decide) ?_
        refine x_goto Z 99 dX0_isSo_95 (by decide) ?_
        exact x_zret Z E (⟨by rw [so12 (by omega)]; first | simp [c84, c91] | simp [c84], rfl⟩) dX0_isSo_99 (Nat.le_of_ble_eq_true rfl) (Nat.le_of_ble_eq_true rfl)
  ·
    refine x_tabIn Z 83 dX0_isSo_15 ⟨by omega, by omega⟩ (by omega) (by omega) (by rw [hs]; rfl) (by decide) ?_
    refine x_iload_n Z dX0_isSo_83 rfl rfl ?_
    refine x_ifb_eq Z 98 dX0_isSo_84 (by decide) (fun c84 => ?_) (fun c84 => ?_)
    ·
      refine x_ib false Z dX0_isSo_98 (by decide) ?_
      exact x_zret Z E (⟨by rw [so12 (by omega)]; first | simp [c84, c91] | simp [c84], rfl⟩) dX0_isSo_99 (Nat.le_of_ble_eq_true rfl) (Nat.le_of_ble_eq_true rfl)
    ·
      refine x_iload_n Z dX0_isSo_87 rfl rfl ?_
      refine x_callS Z okX0_isBlank q142 q143 dX0_isSo_88 (c_X0_isBlank h0 htr (by omega) (by omega)) ⟨Nat.le_of_ble_eq_true rfl, Nat.le_of_ble_eq_true rfl, Nat.le_of_ble_eq_true rfl, Nat.le_of_ble_eq_true rfl⟩ rfl rfl (Nat.le_of_ble_eq_true rfl) (fun v9 w9 hR => ?_)
      obtain ⟨rfl, e9⟩ := hR
      refine x_ew e9 ?_
      simp only [Option.toList_some, Option.toList_none, List.cons_append, List.nil_append]
      refine x_ifb_ne Z 98 dX0_isSo_91 (by decide) (fun c91 => ?_) (fun c91 => ?_)
      ·
        refine x_ib false Z dX0_isSo_98 (by decide) ?_
        exact x_zret Z E (⟨by rw [so12 (by omega)]; first | simp [c84, c91] | simp [c84], rfl⟩) dX0_isSo_99 (Nat.le_of_ble_eq_true rfl) (Nat.le_of_ble_eq_true rfl)
      ·
        refine x_ib true Z dX0_isSo_94 (by decide) ?_
        refine x_goto Z 99 dX0_isSo_95 (by decide) ?_
        exact x_zret Z E (⟨by rw [so12 (by omega)]; first | simp [c84, c91] | simp [c84], rfl⟩) dX0_isSo_99 (Nat.le_of_ble_eq_true rfl) (Nat.le_of_ble_eq_true rfl)
abbrev rmc_X0_isLet : Room := { frames := 2, cells := 0, slots := 0, locals := 43 }
set_option maxRecDepth 100000 in
theorem c_X0_isLet {l : Launch} {s0 : State} {G : gK} {w : wd} (h0 : gS0 s0) (htr : l.stackTraces = false) {c : Int} {f : Bool} (h1 : 0 ≤ c) (h2 : c ≤ 255) : gM l s0 G yX0_isLet [Cond.code yX0_isLet cX0_isLet 2 (some .boolean)] rmc_X0_isLet [iv c, iv (b2 f)] w (fun v w' => v = some (iv (b2 (so c (cond f 11 12)))) ∧ w' = w) (noX) := by
  refine g_of h0 htr (by decide +kernel) (Nat.le_of_ble_eq_true rfl) ?_
  intro b Z0 E
  have Z : gAm b l s0 G cX0_isLet RX0 2 rmc_X0_isLet := Z0
  refine x_el (L' := [(0, iv c), (1, iv (b2 f))]) rfl ?_
  refine x_iload_n Z dX0_isLet_0 rfl rfl ?_
  refine x_iload_n Z dX0_isLet_1 rfl rfl ?_
  refine x_ifb_eq Z 10 dX0_isLet_2 (by decide) (fun c2 => ?_) (fun c2 => ?_)
  ·
    refine x_bipush Z dX0_isLet_10 (by decide +kernel) ?_
    refine x_callS Z okX0_isSo q134 q135 dX0_isLet_12 (c_X0_isSo h0 htr (by omega) (by omega) (by omega) (by omega)) ⟨Nat.le_of_ble_eq_true rfl, Nat.le_of_ble_eq_true rfl, Nat.le_of_ble_eq_true rfl, Nat.le_of_ble_eq_true rfl⟩ rfl rfl (Nat.le_of_ble_eq_true rfl) (fun v9 w9 hR => ?_)
    obtain ⟨rfl, e9⟩ := hR
    refine x_ew e9 ?_
    simp only [Option.toList_some, Option.toList_none, List.cons_append, List.nil_append]
    exact x_zret Z E (⟨by rw [c2]; rfl, rfl⟩) dX0_isLet_15 (Nat.le_of_ble_eq_true rfl) (Nat.le_of_ble_eq_true rfl)
  ·
    refine x_bipush Z dX0_isLet_5 (by decide +kernel) ?_
    refine x_goto Z 12 dX0_isLet_7 (by decide) ?_
    refine x_callS Z okX0_isSo q134 q135 dX0_isLet_12 (c_X0_isSo h0 htr (by omega) (by omega) (by omega) (by omega)) ⟨Nat.le_of_ble_eq_true rfl, Nat.le_of_ble_eq_true rfl, Nat.le_of_ble_eq_true rfl, Nat.le_of_ble_eq_true rfl⟩ rfl rfl (Nat.le_of_ble_eq_true rfl) (fun v9 w9 hR => ?_)
    obtain ⟨rfl, e9⟩ := hR
    refine x_ew e9 ?_
    simp only [Option.toList_some, Option.toList_none, List.cons_append, List.nil_append]
    exact x_zret Z E (⟨by rw [c2]; rfl, rfl⟩) dX0_isLet_15 (Nat.le_of_ble_eq_true rfl) (Nat.le_of_ble_eq_true rfl)
abbrev rmc_X0_sortBegunBy : Room := { frames := 2, cells := 0, slots := 0, locals := 43 }
set_option maxRecDepth 100000 in
theorem c_X0_sortBegunBy {l : Launch} {s0 : State} {G : gK} {w : wd} (h0 : gS0 s0) (htr : l.stackTraces = false) {c : Int} (h1 : 0 ≤ c) (h2 : c ≤ 255) : gM l s0 G yX0_sortBegunBy [Cond.code yX0_sortBegunBy cX0_sortBegunBy 2 (some .int)] rmc_X0_sortBegunBy [iv c] w (fun v w' => v = some (iv (sb c)) ∧ w' = w) (noX) := by
  refine g_of h0 htr (by decide +kernel) (Nat.le_of_ble_eq_true rfl) ?_
  intro b Z0 E
  have Z : gAm b l s0 G cX0_sortBegunBy RX0 2 rmc_X0_sortBegunBy := Z0
  refine x_el (L' := [(0, iv c)]) rfl ?_
  obtain ⟨tF, hzFIRST_OF_SORT, htF⟩ := st_FIRST_OF_SORT h0 Z
  refine x_iconst Z dX0_sortBegunBy_0 ?_
  refine x_istore_n (L' := [(1, _), (0, _)]) Z dX0_sortBegunBy_1 rfl (Nat.le_of_ble_eq_true rfl) rfl ?_
  have loop2 : ∀ (fu : Nat) (i : Int), 4 - i < (fu : Int) → (0 ≤ i ∧ i ≤ 4 ∧ ∀ j, 0 ≤ j → j < i → so c (fs4 j) = false) → gX b s0 G (0) (0) 2 [(1, iv i), (0, iv c)] [] (w) := by
    intro fu; induction fu with
    | zero => intro i hm hv; exact absurd hm (by omega)
    | succ fu ih2 =>
      intro i hm hv
      obtain ⟨hi0, hi4, hif⟩ := hv
      refine x_iload_n Z dX0_sortBegunBy_2 rfl rfl ?_
      refine x_iconst Z dX0_sortBegunBy_3 ?_
      refine x_icmp_ge Z 27 dX0_sortBegunBy_4 (by decide) ⟨by omega, by omega⟩ ⟨by omega, by omega⟩ (fun c4 => ?_) (fun c4 => ?_)
      ·
        refine x_iconst Z dX0_sortBegunBy_27 ?_
        exact x_iret Z E (⟨by rw [sb_no (fun j j0 j1 => hif j j0 (by omega))], rfl⟩) dX0_sortBegunBy_28 (Nat.le_of_ble_eq_true rfl) (Nat.le_of_ble_eq_true rfl)
      ·
        refine x_iload_n Z dX0_sortBegunBy_7 rfl rfl ?_
        refine x_gets Z hzFIRST_OF_SORT q132 rfl dX0_sortBegunBy_8 ?_
        refine x_iload_n Z dX0_sortBegunBy_11 rfl rfl ?_
        refine x_ti Z htF (by decide) (by omega) (by omega) dX0_sortBegunBy_12 ?_
        have hf4 := fs4_in (s := i) (by omega) (by omega)
        refine x_callS Z okX0_isSo q134 q135 dX0_sortBegunBy_13 (c_X0_isSo h0 htr (by omega) (by omega) (by omega) (by omega)) ⟨Nat.le_of_ble_eq_true rfl, Nat.le_of_ble_eq_true rfl, Nat.le_of_ble_eq_true rfl, Nat.le_of_ble_eq_true rfl⟩ rfl rfl (Nat.le_of_ble_eq_true rfl) (fun v9 w9 hR => ?_)
        obtain ⟨rfl, e9⟩ := hR
        refine x_ew e9 ?_
        simp only [Option.toList_some, Option.toList_none, List.cons_append, List.nil_append]
        refine x_ifb_eq Z 21 dX0_sortBegunBy_16 (by decide) (fun c16 => ?_) (fun c16 => ?_)
        ·
          refine x_iinc (L' := [(1, _), (0, _)]) Z dX0_sortBegunBy_21 rfl (Nat.le_of_ble_eq_true rfl) rfl ?_
          refine x_goto Z 2 dX0_sortBegunBy_24 (by decide) ?_
          exact ih2 (i + 1) (by omega) ⟨by omega, by omega, fun j j0 j1 => by
            rcases (by omega : j < i ∨ j = i) with hj | hj
            · exact hif j j0 hj
            · subst hj; exact c16⟩
        ·
          refine x_iload_n Z dX0_sortBegunBy_19 rfl rfl ?_
          exact x_iret Z E (⟨by rw [sb_is hi0 (by omega) hif c16], rfl⟩) dX0_sortBegunBy_20 (Nat.le_of_ble_eq_true rfl) (Nat.le_of_ble_eq_true rfl)
  exact loop2 5 0 (by omega) ⟨by omega, by omega, fun j j0 j1 => by omega⟩
abbrev rmc_X0_questionOfOthers : Room := { frames := 0, cells := 0, slots := 0, locals := 0 }
set_option maxRecDepth 100000 in
theorem c_X0_questionOfOthers {l : Launch} {s0 : State} {G : gK} {w : wd} (h0 : gS0 s0) (htr : l.stackTraces = false) {s : Int} (h1 : 0 ≤ s) (h2 : s ≤ 4) : gM l s0 G yX0_questionOfOthers [Cond.code yX0_questionOfOthers cX0_questionOfOthers 1 (some .int)] rmc_X0_questionOfOthers [iv s] w (fun v w' => v = some (iv (oth s)) ∧ w' = w) (noX) := by
  refine g_of h0 htr (by decide +kernel) (Nat.le_of_ble_eq_true rfl) ?_
  intro b Z0 E
  have Z : gAm b l s0 G cX0_questionOfOthers RX0 1 rmc_X0_questionOfOthers := Z0
  refine x_el (L' := [(0, iv s)]) rfl ?_
  obtain ⟨tO, hzOTHERS_OF_SORT, htO⟩ := st_OTHERS_OF_SORT h0 Z
  refine x_gets Z hzOTHERS_OF_SORT q148 rfl dX0_questionOfOthers_0 ?_
  refine x_iload_n Z dX0_questionOfOthers_3 rfl rfl ?_
  refine x_ti Z htO (by decide) (by omega) (by omega) dX0_questionOfOthers_4 ?_
  exact x_iret Z E (⟨rfl, rfl⟩) dX0_questionOfOthers_5 (Nat.le_of_ble_eq_true rfl) (Nat.le_of_ble_eq_true rfl)
abbrev rmc_X1_size : Room := { frames := 0, cells := 0, slots := 0, locals := 0 }
set_option maxRecDepth 100000 in
theorem c_X1_size {l : Launch} {s0 : State} {G : gK} {w : wd} (h0 : gS0 s0) (htr : l.stackTraces = false) {a r bb : Nat} {n : Int} {C B : Int → Int} (ht : tX G w a r bb n C B) : gM l s0 G yX1_size [Cond.code yX1_size cX1_size 1 (some .int)] rmc_X1_size [rv a] w (fun v w' => v = some (iv (n)) ∧ w' = w) (noX) := by
  refine g_of h0 htr (by decide +kernel) (Nat.le_of_ble_eq_true rfl) ?_
  intro b Z0 E
  have Z : gAm b l s0 G cX1_size RX1 1 rmc_X1_size := Z0
  refine x_el (L' := [(0, rv a)]) rfl ?_
  obtain ⟨ha, hr, hb, hn0, hn30, hC⟩ := id ht
  refine x_aload_n Z dX1_size_0 rfl rfl ?_
  refine x_getf (ci := 2) (j := 1) (C := RX1) (T := TX1) (N := 3) Z inX1g rfl (by decide) q73 rfl dX1_size_1 (by assumption) rfl ?_
  exact x_iret Z E (⟨rfl, rfl⟩) dX1_size_4 (Nat.le_of_ble_eq_true rfl) (Nat.le_of_ble_eq_true rfl)
abbrev rmc_X1_signAt : Room := { frames := 0, cells := 0, slots := 0, locals := 0 }
set_option maxRecDepth 100000 in
theorem c_X1_signAt {l : Launch} {s0 : State} {G : gK} {w : wd} (h0 : gS0 s0) (htr : l.stackTraces = false) {a r bb : Nat} {n : Int} {C B : Int → Int} {p : Int} (ht : tX G w a r bb n C B) (h1 : 0 ≤ p) (h2 : p < 30) : gM l s0 G yX1_signAt [Cond.code yX1_signAt cX1_signAt 2 (some .int)] rmc_X1_signAt [rv a, iv p] w (fun v w' => v = some (iv (C p)) ∧ w' = w) (noX) := by
  refine g_of h0 htr (by decide +kernel) (Nat.le_of_ble_eq_true rfl) ?_
  intro b Z0 E
  have Z : gAm b l s0 G cX1_signAt RX1 2 rmc_X1_signAt := Z0
  refine x_el (L' := [(0, rv a), (1, iv p)]) rfl ?_
  obtain ⟨ha, hr, hb, hn0, hn30, hC⟩ := id ht
  refine x_aload_n Z dX1_signAt_0 rfl rfl ?_
  refine x_getf (ci := 2) (j := 0) (C := RX1) (T := TX1) (N := 3) Z inX1g rfl (by decide) q72 rfl dX1_signAt_1 (by assumption) rfl ?_
  refine x_iload_n Z dX1_signAt_4 rfl rfl ?_
  refine x_bald Z dX1_signAt_5 (by assumption) (by omega) (by omega) (by omega) ?_
  refine x_sipush Z dX1_signAt_6 (by decide +kernel) ?_
  refine x_iand Z dX1_signAt_9 ?_
  exact x_iret Z E (⟨by rw [show bAnd (sgF C p) 255 = C p from sgn_byte (hC p).1 (hC p).2], rfl⟩) dX1_signAt_10 (Nat.le_of_ble_eq_true rfl) (Nat.le_of_ble_eq_true rfl)
abbrev rmc_X1_kindAt : Room := { frames := 1, cells := 0, slots := 0, locals := 21 }
set_option maxRecDepth 100000 in
theorem c_X1_kindAt {l : Launch} {s0 : State} {G : gK} {w : wd} (h0 : gS0 s0) (htr : l.stackTraces = false) {a r bb : Nat} {n : Int} {C B : Int → Int} {p : Int} (ht : tX G w a r bb n C B) (h1 : 0 ≤ p) (h2 : p < 30) : gM l s0 G yX1_kindAt [Cond.code yX1_kindAt cX1_kindAt 2 (some .int)] rmc_X1_kindAt [rv a, iv p] w (fun v w' => v = some (iv (kin (C p))) ∧ w' = w) (noX) := by
  refine g_of h0 htr (by decide +kernel) (Nat.le_of_ble_eq_true rfl) ?_
  intro b Z0 E
  have Z : gAm b l s0 G cX1_kindAt RX1 2 rmc_X1_kindAt := Z0
  refine x_el (L' := [(0, rv a), (1, iv p)]) rfl ?_
  obtain ⟨ha, hr, hb, hn0, hn30, hC⟩ := id ht
  have hCp := hC (p)
  refine x_aload_n Z dX1_kindAt_0 rfl rfl ?_
  refine x_iload_n Z dX1_kindAt_1 rfl rfl ?_
  refine x_callV (ci := 2) (C := RX1) (T := TX1) (N := 3) Z okX1_signAt q125 q126 q127 rfl dX1_kindAt_2 (c_X1_signAt h0 htr ht (by omega) (by omega)) ht.1 ⟨Nat.le_of_ble_eq_true rfl, Nat.le_of_ble_eq_true rfl, Nat.le_of_ble_eq_true rfl, Nat.le_of_ble_eq_true rfl⟩ rfl rfl (Nat.le_of_ble_eq_true rfl) (fun v9 w9 hR => ?_)
  obtain ⟨rfl, e9⟩ := hR
  refine x_ew e9 ?_
  simp only [Option.toList_some, Option.toList_none, List.cons_append, List.nil_append]
  refine x_callS Z okX0_kindNumber q204 q109 dX1_kindAt_5 (c_X0_kindNumber h0 htr (by omega) (by omega)) ⟨Nat.le_of_ble_eq_true rfl, Nat.le_of_ble_eq_true rfl, Nat.le_of_ble_eq_true rfl, Nat.le_of_ble_eq_true rfl⟩ rfl rfl (Nat.le_of_ble_eq_true rfl) (fun v9 w9 hR => ?_)
  obtain ⟨rfl, e9⟩ := hR
  refine x_ew e9 ?_
  simp only [Option.toList_some, Option.toList_none, List.cons_append, List.nil_append]
  exact x_iret Z E (⟨rfl, rfl⟩) dX1_kindAt_8 (Nat.le_of_ble_eq_true rfl) (Nat.le_of_ble_eq_true rfl)
abbrev rmc_X1_allPlaces : Room := { frames := 0, cells := 0, slots := 0, locals := 0 }
set_option maxRecDepth 100000 in
theorem c_X1_allPlaces {l : Launch} {s0 : State} {G : gK} {w : wd} (h0 : gS0 s0) (htr : l.stackTraces = false) {a r bb : Nat} {n : Int} {C B : Int → Int} (ht : tX G w a r bb n C B) : gM l s0 G yX1_allPlaces [Cond.code yX1_allPlaces cX1_allPlaces 1 (some .int)] rmc_X1_allPlaces [rv a] w (fun v w' => v = some (iv (bShl 1 n - 1)) ∧ w' = w) (noX) := by
  refine g_of h0 htr (by decide +kernel) (Nat.le_of_ble_eq_true rfl) ?_
  intro b Z0 E
  have Z : gAm b l s0 G cX1_allPlaces RX1 1 rmc_X1_allPlaces := Z0
  refine x_el (L' := [(0, rv a)]) rfl ?_
  obtain ⟨ha, hr, hb, hn0, hn30, hC⟩ := id ht
  refine x_iconst Z dX1_allPlaces_0 ?_
  refine x_aload_n Z dX1_allPlaces_1 rfl rfl ?_
  refine x_getf (ci := 2) (j := 1) (C := RX1) (T := TX1) (N := 3) Z inX1g rfl (by decide) q73 rfl dX1_allPlaces_2 (by assumption) rfl ?_
  refine x_ishl Z dX1_allPlaces_5 ?_
  refine x_iconst Z dX1_allPlaces_6 ?_
  refine x_isub Z dX1_allPlaces_7 ?_
  exact x_iret Z E (⟨rfl, rfl⟩) dX1_allPlaces_8 (Nat.le_of_ble_eq_true rfl) (Nat.le_of_ble_eq_true rfl)
abbrev rmc_X1_placesOf : Room := { frames := 2, cells := 0, slots := 0, locals := 43 }
set_option maxRecDepth 100000 in
theorem c_X1_placesOf {l : Launch} {s0 : State} {G : gK} {w : wd} (h0 : gS0 s0) (htr : l.stackTraces = false) {a r bb : Nat} {n : Int} {C B : Int → Int} {q : Int} (ht : tX G w a r bb n C B) (h3 : 0 ≤ q) (h4 : q ≤ 14) : gM l s0 G yX1_placesOf [Cond.code yX1_placesOf cX1_placesOf 4 (some .int)] rmc_X1_placesOf [rv a, iv q] w (fun v w' => v = some (iv (msk (fun j => so (C j) q) n)) ∧ w' = w) (noX) := by
  refine g_of h0 htr (by decide +kernel) (Nat.le_of_ble_eq_true rfl) ?_
  intro b Z0 E
  have Z : gAm b l s0 G cX1_placesOf RX1 4 rmc_X1_placesOf := Z0
  refine x_el (L' := [(0, rv a), (1, iv q)]) rfl ?_
  obtain ⟨ha, hr, hb, hn0, hn30, hC⟩ := id ht
  refine x_iconst Z dX1_placesOf_0 ?_
  refine x_istore_n (L' := [(2, _), (0, _), (1, _)]) Z dX1_placesOf_1 rfl (Nat.le_of_ble_eq_true rfl) rfl ?_
  refine x_iconst Z dX1_placesOf_2 ?_
  refine x_istore_n (L' := [(3, _), (2, _), (0, _), (1, _)]) Z dX1_placesOf_3 rfl (Nat.le_of_ble_eq_true rfl) rfl ?_
  have loop4 : ∀ (fu : Nat) (i v : Int), n - i < (fu : Int) → (0 ≤ i ∧ i ≤ n ∧ forI (mstep (fun j => so (C j) q)) i n v = msk (fun j => so (C j) q) n) → gX b s0 G (0) (0) 4 [(3, iv i), (2, iv v), (0, rv a), (1, iv q)] [] (w) := by
    intro fu; induction fu with
    | zero => intro i v hm hv; exact absurd hm (by omega)
    | succ fu ih4 =>
      intro i v hm hv
      obtain ⟨hi0, hin, hif⟩ := hv
      have hCp := hC i
      have hkp := kin_in (C i)
      refine x_iload_n Z dX1_placesOf_4 rfl rfl ?_
      refine x_aload_n Z dX1_placesOf_5 rfl rfl ?_
      refine x_getf (ci := 2) (j := 1) (C := RX1) (T := TX1) (N := 3) Z inX1g rfl (by decide) q73 rfl dX1_placesOf_6 (by assumption) rfl ?_
      refine x_icmp_ge Z 36 dX1_placesOf_9 (by decide) ⟨by omega, by omega⟩ ⟨by omega, by omega⟩ (fun c9 => ?_) (fun c9 => ?_)
      ·
        refine x_iload_n Z dX1_placesOf_36 rfl rfl ?_
        exact x_iret Z E (⟨by rw [← hif, forI_e (by omega)], rfl⟩) dX1_placesOf_37 (Nat.le_of_ble_eq_true rfl) (Nat.le_of_ble_eq_true rfl)
      ·
        refine x_aload_n Z dX1_placesOf_12 rfl rfl ?_
        refine x_iload_n Z dX1_placesOf_13 rfl rfl ?_
        refine x_callV (ci := 2) (C := RX1) (T := TX1) (N := 3) Z okX1_signAt q125 q126 q127 rfl dX1_placesOf_14 (c_X1_signAt h0 htr ht (by omega) (by omega)) ht.1 ⟨Nat.le_of_ble_eq_true rfl, Nat.le_of_ble_eq_true rfl, Nat.le_of_ble_eq_true rfl, Nat.le_of_ble_eq_true rfl⟩ rfl rfl (Nat.le_of_ble_eq_true rfl) (fun v9 w9 hR => ?_)
        obtain ⟨rfl, e9⟩ := hR
        refine x_ew e9 ?_
        simp only [Option.toList_some, Option.toList_none, List.cons_append, List.nil_append]
        refine x_iload_n Z dX1_placesOf_17 rfl rfl ?_
        refine x_callS Z okX0_isSo q150 q135 dX1_placesOf_18 (c_X0_isSo h0 htr (by omega) (by omega) (by omega) (by omega)) ⟨Nat.le_of_ble_eq_true rfl, Nat.le_of_ble_eq_true rfl, Nat.le_of_ble_eq_true rfl, Nat.le_of_ble_eq_true rfl⟩ rfl rfl (Nat.le_of_ble_eq_true rfl) (fun v9 w9 hR => ?_)
        obtain ⟨rfl, e9⟩ := hR
        refine x_ew e9 ?_
        simp only [Option.toList_some, Option.toList_none, List.cons_append, List.nil_append]
        refine x_ifb_eq Z 30 dX1_placesOf_21 (by decide) (fun c21 => ?_) (fun c21 => ?_)
        ·
          refine x_iinc (L' := [(3, _), (2, _), (0, _), (1, _)]) Z dX1_placesOf_30 rfl (Nat.le_of_ble_eq_true rfl) rfl ?_
          refine x_goto Z 4 dX1_placesOf_33 (by decide) ?_
          exact ih4 (i + 1) _ (by omega) ⟨by omega, by omega, by rw [← hif, forI_s (i := i) (by omega)]; first | rw [mstep_t (P := fun j => so (C j) q) c21] | rw [mstep_f (P := fun j => so (C j) q) c21]⟩
        ·
          refine x_iload_n Z dX1_placesOf_24 rfl rfl ?_
          refine x_iconst Z dX1_placesOf_25 ?_
          refine x_iload_n Z dX1_placesOf_26 rfl rfl ?_
          refine x_ishl Z dX1_placesOf_27 ?_
          refine x_ior Z dX1_placesOf_28 ?_
          refine x_istore_n (L' := [(2, _), (3, _), (0, _), (1, _)]) Z dX1_placesOf_29 rfl (Nat.le_of_ble_eq_true rfl) rfl ?_
          refine x_iinc (L' := [(3, _), (2, _), (0, _), (1, _)]) Z dX1_placesOf_30 rfl (Nat.le_of_ble_eq_true rfl) rfl ?_
          refine x_goto Z 4 dX1_placesOf_33 (by decide) ?_
          exact ih4 (i + 1) _ (by omega) ⟨by omega, by omega, by rw [← hif, forI_s (i := i) (by omega)]; first | rw [mstep_t (P := fun j => so (C j) q) c21] | rw [mstep_f (P := fun j => so (C j) q) c21]⟩
  exact loop4 (n.toNat + 1) 0 0 (by omega) ⟨by omega, by omega, rfl⟩
abbrev rmc_X1_placesOfKind : Room := { frames := 2, cells := 0, slots := 0, locals := 42 }
set_option maxRecDepth 100000 in
theorem c_X1_placesOfKind {l : Launch} {s0 : State} {G : gK} {w : wd} (h0 : gS0 s0) (htr : l.stackTraces = false) {a r bb : Nat} {n : Int} {C B : Int → Int} {q : Int} (ht : tX G w a r bb n C B) (h3 : 0 ≤ q) (h4 : q ≤ 30) : gM l s0 G yX1_placesOfKind [Cond.code yX1_placesOfKind cX1_placesOfKind 4 (some .int)] rmc_X1_placesOfKind [rv a, iv q] w (fun v w' => v = some (iv (msk (fun j => decide (kin (C j) = q)) n)) ∧ w' = w) (noX) := by
  refine g_of h0 htr (by decide +kernel) (Nat.le_of_ble_eq_true rfl) ?_
  intro b Z0 E
  have Z : gAm b l s0 G cX1_placesOfKind RX1 4 rmc_X1_placesOfKind := Z0
  refine x_el (L' := [(0, rv a), (1, iv q)]) rfl ?_
  obtain ⟨ha, hr, hb, hn0, hn30, hC⟩ := id ht
  refine x_iconst Z dX1_placesOfKind_0 ?_
  refine x_istore_n (L' := [(2, _), (0, _), (1, _)]) Z dX1_placesOfKind_1 rfl (Nat.le_of_ble_eq_true rfl) rfl ?_
  refine x_iconst Z dX1_placesOfKind_2 ?_
  refine x_istore_n (L' := [(3, _), (2, _), (0, _), (1, _)]) Z dX1_placesOfKind_3 rfl (Nat.le_of_ble_eq_true rfl) rfl ?_
  have loop4 : ∀ (fu : Nat) (i v : Int), n - i < (fu : Int) → (0 ≤ i ∧ i ≤ n ∧ forI (mstep (fun j => decide (kin (C j) = q))) i n v = msk (fun j => decide (kin (C j) = q)) n) → gX b s0 G (0) (0) 4 [(3, iv i), (2, iv v), (0, rv a), (1, iv q)] [] (w) := by
    intro fu; induction fu with
    | zero => intro i v hm hv; exact absurd hm (by omega)
    | succ fu ih4 =>
      intro i v hm hv
      obtain ⟨hi0, hin, hif⟩ := hv
      have hCp := hC i
      have hkp := kin_in (C i)
      refine x_iload_n Z dX1_placesOfKind_4 rfl rfl ?_
      refine x_aload_n Z dX1_placesOfKind_5 rfl rfl ?_
      refine x_getf (ci := 2) (j := 1) (C := RX1) (T := TX1) (N := 3) Z inX1g rfl (by decide) q73 rfl dX1_placesOfKind_6 (by assumption) rfl ?_
      refine x_icmp_ge Z 33 dX1_placesOfKind_9 (by decide) ⟨by omega, by omega⟩ ⟨by omega, by omega⟩ (fun c9 => ?_) (fun c9 => ?_)
      ·
        refine x_iload_n Z dX1_placesOfKind_33 rfl rfl ?_
        exact x_iret Z E (⟨by rw [← hif, forI_e (by omega)], rfl⟩) dX1_placesOfKind_34 (Nat.le_of_ble_eq_true rfl) (Nat.le_of_ble_eq_true rfl)
      ·
        refine x_aload_n Z dX1_placesOfKind_12 rfl rfl ?_
        refine x_iload_n Z dX1_placesOfKind_13 rfl rfl ?_
        refine x_callV (ci := 2) (C := RX1) (T := TX1) (N := 3) Z okX1_kindAt q200 q201 q202 rfl dX1_placesOfKind_14 (c_X1_kindAt h0 htr ht (by omega) (by omega)) ht.1 ⟨Nat.le_of_ble_eq_true rfl, Nat.le_of_ble_eq_true rfl, Nat.le_of_ble_eq_true rfl, Nat.le_of_ble_eq_true rfl⟩ rfl rfl (Nat.le_of_ble_eq_true rfl) (fun v9 w9 hR => ?_)
        obtain ⟨rfl, e9⟩ := hR
        refine x_ew e9 ?_
        simp only [Option.toList_some, Option.toList_none, List.cons_append, List.nil_append]
        refine x_iload_n Z dX1_placesOfKind_17 rfl rfl ?_
        refine x_icmp_ne Z 27 dX1_placesOfKind_18 (by decide) ⟨by omega, by omega⟩ ⟨by omega, by omega⟩ (fun c18 => ?_) (fun c18 => ?_)
        ·
          refine x_iinc (L' := [(3, _), (2, _), (0, _), (1, _)]) Z dX1_placesOfKind_27 rfl (Nat.le_of_ble_eq_true rfl) rfl ?_
          refine x_goto Z 4 dX1_placesOfKind_30 (by decide) ?_
          exact ih4 (i + 1) _ (by omega) ⟨by omega, by omega, by rw [← hif, forI_s (i := i) (by omega)]; first | rw [mstep_t (P := fun j => decide (kin (C j) = q)) (by first | exact decide_eq_true c18 | exact decide_eq_false c18)] | rw [mstep_f (P := fun j => decide (kin (C j) = q)) (by first | exact decide_eq_true c18 | exact decide_eq_false c18)]⟩
        ·
          refine x_iload_n Z dX1_placesOfKind_21 rfl rfl ?_
          refine x_iconst Z dX1_placesOfKind_22 ?_
          refine x_iload_n Z dX1_placesOfKind_23 rfl rfl ?_
          refine x_ishl Z dX1_placesOfKind_24 ?_
          refine x_ior Z dX1_placesOfKind_25 ?_
          refine x_istore_n (L' := [(2, _), (3, _), (0, _), (1, _)]) Z dX1_placesOfKind_26 rfl (Nat.le_of_ble_eq_true rfl) rfl ?_
          refine x_iinc (L' := [(3, _), (2, _), (0, _), (1, _)]) Z dX1_placesOfKind_27 rfl (Nat.le_of_ble_eq_true rfl) rfl ?_
          refine x_goto Z 4 dX1_placesOfKind_30 (by decide) ?_
          exact ih4 (i + 1) _ (by omega) ⟨by omega, by omega, by rw [← hif, forI_s (i := i) (by omega)]; first | rw [mstep_t (P := fun j => decide (kin (C j) = q)) (by first | exact decide_eq_true c18 | exact decide_eq_false c18)] | rw [mstep_f (P := fun j => decide (kin (C j) = q)) (by first | exact decide_eq_true c18 | exact decide_eq_false c18)]⟩
  exact loop4 (n.toNat + 1) 0 0 (by omega) ⟨by omega, by omega, rfl⟩
abbrev rmc_X1_longestAt : Room := { frames := 3, cells := 0, slots := 0, locals := 64 }
set_option maxRecDepth 100000 in
theorem c_X1_longestAt {l : Launch} {s0 : State} {G : gK} {w : wd} (h0 : gS0 s0) (htr : l.stackTraces = false) {a r bb : Nat} {n : Int} {C B : Int → Int} {p : Int} (ht : tX G w a r bb n C B) (h1 : 0 ≤ p) (h2 : p < n) : gM l s0 G yX1_longestAt [Cond.code yX1_longestAt cX1_longestAt 4 (some .int)] rmc_X1_longestAt [rv a, iv p] w (fun v w' => v = some (iv (lon n C p)) ∧ w' = w) (noX) := by
  refine g_of h0 htr (by decide +kernel) (Nat.le_of_ble_eq_true rfl) ?_
  intro b Z0 E
  have Z : gAm b l s0 G cX1_longestAt RX1 4 rmc_X1_longestAt := Z0
  refine x_el (L' := [(0, rv a), (1, iv p)]) rfl ?_
  obtain ⟨ha, hr, hb, hn0, hn30, hC⟩ := id ht
  have hCp := hC (p)
  have hsb := sb_in (C p)
  have hot := oth_in hsb.1 hsb.2
  refine x_aload_n Z dX1_longestAt_0 rfl rfl ?_
  refine x_iload_n Z dX1_longestAt_1 rfl rfl ?_
  refine x_callV (ci := 2) (C := RX1) (T := TX1) (N := 3) Z okX1_signAt q125 q126 q127 rfl dX1_longestAt_2 (c_X1_signAt h0 htr ht (by omega) (by omega)) ht.1 ⟨Nat.le_of_ble_eq_true rfl, Nat.le_of_ble_eq_true rfl, Nat.le_of_ble_eq_true rfl, Nat.le_of_ble_eq_true rfl⟩ rfl rfl (Nat.le_of_ble_eq_true rfl) (fun v9 w9 hR => ?_)
  obtain ⟨rfl, e9⟩ := hR
  refine x_ew e9 ?_
  simp only [Option.toList_some, Option.toList_none, List.cons_append, List.nil_append]
  refine x_callS Z okX0_sortBegunBy q129 q130 dX1_longestAt_5 (c_X0_sortBegunBy h0 htr (by omega) (by omega)) ⟨Nat.le_of_ble_eq_true rfl, Nat.le_of_ble_eq_true rfl, Nat.le_of_ble_eq_true rfl, Nat.le_of_ble_eq_true rfl⟩ rfl rfl (Nat.le_of_ble_eq_true rfl) (fun v9 w9 hR => ?_)
  obtain ⟨rfl, e9⟩ := hR
  refine x_ew e9 ?_
  simp only [Option.toList_some, Option.toList_none, List.cons_append, List.nil_append]
  refine x_callS Z okX0_questionOfOthers q145 q146 dX1_longestAt_8 (c_X0_questionOfOthers h0 htr (by omega) (by omega)) ⟨Nat.le_of_ble_eq_true rfl, Nat.le_of_ble_eq_true rfl, Nat.le_of_ble_eq_true rfl, Nat.le_of_ble_eq_true rfl⟩ rfl rfl (Nat.le_of_ble_eq_true rfl) (fun v9 w9 hR => ?_)
  obtain ⟨rfl, e9⟩ := hR
  refine x_ew e9 ?_
  simp only [Option.toList_some, Option.toList_none, List.cons_append, List.nil_append]
  refine x_istore_n (L' := [(2, _), (0, _), (1, _)]) Z dX1_longestAt_11 rfl (Nat.le_of_ble_eq_true rfl) rfl ?_
  refine x_iload_n Z dX1_longestAt_12 rfl rfl ?_
  refine x_iconst Z dX1_longestAt_13 ?_
  refine x_iadd Z dX1_longestAt_14 ?_
  refine x_istore_n (L' := [(3, _), (2, _), (0, _), (1, _)]) Z dX1_longestAt_15 rfl (Nat.le_of_ble_eq_true rfl) rfl ?_
  have loop16 : ∀ (fu : Nat) (e : Int), n - e < (fu : Int) → (p + 1 ≤ e ∧ e ≤ n ∧ findI (fun e => !so (C e) (oth (sb (C p)))) e n = findI (fun e => !so (C e) (oth (sb (C p)))) (p + 1) n) → gX b s0 G (0) (0) 16 [(3, iv e), (2, iv (oth (sb (C p)))), (0, rv a), (1, iv p)] [] (w) := by
    intro fu; induction fu with
    | zero => intro e hm hv; exact absurd hm (by omega)
    | succ fu ih16 =>
      intro e hm hv
      obtain ⟨hi0, hin, hif⟩ := hv
      have hCe := hC e
      refine x_iload_n Z dX1_longestAt_16 rfl rfl ?_
      refine x_aload_n Z dX1_longestAt_17 rfl rfl ?_
      refine x_getf (ci := 2) (j := 1) (C := RX1) (T := TX1) (N := 3) Z inX1g rfl (by decide) q73 rfl dX1_longestAt_18 (by assumption) rfl ?_
      refine x_icmp_ge Z 42 dX1_longestAt_21 (by decide) ⟨by omega, by omega⟩ ⟨by omega, by omega⟩ (fun c21 => ?_) (fun c21 => ?_)
      ·
        refine x_iload_n Z dX1_longestAt_42 rfl rfl ?_
        refine x_iload_n Z dX1_longestAt_43 rfl rfl ?_
        refine x_isub Z dX1_longestAt_44 ?_
        exact x_iret Z E (⟨by unfold lon; rw [← hif]; first | rw [findI_e (by omega)] | rw [findI_h (by show (!so (C e) (oth (sb (C p)))) = true; rw [c33]; rfl)], rfl⟩) dX1_longestAt_45 (Nat.le_of_ble_eq_true rfl) (Nat.le_of_ble_eq_true rfl)
      ·
        refine x_aload_n Z dX1_longestAt_24 rfl rfl ?_
        refine x_iload_n Z dX1_longestAt_25 rfl rfl ?_
        refine x_callV (ci := 2) (C := RX1) (T := TX1) (N := 3) Z okX1_signAt q125 q126 q127 rfl dX1_longestAt_26 (c_X1_signAt h0 htr ht (by omega) (by omega)) ht.1 ⟨Nat.le_of_ble_eq_true rfl, Nat.le_of_ble_eq_true rfl, Nat.le_of_ble_eq_true rfl, Nat.le_of_ble_eq_true rfl⟩ rfl rfl (Nat.le_of_ble_eq_true rfl) (fun v9 w9 hR => ?_)
        obtain ⟨rfl, e9⟩ := hR
        refine x_ew e9 ?_
        simp only [Option.toList_some, Option.toList_none, List.cons_append, List.nil_append]
        refine x_iload_n Z dX1_longestAt_29 rfl rfl ?_
        refine x_callS Z okX0_isSo q150 q135 dX1_longestAt_30 (c_X0_isSo h0 htr (by omega) (by omega) (by omega) (by omega)) ⟨Nat.le_of_ble_eq_true rfl, Nat.le_of_ble_eq_true rfl, Nat.le_of_ble_eq_true rfl, Nat.le_of_ble_eq_true rfl⟩ rfl rfl (Nat.le_of_ble_eq_true rfl) (fun v9 w9 hR => ?_)
        obtain ⟨rfl, e9⟩ := hR
        refine x_ew e9 ?_
        simp only [Option.toList_some, Option.toList_none, List.cons_append, List.nil_append]
        refine x_ifb_eq Z 42 dX1_longestAt_33 (by decide) (fun c33 => ?_) (fun c33 => ?_)
        ·
          refine x_iload_n Z dX1_longestAt_42 rfl rfl ?_
          refine x_iload_n Z dX1_longestAt_43 rfl rfl ?_
          refine x_isub Z dX1_longestAt_44 ?_
          exact x_iret Z E (⟨by unfold lon; rw [← hif]; first | rw [findI_e (by omega)] | rw [findI_h (by show (!so (C e) (oth (sb (C p)))) = true; rw [c33]; rfl)], rfl⟩) dX1_longestAt_45 (Nat.le_of_ble_eq_true rfl) (Nat.le_of_ble_eq_true rfl)
        ·
          refine x_iinc (L' := [(3, _), (2, _), (0, _), (1, _)]) Z dX1_longestAt_36 rfl (Nat.le_of_ble_eq_true rfl) rfl ?_
          refine x_goto Z 16 dX1_longestAt_39 (by decide) ?_
          exact ih16 (e + 1) (by omega) ⟨by omega, by omega, by rw [← hif]; exact (findI_m (by omega) (by show (!so (C e) (oth (sb (C p)))) = false; rw [c33]; rfl)).symm⟩
  exact loop16 (n.toNat + 1) (p + 1) (by omega) ⟨by omega, by omega, rfl⟩
abbrev rmc_X1_sortOf : Room := { frames := 4, cells := 0, slots := 0, locals := 87 }
set_option maxRecDepth 100000 in
theorem c_X1_sortOf {l : Launch} {s0 : State} {G : gK} {w : wd} (h0 : gS0 s0) (htr : l.stackTraces = false) {a r bb : Nat} {n : Int} {C B : Int → Int} {p e : Int} (ht : tX G w a r bb n C B) (h1 : 0 ≤ p) (h2 : p < e) (h3 : e ≤ n) : gM l s0 G yX1_sortOf [Cond.code yX1_sortOf cX1_sortOf 3 (some .int)] rmc_X1_sortOf [rv a, iv p, iv e] w (fun v w' => v = some (iv (if e - p ≤ lon n C p then sb (C p) else -1)) ∧ w' = w) (noX) := by
  refine g_of h0 htr (by decide +kernel) (Nat.le_of_ble_eq_true rfl) ?_
  intro b Z0 E
  have Z : gAm b l s0 G cX1_sortOf RX1 3 rmc_X1_sortOf := Z0
  refine x_el (L' := [(0, rv a), (1, iv p), (2, iv e)]) rfl ?_
  obtain ⟨ha, hr, hb, hn0, hn30, hC⟩ := id ht
  have hCp := hC (p)
  have hlo := lon_in (n := n) (C := C) (p := p) (by omega)
  refine x_iload_n Z dX1_sortOf_0 rfl rfl ?_
  refine x_iload_n Z dX1_sortOf_1 rfl rfl ?_
  refine x_isub Z dX1_sortOf_2 ?_
  refine x_aload_n Z dX1_sortOf_3 rfl rfl ?_
  refine x_iload_n Z dX1_sortOf_4 rfl rfl ?_
  refine x_callV (ci := 2) (C := RX1) (T := TX1) (N := 3) Z okX1_longestAt q121 q122 q123 rfl dX1_sortOf_5 (c_X1_longestAt h0 htr ht (by omega) (by omega)) ht.1 ⟨Nat.le_of_ble_eq_true rfl, Nat.le_of_ble_eq_true rfl, Nat.le_of_ble_eq_true rfl, Nat.le_of_ble_eq_true rfl⟩ rfl rfl (Nat.le_of_ble_eq_true rfl) (fun v9 w9 hR => ?_)
  obtain ⟨rfl, e9⟩ := hR
  refine x_ew e9 ?_
  simp only [Option.toList_some, Option.toList_none, List.cons_append, List.nil_append]
  refine x_icmp_gt Z 22 dX1_sortOf_8 (by decide) ⟨by omega, by omega⟩ ⟨by omega, by omega⟩ (fun c8 => ?_) (fun c8 => ?_)
  ·
    refine x_iconst Z dX1_sortOf_22 ?_
    exact x_iret Z E (⟨by first | rw [if_pos (by omega)] | rw [if_neg (by omega)], rfl⟩) dX1_sortOf_23 (Nat.le_of_ble_eq_true rfl) (Nat.le_of_ble_eq_true rfl)
  ·
    refine x_aload_n Z dX1_sortOf_11 rfl rfl ?_
    refine x_iload_n Z dX1_sortOf_12 rfl rfl ?_
    refine x_callV (ci := 2) (C := RX1) (T := TX1) (N := 3) Z okX1_signAt q125 q126 q127 rfl dX1_sortOf_13 (c_X1_signAt h0 htr ht (by omega) (by omega)) ht.1 ⟨Nat.le_of_ble_eq_true rfl, Nat.le_of_ble_eq_true rfl, Nat.le_of_ble_eq_true rfl, Nat.le_of_ble_eq_true rfl⟩ rfl rfl (Nat.le_of_ble_eq_true rfl) (fun v9 w9 hR => ?_)
    obtain ⟨rfl, e9⟩ := hR
    refine x_ew e9 ?_
    simp only [Option.toList_some, Option.toList_none, List.cons_append, List.nil_append]
    refine x_callS Z okX0_sortBegunBy q129 q130 dX1_sortOf_16 (c_X0_sortBegunBy h0 htr (by omega) (by omega)) ⟨Nat.le_of_ble_eq_true rfl, Nat.le_of_ble_eq_true rfl, Nat.le_of_ble_eq_true rfl, Nat.le_of_ble_eq_true rfl⟩ rfl rfl (Nat.le_of_ble_eq_true rfl) (fun v9 w9 hR => ?_)
    obtain ⟨rfl, e9⟩ := hR
    refine x_ew e9 ?_
    simp only [Option.toList_some, Option.toList_none, List.cons_append, List.nil_append]
    refine x_goto Z 23 dX1_sortOf_19 (by decide) ?_
    exact x_iret Z E (⟨by first | rw [if_pos (by omega)] | rw [if_neg (by omega)], rfl⟩) dX1_sortOf_23 (Nat.le_of_ble_eq_true rfl) (Nat.le_of_ble_eq_true rfl)
abbrev rmc_X1_isNamed : Room := { frames := 4, cells := 0, slots := 0, locals := 87 }
set_option maxRecDepth 100000 in
theorem c_X1_isNamed {l : Launch} {s0 : State} {G : gK} {w : wd} (h0 : gS0 s0) (htr : l.stackTraces = false) {a r bb : Nat} {n : Int} {C B : Int → Int} (ht : tX G w a r bb n C B) : gM l s0 G yX1_isNamed [Cond.code yX1_isNamed cX1_isNamed 1 (some .boolean)] rmc_X1_isNamed [rv a] w (fun v w' => v = some (iv (b2 (decide (0 < n ∧ sb (C 0) = 0 ∧ lon n C 0 = n)))) ∧ w' = w) (noX) := by
  refine g_of h0 htr (by decide +kernel) (Nat.le_of_ble_eq_true rfl) ?_
  intro b Z0 E
  have Z : gAm b l s0 G cX1_isNamed RX1 1 rmc_X1_isNamed := Z0
  refine x_el (L' := [(0, rv a)]) rfl ?_
  obtain ⟨ha, hr, hb, hn0, hn30, hC⟩ := id ht
  have hCp := hC (0)
  have hsb := sb_in (C 0)
  refine x_aload_n Z dX1_isNamed_0 rfl rfl ?_
  refine x_getf (ci := 2) (j := 1) (C := RX1) (T := TX1) (N := 3) Z inX1g rfl (by decide) q73 rfl dX1_isNamed_1 (by assumption) rfl ?_
  refine x_if_le Z 34 dX1_isNamed_4 (by decide) ⟨by omega, by omega⟩ (fun c4 => ?_) (fun c4 => ?_)
  ·
    refine x_ib false Z dX1_isNamed_34 (by decide) ?_
    exact x_zret Z E (⟨by first | (rw [show decide (0 < n ∧ sb (C 0) = 0 ∧ lon n C 0 = n) = true from decide_eq_true (by omega)]; done) | (rw [show decide (0 < n ∧ sb (C 0) = 0 ∧ lon n C 0 = n) = false from decide_eq_false (by omega)]; done), rfl⟩) dX1_isNamed_35 (Nat.le_of_ble_eq_true rfl) (Nat.le_of_ble_eq_true rfl)
  ·
    refine x_aload_n Z dX1_isNamed_7 rfl rfl ?_
    refine x_iconst Z dX1_isNamed_8 ?_
    refine x_callV (ci := 2) (C := RX1) (T := TX1) (N := 3) Z okX1_signAt q125 q126 q127 rfl dX1_isNamed_9 (c_X1_signAt h0 htr ht (by omega) (by omega)) ht.1 ⟨Nat.le_of_ble_eq_true rfl, Nat.le_of_ble_eq_true rfl, Nat.le_of_ble_eq_true rfl, Nat.le_of_ble_eq_true rfl⟩ rfl rfl (Nat.le_of_ble_eq_true rfl) (fun v9 w9 hR => ?_)
    obtain ⟨rfl, e9⟩ := hR
    refine x_ew e9 ?_
    simp only [Option.toList_some, Option.toList_none, List.cons_append, List.nil_append]
    refine x_callS Z okX0_sortBegunBy q129 q130 dX1_isNamed_12 (c_X0_sortBegunBy h0 htr (by omega) (by omega)) ⟨Nat.le_of_ble_eq_true rfl, Nat.le_of_ble_eq_true rfl, Nat.le_of_ble_eq_true rfl, Nat.le_of_ble_eq_true rfl⟩ rfl rfl (Nat.le_of_ble_eq_true rfl) (fun v9 w9 hR => ?_)
    obtain ⟨rfl, e9⟩ := hR
    refine x_ew e9 ?_
    simp only [Option.toList_some, Option.toList_none, List.cons_append, List.nil_append]
    refine x_if_ne Z 34 dX1_isNamed_15 (by decide) ⟨by omega, by omega⟩ (fun c15 => ?_) (fun c15 => ?_)
    ·
      refine x_ib false Z dX1_isNamed_34 (by decide) ?_
      exact x_zret Z E (⟨by first | (rw [show decide (0 < n ∧ sb (C 0) = 0 ∧ lon n C 0 = n) = true from decide_eq_true (by omega)]; done) | (rw [show decide (0 < n ∧ sb (C 0) = 0 ∧ lon n C 0 = n) = false from decide_eq_false (by omega)]; done), rfl⟩) dX1_isNamed_35 (Nat.le_of_ble_eq_true rfl) (Nat.le_of_ble_eq_true rfl)
    ·
      refine x_aload_n Z dX1_isNamed_18 rfl rfl ?_
      refine x_iconst Z dX1_isNamed_19 ?_
      have hlo := lon_in (n := n) (C := C) (p := 0) (by omega)
      refine x_callV (ci := 2) (C := RX1) (T := TX1) (N := 3) Z okX1_longestAt q121 q122 q123 rfl dX1_isNamed_20 (c_X1_longestAt h0 htr ht (by omega) (by omega)) ht.1 ⟨Nat.le_of_ble_eq_true rfl, Nat.le_of_ble_eq_true rfl, Nat.le_of_ble_eq_true rfl, Nat.le_of_ble_eq_true rfl⟩ rfl rfl (Nat.le_of_ble_eq_true rfl) (fun v9 w9 hR => ?_)
      obtain ⟨rfl, e9⟩ := hR
      refine x_ew e9 ?_
      simp only [Option.toList_some, Option.toList_none, List.cons_append, List.nil_append]
      refine x_aload_n Z dX1_isNamed_23 rfl rfl ?_
      refine x_getf (ci := 2) (j := 1) (C := RX1) (T := TX1) (N := 3) Z inX1g rfl (by decide) q73 rfl dX1_isNamed_24 (by assumption) rfl ?_
      refine x_icmp_ne Z 34 dX1_isNamed_27 (by decide) ⟨by omega, by omega⟩ ⟨by omega, by omega⟩ (fun c27 => ?_) (fun c27 => ?_)
      ·
        refine x_ib false Z dX1_isNamed_34 (by decide) ?_
        exact x_zret Z E (⟨by first | (rw [show decide (0 < n ∧ sb (C 0) = 0 ∧ lon n C 0 = n) = true from decide_eq_true (by omega)]; done) | (rw [show decide (0 < n ∧ sb (C 0) = 0 ∧ lon n C 0 = n) = false from decide_eq_false (by omega)]; done), rfl⟩) dX1_isNamed_35 (Nat.le_of_ble_eq_true rfl) (Nat.le_of_ble_eq_true rfl)
      ·
        refine x_ib true Z dX1_isNamed_30 (by decide) ?_
        refine x_goto Z 35 dX1_isNamed_31 (by decide) ?_
        exact x_zret Z E (⟨by first | (rw [show decide (0 < n ∧ sb (C 0) = 0 ∧ lon n C 0 = n) = true from decide_eq_true (by omega)]; done) | (rw [show decide (0 < n ∧ sb (C 0) = 0 ∧ lon n C 0 = n) = false from decide_eq_false (by omega)]; done), rfl⟩) dX1_isNamed_35 (Nat.le_of_ble_eq_true rfl) (Nat.le_of_ble_eq_true rfl)
abbrev rmc_X1_firstFault : Room := { frames := 3, cells := 0, slots := 0, locals := 64 }
set_option maxRecDepth 100000 in
theorem c_X1_firstFault {l : Launch} {s0 : State} {G : gK} {w : wd} (h0 : gS0 s0) (htr : l.stackTraces = false) {a r bb : Nat} {n : Int} {C B : Int → Int} (ht : tX G w a r bb n C B) : gM l s0 G yX1_firstFault [Cond.code yX1_firstFault cX1_firstFault 2 (some .int)] rmc_X1_firstFault [rv a] w (fun v w' => v = some (iv (if findI (fun j => !so (C j) (cond (decide (j = 0)) 11 12)) 0 n < n then findI (fun j => !so (C j) (cond (decide (j = 0)) 11 12)) 0 n else if n = 0 then 0 else -1)) ∧ w' = w) (noX) := by
  refine g_of h0 htr (by decide +kernel) (Nat.le_of_ble_eq_true rfl) ?_
  intro b Z0 E
  have Z : gAm b l s0 G cX1_firstFault RX1 2 rmc_X1_firstFault := Z0
  refine x_el (L' := [(0, rv a)]) rfl ?_
  obtain ⟨ha, hr, hb, hn0, hn30, hC⟩ := id ht
  refine x_iconst Z dX1_firstFault_0 ?_
  refine x_istore_n (L' := [(1, _), (0, _)]) Z dX1_firstFault_1 rfl (Nat.le_of_ble_eq_true rfl) rfl ?_
  have loop2 : ∀ (fu : Nat) (i : Int), n - i < (fu : Int) → (0 ≤ i ∧ i ≤ n ∧ findI (fun j => !so (C j) (cond (decide (j = 0)) 11 12)) i n = findI (fun j => !so (C j) (cond (decide (j = 0)) 11 12)) 0 n) → gX b s0 G (0) (0) 2 [(1, iv i), (0, rv a)] [] (w) := by
    intro fu; induction fu with
    | zero => intro i hm hv; exact absurd hm (by omega)
    | succ fu ih2 =>
      intro i hm hv
      obtain ⟨hi0, hin, hif⟩ := hv
      have hCe := hC i
      refine x_iload_n Z dX1_firstFault_2 rfl rfl ?_
      refine x_aload_n Z dX1_firstFault_3 rfl rfl ?_
      refine x_getf (ci := 2) (j := 1) (C := RX1) (T := TX1) (N := 3) Z inX1g rfl (by decide) q73 rfl dX1_firstFault_4 (by assumption) rfl ?_
      refine x_icmp_ge Z 38 dX1_firstFault_7 (by decide) ⟨by omega, by omega⟩ ⟨by omega, by omega⟩ (fun c7 => ?_) (fun c7 => ?_)
      ·
        refine x_aload_n Z dX1_firstFault_38 rfl rfl ?_
        refine x_getf (ci := 2) (j := 1) (C := RX1) (T := TX1) (N := 3) Z inX1g rfl (by decide) q73 rfl dX1_firstFault_39 (by assumption) rfl ?_
        refine x_if_ne Z 49 dX1_firstFault_42 (by decide) ⟨by omega, by omega⟩ (fun c42 => ?_) (fun c42 => ?_)
        ·
          refine x_iconst Z dX1_firstFault_49 ?_
          exact x_iret Z E (⟨by rw [← hif, findI_e (by omega), if_neg (by omega)]; first | rw [if_pos (by omega)] | rw [if_neg (by omega)], rfl⟩) dX1_firstFault_50 (Nat.le_of_ble_eq_true rfl) (Nat.le_of_ble_eq_true rfl)
        ·
          refine x_iconst Z dX1_firstFault_45 ?_
          refine x_goto Z 50 dX1_firstFault_46 (by decide) ?_
          exact x_iret Z E (⟨by rw [← hif, findI_e (by omega), if_neg (by omega)]; first | rw [if_pos (by omega)] | rw [if_neg (by omega)], rfl⟩) dX1_firstFault_50 (Nat.le_of_ble_eq_true rfl) (Nat.le_of_ble_eq_true rfl)
      ·
        refine x_aload_n Z dX1_firstFault_10 rfl rfl ?_
        refine x_iload_n Z dX1_firstFault_11 rfl rfl ?_
        refine x_callV (ci := 2) (C := RX1) (T := TX1) (N := 3) Z okX1_signAt q125 q126 q127 rfl dX1_firstFault_12 (c_X1_signAt h0 htr ht (by omega) (by omega)) ht.1 ⟨Nat.le_of_ble_eq_true rfl, Nat.le_of_ble_eq_true rfl, Nat.le_of_ble_eq_true rfl, Nat.le_of_ble_eq_true rfl⟩ rfl rfl (Nat.le_of_ble_eq_true rfl) (fun v9 w9 hR => ?_)
        obtain ⟨rfl, e9⟩ := hR
        refine x_ew e9 ?_
        simp only [Option.toList_some, Option.toList_none, List.cons_append, List.nil_append]
        refine x_iload_n Z dX1_firstFault_15 rfl rfl ?_
        refine x_if_ne Z 23 dX1_firstFault_16 (by decide) ⟨by omega, by omega⟩ (fun c16 => ?_) (fun c16 => ?_)
        ·
          refine x_ib false Z dX1_firstFault_23 (by decide) ?_
          refine x_callS Z okX0_isLet q184 q185 dX1_firstFault_24 (c_X0_isLet h0 htr (by omega) (by omega)) ⟨Nat.le_of_ble_eq_true rfl, Nat.le_of_ble_eq_true rfl, Nat.le_of_ble_eq_true rfl, Nat.le_of_ble_eq_true rfl⟩ rfl rfl (Nat.le_of_ble_eq_true rfl) (fun v9 w9 hR => ?_)
          obtain ⟨rfl, e9⟩ := hR
          refine x_ew e9 ?_
          simp only [Option.toList_some, Option.toList_none, List.cons_append, List.nil_append]
          refine x_ifb_ne Z 32 dX1_firstFault_27 (by decide) (fun c27 => ?_) (fun c27 => ?_)
          ·
            refine x_iinc (L' := [(1, _), (0, _)]) Z dX1_firstFault_32 rfl (Nat.le_of_ble_eq_true rfl) rfl ?_
            refine x_goto Z 2 dX1_firstFault_35 (by decide) ?_
            exact ih2 (i + 1) (by omega) ⟨by omega, by omega, by rw [← hif]; exact (findI_m (by omega) (by show (!so (C i) (cond (decide (i = 0)) 11 12)) = false; first | rw [decide_eq_true c16, c27]; rfl | rw [decide_eq_false c16, c27]; rfl)).symm⟩
          ·
            refine x_iload_n Z dX1_firstFault_30 rfl rfl ?_
            exact x_iret Z E (⟨by have hh : findI (fun j => !so (C j) (cond (decide (j = 0)) 11 12)) 0 n = i := by { rw [← hif]; exact findI_h (by show (!so (C i) (cond (decide (i = 0)) 11 12)) = true; first | rw [decide_eq_true c16, c27]; rfl | rw [decide_eq_false c16, c27]; rfl) }; rw [hh, if_pos (by omega)], rfl⟩) dX1_firstFault_31 (Nat.le_of_ble_eq_true rfl) (Nat.le_of_ble_eq_true rfl)
        ·
          refine x_ib true Z dX1_firstFault_19 (by decide) ?_
          refine x_goto Z 24 dX1_firstFault_20 (by decide) ?_
          refine x_callS Z okX0_isLet q184 q185 dX1_firstFault_24 (c_X0_isLet h0 htr (by omega) (by omega)) ⟨Nat.le_of_ble_eq_true rfl, Nat.le_of_ble_eq_true rfl, Nat.le_of_ble_eq_true rfl, Nat.le_of_ble_eq_true rfl⟩ rfl rfl (Nat.le_of_ble_eq_true rfl) (fun v9 w9 hR => ?_)
          obtain ⟨rfl, e9⟩ := hR
          refine x_ew e9 ?_
          simp only [Option.toList_some, Option.toList_none, List.cons_append, List.nil_append]
          refine x_ifb_ne Z 32 dX1_firstFault_27 (by decide) (fun c27 => ?_) (fun c27 => ?_)
          ·
            refine x_iinc (L' := [(1, _), (0, _)]) Z dX1_firstFault_32 rfl (Nat.le_of_ble_eq_true rfl) rfl ?_
            refine x_goto Z 2 dX1_firstFault_35 (by decide) ?_
            exact ih2 (i + 1) (by omega) ⟨by omega, by omega, by rw [← hif]; exact (findI_m (by omega) (by show (!so (C i) (cond (decide (i = 0)) 11 12)) = false; first | rw [decide_eq_true c16, c27]; rfl | rw [decide_eq_false c16, c27]; rfl)).symm⟩
          ·
            refine x_iload_n Z dX1_firstFault_30 rfl rfl ?_
            exact x_iret Z E (⟨by have hh : findI (fun j => !so (C j) (cond (decide (j = 0)) 11 12)) 0 n = i := by { rw [← hif]; exact findI_h (by show (!so (C i) (cond (decide (i = 0)) 11 12)) = true; first | rw [decide_eq_true c16, c27]; rfl | rw [decide_eq_false c16, c27]; rfl) }; rw [hh, if_pos (by omega)], rfl⟩) dX1_firstFault_31 (Nat.le_of_ble_eq_true rfl) (Nat.le_of_ble_eq_true rfl)
  exact loop2 (n.toNat + 1) 0 (by omega) ⟨by omega, by omega, rfl⟩
end
section
/-! decode rows of the JDK -/
theorem dJ5_init_d00df_0 : decode cJ5_init_d00df 0 = .ok (.aload_n 0, 1) := by decide +kernel
theorem dJ5_init_d00df_1 : decode cJ5_init_d00df 1 = .ok (.invokespecial 3, 3) := by decide +kernel
theorem dJ5_init_d00df_4 : decode cJ5_init_d00df 4 = .ok (.getstatic 18, 3) := by decide +kernel
theorem dJ5_init_d00df_7 : decode cJ5_init_d00df 7 = .ok (.ifCond .eq 18, 3) := by decide +kernel
theorem dJ5_init_d00df_10 : decode cJ5_init_d00df 10 = .ok (.aload_n 0, 1) := by decide +kernel
theorem dJ5_init_d00df_11 : decode cJ5_init_d00df 11 = .ok (.iload_n 1, 1) := by decide +kernel
theorem dJ5_init_d00df_12 : decode cJ5_init_d00df 12 = .ok (.newarray .byte, 2) := by decide +kernel
theorem dJ5_init_d00df_14 : decode cJ5_init_d00df 14 = .ok (.putfield 15, 3) := by decide +kernel
theorem dJ5_init_d00df_17 : decode cJ5_init_d00df 17 = .ok (.aload_n 0, 1) := by decide +kernel
theorem dJ5_init_d00df_18 : decode cJ5_init_d00df 18 = .ok (.iconst 0, 1) := by decide +kernel
theorem dJ5_init_d00df_19 : decode cJ5_init_d00df 19 = .ok (.putfield 22, 3) := by decide +kernel
theorem dJ5_init_d00df_22 : decode cJ5_init_d00df 22 = .ok (.goto 16, 3) := by decide +kernel
theorem dJ5_init_d00df_25 : decode cJ5_init_d00df 25 = .ok (.aload_n 0, 1) := by decide +kernel
theorem dJ5_init_d00df_26 : decode cJ5_init_d00df 26 = .ok (.iload_n 1, 1) := by decide +kernel
theorem dJ5_init_d00df_27 : decode cJ5_init_d00df 27 = .ok (.invokestatic 26, 3) := by decide +kernel
theorem dJ5_init_d00df_30 : decode cJ5_init_d00df 30 = .ok (.putfield 15, 3) := by decide +kernel
theorem dJ5_init_d00df_33 : decode cJ5_init_d00df 33 = .ok (.aload_n 0, 1) := by decide +kernel
theorem dJ5_init_d00df_34 : decode cJ5_init_d00df 34 = .ok (.iconst 1, 1) := by decide +kernel
theorem dJ5_init_d00df_35 : decode cJ5_init_d00df 35 = .ok (.putfield 22, 3) := by decide +kernel
theorem dJ5_init_d00df_38 : decode cJ5_init_d00df 38 = .ok (.return_, 1) := by decide +kernel
theorem dJ5_length_8abf5_0 : decode cJ5_length_8abf5 0 = .ok (.aload_n 0, 1) := by decide +kernel
theorem dJ5_length_8abf5_1 : decode cJ5_length_8abf5 1 = .ok (.getfield 79, 3) := by decide +kernel
theorem dJ5_length_8abf5_4 : decode cJ5_length_8abf5 4 = .ok (.ireturn, 1) := by decide +kernel
theorem dJ5_ensureCapacityInternal_d00df_0 : decode cJ5_ensureCapacityInternal_d00df 0 = .ok (.aload_n 0, 1) := by decide +kernel
theorem dJ5_ensureCapacityInternal_d00df_1 : decode cJ5_ensureCapacityInternal_d00df 1 = .ok (.getfield 15, 3) := by decide +kernel
theorem dJ5_ensureCapacityInternal_d00df_4 : decode cJ5_ensureCapacityInternal_d00df 4 = .ok (.arraylength, 1) := by decide +kernel
theorem dJ5_ensureCapacityInternal_d00df_5 : decode cJ5_ensureCapacityInternal_d00df 5 = .ok (.aload_n 0, 1) := by decide +kernel
theorem dJ5_ensureCapacityInternal_d00df_6 : decode cJ5_ensureCapacityInternal_d00df 6 = .ok (.getfield 22, 3) := by decide +kernel
theorem dJ5_ensureCapacityInternal_d00df_9 : decode cJ5_ensureCapacityInternal_d00df 9 = .ok (.ishr, 1) := by decide +kernel
theorem dJ5_ensureCapacityInternal_d00df_10 : decode cJ5_ensureCapacityInternal_d00df 10 = .ok (.istore_n 2, 1) := by decide +kernel
theorem dJ5_ensureCapacityInternal_d00df_11 : decode cJ5_ensureCapacityInternal_d00df 11 = .ok (.iload_n 1, 1) := by decide +kernel
theorem dJ5_ensureCapacityInternal_d00df_12 : decode cJ5_ensureCapacityInternal_d00df 12 = .ok (.iload_n 2, 1) := by decide +kernel
theorem dJ5_ensureCapacityInternal_d00df_13 : decode cJ5_ensureCapacityInternal_d00df 13 = .ok (.isub, 1) := by decide +kernel
theorem dJ5_ensureCapacityInternal_d00df_14 : decode cJ5_ensureCapacityInternal_d00df 14 = .ok (.ifCond .le 24, 3) := by decide +kernel
theorem dJ5_ensureCapacityInternal_d00df_17 : decode cJ5_ensureCapacityInternal_d00df 17 = .ok (.aload_n 0, 1) := by decide +kernel
theorem dJ5_ensureCapacityInternal_d00df_18 : decode cJ5_ensureCapacityInternal_d00df 18 = .ok (.aload_n 0, 1) := by decide +kernel
theorem dJ5_ensureCapacityInternal_d00df_19 : decode cJ5_ensureCapacityInternal_d00df 19 = .ok (.getfield 15, 3) := by decide +kernel
theorem dJ5_ensureCapacityInternal_d00df_22 : decode cJ5_ensureCapacityInternal_d00df 22 = .ok (.aload_n 0, 1) := by decide +kernel
theorem dJ5_ensureCapacityInternal_d00df_23 : decode cJ5_ensureCapacityInternal_d00df 23 = .ok (.iload_n 1, 1) := by decide +kernel
theorem dJ5_ensureCapacityInternal_d00df_24 : decode cJ5_ensureCapacityInternal_d00df 24 = .ok (.invokevirtual 104, 3) := by decide +kernel
theorem dJ5_ensureCapacityInternal_d00df_27 : decode cJ5_ensureCapacityInternal_d00df 27 = .ok (.aload_n 0, 1) := by decide +kernel
theorem dJ5_ensureCapacityInternal_d00df_28 : decode cJ5_ensureCapacityInternal_d00df 28 = .ok (.getfield 22, 3) := by decide +kernel
theorem dJ5_ensureCapacityInternal_d00df_31 : decode cJ5_ensureCapacityInternal_d00df 31 = .ok (.ishl, 1) := by decide +kernel
theorem dJ5_ensureCapacityInternal_d00df_32 : decode cJ5_ensureCapacityInternal_d00df 32 = .ok (.invokestatic 108, 3) := by decide +kernel
theorem dJ5_ensureCapacityInternal_d00df_35 : decode cJ5_ensureCapacityInternal_d00df 35 = .ok (.putfield 15, 3) := by decide +kernel
theorem dJ5_ensureCapacityInternal_d00df_38 : decode cJ5_ensureCapacityInternal_d00df 38 = .ok (.return_, 1) := by decide +kernel
theorem dJ5_newCapacity_0f7a4_0 : decode cJ5_newCapacity_0f7a4 0 = .ok (.aload_n 0, 1) := by decide +kernel
theorem dJ5_newCapacity_0f7a4_1 : decode cJ5_newCapacity_0f7a4 1 = .ok (.getfield 15, 3) := by decide +kernel
theorem dJ5_newCapacity_0f7a4_4 : decode cJ5_newCapacity_0f7a4 4 = .ok (.arraylength, 1) := by decide +kernel
theorem dJ5_newCapacity_0f7a4_5 : decode cJ5_newCapacity_0f7a4 5 = .ok (.istore_n 2, 1) := by decide +kernel
theorem dJ5_newCapacity_0f7a4_6 : decode cJ5_newCapacity_0f7a4 6 = .ok (.iload_n 1, 1) := by decide +kernel
theorem dJ5_newCapacity_0f7a4_7 : decode cJ5_newCapacity_0f7a4 7 = .ok (.aload_n 0, 1) := by decide +kernel
theorem dJ5_newCapacity_0f7a4_8 : decode cJ5_newCapacity_0f7a4 8 = .ok (.getfield 22, 3) := by decide +kernel
theorem dJ5_newCapacity_0f7a4_11 : decode cJ5_newCapacity_0f7a4 11 = .ok (.ishl, 1) := by decide +kernel
theorem dJ5_newCapacity_0f7a4_12 : decode cJ5_newCapacity_0f7a4 12 = .ok (.istore_n 3, 1) := by decide +kernel
theorem dJ5_newCapacity_0f7a4_13 : decode cJ5_newCapacity_0f7a4 13 = .ok (.iload_n 3, 1) := by decide +kernel
theorem dJ5_newCapacity_0f7a4_14 : decode cJ5_newCapacity_0f7a4 14 = .ok (.iload_n 2, 1) := by decide +kernel
theorem dJ5_newCapacity_0f7a4_15 : decode cJ5_newCapacity_0f7a4 15 = .ok (.isub, 1) := by decide +kernel
theorem dJ5_newCapacity_0f7a4_16 : decode cJ5_newCapacity_0f7a4 16 = .ok (.istore 4, 2) := by decide +kernel
theorem dJ5_newCapacity_0f7a4_18 : decode cJ5_newCapacity_0f7a4 18 = .ok (.iload_n 2, 1) := by decide +kernel
theorem dJ5_newCapacity_0f7a4_19 : decode cJ5_newCapacity_0f7a4 19 = .ok (.iload 4, 2) := by decide +kernel
theorem dJ5_newCapacity_0f7a4_21 : decode cJ5_newCapacity_0f7a4 21 = .ok (.iload_n 2, 1) := by decide +kernel
theorem dJ5_newCapacity_0f7a4_22 : decode cJ5_newCapacity_0f7a4 22 = .ok (.iconst 2, 1) := by decide +kernel
theorem dJ5_newCapacity_0f7a4_23 : decode cJ5_newCapacity_0f7a4 23 = .ok (.aload_n 0, 1) := by decide +kernel
theorem dJ5_newCapacity_0f7a4_24 : decode cJ5_newCapacity_0f7a4 24 = .ok (.getfield 22, 3) := by decide +kernel
theorem dJ5_newCapacity_0f7a4_27 : decode cJ5_newCapacity_0f7a4 27 = .ok (.ishl, 1) := by decide +kernel
theorem dJ5_newCapacity_0f7a4_28 : decode cJ5_newCapacity_0f7a4 28 = .ok (.iadd, 1) := by decide +kernel
theorem dJ5_newCapacity_0f7a4_29 : decode cJ5_newCapacity_0f7a4 29 = .ok (.invokestatic 114, 3) := by decide +kernel
theorem dJ5_newCapacity_0f7a4_32 : decode cJ5_newCapacity_0f7a4 32 = .ok (.istore 5, 2) := by decide +kernel
theorem dJ5_newCapacity_0f7a4_34 : decode cJ5_newCapacity_0f7a4 34 = .ok (.iload 5, 2) := by decide +kernel
theorem dJ5_newCapacity_0f7a4_36 : decode cJ5_newCapacity_0f7a4 36 = .ok (.ldc 39, 2) := by decide +kernel
theorem dJ5_newCapacity_0f7a4_38 : decode cJ5_newCapacity_0f7a4 38 = .ok (.if_icmp .ne 13, 3) := by decide +kernel
theorem dJ5_newCapacity_0f7a4_41 : decode cJ5_newCapacity_0f7a4 41 = .ok (.new 120, 3) := by decide +kernel
theorem dJ5_newCapacity_0f7a4_44 : decode cJ5_newCapacity_0f7a4 44 = .ok (.dup, 1) := by decide +kernel
theorem dJ5_newCapacity_0f7a4_45 : decode cJ5_newCapacity_0f7a4 45 = .ok (.ldc 122, 2) := by decide +kernel
theorem dJ5_newCapacity_0f7a4_47 : decode cJ5_newCapacity_0f7a4 47 = .ok (.invokespecial 124, 3) := by decide +kernel
theorem dJ5_newCapacity_0f7a4_50 : decode cJ5_newCapacity_0f7a4 50 = .ok (.athrow, 1) := by decide +kernel
theorem dJ5_newCapacity_0f7a4_51 : decode cJ5_newCapacity_0f7a4 51 = .ok (.iload 5, 2) := by decide +kernel
theorem dJ5_newCapacity_0f7a4_53 : decode cJ5_newCapacity_0f7a4 53 = .ok (.aload_n 0, 1) := by decide +kernel
theorem dJ5_newCapacity_0f7a4_54 : decode cJ5_newCapacity_0f7a4 54 = .ok (.getfield 22, 3) := by decide +kernel
theorem dJ5_newCapacity_0f7a4_57 : decode cJ5_newCapacity_0f7a4 57 = .ok (.ishr, 1) := by decide +kernel
theorem dJ5_newCapacity_0f7a4_58 : decode cJ5_newCapacity_0f7a4 58 = .ok (.ireturn, 1) := by decide +kernel
theorem dJ5_inflate_da8c8_0 : decode cJ5_inflate_da8c8 0 = .ok (.aload_n 0, 1) := by decide +kernel
theorem dJ5_inflate_da8c8_1 : decode cJ5_inflate_da8c8 1 = .ok (.invokevirtual 83, 3) := by decide +kernel
theorem dJ5_inflate_da8c8_4 : decode cJ5_inflate_da8c8 4 = .ok (.ifCond .ne 4, 3) := by decide +kernel
theorem dJ5_inflate_da8c8_7 : decode cJ5_inflate_da8c8 7 = .ok (.return_, 1) := by decide +kernel
theorem dJ5_inflate_da8c8_8 : decode cJ5_inflate_da8c8 8 = .ok (.aload_n 0, 1) := by decide +kernel
theorem dJ5_inflate_da8c8_9 : decode cJ5_inflate_da8c8 9 = .ok (.getfield 15, 3) := by decide +kernel
theorem dJ5_inflate_da8c8_12 : decode cJ5_inflate_da8c8 12 = .ok (.arraylength, 1) := by decide +kernel
theorem dJ5_inflate_da8c8_13 : decode cJ5_inflate_da8c8 13 = .ok (.invokestatic 26, 3) := by decide +kernel
theorem dJ5_inflate_da8c8_16 : decode cJ5_inflate_da8c8 16 = .ok (.astore_n 1, 1) := by decide +kernel
theorem dJ5_inflate_da8c8_17 : decode cJ5_inflate_da8c8 17 = .ok (.aload_n 0, 1) := by decide +kernel
theorem dJ5_inflate_da8c8_18 : decode cJ5_inflate_da8c8 18 = .ok (.getfield 15, 3) := by decide +kernel
theorem dJ5_inflate_da8c8_21 : decode cJ5_inflate_da8c8 21 = .ok (.iconst 0, 1) := by decide +kernel
theorem dJ5_inflate_da8c8_22 : decode cJ5_inflate_da8c8 22 = .ok (.aload_n 1, 1) := by decide +kernel
theorem dJ5_inflate_da8c8_23 : decode cJ5_inflate_da8c8 23 = .ok (.iconst 0, 1) := by decide +kernel
theorem dJ5_inflate_da8c8_24 : decode cJ5_inflate_da8c8 24 = .ok (.aload_n 0, 1) := by decide +kernel
theorem dJ5_inflate_da8c8_25 : decode cJ5_inflate_da8c8 25 = .ok (.getfield 79, 3) := by decide +kernel
theorem dJ5_inflate_da8c8_28 : decode cJ5_inflate_da8c8 28 = .ok (.invokestatic 125, 3) := by decide +kernel
theorem dJ5_inflate_da8c8_31 : decode cJ5_inflate_da8c8 31 = .ok (.aload_n 0, 1) := by decide +kernel
theorem dJ5_inflate_da8c8_32 : decode cJ5_inflate_da8c8 32 = .ok (.aload_n 1, 1) := by decide +kernel
theorem dJ5_inflate_da8c8_33 : decode cJ5_inflate_da8c8 33 = .ok (.putfield 15, 3) := by decide +kernel
theorem dJ5_inflate_da8c8_36 : decode cJ5_inflate_da8c8 36 = .ok (.aload_n 0, 1) := by decide +kernel
theorem dJ5_inflate_da8c8_37 : decode cJ5_inflate_da8c8 37 = .ok (.iconst 1, 1) := by decide +kernel
theorem dJ5_inflate_da8c8_38 : decode cJ5_inflate_da8c8 38 = .ok (.putfield 22, 3) := by decide +kernel
theorem dJ5_inflate_da8c8_41 : decode cJ5_inflate_da8c8 41 = .ok (.return_, 1) := by decide +kernel
theorem dJ5_append_cf1ce_0 : decode cJ5_append_cf1ce 0 = .ok (.aload_n 1, 1) := by decide +kernel
theorem dJ5_append_cf1ce_1 : decode cJ5_append_cf1ce 1 = .ok (.ifnonnull 8, 3) := by decide +kernel
theorem dJ5_append_cf1ce_4 : decode cJ5_append_cf1ce 4 = .ok (.aload_n 0, 1) := by decide +kernel
theorem dJ5_append_cf1ce_5 : decode cJ5_append_cf1ce 5 = .ok (.invokevirtual 204, 3) := by decide +kernel
theorem dJ5_append_cf1ce_8 : decode cJ5_append_cf1ce 8 = .ok (.areturn, 1) := by decide +kernel
theorem dJ5_append_cf1ce_9 : decode cJ5_append_cf1ce 9 = .ok (.aload_n 1, 1) := by decide +kernel
theorem dJ5_append_cf1ce_10 : decode cJ5_append_cf1ce 10 = .ok (.invokevirtual 32, 3) := by decide +kernel
theorem dJ5_append_cf1ce_13 : decode cJ5_append_cf1ce 13 = .ok (.istore_n 2, 1) := by decide +kernel
theorem dJ5_append_cf1ce_14 : decode cJ5_append_cf1ce 14 = .ok (.aload_n 0, 1) := by decide +kernel
theorem dJ5_append_cf1ce_15 : decode cJ5_append_cf1ce 15 = .ok (.aload_n 0, 1) := by decide +kernel
theorem dJ5_append_cf1ce_16 : decode cJ5_append_cf1ce 16 = .ok (.getfield 79, 3) := by decide +kernel
theorem dJ5_append_cf1ce_19 : decode cJ5_append_cf1ce 19 = .ok (.iload_n 2, 1) := by decide +kernel
theorem dJ5_append_cf1ce_20 : decode cJ5_append_cf1ce 20 = .ok (.iadd, 1) := by decide +kernel
theorem dJ5_append_cf1ce_21 : decode cJ5_append_cf1ce 21 = .ok (.invokevirtual 100, 3) := by decide +kernel
theorem dJ5_append_cf1ce_24 : decode cJ5_append_cf1ce 24 = .ok (.aload_n 0, 1) := by decide +kernel
theorem dJ5_append_cf1ce_25 : decode cJ5_append_cf1ce 25 = .ok (.aload_n 0, 1) := by decide +kernel
theorem dJ5_append_cf1ce_26 : decode cJ5_append_cf1ce 26 = .ok (.getfield 79, 3) := by decide +kernel
theorem dJ5_append_cf1ce_29 : decode cJ5_append_cf1ce 29 = .ok (.aload_n 1, 1) := by decide +kernel
theorem dJ5_append_cf1ce_30 : decode cJ5_append_cf1ce 30 = .ok (.invokevirtual 208, 3) := by decide +kernel
theorem dJ5_append_cf1ce_33 : decode cJ5_append_cf1ce 33 = .ok (.aload_n 0, 1) := by decide +kernel
theorem dJ5_append_cf1ce_34 : decode cJ5_append_cf1ce 34 = .ok (.dup, 1) := by decide +kernel
theorem dJ5_append_cf1ce_35 : decode cJ5_append_cf1ce 35 = .ok (.getfield 79, 3) := by decide +kernel
theorem dJ5_append_cf1ce_38 : decode cJ5_append_cf1ce 38 = .ok (.iload_n 2, 1) := by decide +kernel
theorem dJ5_append_cf1ce_39 : decode cJ5_append_cf1ce 39 = .ok (.iadd, 1) := by decide +kernel
theorem dJ5_append_cf1ce_40 : decode cJ5_append_cf1ce 40 = .ok (.putfield 79, 3) := by decide +kernel
theorem dJ5_append_cf1ce_43 : decode cJ5_append_cf1ce 43 = .ok (.aload_n 0, 1) := by decide +kernel
theorem dJ5_append_cf1ce_44 : decode cJ5_append_cf1ce 44 = .ok (.areturn, 1) := by decide +kernel
theorem dJ5_appendNull_278bc_0 : decode cJ5_appendNull_278bc 0 = .ok (.aload_n 0, 1) := by decide +kernel
theorem dJ5_appendNull_278bc_1 : decode cJ5_appendNull_278bc 1 = .ok (.aload_n 0, 1) := by decide +kernel
theorem dJ5_appendNull_278bc_2 : decode cJ5_appendNull_278bc 2 = .ok (.getfield 79, 3) := by decide +kernel
theorem dJ5_appendNull_278bc_5 : decode cJ5_appendNull_278bc 5 = .ok (.iconst 4, 1) := by decide +kernel
theorem dJ5_appendNull_278bc_6 : decode cJ5_appendNull_278bc 6 = .ok (.iadd, 1) := by decide +kernel
theorem dJ5_appendNull_278bc_7 : decode cJ5_appendNull_278bc 7 = .ok (.invokevirtual 100, 3) := by decide +kernel
theorem dJ5_appendNull_278bc_10 : decode cJ5_appendNull_278bc 10 = .ok (.aload_n 0, 1) := by decide +kernel
theorem dJ5_appendNull_278bc_11 : decode cJ5_appendNull_278bc 11 = .ok (.getfield 79, 3) := by decide +kernel
theorem dJ5_appendNull_278bc_14 : decode cJ5_appendNull_278bc 14 = .ok (.istore_n 1, 1) := by decide +kernel
theorem dJ5_appendNull_278bc_15 : decode cJ5_appendNull_278bc 15 = .ok (.aload_n 0, 1) := by decide +kernel
theorem dJ5_appendNull_278bc_16 : decode cJ5_appendNull_278bc 16 = .ok (.getfield 15, 3) := by decide +kernel
theorem dJ5_appendNull_278bc_19 : decode cJ5_appendNull_278bc 19 = .ok (.astore_n 2, 1) := by decide +kernel
theorem dJ5_appendNull_278bc_20 : decode cJ5_appendNull_278bc 20 = .ok (.aload_n 0, 1) := by decide +kernel
theorem dJ5_appendNull_278bc_21 : decode cJ5_appendNull_278bc 21 = .ok (.invokevirtual 83, 3) := by decide +kernel
theorem dJ5_appendNull_278bc_24 : decode cJ5_appendNull_278bc 24 = .ok (.ifCond .eq 38, 3) := by decide +kernel
theorem dJ5_appendNull_278bc_27 : decode cJ5_appendNull_278bc 27 = .ok (.aload_n 2, 1) := by decide +kernel
theorem dJ5_appendNull_278bc_28 : decode cJ5_appendNull_278bc 28 = .ok (.iload_n 1, 1) := by decide +kernel
theorem dJ5_appendNull_278bc_29 : decode cJ5_appendNull_278bc 29 = .ok (.iinc 1 1, 3) := by decide +kernel
theorem dJ5_appendNull_278bc_32 : decode cJ5_appendNull_278bc 32 = .ok (.bipush 110, 2) := by decide +kernel
theorem dJ5_appendNull_278bc_34 : decode cJ5_appendNull_278bc 34 = .ok (.bastore, 1) := by decide +kernel
theorem dJ5_appendNull_278bc_35 : decode cJ5_appendNull_278bc 35 = .ok (.aload_n 2, 1) := by decide +kernel
theorem dJ5_appendNull_278bc_36 : decode cJ5_appendNull_278bc 36 = .ok (.iload_n 1, 1) := by decide +kernel
theorem dJ5_appendNull_278bc_37 : decode cJ5_appendNull_278bc 37 = .ok (.iinc 1 1, 3) := by decide +kernel
theorem dJ5_appendNull_278bc_40 : decode cJ5_appendNull_278bc 40 = .ok (.bipush 117, 2) := by decide +kernel
theorem dJ5_appendNull_278bc_42 : decode cJ5_appendNull_278bc 42 = .ok (.bastore, 1) := by decide +kernel
theorem dJ5_appendNull_278bc_43 : decode cJ5_appendNull_278bc 43 = .ok (.aload_n 2, 1) := by decide +kernel
theorem dJ5_appendNull_278bc_44 : decode cJ5_appendNull_278bc 44 = .ok (.iload_n 1, 1) := by decide +kernel
theorem dJ5_appendNull_278bc_45 : decode cJ5_appendNull_278bc 45 = .ok (.iinc 1 1, 3) := by decide +kernel
theorem dJ5_appendNull_278bc_48 : decode cJ5_appendNull_278bc 48 = .ok (.bipush 108, 2) := by decide +kernel
theorem dJ5_appendNull_278bc_50 : decode cJ5_appendNull_278bc 50 = .ok (.bastore, 1) := by decide +kernel
theorem dJ5_appendNull_278bc_51 : decode cJ5_appendNull_278bc 51 = .ok (.aload_n 2, 1) := by decide +kernel
theorem dJ5_appendNull_278bc_52 : decode cJ5_appendNull_278bc 52 = .ok (.iload_n 1, 1) := by decide +kernel
theorem dJ5_appendNull_278bc_53 : decode cJ5_appendNull_278bc 53 = .ok (.iinc 1 1, 3) := by decide +kernel
theorem dJ5_appendNull_278bc_56 : decode cJ5_appendNull_278bc 56 = .ok (.bipush 108, 2) := by decide +kernel
theorem dJ5_appendNull_278bc_58 : decode cJ5_appendNull_278bc 58 = .ok (.bastore, 1) := by decide +kernel
theorem dJ5_appendNull_278bc_59 : decode cJ5_appendNull_278bc 59 = .ok (.goto 17, 3) := by decide +kernel
theorem dJ5_appendNull_278bc_62 : decode cJ5_appendNull_278bc 62 = .ok (.aload_n 2, 1) := by decide +kernel
theorem dJ5_appendNull_278bc_63 : decode cJ5_appendNull_278bc 63 = .ok (.iload_n 1, 1) := by decide +kernel
theorem dJ5_appendNull_278bc_64 : decode cJ5_appendNull_278bc 64 = .ok (.bipush 110, 2) := by decide +kernel
theorem dJ5_appendNull_278bc_66 : decode cJ5_appendNull_278bc 66 = .ok (.bipush 117, 2) := by decide +kernel
theorem dJ5_appendNull_278bc_68 : decode cJ5_appendNull_278bc 68 = .ok (.bipush 108, 2) := by decide +kernel
theorem dJ5_appendNull_278bc_70 : decode cJ5_appendNull_278bc 70 = .ok (.bipush 108, 2) := by decide +kernel
theorem dJ5_appendNull_278bc_72 : decode cJ5_appendNull_278bc 72 = .ok (.invokestatic 226, 3) := by decide +kernel
theorem dJ5_appendNull_278bc_75 : decode cJ5_appendNull_278bc 75 = .ok (.istore_n 1, 1) := by decide +kernel
theorem dJ5_appendNull_278bc_76 : decode cJ5_appendNull_278bc 76 = .ok (.aload_n 0, 1) := by decide +kernel
theorem dJ5_appendNull_278bc_77 : decode cJ5_appendNull_278bc 77 = .ok (.iload_n 1, 1) := by decide +kernel
theorem dJ5_appendNull_278bc_78 : decode cJ5_appendNull_278bc 78 = .ok (.putfield 79, 3) := by decide +kernel
theorem dJ5_appendNull_278bc_81 : decode cJ5_appendNull_278bc 81 = .ok (.aload_n 0, 1) := by decide +kernel
theorem dJ5_appendNull_278bc_82 : decode cJ5_appendNull_278bc 82 = .ok (.areturn, 1) := by decide +kernel
theorem dJ5_append_3fe6f_0 : decode cJ5_append_3fe6f 0 = .ok (.aload_n 0, 1) := by decide +kernel
theorem dJ5_append_3fe6f_1 : decode cJ5_append_3fe6f 1 = .ok (.aload_n 0, 1) := by decide +kernel
theorem dJ5_append_3fe6f_2 : decode cJ5_append_3fe6f 2 = .ok (.getfield 79, 3) := by decide +kernel
theorem dJ5_append_3fe6f_5 : decode cJ5_append_3fe6f 5 = .ok (.iconst 1, 1) := by decide +kernel
theorem dJ5_append_3fe6f_6 : decode cJ5_append_3fe6f 6 = .ok (.iadd, 1) := by decide +kernel
theorem dJ5_append_3fe6f_7 : decode cJ5_append_3fe6f 7 = .ok (.invokevirtual 100, 3) := by decide +kernel
theorem dJ5_append_3fe6f_10 : decode cJ5_append_3fe6f 10 = .ok (.aload_n 0, 1) := by decide +kernel
theorem dJ5_append_3fe6f_11 : decode cJ5_append_3fe6f 11 = .ok (.invokevirtual 83, 3) := by decide +kernel
theorem dJ5_append_3fe6f_14 : decode cJ5_append_3fe6f 14 = .ok (.ifCond .eq 31, 3) := by decide +kernel
theorem dJ5_append_3fe6f_17 : decode cJ5_append_3fe6f 17 = .ok (.iload_n 1, 1) := by decide +kernel
theorem dJ5_append_3fe6f_18 : decode cJ5_append_3fe6f 18 = .ok (.invokestatic 191, 3) := by decide +kernel
theorem dJ5_append_3fe6f_21 : decode cJ5_append_3fe6f 21 = .ok (.ifCond .eq 24, 3) := by decide +kernel
theorem dJ5_append_3fe6f_24 : decode cJ5_append_3fe6f 24 = .ok (.aload_n 0, 1) := by decide +kernel
theorem dJ5_append_3fe6f_25 : decode cJ5_append_3fe6f 25 = .ok (.getfield 15, 3) := by decide +kernel
theorem dJ5_append_3fe6f_28 : decode cJ5_append_3fe6f 28 = .ok (.aload_n 0, 1) := by decide +kernel
theorem dJ5_append_3fe6f_29 : decode cJ5_append_3fe6f 29 = .ok (.dup, 1) := by decide +kernel
theorem dJ5_append_3fe6f_30 : decode cJ5_append_3fe6f 30 = .ok (.getfield 79, 3) := by decide +kernel
theorem dJ5_append_3fe6f_33 : decode cJ5_append_3fe6f 33 = .ok (.dup_x1, 1) := by decide +kernel
theorem dJ5_append_3fe6f_34 : decode cJ5_append_3fe6f 34 = .ok (.iconst 1, 1) := by decide +kernel
theorem dJ5_append_3fe6f_35 : decode cJ5_append_3fe6f 35 = .ok (.iadd, 1) := by decide +kernel
theorem dJ5_append_3fe6f_36 : decode cJ5_append_3fe6f 36 = .ok (.putfield 79, 3) := by decide +kernel
theorem dJ5_append_3fe6f_39 : decode cJ5_append_3fe6f 39 = .ok (.iload_n 1, 1) := by decide +kernel
theorem dJ5_append_3fe6f_40 : decode cJ5_append_3fe6f 40 = .ok (.i2b, 1) := by decide +kernel
theorem dJ5_append_3fe6f_41 : decode cJ5_append_3fe6f 41 = .ok (.bastore, 1) := by decide +kernel
theorem dJ5_append_3fe6f_42 : decode cJ5_append_3fe6f 42 = .ok (.goto 33, 3) := by decide +kernel
theorem dJ5_append_3fe6f_45 : decode cJ5_append_3fe6f 45 = .ok (.aload_n 0, 1) := by decide +kernel
theorem dJ5_append_3fe6f_46 : decode cJ5_append_3fe6f 46 = .ok (.invokevirtual 83, 3) := by decide +kernel
theorem dJ5_append_3fe6f_49 : decode cJ5_append_3fe6f 49 = .ok (.ifCond .eq 7, 3) := by decide +kernel
theorem dJ5_append_3fe6f_52 : decode cJ5_append_3fe6f 52 = .ok (.aload_n 0, 1) := by decide +kernel
theorem dJ5_append_3fe6f_53 : decode cJ5_append_3fe6f 53 = .ok (.invokevirtual 195, 3) := by decide +kernel
theorem dJ5_append_3fe6f_56 : decode cJ5_append_3fe6f 56 = .ok (.aload_n 0, 1) := by decide +kernel
theorem dJ5_append_3fe6f_57 : decode cJ5_append_3fe6f 57 = .ok (.getfield 15, 3) := by decide +kernel
theorem dJ5_append_3fe6f_60 : decode cJ5_append_3fe6f 60 = .ok (.aload_n 0, 1) := by decide +kernel
theorem dJ5_append_3fe6f_61 : decode cJ5_append_3fe6f 61 = .ok (.dup, 1) := by decide +kernel
theorem dJ5_append_3fe6f_62 : decode cJ5_append_3fe6f 62 = .ok (.getfield 79, 3) := by decide +kernel
theorem dJ5_append_3fe6f_65 : decode cJ5_append_3fe6f 65 = .ok (.dup_x1, 1) := by decide +kernel
theorem dJ5_append_3fe6f_66 : decode cJ5_append_3fe6f 66 = .ok (.iconst 1, 1) := by decide +kernel
theorem dJ5_append_3fe6f_67 : decode cJ5_append_3fe6f 67 = .ok (.iadd, 1) := by decide +kernel
theorem dJ5_append_3fe6f_68 : decode cJ5_append_3fe6f 68 = .ok (.putfield 79, 3) := by decide +kernel
theorem dJ5_append_3fe6f_71 : decode cJ5_append_3fe6f 71 = .ok (.iload_n 1, 1) := by decide +kernel
theorem dJ5_append_3fe6f_72 : decode cJ5_append_3fe6f 72 = .ok (.invokestatic 197, 3) := by decide +kernel
theorem dJ5_append_3fe6f_75 : decode cJ5_append_3fe6f 75 = .ok (.aload_n 0, 1) := by decide +kernel
theorem dJ5_append_3fe6f_76 : decode cJ5_append_3fe6f 76 = .ok (.areturn, 1) := by decide +kernel
theorem dJ5_append_c97b9_0 : decode cJ5_append_c97b9 0 = .ok (.aload_n 0, 1) := by decide +kernel
theorem dJ5_append_c97b9_1 : decode cJ5_append_c97b9 1 = .ok (.getfield 79, 3) := by decide +kernel
theorem dJ5_append_c97b9_4 : decode cJ5_append_c97b9 4 = .ok (.istore_n 2, 1) := by decide +kernel
theorem dJ5_append_c97b9_5 : decode cJ5_append_c97b9 5 = .ok (.iload_n 2, 1) := by decide +kernel
theorem dJ5_append_c97b9_6 : decode cJ5_append_c97b9 6 = .ok (.iload_n 1, 1) := by decide +kernel
theorem dJ5_append_c97b9_7 : decode cJ5_append_c97b9 7 = .ok (.invokestatic 245, 3) := by decide +kernel
theorem dJ5_append_c97b9_10 : decode cJ5_append_c97b9 10 = .ok (.iadd, 1) := by decide +kernel
theorem dJ5_append_c97b9_11 : decode cJ5_append_c97b9 11 = .ok (.istore_n 3, 1) := by decide +kernel
theorem dJ5_append_c97b9_12 : decode cJ5_append_c97b9 12 = .ok (.aload_n 0, 1) := by decide +kernel
theorem dJ5_append_c97b9_13 : decode cJ5_append_c97b9 13 = .ok (.iload_n 3, 1) := by decide +kernel
theorem dJ5_append_c97b9_14 : decode cJ5_append_c97b9 14 = .ok (.invokevirtual 100, 3) := by decide +kernel
theorem dJ5_append_c97b9_17 : decode cJ5_append_c97b9 17 = .ok (.aload_n 0, 1) := by decide +kernel
theorem dJ5_append_c97b9_18 : decode cJ5_append_c97b9 18 = .ok (.invokevirtual 83, 3) := by decide +kernel
theorem dJ5_append_c97b9_21 : decode cJ5_append_c97b9 21 = .ok (.ifCond .eq 16, 3) := by decide +kernel
theorem dJ5_append_c97b9_24 : decode cJ5_append_c97b9 24 = .ok (.iload_n 1, 1) := by decide +kernel
theorem dJ5_append_c97b9_25 : decode cJ5_append_c97b9 25 = .ok (.iload_n 3, 1) := by decide +kernel
theorem dJ5_append_c97b9_26 : decode cJ5_append_c97b9 26 = .ok (.aload_n 0, 1) := by decide +kernel
theorem dJ5_append_c97b9_27 : decode cJ5_append_c97b9 27 = .ok (.getfield 15, 3) := by decide +kernel
theorem dJ5_append_c97b9_30 : decode cJ5_append_c97b9 30 = .ok (.invokestatic 248, 3) := by decide +kernel
theorem dJ5_append_c97b9_33 : decode cJ5_append_c97b9 33 = .ok (.pop, 1) := by decide +kernel
theorem dJ5_append_c97b9_34 : decode cJ5_append_c97b9 34 = .ok (.goto 14, 3) := by decide +kernel
theorem dJ5_append_c97b9_37 : decode cJ5_append_c97b9 37 = .ok (.iload_n 1, 1) := by decide +kernel
theorem dJ5_append_c97b9_38 : decode cJ5_append_c97b9 38 = .ok (.iload_n 2, 1) := by decide +kernel
theorem dJ5_append_c97b9_39 : decode cJ5_append_c97b9 39 = .ok (.iload_n 3, 1) := by decide +kernel
theorem dJ5_append_c97b9_40 : decode cJ5_append_c97b9 40 = .ok (.aload_n 0, 1) := by decide +kernel
theorem dJ5_append_c97b9_41 : decode cJ5_append_c97b9 41 = .ok (.getfield 15, 3) := by decide +kernel
theorem dJ5_append_c97b9_44 : decode cJ5_append_c97b9 44 = .ok (.invokestatic 251, 3) := by decide +kernel
theorem dJ5_append_c97b9_47 : decode cJ5_append_c97b9 47 = .ok (.pop, 1) := by decide +kernel
theorem dJ5_append_c97b9_48 : decode cJ5_append_c97b9 48 = .ok (.aload_n 0, 1) := by decide +kernel
theorem dJ5_append_c97b9_49 : decode cJ5_append_c97b9 49 = .ok (.iload_n 3, 1) := by decide +kernel
theorem dJ5_append_c97b9_50 : decode cJ5_append_c97b9 50 = .ok (.putfield 79, 3) := by decide +kernel
theorem dJ5_append_c97b9_53 : decode cJ5_append_c97b9 53 = .ok (.aload_n 0, 1) := by decide +kernel
theorem dJ5_append_c97b9_54 : decode cJ5_append_c97b9 54 = .ok (.areturn, 1) := by decide +kernel
theorem dJ5_getValue_6d5f1_0 : decode cJ5_getValue_6d5f1 0 = .ok (.aload_n 0, 1) := by decide +kernel
theorem dJ5_getValue_6d5f1_1 : decode cJ5_getValue_6d5f1 1 = .ok (.getfield 15, 3) := by decide +kernel
theorem dJ5_getValue_6d5f1_4 : decode cJ5_getValue_6d5f1 4 = .ok (.areturn, 1) := by decide +kernel
theorem dJ5_isLatin1_aae02_0 : decode cJ5_isLatin1_aae02 0 = .ok (.getstatic 18, 3) := by decide +kernel
theorem dJ5_isLatin1_aae02_3 : decode cJ5_isLatin1_aae02 3 = .ok (.ifCond .eq 14, 3) := by decide +kernel
theorem dJ5_isLatin1_aae02_6 : decode cJ5_isLatin1_aae02 6 = .ok (.aload_n 0, 1) := by decide +kernel
theorem dJ5_isLatin1_aae02_7 : decode cJ5_isLatin1_aae02 7 = .ok (.getfield 22, 3) := by decide +kernel
theorem dJ5_isLatin1_aae02_10 : decode cJ5_isLatin1_aae02 10 = .ok (.ifCond .ne 7, 3) := by decide +kernel
theorem dJ5_isLatin1_aae02_13 : decode cJ5_isLatin1_aae02 13 = .ok (.iconst 1, 1) := by decide +kernel
theorem dJ5_isLatin1_aae02_14 : decode cJ5_isLatin1_aae02 14 = .ok (.goto 4, 3) := by decide +kernel
theorem dJ5_isLatin1_aae02_17 : decode cJ5_isLatin1_aae02 17 = .ok (.iconst 0, 1) := by decide +kernel
theorem dJ5_isLatin1_aae02_18 : decode cJ5_isLatin1_aae02 18 = .ok (.ireturn, 1) := by decide +kernel
theorem dJ5_inflateIfNeededFor_a7421_0 : decode cJ5_inflateIfNeededFor_a7421 0 = .ok (.getstatic 18, 3) := by decide +kernel
theorem dJ5_inflateIfNeededFor_a7421_3 : decode cJ5_inflateIfNeededFor_a7421 3 = .ok (.ifCond .eq 18, 3) := by decide +kernel
theorem dJ5_inflateIfNeededFor_a7421_6 : decode cJ5_inflateIfNeededFor_a7421 6 = .ok (.aload_n 0, 1) := by decide +kernel
theorem dJ5_inflateIfNeededFor_a7421_7 : decode cJ5_inflateIfNeededFor_a7421 7 = .ok (.getfield 22, 3) := by decide +kernel
theorem dJ5_inflateIfNeededFor_a7421_10 : decode cJ5_inflateIfNeededFor_a7421 10 = .ok (.aload_n 1, 1) := by decide +kernel
theorem dJ5_inflateIfNeededFor_a7421_11 : decode cJ5_inflateIfNeededFor_a7421 11 = .ok (.invokevirtual 40, 3) := by decide +kernel
theorem dJ5_inflateIfNeededFor_a7421_14 : decode cJ5_inflateIfNeededFor_a7421 14 = .ok (.if_icmp .eq 7, 3) := by decide +kernel
theorem dJ5_inflateIfNeededFor_a7421_17 : decode cJ5_inflateIfNeededFor_a7421 17 = .ok (.aload_n 0, 1) := by decide +kernel
theorem dJ5_inflateIfNeededFor_a7421_18 : decode cJ5_inflateIfNeededFor_a7421 18 = .ok (.invokevirtual 195, 3) := by decide +kernel
theorem dJ5_inflateIfNeededFor_a7421_21 : decode cJ5_inflateIfNeededFor_a7421 21 = .ok (.return_, 1) := by decide +kernel
theorem dJ5_putStringAt_47b60_0 : decode cJ5_putStringAt_47b60 0 = .ok (.aload_n 0, 1) := by decide +kernel
theorem dJ5_putStringAt_47b60_1 : decode cJ5_putStringAt_47b60 1 = .ok (.aload_n 2, 1) := by decide +kernel
theorem dJ5_putStringAt_47b60_2 : decode cJ5_putStringAt_47b60 2 = .ok (.invokevirtual 397, 3) := by decide +kernel
theorem dJ5_putStringAt_47b60_5 : decode cJ5_putStringAt_47b60 5 = .ok (.aload_n 2, 1) := by decide +kernel
theorem dJ5_putStringAt_47b60_6 : decode cJ5_putStringAt_47b60 6 = .ok (.aload_n 0, 1) := by decide +kernel
theorem dJ5_putStringAt_47b60_7 : decode cJ5_putStringAt_47b60 7 = .ok (.getfield 15, 3) := by decide +kernel
theorem dJ5_putStringAt_47b60_10 : decode cJ5_putStringAt_47b60 10 = .ok (.iload_n 1, 1) := by decide +kernel
theorem dJ5_putStringAt_47b60_11 : decode cJ5_putStringAt_47b60 11 = .ok (.aload_n 0, 1) := by decide +kernel
theorem dJ5_putStringAt_47b60_12 : decode cJ5_putStringAt_47b60 12 = .ok (.getfield 22, 3) := by decide +kernel
theorem dJ5_putStringAt_47b60_15 : decode cJ5_putStringAt_47b60 15 = .ok (.invokevirtual 399, 3) := by decide +kernel
theorem dJ5_putStringAt_47b60_18 : decode cJ5_putStringAt_47b60 18 = .ok (.return_, 1) := by decide +kernel
theorem dJ6_getChars_ba4f3_0 : decode cJ6_getChars_ba4f3 0 = .ok (.iload_n 1, 1) := by decide +kernel
theorem dJ6_getChars_ba4f3_1 : decode cJ6_getChars_ba4f3 1 = .ok (.istore 5, 2) := by decide +kernel
theorem dJ6_getChars_ba4f3_3 : decode cJ6_getChars_ba4f3 3 = .ok (.iload_n 0, 1) := by decide +kernel
theorem dJ6_getChars_ba4f3_4 : decode cJ6_getChars_ba4f3 4 = .ok (.ifCond .ge 7, 3) := by decide +kernel
theorem dJ6_getChars_ba4f3_7 : decode cJ6_getChars_ba4f3 7 = .ok (.iconst 1, 1) := by decide +kernel
theorem dJ6_getChars_ba4f3_8 : decode cJ6_getChars_ba4f3 8 = .ok (.goto 4, 3) := by decide +kernel
theorem dJ6_getChars_ba4f3_11 : decode cJ6_getChars_ba4f3 11 = .ok (.iconst 0, 1) := by decide +kernel
theorem dJ6_getChars_ba4f3_12 : decode cJ6_getChars_ba4f3 12 = .ok (.istore 6, 2) := by decide +kernel
theorem dJ6_getChars_ba4f3_14 : decode cJ6_getChars_ba4f3 14 = .ok (.iload 6, 2) := by decide +kernel
theorem dJ6_getChars_ba4f3_16 : decode cJ6_getChars_ba4f3 16 = .ok (.ifCond .ne 6, 3) := by decide +kernel
theorem dJ6_getChars_ba4f3_19 : decode cJ6_getChars_ba4f3 19 = .ok (.iload_n 0, 1) := by decide +kernel
theorem dJ6_getChars_ba4f3_20 : decode cJ6_getChars_ba4f3 20 = .ok (.ineg, 1) := by decide +kernel
theorem dJ6_getChars_ba4f3_21 : decode cJ6_getChars_ba4f3 21 = .ok (.istore_n 0, 1) := by decide +kernel
theorem dJ6_getChars_ba4f3_22 : decode cJ6_getChars_ba4f3 22 = .ok (.iload_n 0, 1) := by decide +kernel
theorem dJ6_getChars_ba4f3_23 : decode cJ6_getChars_ba4f3 23 = .ok (.bipush (-100), 2) := by decide +kernel
theorem dJ6_getChars_ba4f3_25 : decode cJ6_getChars_ba4f3 25 = .ok (.if_icmp .gt 47, 3) := by decide +kernel
theorem dJ6_getChars_ba4f3_28 : decode cJ6_getChars_ba4f3 28 = .ok (.iload_n 0, 1) := by decide +kernel
theorem dJ6_getChars_ba4f3_29 : decode cJ6_getChars_ba4f3 29 = .ok (.bipush 100, 2) := by decide +kernel
theorem dJ6_getChars_ba4f3_31 : decode cJ6_getChars_ba4f3 31 = .ok (.idiv, 1) := by decide +kernel
theorem dJ6_getChars_ba4f3_32 : decode cJ6_getChars_ba4f3 32 = .ok (.istore_n 3, 1) := by decide +kernel
theorem dJ6_getChars_ba4f3_33 : decode cJ6_getChars_ba4f3 33 = .ok (.iload_n 3, 1) := by decide +kernel
theorem dJ6_getChars_ba4f3_34 : decode cJ6_getChars_ba4f3 34 = .ok (.bipush 100, 2) := by decide +kernel
theorem dJ6_getChars_ba4f3_36 : decode cJ6_getChars_ba4f3 36 = .ok (.imul, 1) := by decide +kernel
theorem dJ6_getChars_ba4f3_37 : decode cJ6_getChars_ba4f3 37 = .ok (.iload_n 0, 1) := by decide +kernel
theorem dJ6_getChars_ba4f3_38 : decode cJ6_getChars_ba4f3 38 = .ok (.isub, 1) := by decide +kernel
theorem dJ6_getChars_ba4f3_39 : decode cJ6_getChars_ba4f3 39 = .ok (.istore 4, 2) := by decide +kernel
theorem dJ6_getChars_ba4f3_41 : decode cJ6_getChars_ba4f3 41 = .ok (.iload_n 3, 1) := by decide +kernel
theorem dJ6_getChars_ba4f3_42 : decode cJ6_getChars_ba4f3 42 = .ok (.istore_n 0, 1) := by decide +kernel
theorem dJ6_getChars_ba4f3_43 : decode cJ6_getChars_ba4f3 43 = .ok (.aload_n 2, 1) := by decide +kernel
theorem dJ6_getChars_ba4f3_44 : decode cJ6_getChars_ba4f3 44 = .ok (.iinc 5 (-1), 3) := by decide +kernel
theorem dJ6_getChars_ba4f3_47 : decode cJ6_getChars_ba4f3 47 = .ok (.iload 5, 2) := by decide +kernel
theorem dJ6_getChars_ba4f3_49 : decode cJ6_getChars_ba4f3 49 = .ok (.getstatic 83, 3) := by decide +kernel
theorem dJ6_getChars_ba4f3_52 : decode cJ6_getChars_ba4f3 52 = .ok (.iload 4, 2) := by decide +kernel
theorem dJ6_getChars_ba4f3_54 : decode cJ6_getChars_ba4f3 54 = .ok (.baload, 1) := by decide +kernel
theorem dJ6_getChars_ba4f3_55 : decode cJ6_getChars_ba4f3 55 = .ok (.bastore, 1) := by decide +kernel
theorem dJ6_getChars_ba4f3_56 : decode cJ6_getChars_ba4f3 56 = .ok (.aload_n 2, 1) := by decide +kernel
theorem dJ6_getChars_ba4f3_57 : decode cJ6_getChars_ba4f3 57 = .ok (.iinc 5 (-1), 3) := by decide +kernel
theorem dJ6_getChars_ba4f3_60 : decode cJ6_getChars_ba4f3 60 = .ok (.iload 5, 2) := by decide +kernel
theorem dJ6_getChars_ba4f3_62 : decode cJ6_getChars_ba4f3 62 = .ok (.getstatic 87, 3) := by decide +kernel
theorem dJ6_getChars_ba4f3_65 : decode cJ6_getChars_ba4f3 65 = .ok (.iload 4, 2) := by decide +kernel
theorem dJ6_getChars_ba4f3_67 : decode cJ6_getChars_ba4f3 67 = .ok (.baload, 1) := by decide +kernel
theorem dJ6_getChars_ba4f3_68 : decode cJ6_getChars_ba4f3 68 = .ok (.bastore, 1) := by decide +kernel
theorem dJ6_getChars_ba4f3_69 : decode cJ6_getChars_ba4f3 69 = .ok (.goto (-47), 3) := by decide +kernel
theorem dJ6_getChars_ba4f3_72 : decode cJ6_getChars_ba4f3 72 = .ok (.aload_n 2, 1) := by decide +kernel
theorem dJ6_getChars_ba4f3_73 : decode cJ6_getChars_ba4f3 73 = .ok (.iinc 5 (-1), 3) := by decide +kernel
theorem dJ6_getChars_ba4f3_76 : decode cJ6_getChars_ba4f3 76 = .ok (.iload 5, 2) := by decide +kernel
theorem dJ6_getChars_ba4f3_78 : decode cJ6_getChars_ba4f3 78 = .ok (.getstatic 83, 3) := by decide +kernel
theorem dJ6_getChars_ba4f3_81 : decode cJ6_getChars_ba4f3 81 = .ok (.iload_n 0, 1) := by decide +kernel
theorem dJ6_getChars_ba4f3_82 : decode cJ6_getChars_ba4f3 82 = .ok (.ineg, 1) := by decide +kernel
theorem dJ6_getChars_ba4f3_83 : decode cJ6_getChars_ba4f3 83 = .ok (.baload, 1) := by decide +kernel
theorem dJ6_getChars_ba4f3_84 : decode cJ6_getChars_ba4f3 84 = .ok (.bastore, 1) := by decide +kernel
theorem dJ6_getChars_ba4f3_85 : decode cJ6_getChars_ba4f3 85 = .ok (.iload_n 0, 1) := by decide +kernel
theorem dJ6_getChars_ba4f3_86 : decode cJ6_getChars_ba4f3 86 = .ok (.bipush (-9), 2) := by decide +kernel
theorem dJ6_getChars_ba4f3_88 : decode cJ6_getChars_ba4f3 88 = .ok (.if_icmp .ge 16, 3) := by decide +kernel
theorem dJ6_getChars_ba4f3_91 : decode cJ6_getChars_ba4f3 91 = .ok (.aload_n 2, 1) := by decide +kernel
theorem dJ6_getChars_ba4f3_92 : decode cJ6_getChars_ba4f3 92 = .ok (.iinc 5 (-1), 3) := by decide +kernel
theorem dJ6_getChars_ba4f3_95 : decode cJ6_getChars_ba4f3 95 = .ok (.iload 5, 2) := by decide +kernel
theorem dJ6_getChars_ba4f3_97 : decode cJ6_getChars_ba4f3 97 = .ok (.getstatic 87, 3) := by decide +kernel
theorem dJ6_getChars_ba4f3_100 : decode cJ6_getChars_ba4f3 100 = .ok (.iload_n 0, 1) := by decide +kernel
theorem dJ6_getChars_ba4f3_101 : decode cJ6_getChars_ba4f3 101 = .ok (.ineg, 1) := by decide +kernel
theorem dJ6_getChars_ba4f3_102 : decode cJ6_getChars_ba4f3 102 = .ok (.baload, 1) := by decide +kernel
theorem dJ6_getChars_ba4f3_103 : decode cJ6_getChars_ba4f3 103 = .ok (.bastore, 1) := by decide +kernel
theorem dJ6_getChars_ba4f3_104 : decode cJ6_getChars_ba4f3 104 = .ok (.iload 6, 2) := by decide +kernel
theorem dJ6_getChars_ba4f3_106 : decode cJ6_getChars_ba4f3 106 = .ok (.ifCond .eq 12, 3) := by decide +kernel
theorem dJ6_getChars_ba4f3_109 : decode cJ6_getChars_ba4f3 109 = .ok (.aload_n 2, 1) := by decide +kernel
theorem dJ6_getChars_ba4f3_110 : decode cJ6_getChars_ba4f3 110 = .ok (.iinc 5 (-1), 3) := by decide +kernel
theorem dJ6_getChars_ba4f3_113 : decode cJ6_getChars_ba4f3 113 = .ok (.iload 5, 2) := by decide +kernel
theorem dJ6_getChars_ba4f3_115 : decode cJ6_getChars_ba4f3 115 = .ok (.bipush 45, 2) := by decide +kernel
theorem dJ6_getChars_ba4f3_117 : decode cJ6_getChars_ba4f3 117 = .ok (.bastore, 1) := by decide +kernel
theorem dJ6_getChars_ba4f3_118 : decode cJ6_getChars_ba4f3 118 = .ok (.iload 5, 2) := by decide +kernel
theorem dJ6_getChars_ba4f3_120 : decode cJ6_getChars_ba4f3 120 = .ok (.ireturn, 1) := by decide +kernel
theorem dJ6_stringSize_0f7a4_0 : decode cJ6_stringSize_0f7a4 0 = .ok (.iconst 1, 1) := by decide +kernel
theorem dJ6_stringSize_0f7a4_1 : decode cJ6_stringSize_0f7a4 1 = .ok (.istore_n 1, 1) := by decide +kernel
theorem dJ6_stringSize_0f7a4_2 : decode cJ6_stringSize_0f7a4 2 = .ok (.iload_n 0, 1) := by decide +kernel
theorem dJ6_stringSize_0f7a4_3 : decode cJ6_stringSize_0f7a4 3 = .ok (.ifCond .lt 8, 3) := by decide +kernel
theorem dJ6_stringSize_0f7a4_6 : decode cJ6_stringSize_0f7a4 6 = .ok (.iconst 0, 1) := by decide +kernel
theorem dJ6_stringSize_0f7a4_7 : decode cJ6_stringSize_0f7a4 7 = .ok (.istore_n 1, 1) := by decide +kernel
theorem dJ6_stringSize_0f7a4_8 : decode cJ6_stringSize_0f7a4 8 = .ok (.iload_n 0, 1) := by decide +kernel
theorem dJ6_stringSize_0f7a4_9 : decode cJ6_stringSize_0f7a4 9 = .ok (.ineg, 1) := by decide +kernel
theorem dJ6_stringSize_0f7a4_10 : decode cJ6_stringSize_0f7a4 10 = .ok (.istore_n 0, 1) := by decide +kernel
theorem dJ6_stringSize_0f7a4_11 : decode cJ6_stringSize_0f7a4 11 = .ok (.bipush (-10), 2) := by decide +kernel
theorem dJ6_stringSize_0f7a4_13 : decode cJ6_stringSize_0f7a4 13 = .ok (.istore_n 2, 1) := by decide +kernel
theorem dJ6_stringSize_0f7a4_14 : decode cJ6_stringSize_0f7a4 14 = .ok (.iconst 1, 1) := by decide +kernel
theorem dJ6_stringSize_0f7a4_15 : decode cJ6_stringSize_0f7a4 15 = .ok (.istore_n 3, 1) := by decide +kernel
theorem dJ6_stringSize_0f7a4_16 : decode cJ6_stringSize_0f7a4 16 = .ok (.iload_n 3, 1) := by decide +kernel
theorem dJ6_stringSize_0f7a4_17 : decode cJ6_stringSize_0f7a4 17 = .ok (.bipush 10, 2) := by decide +kernel
theorem dJ6_stringSize_0f7a4_19 : decode cJ6_stringSize_0f7a4 19 = .ok (.if_icmp .ge 23, 3) := by decide +kernel
theorem dJ6_stringSize_0f7a4_22 : decode cJ6_stringSize_0f7a4 22 = .ok (.iload_n 0, 1) := by decide +kernel
theorem dJ6_stringSize_0f7a4_23 : decode cJ6_stringSize_0f7a4 23 = .ok (.iload_n 2, 1) := by decide +kernel
theorem dJ6_stringSize_0f7a4_24 : decode cJ6_stringSize_0f7a4 24 = .ok (.if_icmp .le 7, 3) := by decide +kernel
theorem dJ6_stringSize_0f7a4_27 : decode cJ6_stringSize_0f7a4 27 = .ok (.iload_n 3, 1) := by decide +kernel
theorem dJ6_stringSize_0f7a4_28 : decode cJ6_stringSize_0f7a4 28 = .ok (.iload_n 1, 1) := by decide +kernel
theorem dJ6_stringSize_0f7a4_29 : decode cJ6_stringSize_0f7a4 29 = .ok (.iadd, 1) := by decide +kernel
theorem dJ6_stringSize_0f7a4_30 : decode cJ6_stringSize_0f7a4 30 = .ok (.ireturn, 1) := by decide +kernel
theorem dJ6_stringSize_0f7a4_31 : decode cJ6_stringSize_0f7a4 31 = .ok (.bipush 10, 2) := by decide +kernel
theorem dJ6_stringSize_0f7a4_33 : decode cJ6_stringSize_0f7a4 33 = .ok (.iload_n 2, 1) := by decide +kernel
theorem dJ6_stringSize_0f7a4_34 : decode cJ6_stringSize_0f7a4 34 = .ok (.imul, 1) := by decide +kernel
theorem dJ6_stringSize_0f7a4_35 : decode cJ6_stringSize_0f7a4 35 = .ok (.istore_n 2, 1) := by decide +kernel
theorem dJ6_stringSize_0f7a4_36 : decode cJ6_stringSize_0f7a4 36 = .ok (.iinc 3 1, 3) := by decide +kernel
theorem dJ6_stringSize_0f7a4_39 : decode cJ6_stringSize_0f7a4 39 = .ok (.goto (-23), 3) := by decide +kernel
theorem dJ6_stringSize_0f7a4_42 : decode cJ6_stringSize_0f7a4 42 = .ok (.bipush 10, 2) := by decide +kernel
theorem dJ6_stringSize_0f7a4_44 : decode cJ6_stringSize_0f7a4 44 = .ok (.iload_n 1, 1) := by decide +kernel
theorem dJ6_stringSize_0f7a4_45 : decode cJ6_stringSize_0f7a4 45 = .ok (.iadd, 1) := by decide +kernel
theorem dJ6_stringSize_0f7a4_46 : decode cJ6_stringSize_0f7a4 46 = .ok (.ireturn, 1) := by decide +kernel
theorem dJ6_bitCount_0f7a4_0 : decode cJ6_bitCount_0f7a4 0 = .ok (.iload_n 0, 1) := by decide +kernel
theorem dJ6_bitCount_0f7a4_1 : decode cJ6_bitCount_0f7a4 1 = .ok (.iload_n 0, 1) := by decide +kernel
theorem dJ6_bitCount_0f7a4_2 : decode cJ6_bitCount_0f7a4 2 = .ok (.iconst 1, 1) := by decide +kernel
theorem dJ6_bitCount_0f7a4_3 : decode cJ6_bitCount_0f7a4 3 = .ok (.iushr, 1) := by decide +kernel
theorem dJ6_bitCount_0f7a4_4 : decode cJ6_bitCount_0f7a4 4 = .ok (.ldc_w 265, 3) := by decide +kernel
theorem dJ6_bitCount_0f7a4_7 : decode cJ6_bitCount_0f7a4 7 = .ok (.iand, 1) := by decide +kernel
theorem dJ6_bitCount_0f7a4_8 : decode cJ6_bitCount_0f7a4 8 = .ok (.isub, 1) := by decide +kernel
theorem dJ6_bitCount_0f7a4_9 : decode cJ6_bitCount_0f7a4 9 = .ok (.istore_n 0, 1) := by decide +kernel
theorem dJ6_bitCount_0f7a4_10 : decode cJ6_bitCount_0f7a4 10 = .ok (.iload_n 0, 1) := by decide +kernel
theorem dJ6_bitCount_0f7a4_11 : decode cJ6_bitCount_0f7a4 11 = .ok (.ldc_w 266, 3) := by decide +kernel
theorem dJ6_bitCount_0f7a4_14 : decode cJ6_bitCount_0f7a4 14 = .ok (.iand, 1) := by decide +kernel
theorem dJ6_bitCount_0f7a4_15 : decode cJ6_bitCount_0f7a4 15 = .ok (.iload_n 0, 1) := by decide +kernel
theorem dJ6_bitCount_0f7a4_16 : decode cJ6_bitCount_0f7a4 16 = .ok (.iconst 2, 1) := by decide +kernel
theorem dJ6_bitCount_0f7a4_17 : decode cJ6_bitCount_0f7a4 17 = .ok (.iushr, 1) := by decide +kernel
theorem dJ6_bitCount_0f7a4_18 : decode cJ6_bitCount_0f7a4 18 = .ok (.ldc_w 266, 3) := by decide +kernel
theorem dJ6_bitCount_0f7a4_21 : decode cJ6_bitCount_0f7a4 21 = .ok (.iand, 1) := by decide +kernel
theorem dJ6_bitCount_0f7a4_22 : decode cJ6_bitCount_0f7a4 22 = .ok (.iadd, 1) := by decide +kernel
theorem dJ6_bitCount_0f7a4_23 : decode cJ6_bitCount_0f7a4 23 = .ok (.istore_n 0, 1) := by decide +kernel
theorem dJ6_bitCount_0f7a4_24 : decode cJ6_bitCount_0f7a4 24 = .ok (.iload_n 0, 1) := by decide +kernel
theorem dJ6_bitCount_0f7a4_25 : decode cJ6_bitCount_0f7a4 25 = .ok (.iload_n 0, 1) := by decide +kernel
theorem dJ6_bitCount_0f7a4_26 : decode cJ6_bitCount_0f7a4 26 = .ok (.iconst 4, 1) := by decide +kernel
theorem dJ6_bitCount_0f7a4_27 : decode cJ6_bitCount_0f7a4 27 = .ok (.iushr, 1) := by decide +kernel
theorem dJ6_bitCount_0f7a4_28 : decode cJ6_bitCount_0f7a4 28 = .ok (.iadd, 1) := by decide +kernel
theorem dJ6_bitCount_0f7a4_29 : decode cJ6_bitCount_0f7a4 29 = .ok (.ldc_w 267, 3) := by decide +kernel
theorem dJ6_bitCount_0f7a4_32 : decode cJ6_bitCount_0f7a4 32 = .ok (.iand, 1) := by decide +kernel
theorem dJ6_bitCount_0f7a4_33 : decode cJ6_bitCount_0f7a4 33 = .ok (.istore_n 0, 1) := by decide +kernel
theorem dJ6_bitCount_0f7a4_34 : decode cJ6_bitCount_0f7a4 34 = .ok (.iload_n 0, 1) := by decide +kernel
theorem dJ6_bitCount_0f7a4_35 : decode cJ6_bitCount_0f7a4 35 = .ok (.iload_n 0, 1) := by decide +kernel
theorem dJ6_bitCount_0f7a4_36 : decode cJ6_bitCount_0f7a4 36 = .ok (.bipush 8, 2) := by decide +kernel
theorem dJ6_bitCount_0f7a4_38 : decode cJ6_bitCount_0f7a4 38 = .ok (.iushr, 1) := by decide +kernel
theorem dJ6_bitCount_0f7a4_39 : decode cJ6_bitCount_0f7a4 39 = .ok (.iadd, 1) := by decide +kernel
theorem dJ6_bitCount_0f7a4_40 : decode cJ6_bitCount_0f7a4 40 = .ok (.istore_n 0, 1) := by decide +kernel
theorem dJ6_bitCount_0f7a4_41 : decode cJ6_bitCount_0f7a4 41 = .ok (.iload_n 0, 1) := by decide +kernel
theorem dJ6_bitCount_0f7a4_42 : decode cJ6_bitCount_0f7a4 42 = .ok (.iload_n 0, 1) := by decide +kernel
theorem dJ6_bitCount_0f7a4_43 : decode cJ6_bitCount_0f7a4 43 = .ok (.bipush 16, 2) := by decide +kernel
theorem dJ6_bitCount_0f7a4_45 : decode cJ6_bitCount_0f7a4 45 = .ok (.iushr, 1) := by decide +kernel
theorem dJ6_bitCount_0f7a4_46 : decode cJ6_bitCount_0f7a4 46 = .ok (.iadd, 1) := by decide +kernel
theorem dJ6_bitCount_0f7a4_47 : decode cJ6_bitCount_0f7a4 47 = .ok (.istore_n 0, 1) := by decide +kernel
theorem dJ6_bitCount_0f7a4_48 : decode cJ6_bitCount_0f7a4 48 = .ok (.iload_n 0, 1) := by decide +kernel
theorem dJ6_bitCount_0f7a4_49 : decode cJ6_bitCount_0f7a4 49 = .ok (.bipush 63, 2) := by decide +kernel
theorem dJ6_bitCount_0f7a4_51 : decode cJ6_bitCount_0f7a4 51 = .ok (.iand, 1) := by decide +kernel
theorem dJ6_bitCount_0f7a4_52 : decode cJ6_bitCount_0f7a4 52 = .ok (.ireturn, 1) := by decide +kernel
theorem dJ9_max_7cf53_0 : decode cJ9_max_7cf53 0 = .ok (.iload_n 0, 1) := by decide +kernel
theorem dJ9_max_7cf53_1 : decode cJ9_max_7cf53 1 = .ok (.iload_n 1, 1) := by decide +kernel
theorem dJ9_max_7cf53_2 : decode cJ9_max_7cf53 2 = .ok (.if_icmp .lt 7, 3) := by decide +kernel
theorem dJ9_max_7cf53_5 : decode cJ9_max_7cf53 5 = .ok (.iload_n 0, 1) := by decide +kernel
theorem dJ9_max_7cf53_6 : decode cJ9_max_7cf53 6 = .ok (.goto 4, 3) := by decide +kernel
theorem dJ9_max_7cf53_9 : decode cJ9_max_7cf53 9 = .ok (.iload_n 1, 1) := by decide +kernel
theorem dJ9_max_7cf53_10 : decode cJ9_max_7cf53 10 = .ok (.ireturn, 1) := by decide +kernel
theorem dJ9_min_7cf53_0 : decode cJ9_min_7cf53 0 = .ok (.iload_n 0, 1) := by decide +kernel
theorem dJ9_min_7cf53_1 : decode cJ9_min_7cf53 1 = .ok (.iload_n 1, 1) := by decide +kernel
theorem dJ9_min_7cf53_2 : decode cJ9_min_7cf53 2 = .ok (.if_icmp .gt 7, 3) := by decide +kernel
theorem dJ9_min_7cf53_5 : decode cJ9_min_7cf53 5 = .ok (.iload_n 0, 1) := by decide +kernel
theorem dJ9_min_7cf53_6 : decode cJ9_min_7cf53 6 = .ok (.goto 4, 3) := by decide +kernel
theorem dJ9_min_7cf53_9 : decode cJ9_min_7cf53 9 = .ok (.iload_n 1, 1) := by decide +kernel
theorem dJ9_min_7cf53_10 : decode cJ9_min_7cf53 10 = .ok (.ireturn, 1) := by decide +kernel
theorem dJ0_init_81219_0 : decode cJ0_init_81219 0 = .ok (.aload_n 0, 1) := by decide +kernel
theorem dJ0_init_81219_1 : decode cJ0_init_81219 1 = .ok (.aload_n 1, 1) := by decide +kernel
theorem dJ0_init_81219_2 : decode cJ0_init_81219 2 = .ok (.aconst_null, 1) := by decide +kernel
theorem dJ0_init_81219_3 : decode cJ0_init_81219 3 = .ok (.invokespecial 489, 3) := by decide +kernel
theorem dJ0_init_81219_6 : decode cJ0_init_81219 6 = .ok (.return_, 1) := by decide +kernel
theorem dJ0_length_8abf5_0 : decode cJ0_length_8abf5 0 = .ok (.aload_n 0, 1) := by decide +kernel
theorem dJ0_length_8abf5_1 : decode cJ0_length_8abf5 1 = .ok (.getfield 9, 3) := by decide +kernel
theorem dJ0_length_8abf5_4 : decode cJ0_length_8abf5 4 = .ok (.arraylength, 1) := by decide +kernel
theorem dJ0_length_8abf5_5 : decode cJ0_length_8abf5 5 = .ok (.aload_n 0, 1) := by decide +kernel
theorem dJ0_length_8abf5_6 : decode cJ0_length_8abf5 6 = .ok (.invokevirtual 335, 3) := by decide +kernel
theorem dJ0_length_8abf5_9 : decode cJ0_length_8abf5 9 = .ok (.ishr, 1) := by decide +kernel
theorem dJ0_length_8abf5_10 : decode cJ0_length_8abf5 10 = .ok (.ireturn, 1) := by decide +kernel
theorem dJ0_getBytes_840e7_0 : decode cJ0_getBytes_840e7 0 = .ok (.aload_n 0, 1) := by decide +kernel
theorem dJ0_getBytes_840e7_1 : decode cJ0_getBytes_840e7 1 = .ok (.invokevirtual 335, 3) := by decide +kernel
theorem dJ0_getBytes_840e7_4 : decode cJ0_getBytes_840e7 4 = .ok (.iload_n 3, 1) := by decide +kernel
theorem dJ0_getBytes_840e7_5 : decode cJ0_getBytes_840e7 5 = .ok (.if_icmp .ne 23, 3) := by decide +kernel
theorem dJ0_getBytes_840e7_8 : decode cJ0_getBytes_840e7 8 = .ok (.aload_n 0, 1) := by decide +kernel
theorem dJ0_getBytes_840e7_9 : decode cJ0_getBytes_840e7 9 = .ok (.getfield 9, 3) := by decide +kernel
theorem dJ0_getBytes_840e7_12 : decode cJ0_getBytes_840e7 12 = .ok (.iconst 0, 1) := by decide +kernel
theorem dJ0_getBytes_840e7_13 : decode cJ0_getBytes_840e7 13 = .ok (.aload_n 1, 1) := by decide +kernel
theorem dJ0_getBytes_840e7_14 : decode cJ0_getBytes_840e7 14 = .ok (.iload_n 2, 1) := by decide +kernel
theorem dJ0_getBytes_840e7_15 : decode cJ0_getBytes_840e7 15 = .ok (.iload_n 3, 1) := by decide +kernel
theorem dJ0_getBytes_840e7_16 : decode cJ0_getBytes_840e7 16 = .ok (.ishl, 1) := by decide +kernel
theorem dJ0_getBytes_840e7_17 : decode cJ0_getBytes_840e7 17 = .ok (.aload_n 0, 1) := by decide +kernel
theorem dJ0_getBytes_840e7_18 : decode cJ0_getBytes_840e7 18 = .ok (.getfield 9, 3) := by decide +kernel
theorem dJ0_getBytes_840e7_21 : decode cJ0_getBytes_840e7 21 = .ok (.arraylength, 1) := by decide +kernel
theorem dJ0_getBytes_840e7_22 : decode cJ0_getBytes_840e7 22 = .ok (.invokestatic 212, 3) := by decide +kernel
theorem dJ0_getBytes_840e7_25 : decode cJ0_getBytes_840e7 25 = .ok (.goto 18, 3) := by decide +kernel
theorem dJ0_getBytes_840e7_28 : decode cJ0_getBytes_840e7 28 = .ok (.aload_n 0, 1) := by decide +kernel
theorem dJ0_getBytes_840e7_29 : decode cJ0_getBytes_840e7 29 = .ok (.getfield 9, 3) := by decide +kernel
theorem dJ0_getBytes_840e7_32 : decode cJ0_getBytes_840e7 32 = .ok (.iconst 0, 1) := by decide +kernel
theorem dJ0_getBytes_840e7_33 : decode cJ0_getBytes_840e7 33 = .ok (.aload_n 1, 1) := by decide +kernel
theorem dJ0_getBytes_840e7_34 : decode cJ0_getBytes_840e7 34 = .ok (.iload_n 2, 1) := by decide +kernel
theorem dJ0_getBytes_840e7_35 : decode cJ0_getBytes_840e7 35 = .ok (.aload_n 0, 1) := by decide +kernel
theorem dJ0_getBytes_840e7_36 : decode cJ0_getBytes_840e7 36 = .ok (.getfield 9, 3) := by decide +kernel
theorem dJ0_getBytes_840e7_39 : decode cJ0_getBytes_840e7 39 = .ok (.arraylength, 1) := by decide +kernel
theorem dJ0_getBytes_840e7_40 : decode cJ0_getBytes_840e7 40 = .ok (.invokestatic 106, 3) := by decide +kernel
theorem dJ0_getBytes_840e7_43 : decode cJ0_getBytes_840e7 43 = .ok (.return_, 1) := by decide +kernel
theorem dJ0_init_db425_0 : decode cJ0_init_db425 0 = .ok (.aload_n 0, 1) := by decide +kernel
theorem dJ0_init_db425_1 : decode cJ0_init_db425 1 = .ok (.invokespecial 1, 3) := by decide +kernel
theorem dJ0_init_db425_4 : decode cJ0_init_db425 4 = .ok (.aload_n 1, 1) := by decide +kernel
theorem dJ0_init_db425_5 : decode cJ0_init_db425 5 = .ok (.invokevirtual 552, 3) := by decide +kernel
theorem dJ0_init_db425_8 : decode cJ0_init_db425 8 = .ok (.astore_n 3, 1) := by decide +kernel
theorem dJ0_init_db425_9 : decode cJ0_init_db425 9 = .ok (.aload_n 1, 1) := by decide +kernel
theorem dJ0_init_db425_10 : decode cJ0_init_db425 10 = .ok (.invokevirtual 549, 3) := by decide +kernel
theorem dJ0_init_db425_13 : decode cJ0_init_db425 13 = .ok (.istore 4, 2) := by decide +kernel
theorem dJ0_init_db425_15 : decode cJ0_init_db425 15 = .ok (.aload_n 1, 1) := by decide +kernel
theorem dJ0_init_db425_16 : decode cJ0_init_db425 16 = .ok (.invokevirtual 1047, 3) := by decide +kernel
theorem dJ0_init_db425_19 : decode cJ0_init_db425 19 = .ok (.ifCond .eq 22, 3) := by decide +kernel
theorem dJ0_init_db425_22 : decode cJ0_init_db425 22 = .ok (.aload_n 0, 1) := by decide +kernel
theorem dJ0_init_db425_23 : decode cJ0_init_db425 23 = .ok (.iconst 0, 1) := by decide +kernel
theorem dJ0_init_db425_24 : decode cJ0_init_db425 24 = .ok (.putfield 15, 3) := by decide +kernel
theorem dJ0_init_db425_27 : decode cJ0_init_db425 27 = .ok (.aload_n 0, 1) := by decide +kernel
theorem dJ0_init_db425_28 : decode cJ0_init_db425 28 = .ok (.aload_n 3, 1) := by decide +kernel
theorem dJ0_init_db425_29 : decode cJ0_init_db425 29 = .ok (.iconst 0, 1) := by decide +kernel
theorem dJ0_init_db425_30 : decode cJ0_init_db425 30 = .ok (.iload 4, 2) := by decide +kernel
theorem dJ0_init_db425_32 : decode cJ0_init_db425 32 = .ok (.invokestatic 54, 3) := by decide +kernel
theorem dJ0_init_db425_35 : decode cJ0_init_db425 35 = .ok (.putfield 9, 3) := by decide +kernel
theorem dJ0_init_db425_38 : decode cJ0_init_db425 38 = .ok (.goto 59, 3) := by decide +kernel
theorem dJ0_init_db425_41 : decode cJ0_init_db425 41 = .ok (.getstatic 38, 3) := by decide +kernel
theorem dJ0_init_db425_44 : decode cJ0_init_db425 44 = .ok (.ifCond .eq 35, 3) := by decide +kernel
theorem dJ0_init_db425_47 : decode cJ0_init_db425 47 = .ok (.aload_n 1, 1) := by decide +kernel
theorem dJ0_init_db425_48 : decode cJ0_init_db425 48 = .ok (.getfield 1048, 3) := by decide +kernel
theorem dJ0_init_db425_51 : decode cJ0_init_db425 51 = .ok (.ifCond .eq 28, 3) := by decide +kernel
theorem dJ0_init_db425_54 : decode cJ0_init_db425 54 = .ok (.aload_n 0, 1) := by decide +kernel
theorem dJ0_init_db425_55 : decode cJ0_init_db425 55 = .ok (.aload_n 3, 1) := by decide +kernel
theorem dJ0_init_db425_56 : decode cJ0_init_db425 56 = .ok (.iconst 0, 1) := by decide +kernel
theorem dJ0_init_db425_57 : decode cJ0_init_db425 57 = .ok (.iload 4, 2) := by decide +kernel
theorem dJ0_init_db425_59 : decode cJ0_init_db425 59 = .ok (.invokestatic 1051, 3) := by decide +kernel
theorem dJ0_init_db425_62 : decode cJ0_init_db425 62 = .ok (.putfield 9, 3) := by decide +kernel
theorem dJ0_init_db425_65 : decode cJ0_init_db425 65 = .ok (.aload_n 0, 1) := by decide +kernel
theorem dJ0_init_db425_66 : decode cJ0_init_db425 66 = .ok (.aload_n 0, 1) := by decide +kernel
theorem dJ0_init_db425_67 : decode cJ0_init_db425 67 = .ok (.getfield 9, 3) := by decide +kernel
theorem dJ0_init_db425_70 : decode cJ0_init_db425 70 = .ok (.iload 4, 2) := by decide +kernel
theorem dJ0_init_db425_72 : decode cJ0_init_db425 72 = .ok (.invokestatic 47, 3) := by decide +kernel
theorem dJ0_init_db425_75 : decode cJ0_init_db425 75 = .ok (.putfield 15, 3) := by decide +kernel
theorem dJ0_init_db425_78 : decode cJ0_init_db425 78 = .ok (.return_, 1) := by decide +kernel
theorem dJ0_init_db425_79 : decode cJ0_init_db425 79 = .ok (.aload_n 0, 1) := by decide +kernel
theorem dJ0_init_db425_80 : decode cJ0_init_db425 80 = .ok (.iconst 1, 1) := by decide +kernel
theorem dJ0_init_db425_81 : decode cJ0_init_db425 81 = .ok (.putfield 15, 3) := by decide +kernel
theorem dJ0_init_db425_84 : decode cJ0_init_db425 84 = .ok (.aload_n 0, 1) := by decide +kernel
theorem dJ0_init_db425_85 : decode cJ0_init_db425 85 = .ok (.aload_n 3, 1) := by decide +kernel
theorem dJ0_init_db425_86 : decode cJ0_init_db425 86 = .ok (.iconst 0, 1) := by decide +kernel
theorem dJ0_init_db425_87 : decode cJ0_init_db425 87 = .ok (.iload 4, 2) := by decide +kernel
theorem dJ0_init_db425_89 : decode cJ0_init_db425 89 = .ok (.iconst 1, 1) := by decide +kernel
theorem dJ0_init_db425_90 : decode cJ0_init_db425 90 = .ok (.ishl, 1) := by decide +kernel
theorem dJ0_init_db425_91 : decode cJ0_init_db425 91 = .ok (.invokestatic 54, 3) := by decide +kernel
theorem dJ0_init_db425_94 : decode cJ0_init_db425 94 = .ok (.putfield 9, 3) := by decide +kernel
theorem dJ0_init_db425_97 : decode cJ0_init_db425 97 = .ok (.return_, 1) := by decide +kernel
theorem dJ0_coder_7d493_0 : decode cJ0_coder_7d493 0 = .ok (.getstatic 38, 3) := by decide +kernel
theorem dJ0_coder_7d493_3 : decode cJ0_coder_7d493 3 = .ok (.ifCond .eq 10, 3) := by decide +kernel
theorem dJ0_coder_7d493_6 : decode cJ0_coder_7d493 6 = .ok (.aload_n 0, 1) := by decide +kernel
theorem dJ0_coder_7d493_7 : decode cJ0_coder_7d493 7 = .ok (.getfield 15, 3) := by decide +kernel
theorem dJ0_coder_7d493_10 : decode cJ0_coder_7d493 10 = .ok (.goto 4, 3) := by decide +kernel
theorem dJ0_coder_7d493_13 : decode cJ0_coder_7d493 13 = .ok (.iconst 1, 1) := by decide +kernel
theorem dJ0_coder_7d493_14 : decode cJ0_coder_7d493 14 = .ok (.ireturn, 1) := by decide +kernel
theorem dJ0_checkIndex_df160_0 : decode cJ0_checkIndex_df160 0 = .ok (.iload_n 0, 1) := by decide +kernel
theorem dJ0_checkIndex_df160_1 : decode cJ0_checkIndex_df160 1 = .ok (.iload_n 1, 1) := by decide +kernel
theorem dJ0_checkIndex_df160_2 : decode cJ0_checkIndex_df160 2 = .ok (.getstatic 1053, 3) := by decide +kernel
theorem dJ0_checkIndex_df160_5 : decode cJ0_checkIndex_df160 5 = .ok (.invokestatic 1059, 3) := by decide +kernel
theorem dJ0_checkIndex_df160_8 : decode cJ0_checkIndex_df160 8 = .ok (.pop, 1) := by decide +kernel
theorem dJ0_checkIndex_df160_9 : decode cJ0_checkIndex_df160 9 = .ok (.return_, 1) := by decide +kernel
theorem dJ0_checkBoundsOffCount_cabcc_0 : decode cJ0_checkBoundsOffCount_cabcc 0 = .ok (.iload_n 0, 1) := by decide +kernel
theorem dJ0_checkBoundsOffCount_cabcc_1 : decode cJ0_checkBoundsOffCount_cabcc 1 = .ok (.iload_n 1, 1) := by decide +kernel
theorem dJ0_checkBoundsOffCount_cabcc_2 : decode cJ0_checkBoundsOffCount_cabcc 2 = .ok (.iload_n 2, 1) := by decide +kernel
theorem dJ0_checkBoundsOffCount_cabcc_3 : decode cJ0_checkBoundsOffCount_cabcc 3 = .ok (.getstatic 1053, 3) := by decide +kernel
theorem dJ0_checkBoundsOffCount_cabcc_6 : decode cJ0_checkBoundsOffCount_cabcc 6 = .ok (.invokestatic 1065, 3) := by decide +kernel
theorem dJ0_checkBoundsOffCount_cabcc_9 : decode cJ0_checkBoundsOffCount_cabcc 9 = .ok (.ireturn, 1) := by decide +kernel
theorem dJ0_checkBoundsBeginEnd_23922_0 : decode cJ0_checkBoundsBeginEnd_23922 0 = .ok (.iload_n 0, 1) := by decide +kernel
theorem dJ0_checkBoundsBeginEnd_23922_1 : decode cJ0_checkBoundsBeginEnd_23922 1 = .ok (.iload_n 1, 1) := by decide +kernel
theorem dJ0_checkBoundsBeginEnd_23922_2 : decode cJ0_checkBoundsBeginEnd_23922 2 = .ok (.iload_n 2, 1) := by decide +kernel
theorem dJ0_checkBoundsBeginEnd_23922_3 : decode cJ0_checkBoundsBeginEnd_23922 3 = .ok (.getstatic 1053, 3) := by decide +kernel
theorem dJ0_checkBoundsBeginEnd_23922_6 : decode cJ0_checkBoundsBeginEnd_23922 6 = .ok (.invokestatic 1062, 3) := by decide +kernel
theorem dJ0_checkBoundsBeginEnd_23922_9 : decode cJ0_checkBoundsBeginEnd_23922 9 = .ok (.pop, 1) := by decide +kernel
theorem dJ0_checkBoundsBeginEnd_23922_10 : decode cJ0_checkBoundsBeginEnd_23922 10 = .ok (.return_, 1) := by decide +kernel
theorem dJ4_init_da8c8_0 : decode cJ4_init_da8c8 0 = .ok (.aload_n 0, 1) := by decide +kernel
theorem dJ4_init_da8c8_1 : decode cJ4_init_da8c8 1 = .ok (.bipush 16, 2) := by decide +kernel
theorem dJ4_init_da8c8_3 : decode cJ4_init_da8c8 3 = .ok (.invokespecial 1, 3) := by decide +kernel
theorem dJ4_init_da8c8_6 : decode cJ4_init_da8c8 6 = .ok (.return_, 1) := by decide +kernel
theorem dJ4_append_15ec4_0 : decode cJ4_append_15ec4 0 = .ok (.aload_n 0, 1) := by decide +kernel
theorem dJ4_append_15ec4_1 : decode cJ4_append_15ec4 1 = .ok (.aload_n 1, 1) := by decide +kernel
theorem dJ4_append_15ec4_2 : decode cJ4_append_15ec4 2 = .ok (.invokespecial 29, 3) := by decide +kernel
theorem dJ4_append_15ec4_5 : decode cJ4_append_15ec4 5 = .ok (.pop, 1) := by decide +kernel
theorem dJ4_append_15ec4_6 : decode cJ4_append_15ec4 6 = .ok (.aload_n 0, 1) := by decide +kernel
theorem dJ4_append_15ec4_7 : decode cJ4_append_15ec4 7 = .ok (.areturn, 1) := by decide +kernel
theorem dJ4_append_cf468_0 : decode cJ4_append_cf468 0 = .ok (.aload_n 0, 1) := by decide +kernel
theorem dJ4_append_cf468_1 : decode cJ4_append_cf468 1 = .ok (.iload_n 1, 1) := by decide +kernel
theorem dJ4_append_cf468_2 : decode cJ4_append_cf468 2 = .ok (.invokespecial 50, 3) := by decide +kernel
theorem dJ4_append_cf468_5 : decode cJ4_append_cf468 5 = .ok (.pop, 1) := by decide +kernel
theorem dJ4_append_cf468_6 : decode cJ4_append_cf468 6 = .ok (.aload_n 0, 1) := by decide +kernel
theorem dJ4_append_cf468_7 : decode cJ4_append_cf468 7 = .ok (.areturn, 1) := by decide +kernel
theorem dJ4_append_bf812_0 : decode cJ4_append_bf812 0 = .ok (.aload_n 0, 1) := by decide +kernel
theorem dJ4_append_bf812_1 : decode cJ4_append_bf812 1 = .ok (.iload_n 1, 1) := by decide +kernel
theorem dJ4_append_bf812_2 : decode cJ4_append_bf812 2 = .ok (.invokespecial 53, 3) := by decide +kernel
theorem dJ4_append_bf812_5 : decode cJ4_append_bf812 5 = .ok (.pop, 1) := by decide +kernel
theorem dJ4_append_bf812_6 : decode cJ4_append_bf812 6 = .ok (.aload_n 0, 1) := by decide +kernel
theorem dJ4_append_bf812_7 : decode cJ4_append_bf812 7 = .ok (.areturn, 1) := by decide +kernel
theorem dJ4_toString_0e30d_0 : decode cJ4_toString_0e30d 0 = .ok (.new 18, 3) := by decide +kernel
theorem dJ4_toString_0e30d_3 : decode cJ4_toString_0e30d 3 = .ok (.dup, 1) := by decide +kernel
theorem dJ4_toString_0e30d_4 : decode cJ4_toString_0e30d 4 = .ok (.aload_n 0, 1) := by decide +kernel
theorem dJ4_toString_0e30d_5 : decode cJ4_toString_0e30d 5 = .ok (.invokespecial 137, 3) := by decide +kernel
theorem dJ4_toString_0e30d_8 : decode cJ4_toString_0e30d 8 = .ok (.areturn, 1) := by decide +kernel
theorem dJ4_length_8abf5_0 : decode cJ4_length_8abf5 0 = .ok (.aload_n 0, 1) := by decide +kernel
theorem dJ4_length_8abf5_1 : decode cJ4_length_8abf5 1 = .ok (.invokespecial 343, 3) := by decide +kernel
theorem dJ4_length_8abf5_4 : decode cJ4_length_8abf5 4 = .ok (.ireturn, 1) := by decide +kernel
theorem dJ1_canEncode_fc78d_0 : decode cJ1_canEncode_fc78d 0 = .ok (.iload_n 0, 1) := by decide +kernel
theorem dJ1_canEncode_fc78d_1 : decode cJ1_canEncode_fc78d 1 = .ok (.sipush 255, 3) := by decide +kernel
theorem dJ1_canEncode_fc78d_4 : decode cJ1_canEncode_fc78d 4 = .ok (.if_icmp .gt 7, 3) := by decide +kernel
theorem dJ1_canEncode_fc78d_7 : decode cJ1_canEncode_fc78d 7 = .ok (.iconst 1, 1) := by decide +kernel
theorem dJ1_canEncode_fc78d_8 : decode cJ1_canEncode_fc78d 8 = .ok (.goto 4, 3) := by decide +kernel
theorem dJ1_canEncode_fc78d_11 : decode cJ1_canEncode_fc78d 11 = .ok (.iconst 0, 1) := by decide +kernel
theorem dJ1_canEncode_fc78d_12 : decode cJ1_canEncode_fc78d 12 = .ok (.ireturn, 1) := by decide +kernel
theorem dJ1_inflate_0e8fd_0 : decode cJ1_inflate_0e8fd 0 = .ok (.aload_n 0, 1) := by decide +kernel
theorem dJ1_inflate_0e8fd_1 : decode cJ1_inflate_0e8fd 1 = .ok (.iload_n 1, 1) := by decide +kernel
theorem dJ1_inflate_0e8fd_2 : decode cJ1_inflate_0e8fd 2 = .ok (.aload_n 2, 1) := by decide +kernel
theorem dJ1_inflate_0e8fd_3 : decode cJ1_inflate_0e8fd 3 = .ok (.iload_n 3, 1) := by decide +kernel
theorem dJ1_inflate_0e8fd_4 : decode cJ1_inflate_0e8fd 4 = .ok (.iload 4, 2) := by decide +kernel
theorem dJ1_inflate_0e8fd_6 : decode cJ1_inflate_0e8fd 6 = .ok (.invokestatic 240, 3) := by decide +kernel
theorem dJ1_inflate_0e8fd_9 : decode cJ1_inflate_0e8fd 9 = .ok (.return_, 1) := by decide +kernel
theorem dJ2_newBytesFor_77867_0 : decode cJ2_newBytesFor_77867 0 = .ok (.iload_n 0, 1) := by decide +kernel
theorem dJ2_newBytesFor_77867_1 : decode cJ2_newBytesFor_77867 1 = .ok (.invokestatic 11, 3) := by decide +kernel
theorem dJ2_newBytesFor_77867_4 : decode cJ2_newBytesFor_77867 4 = .ok (.newarray .byte, 2) := by decide +kernel
theorem dJ2_newBytesFor_77867_6 : decode cJ2_newBytesFor_77867 6 = .ok (.areturn, 1) := by decide +kernel
theorem dJ2_newBytesLength_0f7a4_0 : decode cJ2_newBytesLength_0f7a4 0 = .ok (.iload_n 0, 1) := by decide +kernel
theorem dJ2_newBytesLength_0f7a4_1 : decode cJ2_newBytesLength_0f7a4 1 = .ok (.ifCond .ge 11, 3) := by decide +kernel
theorem dJ2_newBytesLength_0f7a4_4 : decode cJ2_newBytesLength_0f7a4 4 = .ok (.new 17, 3) := by decide +kernel
theorem dJ2_newBytesLength_0f7a4_7 : decode cJ2_newBytesLength_0f7a4 7 = .ok (.dup, 1) := by decide +kernel
theorem dJ2_newBytesLength_0f7a4_8 : decode cJ2_newBytesLength_0f7a4 8 = .ok (.invokespecial 19, 3) := by decide +kernel
theorem dJ2_newBytesLength_0f7a4_11 : decode cJ2_newBytesLength_0f7a4 11 = .ok (.athrow, 1) := by decide +kernel
theorem dJ2_newBytesLength_0f7a4_12 : decode cJ2_newBytesLength_0f7a4 12 = .ok (.iload_n 0, 1) := by decide +kernel
theorem dJ2_newBytesLength_0f7a4_13 : decode cJ2_newBytesLength_0f7a4 13 = .ok (.ldc 20, 2) := by decide +kernel
theorem dJ2_newBytesLength_0f7a4_15 : decode cJ2_newBytesLength_0f7a4 15 = .ok (.if_icmp .lt 40, 3) := by decide +kernel
theorem dJ2_newBytesLength_0f7a4_18 : decode cJ2_newBytesLength_0f7a4 18 = .ok (.new 21, 3) := by decide +kernel
theorem dJ2_newBytesLength_0f7a4_21 : decode cJ2_newBytesLength_0f7a4 21 = .ok (.dup, 1) := by decide +kernel
theorem dJ2_newBytesLength_0f7a4_22 : decode cJ2_newBytesLength_0f7a4 22 = .ok (.new 23, 3) := by decide +kernel
theorem dJ2_newBytesLength_0f7a4_25 : decode cJ2_newBytesLength_0f7a4 25 = .ok (.dup, 1) := by decide +kernel
theorem dJ2_newBytesLength_0f7a4_26 : decode cJ2_newBytesLength_0f7a4 26 = .ok (.invokespecial 25, 3) := by decide +kernel
theorem dJ2_newBytesLength_0f7a4_29 : decode cJ2_newBytesLength_0f7a4 29 = .ok (.ldc 26, 2) := by decide +kernel
theorem dJ2_newBytesLength_0f7a4_31 : decode cJ2_newBytesLength_0f7a4 31 = .ok (.invokevirtual 28, 3) := by decide +kernel
theorem dJ2_newBytesLength_0f7a4_34 : decode cJ2_newBytesLength_0f7a4 34 = .ok (.iload_n 0, 1) := by decide +kernel
theorem dJ2_newBytesLength_0f7a4_35 : decode cJ2_newBytesLength_0f7a4 35 = .ok (.invokevirtual 32, 3) := by decide +kernel
theorem dJ2_newBytesLength_0f7a4_38 : decode cJ2_newBytesLength_0f7a4 38 = .ok (.ldc 35, 2) := by decide +kernel
theorem dJ2_newBytesLength_0f7a4_40 : decode cJ2_newBytesLength_0f7a4 40 = .ok (.invokevirtual 28, 3) := by decide +kernel
theorem dJ2_newBytesLength_0f7a4_43 : decode cJ2_newBytesLength_0f7a4 43 = .ok (.ldc 20, 2) := by decide +kernel
theorem dJ2_newBytesLength_0f7a4_45 : decode cJ2_newBytesLength_0f7a4 45 = .ok (.invokevirtual 32, 3) := by decide +kernel
theorem dJ2_newBytesLength_0f7a4_48 : decode cJ2_newBytesLength_0f7a4 48 = .ok (.invokevirtual 37, 3) := by decide +kernel
theorem dJ2_newBytesLength_0f7a4_51 : decode cJ2_newBytesLength_0f7a4 51 = .ok (.invokespecial 41, 3) := by decide +kernel
theorem dJ2_newBytesLength_0f7a4_54 : decode cJ2_newBytesLength_0f7a4 54 = .ok (.athrow, 1) := by decide +kernel
theorem dJ2_newBytesLength_0f7a4_55 : decode cJ2_newBytesLength_0f7a4 55 = .ok (.iload_n 0, 1) := by decide +kernel
theorem dJ2_newBytesLength_0f7a4_56 : decode cJ2_newBytesLength_0f7a4 56 = .ok (.iconst 1, 1) := by decide +kernel
theorem dJ2_newBytesLength_0f7a4_57 : decode cJ2_newBytesLength_0f7a4 57 = .ok (.ishl, 1) := by decide +kernel
theorem dJ2_newBytesLength_0f7a4_58 : decode cJ2_newBytesLength_0f7a4 58 = .ok (.ireturn, 1) := by decide +kernel
theorem dJ2_putChar_b72d1_0 : decode cJ2_putChar_b72d1 0 = .ok (.getstatic 44, 3) := by decide +kernel
theorem dJ2_putChar_b72d1_3 : decode cJ2_putChar_b72d1 3 = .ok (.ifCond .ne 25, 3) := by decide +kernel
theorem dJ2_putChar_b72d1_6 : decode cJ2_putChar_b72d1 6 = .ok (.iload_n 1, 1) := by decide +kernel
theorem dJ2_putChar_b72d1_7 : decode cJ2_putChar_b72d1 7 = .ok (.ifCond .lt 11, 3) := by decide +kernel
theorem dJ2_putChar_b72d1_10 : decode cJ2_putChar_b72d1 10 = .ok (.iload_n 1, 1) := by decide +kernel
theorem dJ2_putChar_b72d1_11 : decode cJ2_putChar_b72d1 11 = .ok (.aload_n 0, 1) := by decide +kernel
theorem dJ2_putChar_b72d1_12 : decode cJ2_putChar_b72d1 12 = .ok (.invokestatic 48, 3) := by decide +kernel
theorem dJ2_putChar_b72d1_15 : decode cJ2_putChar_b72d1 15 = .ok (.if_icmp .lt 13, 3) := by decide +kernel
theorem dJ2_putChar_b72d1_18 : decode cJ2_putChar_b72d1 18 = .ok (.new 52, 3) := by decide +kernel
theorem dJ2_putChar_b72d1_21 : decode cJ2_putChar_b72d1 21 = .ok (.dup, 1) := by decide +kernel
theorem dJ2_putChar_b72d1_22 : decode cJ2_putChar_b72d1 22 = .ok (.ldc 54, 2) := by decide +kernel
theorem dJ2_putChar_b72d1_24 : decode cJ2_putChar_b72d1 24 = .ok (.invokespecial 56, 3) := by decide +kernel
theorem dJ2_putChar_b72d1_27 : decode cJ2_putChar_b72d1 27 = .ok (.athrow, 1) := by decide +kernel
theorem dJ2_putChar_b72d1_28 : decode cJ2_putChar_b72d1 28 = .ok (.iload_n 1, 1) := by decide +kernel
theorem dJ2_putChar_b72d1_29 : decode cJ2_putChar_b72d1 29 = .ok (.iconst 1, 1) := by decide +kernel
theorem dJ2_putChar_b72d1_30 : decode cJ2_putChar_b72d1 30 = .ok (.ishl, 1) := by decide +kernel
theorem dJ2_putChar_b72d1_31 : decode cJ2_putChar_b72d1 31 = .ok (.istore_n 1, 1) := by decide +kernel
theorem dJ2_putChar_b72d1_32 : decode cJ2_putChar_b72d1 32 = .ok (.aload_n 0, 1) := by decide +kernel
theorem dJ2_putChar_b72d1_33 : decode cJ2_putChar_b72d1 33 = .ok (.iload_n 1, 1) := by decide +kernel
theorem dJ2_putChar_b72d1_34 : decode cJ2_putChar_b72d1 34 = .ok (.iinc 1 1, 3) := by decide +kernel
theorem dJ2_putChar_b72d1_37 : decode cJ2_putChar_b72d1 37 = .ok (.iload_n 2, 1) := by decide +kernel
theorem dJ2_putChar_b72d1_38 : decode cJ2_putChar_b72d1 38 = .ok (.getstatic 59, 3) := by decide +kernel
theorem dJ2_putChar_b72d1_41 : decode cJ2_putChar_b72d1 41 = .ok (.ishr, 1) := by decide +kernel
theorem dJ2_putChar_b72d1_42 : decode cJ2_putChar_b72d1 42 = .ok (.i2b, 1) := by decide +kernel
theorem dJ2_putChar_b72d1_43 : decode cJ2_putChar_b72d1 43 = .ok (.bastore, 1) := by decide +kernel
theorem dJ2_putChar_b72d1_44 : decode cJ2_putChar_b72d1 44 = .ok (.aload_n 0, 1) := by decide +kernel
theorem dJ2_putChar_b72d1_45 : decode cJ2_putChar_b72d1 45 = .ok (.iload_n 1, 1) := by decide +kernel
theorem dJ2_putChar_b72d1_46 : decode cJ2_putChar_b72d1 46 = .ok (.iload_n 2, 1) := by decide +kernel
theorem dJ2_putChar_b72d1_47 : decode cJ2_putChar_b72d1 47 = .ok (.getstatic 63, 3) := by decide +kernel
theorem dJ2_putChar_b72d1_50 : decode cJ2_putChar_b72d1 50 = .ok (.ishr, 1) := by decide +kernel
theorem dJ2_putChar_b72d1_51 : decode cJ2_putChar_b72d1 51 = .ok (.i2b, 1) := by decide +kernel
theorem dJ2_putChar_b72d1_52 : decode cJ2_putChar_b72d1 52 = .ok (.bastore, 1) := by decide +kernel
theorem dJ2_putChar_b72d1_53 : decode cJ2_putChar_b72d1 53 = .ok (.return_, 1) := by decide +kernel
theorem dJ2_getChar_3b067_0 : decode cJ2_getChar_3b067 0 = .ok (.getstatic 44, 3) := by decide +kernel
theorem dJ2_getChar_3b067_3 : decode cJ2_getChar_3b067 3 = .ok (.ifCond .ne 25, 3) := by decide +kernel
theorem dJ2_getChar_3b067_6 : decode cJ2_getChar_3b067 6 = .ok (.iload_n 1, 1) := by decide +kernel
theorem dJ2_getChar_3b067_7 : decode cJ2_getChar_3b067 7 = .ok (.ifCond .lt 11, 3) := by decide +kernel
theorem dJ2_getChar_3b067_10 : decode cJ2_getChar_3b067 10 = .ok (.iload_n 1, 1) := by decide +kernel
theorem dJ2_getChar_3b067_11 : decode cJ2_getChar_3b067 11 = .ok (.aload_n 0, 1) := by decide +kernel
theorem dJ2_getChar_3b067_12 : decode cJ2_getChar_3b067 12 = .ok (.invokestatic 48, 3) := by decide +kernel
theorem dJ2_getChar_3b067_15 : decode cJ2_getChar_3b067 15 = .ok (.if_icmp .lt 13, 3) := by decide +kernel
theorem dJ2_getChar_3b067_18 : decode cJ2_getChar_3b067 18 = .ok (.new 52, 3) := by decide +kernel
theorem dJ2_getChar_3b067_21 : decode cJ2_getChar_3b067 21 = .ok (.dup, 1) := by decide +kernel
theorem dJ2_getChar_3b067_22 : decode cJ2_getChar_3b067 22 = .ok (.ldc 54, 2) := by decide +kernel
theorem dJ2_getChar_3b067_24 : decode cJ2_getChar_3b067 24 = .ok (.invokespecial 56, 3) := by decide +kernel
theorem dJ2_getChar_3b067_27 : decode cJ2_getChar_3b067 27 = .ok (.athrow, 1) := by decide +kernel
theorem dJ2_getChar_3b067_28 : decode cJ2_getChar_3b067 28 = .ok (.iload_n 1, 1) := by decide +kernel
theorem dJ2_getChar_3b067_29 : decode cJ2_getChar_3b067 29 = .ok (.iconst 1, 1) := by decide +kernel
theorem dJ2_getChar_3b067_30 : decode cJ2_getChar_3b067 30 = .ok (.ishl, 1) := by decide +kernel
theorem dJ2_getChar_3b067_31 : decode cJ2_getChar_3b067 31 = .ok (.istore_n 1, 1) := by decide +kernel
theorem dJ2_getChar_3b067_32 : decode cJ2_getChar_3b067 32 = .ok (.aload_n 0, 1) := by decide +kernel
theorem dJ2_getChar_3b067_33 : decode cJ2_getChar_3b067 33 = .ok (.iload_n 1, 1) := by decide +kernel
theorem dJ2_getChar_3b067_34 : decode cJ2_getChar_3b067 34 = .ok (.iinc 1 1, 3) := by decide +kernel
theorem dJ2_getChar_3b067_37 : decode cJ2_getChar_3b067 37 = .ok (.baload, 1) := by decide +kernel
theorem dJ2_getChar_3b067_38 : decode cJ2_getChar_3b067 38 = .ok (.sipush 255, 3) := by decide +kernel
theorem dJ2_getChar_3b067_41 : decode cJ2_getChar_3b067 41 = .ok (.iand, 1) := by decide +kernel
theorem dJ2_getChar_3b067_42 : decode cJ2_getChar_3b067 42 = .ok (.getstatic 59, 3) := by decide +kernel
theorem dJ2_getChar_3b067_45 : decode cJ2_getChar_3b067 45 = .ok (.ishl, 1) := by decide +kernel
theorem dJ2_getChar_3b067_46 : decode cJ2_getChar_3b067 46 = .ok (.aload_n 0, 1) := by decide +kernel
theorem dJ2_getChar_3b067_47 : decode cJ2_getChar_3b067 47 = .ok (.iload_n 1, 1) := by decide +kernel
theorem dJ2_getChar_3b067_48 : decode cJ2_getChar_3b067 48 = .ok (.baload, 1) := by decide +kernel
theorem dJ2_getChar_3b067_49 : decode cJ2_getChar_3b067 49 = .ok (.sipush 255, 3) := by decide +kernel
theorem dJ2_getChar_3b067_52 : decode cJ2_getChar_3b067 52 = .ok (.iand, 1) := by decide +kernel
theorem dJ2_getChar_3b067_53 : decode cJ2_getChar_3b067 53 = .ok (.getstatic 63, 3) := by decide +kernel
theorem dJ2_getChar_3b067_56 : decode cJ2_getChar_3b067 56 = .ok (.ishl, 1) := by decide +kernel
theorem dJ2_getChar_3b067_57 : decode cJ2_getChar_3b067 57 = .ok (.ior, 1) := by decide +kernel
theorem dJ2_getChar_3b067_58 : decode cJ2_getChar_3b067 58 = .ok (.i2c, 1) := by decide +kernel
theorem dJ2_getChar_3b067_59 : decode cJ2_getChar_3b067 59 = .ok (.ireturn, 1) := by decide +kernel
theorem dJ2_length_9d52b_0 : decode cJ2_length_9d52b 0 = .ok (.aload_n 0, 1) := by decide +kernel
theorem dJ2_length_9d52b_1 : decode cJ2_length_9d52b 1 = .ok (.arraylength, 1) := by decide +kernel
theorem dJ2_length_9d52b_2 : decode cJ2_length_9d52b 2 = .ok (.iconst 1, 1) := by decide +kernel
theorem dJ2_length_9d52b_3 : decode cJ2_length_9d52b 3 = .ok (.ishr, 1) := by decide +kernel
theorem dJ2_length_9d52b_4 : decode cJ2_length_9d52b 4 = .ok (.ireturn, 1) := by decide +kernel
theorem dJ2_coderFromArrayLen_85cad_0 : decode cJ2_coderFromArrayLen_85cad 0 = .ok (.iload_n 1, 1) := by decide +kernel
theorem dJ2_coderFromArrayLen_85cad_1 : decode cJ2_coderFromArrayLen_85cad 1 = .ok (.aload_n 0, 1) := by decide +kernel
theorem dJ2_coderFromArrayLen_85cad_2 : decode cJ2_coderFromArrayLen_85cad 2 = .ok (.arraylength, 1) := by decide +kernel
theorem dJ2_coderFromArrayLen_85cad_3 : decode cJ2_coderFromArrayLen_85cad 3 = .ok (.isub, 1) := by decide +kernel
theorem dJ2_coderFromArrayLen_85cad_4 : decode cJ2_coderFromArrayLen_85cad 4 = .ok (.bipush 31, 2) := by decide +kernel
theorem dJ2_coderFromArrayLen_85cad_6 : decode cJ2_coderFromArrayLen_85cad 6 = .ok (.iushr, 1) := by decide +kernel
theorem dJ2_coderFromArrayLen_85cad_7 : decode cJ2_coderFromArrayLen_85cad 7 = .ok (.i2b, 1) := by decide +kernel
theorem dJ2_coderFromArrayLen_85cad_8 : decode cJ2_coderFromArrayLen_85cad 8 = .ok (.ireturn, 1) := by decide +kernel
theorem dJ2_compress_39247_0 : decode cJ2_compress_39247 0 = .ok (.iload_n 2, 1) := by decide +kernel
theorem dJ2_compress_39247_1 : decode cJ2_compress_39247 1 = .ok (.newarray .byte, 2) := by decide +kernel
theorem dJ2_compress_39247_3 : decode cJ2_compress_39247 3 = .ok (.astore_n 3, 1) := by decide +kernel
theorem dJ2_compress_39247_4 : decode cJ2_compress_39247 4 = .ok (.aload_n 0, 1) := by decide +kernel
theorem dJ2_compress_39247_5 : decode cJ2_compress_39247 5 = .ok (.iload_n 1, 1) := by decide +kernel
theorem dJ2_compress_39247_6 : decode cJ2_compress_39247 6 = .ok (.aload_n 3, 1) := by decide +kernel
theorem dJ2_compress_39247_7 : decode cJ2_compress_39247 7 = .ok (.iconst 0, 1) := by decide +kernel
theorem dJ2_compress_39247_8 : decode cJ2_compress_39247 8 = .ok (.iload_n 2, 1) := by decide +kernel
theorem dJ2_compress_39247_9 : decode cJ2_compress_39247 9 = .ok (.invokestatic 123, 3) := by decide +kernel
theorem dJ2_compress_39247_12 : decode cJ2_compress_39247 12 = .ok (.istore 4, 2) := by decide +kernel
theorem dJ2_compress_39247_14 : decode cJ2_compress_39247 14 = .ok (.iload 4, 2) := by decide +kernel
theorem dJ2_compress_39247_16 : decode cJ2_compress_39247 16 = .ok (.iload_n 2, 1) := by decide +kernel
theorem dJ2_compress_39247_17 : decode cJ2_compress_39247 17 = .ok (.if_icmp .eq 47, 3) := by decide +kernel
theorem dJ2_compress_39247_20 : decode cJ2_compress_39247 20 = .ok (.aload_n 0, 1) := by decide +kernel
theorem dJ2_compress_39247_21 : decode cJ2_compress_39247 21 = .ok (.iload_n 1, 1) := by decide +kernel
theorem dJ2_compress_39247_22 : decode cJ2_compress_39247 22 = .ok (.iconst 1, 1) := by decide +kernel
theorem dJ2_compress_39247_23 : decode cJ2_compress_39247 23 = .ok (.ishl, 1) := by decide +kernel
theorem dJ2_compress_39247_24 : decode cJ2_compress_39247 24 = .ok (.iload_n 1, 1) := by decide +kernel
theorem dJ2_compress_39247_25 : decode cJ2_compress_39247 25 = .ok (.iload_n 2, 1) := by decide +kernel
theorem dJ2_compress_39247_26 : decode cJ2_compress_39247 26 = .ok (.iadd, 1) := by decide +kernel
theorem dJ2_compress_39247_27 : decode cJ2_compress_39247 27 = .ok (.invokestatic 11, 3) := by decide +kernel
theorem dJ2_compress_39247_30 : decode cJ2_compress_39247 30 = .ok (.invokestatic 126, 3) := by decide +kernel
theorem dJ2_compress_39247_33 : decode cJ2_compress_39247 33 = .ok (.astore 5, 2) := by decide +kernel
theorem dJ2_compress_39247_35 : decode cJ2_compress_39247 35 = .ok (.aload 5, 2) := by decide +kernel
theorem dJ2_compress_39247_37 : decode cJ2_compress_39247 37 = .ok (.iload 4, 2) := by decide +kernel
theorem dJ2_compress_39247_39 : decode cJ2_compress_39247 39 = .ok (.invokestatic 71, 3) := by decide +kernel
theorem dJ2_compress_39247_42 : decode cJ2_compress_39247 42 = .ok (.sipush 255, 3) := by decide +kernel
theorem dJ2_compress_39247_45 : decode cJ2_compress_39247 45 = .ok (.if_icmp .gt 16, 3) := by decide +kernel
theorem dJ2_compress_39247_48 : decode cJ2_compress_39247 48 = .ok (.aload 5, 2) := by decide +kernel
theorem dJ2_compress_39247_50 : decode cJ2_compress_39247 50 = .ok (.iconst 0, 1) := by decide +kernel
theorem dJ2_compress_39247_51 : decode cJ2_compress_39247 51 = .ok (.aload_n 3, 1) := by decide +kernel
theorem dJ2_compress_39247_52 : decode cJ2_compress_39247 52 = .ok (.iconst 0, 1) := by decide +kernel
theorem dJ2_compress_39247_53 : decode cJ2_compress_39247 53 = .ok (.iload_n 2, 1) := by decide +kernel
theorem dJ2_compress_39247_54 : decode cJ2_compress_39247 54 = .ok (.invokestatic 123, 3) := by decide +kernel
theorem dJ2_compress_39247_57 : decode cJ2_compress_39247 57 = .ok (.iload_n 2, 1) := by decide +kernel
theorem dJ2_compress_39247_58 : decode cJ2_compress_39247 58 = .ok (.if_icmp .eq 6, 3) := by decide +kernel
theorem dJ2_compress_39247_61 : decode cJ2_compress_39247 61 = .ok (.aload 5, 2) := by decide +kernel
theorem dJ2_compress_39247_63 : decode cJ2_compress_39247 63 = .ok (.areturn, 1) := by decide +kernel
theorem dJ2_compress_39247_64 : decode cJ2_compress_39247 64 = .ok (.aload_n 3, 1) := by decide +kernel
theorem dJ2_compress_39247_65 : decode cJ2_compress_39247 65 = .ok (.areturn, 1) := by decide +kernel
theorem dJ2_compress_5af95_0 : decode cJ2_compress_5af95 0 = .ok (.iload_n 1, 1) := by decide +kernel
theorem dJ2_compress_5af95_1 : decode cJ2_compress_5af95 1 = .ok (.iload 4, 2) := by decide +kernel
theorem dJ2_compress_5af95_3 : decode cJ2_compress_5af95 3 = .ok (.aload_n 0, 1) := by decide +kernel
theorem dJ2_compress_5af95_4 : decode cJ2_compress_5af95 4 = .ok (.invokestatic 173, 3) := by decide +kernel
theorem dJ2_compress_5af95_7 : decode cJ2_compress_5af95 7 = .ok (.iconst 0, 1) := by decide +kernel
theorem dJ2_compress_5af95_8 : decode cJ2_compress_5af95 8 = .ok (.istore 5, 2) := by decide +kernel
theorem dJ2_compress_5af95_10 : decode cJ2_compress_5af95 10 = .ok (.iload 5, 2) := by decide +kernel
theorem dJ2_compress_5af95_12 : decode cJ2_compress_5af95 12 = .ok (.iload 4, 2) := by decide +kernel
theorem dJ2_compress_5af95_14 : decode cJ2_compress_5af95 14 = .ok (.if_icmp .ge 39, 3) := by decide +kernel
theorem dJ2_compress_5af95_17 : decode cJ2_compress_5af95 17 = .ok (.aload_n 0, 1) := by decide +kernel
theorem dJ2_compress_5af95_18 : decode cJ2_compress_5af95 18 = .ok (.iload_n 1, 1) := by decide +kernel
theorem dJ2_compress_5af95_19 : decode cJ2_compress_5af95 19 = .ok (.invokestatic 71, 3) := by decide +kernel
theorem dJ2_compress_5af95_22 : decode cJ2_compress_5af95 22 = .ok (.istore 6, 2) := by decide +kernel
theorem dJ2_compress_5af95_24 : decode cJ2_compress_5af95 24 = .ok (.iload 6, 2) := by decide +kernel
theorem dJ2_compress_5af95_26 : decode cJ2_compress_5af95 26 = .ok (.sipush 255, 3) := by decide +kernel
theorem dJ2_compress_5af95_29 : decode cJ2_compress_5af95 29 = .ok (.if_icmp .le 6, 3) := by decide +kernel
theorem dJ2_compress_5af95_32 : decode cJ2_compress_5af95 32 = .ok (.iload 5, 2) := by decide +kernel
theorem dJ2_compress_5af95_34 : decode cJ2_compress_5af95 34 = .ok (.ireturn, 1) := by decide +kernel
theorem dJ2_compress_5af95_35 : decode cJ2_compress_5af95 35 = .ok (.aload_n 2, 1) := by decide +kernel
theorem dJ2_compress_5af95_36 : decode cJ2_compress_5af95 36 = .ok (.iload_n 3, 1) := by decide +kernel
theorem dJ2_compress_5af95_37 : decode cJ2_compress_5af95 37 = .ok (.iload 6, 2) := by decide +kernel
theorem dJ2_compress_5af95_39 : decode cJ2_compress_5af95 39 = .ok (.i2b, 1) := by decide +kernel
theorem dJ2_compress_5af95_40 : decode cJ2_compress_5af95 40 = .ok (.bastore, 1) := by decide +kernel
theorem dJ2_compress_5af95_41 : decode cJ2_compress_5af95 41 = .ok (.iinc 1 1, 3) := by decide +kernel
theorem dJ2_compress_5af95_44 : decode cJ2_compress_5af95 44 = .ok (.iinc 3 1, 3) := by decide +kernel
theorem dJ2_compress_5af95_47 : decode cJ2_compress_5af95 47 = .ok (.iinc 5 1, 3) := by decide +kernel
theorem dJ2_compress_5af95_50 : decode cJ2_compress_5af95 50 = .ok (.goto (-40), 3) := by decide +kernel
theorem dJ2_compress_5af95_53 : decode cJ2_compress_5af95 53 = .ok (.iload 4, 2) := by decide +kernel
theorem dJ2_compress_5af95_55 : decode cJ2_compress_5af95 55 = .ok (.ireturn, 1) := by decide +kernel
theorem dJ2_putCharSB_b72d1_0 : decode cJ2_putCharSB_b72d1 0 = .ok (.iload_n 1, 1) := by decide +kernel
theorem dJ2_putCharSB_b72d1_1 : decode cJ2_putCharSB_b72d1 1 = .ok (.aload_n 0, 1) := by decide +kernel
theorem dJ2_putCharSB_b72d1_2 : decode cJ2_putCharSB_b72d1 2 = .ok (.invokestatic 67, 3) := by decide +kernel
theorem dJ2_putCharSB_b72d1_5 : decode cJ2_putCharSB_b72d1 5 = .ok (.aload_n 0, 1) := by decide +kernel
theorem dJ2_putCharSB_b72d1_6 : decode cJ2_putCharSB_b72d1 6 = .ok (.iload_n 1, 1) := by decide +kernel
theorem dJ2_putCharSB_b72d1_7 : decode cJ2_putCharSB_b72d1 7 = .ok (.iload_n 2, 1) := by decide +kernel
theorem dJ2_putCharSB_b72d1_8 : decode cJ2_putCharSB_b72d1 8 = .ok (.invokestatic 111, 3) := by decide +kernel
theorem dJ2_putCharSB_b72d1_11 : decode cJ2_putCharSB_b72d1 11 = .ok (.return_, 1) := by decide +kernel
theorem dJ2_getChars_46870_0 : decode cJ2_getChars_46870 0 = .ok (.iload_n 1, 1) := by decide +kernel
theorem dJ2_getChars_46870_1 : decode cJ2_getChars_46870 1 = .ok (.iload_n 2, 1) := by decide +kernel
theorem dJ2_getChars_46870_2 : decode cJ2_getChars_46870 2 = .ok (.aload_n 3, 1) := by decide +kernel
theorem dJ2_getChars_46870_3 : decode cJ2_getChars_46870 3 = .ok (.invokestatic 96, 3) := by decide +kernel
theorem dJ2_getChars_46870_6 : decode cJ2_getChars_46870 6 = .ok (.iload_n 0, 1) := by decide +kernel
theorem dJ2_getChars_46870_7 : decode cJ2_getChars_46870 7 = .ok (.iload_n 2, 1) := by decide +kernel
theorem dJ2_getChars_46870_8 : decode cJ2_getChars_46870 8 = .ok (.aload_n 3, 1) := by decide +kernel
theorem dJ2_getChars_46870_9 : decode cJ2_getChars_46870 9 = .ok (.invokestatic 393, 3) := by decide +kernel
theorem dJ2_getChars_46870_12 : decode cJ2_getChars_46870 12 = .ok (.istore 4, 2) := by decide +kernel
theorem dJ2_getChars_46870_14 : decode cJ2_getChars_46870 14 = .ok (.getstatic 44, 3) := by decide +kernel
theorem dJ2_getChars_46870_17 : decode cJ2_getChars_46870 17 = .ok (.ifCond .ne 17, 3) := by decide +kernel
theorem dJ2_getChars_46870_20 : decode cJ2_getChars_46870 20 = .ok (.iload_n 1, 1) := by decide +kernel
theorem dJ2_getChars_46870_21 : decode cJ2_getChars_46870 21 = .ok (.iload 4, 2) := by decide +kernel
theorem dJ2_getChars_46870_23 : decode cJ2_getChars_46870 23 = .ok (.if_icmp .eq 11, 3) := by decide +kernel
theorem dJ2_getChars_46870_26 : decode cJ2_getChars_46870 26 = .ok (.new 52, 3) := by decide +kernel
theorem dJ2_getChars_46870_29 : decode cJ2_getChars_46870 29 = .ok (.dup, 1) := by decide +kernel
theorem dJ2_getChars_46870_30 : decode cJ2_getChars_46870 30 = .ok (.invokespecial 66, 3) := by decide +kernel
theorem dJ2_getChars_46870_33 : decode cJ2_getChars_46870 33 = .ok (.athrow, 1) := by decide +kernel
theorem dJ2_getChars_46870_34 : decode cJ2_getChars_46870 34 = .ok (.iload 4, 2) := by decide +kernel
theorem dJ2_getChars_46870_36 : decode cJ2_getChars_46870 36 = .ok (.ireturn, 1) := by decide +kernel
theorem dJ2_putCharsAt_cd4e5_0 : decode cJ2_putCharsAt_cd4e5 0 = .ok (.iload_n 1, 1) := by decide +kernel
theorem dJ2_putCharsAt_cd4e5_1 : decode cJ2_putCharsAt_cd4e5 1 = .ok (.iconst 4, 1) := by decide +kernel
theorem dJ2_putCharsAt_cd4e5_2 : decode cJ2_putCharsAt_cd4e5 2 = .ok (.iadd, 1) := by decide +kernel
theorem dJ2_putCharsAt_cd4e5_3 : decode cJ2_putCharsAt_cd4e5 3 = .ok (.istore 6, 2) := by decide +kernel
theorem dJ2_putCharsAt_cd4e5_5 : decode cJ2_putCharsAt_cd4e5 5 = .ok (.iload_n 1, 1) := by decide +kernel
theorem dJ2_putCharsAt_cd4e5_6 : decode cJ2_putCharsAt_cd4e5 6 = .ok (.iload 6, 2) := by decide +kernel
theorem dJ2_putCharsAt_cd4e5_8 : decode cJ2_putCharsAt_cd4e5 8 = .ok (.aload_n 0, 1) := by decide +kernel
theorem dJ2_putCharsAt_cd4e5_9 : decode cJ2_putCharsAt_cd4e5 9 = .ok (.invokestatic 96, 3) := by decide +kernel
theorem dJ2_putCharsAt_cd4e5_12 : decode cJ2_putCharsAt_cd4e5 12 = .ok (.aload_n 0, 1) := by decide +kernel
theorem dJ2_putCharsAt_cd4e5_13 : decode cJ2_putCharsAt_cd4e5 13 = .ok (.iload_n 1, 1) := by decide +kernel
theorem dJ2_putCharsAt_cd4e5_14 : decode cJ2_putCharsAt_cd4e5 14 = .ok (.iinc 1 1, 3) := by decide +kernel
theorem dJ2_putCharsAt_cd4e5_17 : decode cJ2_putCharsAt_cd4e5 17 = .ok (.iload_n 2, 1) := by decide +kernel
theorem dJ2_putCharsAt_cd4e5_18 : decode cJ2_putCharsAt_cd4e5 18 = .ok (.invokestatic 111, 3) := by decide +kernel
theorem dJ2_putCharsAt_cd4e5_21 : decode cJ2_putCharsAt_cd4e5 21 = .ok (.aload_n 0, 1) := by decide +kernel
theorem dJ2_putCharsAt_cd4e5_22 : decode cJ2_putCharsAt_cd4e5 22 = .ok (.iload_n 1, 1) := by decide +kernel
theorem dJ2_putCharsAt_cd4e5_23 : decode cJ2_putCharsAt_cd4e5 23 = .ok (.iinc 1 1, 3) := by decide +kernel
theorem dJ2_putCharsAt_cd4e5_26 : decode cJ2_putCharsAt_cd4e5 26 = .ok (.iload_n 3, 1) := by decide +kernel
theorem dJ2_putCharsAt_cd4e5_27 : decode cJ2_putCharsAt_cd4e5 27 = .ok (.invokestatic 111, 3) := by decide +kernel
theorem dJ2_putCharsAt_cd4e5_30 : decode cJ2_putCharsAt_cd4e5 30 = .ok (.aload_n 0, 1) := by decide +kernel
theorem dJ2_putCharsAt_cd4e5_31 : decode cJ2_putCharsAt_cd4e5 31 = .ok (.iload_n 1, 1) := by decide +kernel
theorem dJ2_putCharsAt_cd4e5_32 : decode cJ2_putCharsAt_cd4e5 32 = .ok (.iinc 1 1, 3) := by decide +kernel
theorem dJ2_putCharsAt_cd4e5_35 : decode cJ2_putCharsAt_cd4e5 35 = .ok (.iload 4, 2) := by decide +kernel
theorem dJ2_putCharsAt_cd4e5_37 : decode cJ2_putCharsAt_cd4e5 37 = .ok (.invokestatic 111, 3) := by decide +kernel
theorem dJ2_putCharsAt_cd4e5_40 : decode cJ2_putCharsAt_cd4e5 40 = .ok (.aload_n 0, 1) := by decide +kernel
theorem dJ2_putCharsAt_cd4e5_41 : decode cJ2_putCharsAt_cd4e5 41 = .ok (.iload_n 1, 1) := by decide +kernel
theorem dJ2_putCharsAt_cd4e5_42 : decode cJ2_putCharsAt_cd4e5 42 = .ok (.iinc 1 1, 3) := by decide +kernel
theorem dJ2_putCharsAt_cd4e5_45 : decode cJ2_putCharsAt_cd4e5 45 = .ok (.iload 5, 2) := by decide +kernel
theorem dJ2_putCharsAt_cd4e5_47 : decode cJ2_putCharsAt_cd4e5 47 = .ok (.invokestatic 111, 3) := by decide +kernel
theorem dJ2_putCharsAt_cd4e5_50 : decode cJ2_putCharsAt_cd4e5 50 = .ok (.getstatic 44, 3) := by decide +kernel
theorem dJ2_putCharsAt_cd4e5_53 : decode cJ2_putCharsAt_cd4e5 53 = .ok (.ifCond .ne 17, 3) := by decide +kernel
theorem dJ2_putCharsAt_cd4e5_56 : decode cJ2_putCharsAt_cd4e5 56 = .ok (.iload_n 1, 1) := by decide +kernel
theorem dJ2_putCharsAt_cd4e5_57 : decode cJ2_putCharsAt_cd4e5 57 = .ok (.iload 6, 2) := by decide +kernel
theorem dJ2_putCharsAt_cd4e5_59 : decode cJ2_putCharsAt_cd4e5 59 = .ok (.if_icmp .eq 11, 3) := by decide +kernel
theorem dJ2_putCharsAt_cd4e5_62 : decode cJ2_putCharsAt_cd4e5 62 = .ok (.new 52, 3) := by decide +kernel
theorem dJ2_putCharsAt_cd4e5_65 : decode cJ2_putCharsAt_cd4e5 65 = .ok (.dup, 1) := by decide +kernel
theorem dJ2_putCharsAt_cd4e5_66 : decode cJ2_putCharsAt_cd4e5 66 = .ok (.invokespecial 66, 3) := by decide +kernel
theorem dJ2_putCharsAt_cd4e5_69 : decode cJ2_putCharsAt_cd4e5 69 = .ok (.athrow, 1) := by decide +kernel
theorem dJ2_putCharsAt_cd4e5_70 : decode cJ2_putCharsAt_cd4e5 70 = .ok (.iload 6, 2) := by decide +kernel
theorem dJ2_putCharsAt_cd4e5_72 : decode cJ2_putCharsAt_cd4e5 72 = .ok (.ireturn, 1) := by decide +kernel
theorem dJ2_inflate_0e8fd_0 : decode cJ2_inflate_0e8fd 0 = .ok (.iload_n 3, 1) := by decide +kernel
theorem dJ2_inflate_0e8fd_1 : decode cJ2_inflate_0e8fd 1 = .ok (.iload 4, 2) := by decide +kernel
theorem dJ2_inflate_0e8fd_3 : decode cJ2_inflate_0e8fd 3 = .ok (.aload_n 2, 1) := by decide +kernel
theorem dJ2_inflate_0e8fd_4 : decode cJ2_inflate_0e8fd 4 = .ok (.invokestatic 173, 3) := by decide +kernel
theorem dJ2_inflate_0e8fd_7 : decode cJ2_inflate_0e8fd 7 = .ok (.iconst 0, 1) := by decide +kernel
theorem dJ2_inflate_0e8fd_8 : decode cJ2_inflate_0e8fd 8 = .ok (.istore 5, 2) := by decide +kernel
theorem dJ2_inflate_0e8fd_10 : decode cJ2_inflate_0e8fd 10 = .ok (.iload 5, 2) := by decide +kernel
theorem dJ2_inflate_0e8fd_12 : decode cJ2_inflate_0e8fd 12 = .ok (.iload 4, 2) := by decide +kernel
theorem dJ2_inflate_0e8fd_14 : decode cJ2_inflate_0e8fd 14 = .ok (.if_icmp .ge 27, 3) := by decide +kernel
theorem dJ2_inflate_0e8fd_17 : decode cJ2_inflate_0e8fd 17 = .ok (.aload_n 2, 1) := by decide +kernel
theorem dJ2_inflate_0e8fd_18 : decode cJ2_inflate_0e8fd 18 = .ok (.iload_n 3, 1) := by decide +kernel
theorem dJ2_inflate_0e8fd_19 : decode cJ2_inflate_0e8fd 19 = .ok (.iinc 3 1, 3) := by decide +kernel
theorem dJ2_inflate_0e8fd_22 : decode cJ2_inflate_0e8fd 22 = .ok (.aload_n 0, 1) := by decide +kernel
theorem dJ2_inflate_0e8fd_23 : decode cJ2_inflate_0e8fd 23 = .ok (.iload_n 1, 1) := by decide +kernel
theorem dJ2_inflate_0e8fd_24 : decode cJ2_inflate_0e8fd 24 = .ok (.iinc 1 1, 3) := by decide +kernel
theorem dJ2_inflate_0e8fd_27 : decode cJ2_inflate_0e8fd 27 = .ok (.baload, 1) := by decide +kernel
theorem dJ2_inflate_0e8fd_28 : decode cJ2_inflate_0e8fd 28 = .ok (.sipush 255, 3) := by decide +kernel
theorem dJ2_inflate_0e8fd_31 : decode cJ2_inflate_0e8fd 31 = .ok (.iand, 1) := by decide +kernel
theorem dJ2_inflate_0e8fd_32 : decode cJ2_inflate_0e8fd 32 = .ok (.invokestatic 111, 3) := by decide +kernel
theorem dJ2_inflate_0e8fd_35 : decode cJ2_inflate_0e8fd 35 = .ok (.iinc 5 1, 3) := by decide +kernel
theorem dJ2_inflate_0e8fd_38 : decode cJ2_inflate_0e8fd 38 = .ok (.goto (-28), 3) := by decide +kernel
theorem dJ2_inflate_0e8fd_41 : decode cJ2_inflate_0e8fd 41 = .ok (.return_, 1) := by decide +kernel
theorem dJ2_getChars_ba4f3_0 : decode cJ2_getChars_ba4f3 0 = .ok (.iload_n 1, 1) := by decide +kernel
theorem dJ2_getChars_ba4f3_1 : decode cJ2_getChars_ba4f3 1 = .ok (.istore 5, 2) := by decide +kernel
theorem dJ2_getChars_ba4f3_3 : decode cJ2_getChars_ba4f3 3 = .ok (.iload_n 0, 1) := by decide +kernel
theorem dJ2_getChars_ba4f3_4 : decode cJ2_getChars_ba4f3 4 = .ok (.ifCond .ge 7, 3) := by decide +kernel
theorem dJ2_getChars_ba4f3_7 : decode cJ2_getChars_ba4f3 7 = .ok (.iconst 1, 1) := by decide +kernel
theorem dJ2_getChars_ba4f3_8 : decode cJ2_getChars_ba4f3 8 = .ok (.goto 4, 3) := by decide +kernel
theorem dJ2_getChars_ba4f3_11 : decode cJ2_getChars_ba4f3 11 = .ok (.iconst 0, 1) := by decide +kernel
theorem dJ2_getChars_ba4f3_12 : decode cJ2_getChars_ba4f3 12 = .ok (.istore 6, 2) := by decide +kernel
theorem dJ2_getChars_ba4f3_14 : decode cJ2_getChars_ba4f3 14 = .ok (.iload 6, 2) := by decide +kernel
theorem dJ2_getChars_ba4f3_16 : decode cJ2_getChars_ba4f3 16 = .ok (.ifCond .ne 6, 3) := by decide +kernel
theorem dJ2_getChars_ba4f3_19 : decode cJ2_getChars_ba4f3 19 = .ok (.iload_n 0, 1) := by decide +kernel
theorem dJ2_getChars_ba4f3_20 : decode cJ2_getChars_ba4f3 20 = .ok (.ineg, 1) := by decide +kernel
theorem dJ2_getChars_ba4f3_21 : decode cJ2_getChars_ba4f3 21 = .ok (.istore_n 0, 1) := by decide +kernel
theorem dJ2_getChars_ba4f3_22 : decode cJ2_getChars_ba4f3 22 = .ok (.iload_n 0, 1) := by decide +kernel
theorem dJ2_getChars_ba4f3_23 : decode cJ2_getChars_ba4f3 23 = .ok (.bipush (-100), 2) := by decide +kernel
theorem dJ2_getChars_ba4f3_25 : decode cJ2_getChars_ba4f3 25 = .ok (.if_icmp .gt 51, 3) := by decide +kernel
theorem dJ2_getChars_ba4f3_28 : decode cJ2_getChars_ba4f3 28 = .ok (.iload_n 0, 1) := by decide +kernel
theorem dJ2_getChars_ba4f3_29 : decode cJ2_getChars_ba4f3 29 = .ok (.bipush 100, 2) := by decide +kernel
theorem dJ2_getChars_ba4f3_31 : decode cJ2_getChars_ba4f3 31 = .ok (.idiv, 1) := by decide +kernel
theorem dJ2_getChars_ba4f3_32 : decode cJ2_getChars_ba4f3 32 = .ok (.istore_n 3, 1) := by decide +kernel
theorem dJ2_getChars_ba4f3_33 : decode cJ2_getChars_ba4f3 33 = .ok (.iload_n 3, 1) := by decide +kernel
theorem dJ2_getChars_ba4f3_34 : decode cJ2_getChars_ba4f3 34 = .ok (.bipush 100, 2) := by decide +kernel
theorem dJ2_getChars_ba4f3_36 : decode cJ2_getChars_ba4f3 36 = .ok (.imul, 1) := by decide +kernel
theorem dJ2_getChars_ba4f3_37 : decode cJ2_getChars_ba4f3 37 = .ok (.iload_n 0, 1) := by decide +kernel
theorem dJ2_getChars_ba4f3_38 : decode cJ2_getChars_ba4f3 38 = .ok (.isub, 1) := by decide +kernel
theorem dJ2_getChars_ba4f3_39 : decode cJ2_getChars_ba4f3 39 = .ok (.istore 4, 2) := by decide +kernel
theorem dJ2_getChars_ba4f3_41 : decode cJ2_getChars_ba4f3 41 = .ok (.iload_n 3, 1) := by decide +kernel
theorem dJ2_getChars_ba4f3_42 : decode cJ2_getChars_ba4f3 42 = .ok (.istore_n 0, 1) := by decide +kernel
theorem dJ2_getChars_ba4f3_43 : decode cJ2_getChars_ba4f3 43 = .ok (.aload_n 2, 1) := by decide +kernel
theorem dJ2_getChars_ba4f3_44 : decode cJ2_getChars_ba4f3 44 = .ok (.iinc 5 (-1), 3) := by decide +kernel
theorem dJ2_getChars_ba4f3_47 : decode cJ2_getChars_ba4f3 47 = .ok (.iload 5, 2) := by decide +kernel
theorem dJ2_getChars_ba4f3_49 : decode cJ2_getChars_ba4f3 49 = .ok (.getstatic 403, 3) := by decide +kernel
theorem dJ2_getChars_ba4f3_52 : decode cJ2_getChars_ba4f3 52 = .ok (.iload 4, 2) := by decide +kernel
theorem dJ2_getChars_ba4f3_54 : decode cJ2_getChars_ba4f3 54 = .ok (.baload, 1) := by decide +kernel
theorem dJ2_getChars_ba4f3_55 : decode cJ2_getChars_ba4f3 55 = .ok (.invokestatic 111, 3) := by decide +kernel
theorem dJ2_getChars_ba4f3_58 : decode cJ2_getChars_ba4f3 58 = .ok (.aload_n 2, 1) := by decide +kernel
theorem dJ2_getChars_ba4f3_59 : decode cJ2_getChars_ba4f3 59 = .ok (.iinc 5 (-1), 3) := by decide +kernel
theorem dJ2_getChars_ba4f3_62 : decode cJ2_getChars_ba4f3 62 = .ok (.iload 5, 2) := by decide +kernel
theorem dJ2_getChars_ba4f3_64 : decode cJ2_getChars_ba4f3 64 = .ok (.getstatic 407, 3) := by decide +kernel
theorem dJ2_getChars_ba4f3_67 : decode cJ2_getChars_ba4f3 67 = .ok (.iload 4, 2) := by decide +kernel
theorem dJ2_getChars_ba4f3_69 : decode cJ2_getChars_ba4f3 69 = .ok (.baload, 1) := by decide +kernel
theorem dJ2_getChars_ba4f3_70 : decode cJ2_getChars_ba4f3 70 = .ok (.invokestatic 111, 3) := by decide +kernel
theorem dJ2_getChars_ba4f3_73 : decode cJ2_getChars_ba4f3 73 = .ok (.goto (-51), 3) := by decide +kernel
theorem dJ2_getChars_ba4f3_76 : decode cJ2_getChars_ba4f3 76 = .ok (.aload_n 2, 1) := by decide +kernel
theorem dJ2_getChars_ba4f3_77 : decode cJ2_getChars_ba4f3 77 = .ok (.iinc 5 (-1), 3) := by decide +kernel
theorem dJ2_getChars_ba4f3_80 : decode cJ2_getChars_ba4f3 80 = .ok (.iload 5, 2) := by decide +kernel
theorem dJ2_getChars_ba4f3_82 : decode cJ2_getChars_ba4f3 82 = .ok (.getstatic 403, 3) := by decide +kernel
theorem dJ2_getChars_ba4f3_85 : decode cJ2_getChars_ba4f3 85 = .ok (.iload_n 0, 1) := by decide +kernel
theorem dJ2_getChars_ba4f3_86 : decode cJ2_getChars_ba4f3 86 = .ok (.ineg, 1) := by decide +kernel
theorem dJ2_getChars_ba4f3_87 : decode cJ2_getChars_ba4f3 87 = .ok (.baload, 1) := by decide +kernel
theorem dJ2_getChars_ba4f3_88 : decode cJ2_getChars_ba4f3 88 = .ok (.invokestatic 111, 3) := by decide +kernel
theorem dJ2_getChars_ba4f3_91 : decode cJ2_getChars_ba4f3 91 = .ok (.iload_n 0, 1) := by decide +kernel
theorem dJ2_getChars_ba4f3_92 : decode cJ2_getChars_ba4f3 92 = .ok (.bipush (-9), 2) := by decide +kernel
theorem dJ2_getChars_ba4f3_94 : decode cJ2_getChars_ba4f3 94 = .ok (.if_icmp .ge 18, 3) := by decide +kernel
theorem dJ2_getChars_ba4f3_97 : decode cJ2_getChars_ba4f3 97 = .ok (.aload_n 2, 1) := by decide +kernel
theorem dJ2_getChars_ba4f3_98 : decode cJ2_getChars_ba4f3 98 = .ok (.iinc 5 (-1), 3) := by decide +kernel
theorem dJ2_getChars_ba4f3_101 : decode cJ2_getChars_ba4f3 101 = .ok (.iload 5, 2) := by decide +kernel
theorem dJ2_getChars_ba4f3_103 : decode cJ2_getChars_ba4f3 103 = .ok (.getstatic 407, 3) := by decide +kernel
theorem dJ2_getChars_ba4f3_106 : decode cJ2_getChars_ba4f3 106 = .ok (.iload_n 0, 1) := by decide +kernel
theorem dJ2_getChars_ba4f3_107 : decode cJ2_getChars_ba4f3 107 = .ok (.ineg, 1) := by decide +kernel
theorem dJ2_getChars_ba4f3_108 : decode cJ2_getChars_ba4f3 108 = .ok (.baload, 1) := by decide +kernel
theorem dJ2_getChars_ba4f3_109 : decode cJ2_getChars_ba4f3 109 = .ok (.invokestatic 111, 3) := by decide +kernel
theorem dJ2_getChars_ba4f3_112 : decode cJ2_getChars_ba4f3 112 = .ok (.iload 6, 2) := by decide +kernel
theorem dJ2_getChars_ba4f3_114 : decode cJ2_getChars_ba4f3 114 = .ok (.ifCond .eq 14, 3) := by decide +kernel
theorem dJ2_getChars_ba4f3_117 : decode cJ2_getChars_ba4f3 117 = .ok (.aload_n 2, 1) := by decide +kernel
theorem dJ2_getChars_ba4f3_118 : decode cJ2_getChars_ba4f3 118 = .ok (.iinc 5 (-1), 3) := by decide +kernel
theorem dJ2_getChars_ba4f3_121 : decode cJ2_getChars_ba4f3 121 = .ok (.iload 5, 2) := by decide +kernel
theorem dJ2_getChars_ba4f3_123 : decode cJ2_getChars_ba4f3 123 = .ok (.bipush 45, 2) := by decide +kernel
theorem dJ2_getChars_ba4f3_125 : decode cJ2_getChars_ba4f3 125 = .ok (.invokestatic 111, 3) := by decide +kernel
theorem dJ2_getChars_ba4f3_128 : decode cJ2_getChars_ba4f3 128 = .ok (.iload 5, 2) := by decide +kernel
theorem dJ2_getChars_ba4f3_130 : decode cJ2_getChars_ba4f3 130 = .ok (.ireturn, 1) := by decide +kernel
theorem dJ2_checkIndex_2214a_0 : decode cJ2_checkIndex_2214a 0 = .ok (.iload_n 0, 1) := by decide +kernel
theorem dJ2_checkIndex_2214a_1 : decode cJ2_checkIndex_2214a 1 = .ok (.aload_n 1, 1) := by decide +kernel
theorem dJ2_checkIndex_2214a_2 : decode cJ2_checkIndex_2214a 2 = .ok (.invokestatic 48, 3) := by decide +kernel
theorem dJ2_checkIndex_2214a_5 : decode cJ2_checkIndex_2214a 5 = .ok (.invokestatic 414, 3) := by decide +kernel
theorem dJ2_checkIndex_2214a_8 : decode cJ2_checkIndex_2214a 8 = .ok (.return_, 1) := by decide +kernel
theorem dJ2_checkBoundsBeginEnd_d044e_0 : decode cJ2_checkBoundsBeginEnd_d044e 0 = .ok (.iload_n 0, 1) := by decide +kernel
theorem dJ2_checkBoundsBeginEnd_d044e_1 : decode cJ2_checkBoundsBeginEnd_d044e 1 = .ok (.iload_n 1, 1) := by decide +kernel
theorem dJ2_checkBoundsBeginEnd_d044e_2 : decode cJ2_checkBoundsBeginEnd_d044e 2 = .ok (.aload_n 2, 1) := by decide +kernel
theorem dJ2_checkBoundsBeginEnd_d044e_3 : decode cJ2_checkBoundsBeginEnd_d044e 3 = .ok (.invokestatic 48, 3) := by decide +kernel
theorem dJ2_checkBoundsBeginEnd_d044e_6 : decode cJ2_checkBoundsBeginEnd_d044e 6 = .ok (.invokestatic 241, 3) := by decide +kernel
theorem dJ2_checkBoundsBeginEnd_d044e_9 : decode cJ2_checkBoundsBeginEnd_d044e 9 = .ok (.return_, 1) := by decide +kernel
theorem dJ2_checkBoundsOffCount_d044e_0 : decode cJ2_checkBoundsOffCount_d044e 0 = .ok (.iload_n 0, 1) := by decide +kernel
theorem dJ2_checkBoundsOffCount_d044e_1 : decode cJ2_checkBoundsOffCount_d044e 1 = .ok (.iload_n 1, 1) := by decide +kernel
theorem dJ2_checkBoundsOffCount_d044e_2 : decode cJ2_checkBoundsOffCount_d044e 2 = .ok (.aload_n 2, 1) := by decide +kernel
theorem dJ2_checkBoundsOffCount_d044e_3 : decode cJ2_checkBoundsOffCount_d044e 3 = .ok (.invokestatic 48, 3) := by decide +kernel
theorem dJ2_checkBoundsOffCount_d044e_6 : decode cJ2_checkBoundsOffCount_d044e 6 = .ok (.invokestatic 419, 3) := by decide +kernel
theorem dJ2_checkBoundsOffCount_d044e_9 : decode cJ2_checkBoundsOffCount_d044e 9 = .ok (.pop, 1) := by decide +kernel
theorem dJ2_checkBoundsOffCount_d044e_10 : decode cJ2_checkBoundsOffCount_d044e 10 = .ok (.return_, 1) := by decide +kernel
theorem dJ7_copyOf_9075b_0 : decode cJ7_copyOf_9075b 0 = .ok (.iload_n 1, 1) := by decide +kernel
theorem dJ7_copyOf_9075b_1 : decode cJ7_copyOf_9075b 1 = .ok (.aload_n 0, 1) := by decide +kernel
theorem dJ7_copyOf_9075b_2 : decode cJ7_copyOf_9075b 2 = .ok (.arraylength, 1) := by decide +kernel
theorem dJ7_copyOf_9075b_3 : decode cJ7_copyOf_9075b 3 = .ok (.if_icmp .ne 11, 3) := by decide +kernel
theorem dJ7_copyOf_9075b_6 : decode cJ7_copyOf_9075b 6 = .ok (.aload_n 0, 1) := by decide +kernel
theorem dJ7_copyOf_9075b_7 : decode cJ7_copyOf_9075b 7 = .ok (.invokevirtual 310, 3) := by decide +kernel
theorem dJ7_copyOf_9075b_10 : decode cJ7_copyOf_9075b 10 = .ok (.checkcast 311, 3) := by decide +kernel
theorem dJ7_copyOf_9075b_13 : decode cJ7_copyOf_9075b 13 = .ok (.areturn, 1) := by decide +kernel
theorem dJ7_copyOf_9075b_14 : decode cJ7_copyOf_9075b 14 = .ok (.iload_n 1, 1) := by decide +kernel
theorem dJ7_copyOf_9075b_15 : decode cJ7_copyOf_9075b 15 = .ok (.newarray .byte, 2) := by decide +kernel
theorem dJ7_copyOf_9075b_17 : decode cJ7_copyOf_9075b 17 = .ok (.astore_n 2, 1) := by decide +kernel
theorem dJ7_copyOf_9075b_18 : decode cJ7_copyOf_9075b 18 = .ok (.aload_n 0, 1) := by decide +kernel
theorem dJ7_copyOf_9075b_19 : decode cJ7_copyOf_9075b 19 = .ok (.iconst 0, 1) := by decide +kernel
theorem dJ7_copyOf_9075b_20 : decode cJ7_copyOf_9075b 20 = .ok (.aload_n 2, 1) := by decide +kernel
theorem dJ7_copyOf_9075b_21 : decode cJ7_copyOf_9075b 21 = .ok (.iconst 0, 1) := by decide +kernel
theorem dJ7_copyOf_9075b_22 : decode cJ7_copyOf_9075b 22 = .ok (.aload_n 0, 1) := by decide +kernel
theorem dJ7_copyOf_9075b_23 : decode cJ7_copyOf_9075b 23 = .ok (.arraylength, 1) := by decide +kernel
theorem dJ7_copyOf_9075b_24 : decode cJ7_copyOf_9075b 24 = .ok (.iload_n 1, 1) := by decide +kernel
theorem dJ7_copyOf_9075b_25 : decode cJ7_copyOf_9075b 25 = .ok (.invokestatic 304, 3) := by decide +kernel
theorem dJ7_copyOf_9075b_28 : decode cJ7_copyOf_9075b 28 = .ok (.invokestatic 150, 3) := by decide +kernel
theorem dJ7_copyOf_9075b_31 : decode cJ7_copyOf_9075b 31 = .ok (.aload_n 2, 1) := by decide +kernel
theorem dJ7_copyOf_9075b_32 : decode cJ7_copyOf_9075b 32 = .ok (.areturn, 1) := by decide +kernel
theorem dJ7_checkLength_df160_0 : decode cJ7_checkLength_df160 0 = .ok (.iload_n 1, 1) := by decide +kernel
theorem dJ7_checkLength_df160_1 : decode cJ7_checkLength_df160 1 = .ok (.iload_n 0, 1) := by decide +kernel
theorem dJ7_checkLength_df160_2 : decode cJ7_checkLength_df160 2 = .ok (.if_icmp .ge 35, 3) := by decide +kernel
theorem dJ7_checkLength_df160_5 : decode cJ7_checkLength_df160 5 = .ok (.new 43, 3) := by decide +kernel
theorem dJ7_checkLength_df160_8 : decode cJ7_checkLength_df160 8 = .ok (.dup, 1) := by decide +kernel
theorem dJ7_checkLength_df160_9 : decode cJ7_checkLength_df160 9 = .ok (.new 45, 3) := by decide +kernel
theorem dJ7_checkLength_df160_12 : decode cJ7_checkLength_df160 12 = .ok (.dup, 1) := by decide +kernel
theorem dJ7_checkLength_df160_13 : decode cJ7_checkLength_df160 13 = .ok (.invokespecial 47, 3) := by decide +kernel
theorem dJ7_checkLength_df160_16 : decode cJ7_checkLength_df160 16 = .ok (.iload_n 0, 1) := by decide +kernel
theorem dJ7_checkLength_df160_17 : decode cJ7_checkLength_df160 17 = .ok (.invokevirtual 54, 3) := by decide +kernel
theorem dJ7_checkLength_df160_20 : decode cJ7_checkLength_df160 20 = .ok (.ldc_w 337, 3) := by decide +kernel
theorem dJ7_checkLength_df160_23 : decode cJ7_checkLength_df160 23 = .ok (.invokevirtual 50, 3) := by decide +kernel
theorem dJ7_checkLength_df160_26 : decode cJ7_checkLength_df160 26 = .ok (.iload_n 1, 1) := by decide +kernel
theorem dJ7_checkLength_df160_27 : decode cJ7_checkLength_df160 27 = .ok (.invokevirtual 54, 3) := by decide +kernel
theorem dJ7_checkLength_df160_30 : decode cJ7_checkLength_df160 30 = .ok (.invokevirtual 61, 3) := by decide +kernel
theorem dJ7_checkLength_df160_33 : decode cJ7_checkLength_df160 33 = .ok (.invokespecial 65, 3) := by decide +kernel
theorem dJ7_checkLength_df160_36 : decode cJ7_checkLength_df160 36 = .ok (.athrow, 1) := by decide +kernel
theorem dJ7_checkLength_df160_37 : decode cJ7_checkLength_df160 37 = .ok (.return_, 1) := by decide +kernel
theorem dJ7_copyOfRange_39247_0 : decode cJ7_copyOfRange_39247 0 = .ok (.iload_n 1, 1) := by decide +kernel
theorem dJ7_copyOfRange_39247_1 : decode cJ7_copyOfRange_39247 1 = .ok (.ifCond .ne 9, 3) := by decide +kernel
theorem dJ7_copyOfRange_39247_4 : decode cJ7_copyOfRange_39247 4 = .ok (.iload_n 2, 1) := by decide +kernel
theorem dJ7_copyOfRange_39247_5 : decode cJ7_copyOfRange_39247 5 = .ok (.aload_n 0, 1) := by decide +kernel
theorem dJ7_copyOfRange_39247_6 : decode cJ7_copyOfRange_39247 6 = .ok (.arraylength, 1) := by decide +kernel
theorem dJ7_copyOfRange_39247_7 : decode cJ7_copyOfRange_39247 7 = .ok (.if_icmp .eq 10, 3) := by decide +kernel
theorem dJ7_copyOfRange_39247_10 : decode cJ7_copyOfRange_39247 10 = .ok (.aload_n 0, 1) := by decide +kernel
theorem dJ7_copyOfRange_39247_11 : decode cJ7_copyOfRange_39247 11 = .ok (.iload_n 1, 1) := by decide +kernel
theorem dJ7_copyOfRange_39247_12 : decode cJ7_copyOfRange_39247 12 = .ok (.iload_n 2, 1) := by decide +kernel
theorem dJ7_copyOfRange_39247_13 : decode cJ7_copyOfRange_39247 13 = .ok (.invokestatic 339, 3) := by decide +kernel
theorem dJ7_copyOfRange_39247_16 : decode cJ7_copyOfRange_39247 16 = .ok (.areturn, 1) := by decide +kernel
theorem dJ7_copyOfRange_39247_17 : decode cJ7_copyOfRange_39247 17 = .ok (.aload_n 0, 1) := by decide +kernel
theorem dJ7_copyOfRange_39247_18 : decode cJ7_copyOfRange_39247 18 = .ok (.invokevirtual 310, 3) := by decide +kernel
theorem dJ7_copyOfRange_39247_21 : decode cJ7_copyOfRange_39247 21 = .ok (.checkcast 311, 3) := by decide +kernel
theorem dJ7_copyOfRange_39247_24 : decode cJ7_copyOfRange_39247 24 = .ok (.areturn, 1) := by decide +kernel
theorem dJ7_copyOfRangeByte_39247_0 : decode cJ7_copyOfRangeByte_39247 0 = .ok (.iload_n 1, 1) := by decide +kernel
theorem dJ7_copyOfRangeByte_39247_1 : decode cJ7_copyOfRangeByte_39247 1 = .ok (.iload_n 2, 1) := by decide +kernel
theorem dJ7_copyOfRangeByte_39247_2 : decode cJ7_copyOfRangeByte_39247 2 = .ok (.invokestatic 343, 3) := by decide +kernel
theorem dJ7_copyOfRangeByte_39247_5 : decode cJ7_copyOfRangeByte_39247 5 = .ok (.iload_n 2, 1) := by decide +kernel
theorem dJ7_copyOfRangeByte_39247_6 : decode cJ7_copyOfRangeByte_39247 6 = .ok (.iload_n 1, 1) := by decide +kernel
theorem dJ7_copyOfRangeByte_39247_7 : decode cJ7_copyOfRangeByte_39247 7 = .ok (.isub, 1) := by decide +kernel
theorem dJ7_copyOfRangeByte_39247_8 : decode cJ7_copyOfRangeByte_39247 8 = .ok (.istore_n 3, 1) := by decide +kernel
theorem dJ7_copyOfRangeByte_39247_9 : decode cJ7_copyOfRangeByte_39247 9 = .ok (.iload_n 3, 1) := by decide +kernel
theorem dJ7_copyOfRangeByte_39247_10 : decode cJ7_copyOfRangeByte_39247 10 = .ok (.newarray .byte, 2) := by decide +kernel
theorem dJ7_copyOfRangeByte_39247_12 : decode cJ7_copyOfRangeByte_39247 12 = .ok (.astore 4, 2) := by decide +kernel
theorem dJ7_copyOfRangeByte_39247_14 : decode cJ7_copyOfRangeByte_39247 14 = .ok (.aload_n 0, 1) := by decide +kernel
theorem dJ7_copyOfRangeByte_39247_15 : decode cJ7_copyOfRangeByte_39247 15 = .ok (.iload_n 1, 1) := by decide +kernel
theorem dJ7_copyOfRangeByte_39247_16 : decode cJ7_copyOfRangeByte_39247 16 = .ok (.aload 4, 2) := by decide +kernel
theorem dJ7_copyOfRangeByte_39247_18 : decode cJ7_copyOfRangeByte_39247 18 = .ok (.iconst 0, 1) := by decide +kernel
theorem dJ7_copyOfRangeByte_39247_19 : decode cJ7_copyOfRangeByte_39247 19 = .ok (.aload_n 0, 1) := by decide +kernel
theorem dJ7_copyOfRangeByte_39247_20 : decode cJ7_copyOfRangeByte_39247 20 = .ok (.arraylength, 1) := by decide +kernel
theorem dJ7_copyOfRangeByte_39247_21 : decode cJ7_copyOfRangeByte_39247 21 = .ok (.iload_n 1, 1) := by decide +kernel
theorem dJ7_copyOfRangeByte_39247_22 : decode cJ7_copyOfRangeByte_39247 22 = .ok (.isub, 1) := by decide +kernel
theorem dJ7_copyOfRangeByte_39247_23 : decode cJ7_copyOfRangeByte_39247 23 = .ok (.iload_n 3, 1) := by decide +kernel
theorem dJ7_copyOfRangeByte_39247_24 : decode cJ7_copyOfRangeByte_39247 24 = .ok (.invokestatic 304, 3) := by decide +kernel
theorem dJ7_copyOfRangeByte_39247_27 : decode cJ7_copyOfRangeByte_39247 27 = .ok (.invokestatic 150, 3) := by decide +kernel
theorem dJ7_copyOfRangeByte_39247_30 : decode cJ7_copyOfRangeByte_39247 30 = .ok (.aload 4, 2) := by decide +kernel
theorem dJ7_copyOfRangeByte_39247_32 : decode cJ7_copyOfRangeByte_39247 32 = .ok (.areturn, 1) := by decide +kernel
theorem dJ8_newLength_cabcc_0 : decode cJ8_newLength_cabcc 0 = .ok (.iload_n 0, 1) := by decide +kernel
theorem dJ8_newLength_cabcc_1 : decode cJ8_newLength_cabcc 1 = .ok (.iload_n 1, 1) := by decide +kernel
theorem dJ8_newLength_cabcc_2 : decode cJ8_newLength_cabcc 2 = .ok (.iload_n 2, 1) := by decide +kernel
theorem dJ8_newLength_cabcc_3 : decode cJ8_newLength_cabcc 3 = .ok (.invokestatic 194, 3) := by decide +kernel
theorem dJ8_newLength_cabcc_6 : decode cJ8_newLength_cabcc 6 = .ok (.iadd, 1) := by decide +kernel
theorem dJ8_newLength_cabcc_7 : decode cJ8_newLength_cabcc 7 = .ok (.istore_n 3, 1) := by decide +kernel
theorem dJ8_newLength_cabcc_8 : decode cJ8_newLength_cabcc 8 = .ok (.iconst 0, 1) := by decide +kernel
theorem dJ8_newLength_cabcc_9 : decode cJ8_newLength_cabcc 9 = .ok (.iload_n 3, 1) := by decide +kernel
theorem dJ8_newLength_cabcc_10 : decode cJ8_newLength_cabcc 10 = .ok (.if_icmp .ge 11, 3) := by decide +kernel
theorem dJ8_newLength_cabcc_13 : decode cJ8_newLength_cabcc 13 = .ok (.iload_n 3, 1) := by decide +kernel
theorem dJ8_newLength_cabcc_14 : decode cJ8_newLength_cabcc 14 = .ok (.ldc 200, 2) := by decide +kernel
theorem dJ8_newLength_cabcc_16 : decode cJ8_newLength_cabcc 16 = .ok (.if_icmp .gt 5, 3) := by decide +kernel
theorem dJ8_newLength_cabcc_19 : decode cJ8_newLength_cabcc 19 = .ok (.iload_n 3, 1) := by decide +kernel
theorem dJ8_newLength_cabcc_20 : decode cJ8_newLength_cabcc 20 = .ok (.ireturn, 1) := by decide +kernel
theorem dJ8_newLength_cabcc_21 : decode cJ8_newLength_cabcc 21 = .ok (.iload_n 0, 1) := by decide +kernel
theorem dJ8_newLength_cabcc_22 : decode cJ8_newLength_cabcc 22 = .ok (.iload_n 1, 1) := by decide +kernel
theorem dJ8_newLength_cabcc_23 : decode cJ8_newLength_cabcc 23 = .ok (.invokestatic 201, 3) := by decide +kernel
theorem dJ8_newLength_cabcc_26 : decode cJ8_newLength_cabcc 26 = .ok (.ireturn, 1) := by decide +kernel
theorem dJ8_hugeLength_7cf53_0 : decode cJ8_hugeLength_7cf53 0 = .ok (.iload_n 0, 1) := by decide +kernel
theorem dJ8_hugeLength_7cf53_1 : decode cJ8_hugeLength_7cf53 1 = .ok (.iload_n 1, 1) := by decide +kernel
theorem dJ8_hugeLength_7cf53_2 : decode cJ8_hugeLength_7cf53 2 = .ok (.iadd, 1) := by decide +kernel
theorem dJ8_hugeLength_7cf53_3 : decode cJ8_hugeLength_7cf53 3 = .ok (.istore_n 2, 1) := by decide +kernel
theorem dJ8_hugeLength_7cf53_4 : decode cJ8_hugeLength_7cf53 4 = .ok (.iload_n 2, 1) := by decide +kernel
theorem dJ8_hugeLength_7cf53_5 : decode cJ8_hugeLength_7cf53 5 = .ok (.ifCond .ge 44, 3) := by decide +kernel
theorem dJ8_hugeLength_7cf53_8 : decode cJ8_hugeLength_7cf53 8 = .ok (.new 204, 3) := by decide +kernel
theorem dJ8_hugeLength_7cf53_11 : decode cJ8_hugeLength_7cf53 11 = .ok (.dup, 1) := by decide +kernel
theorem dJ8_hugeLength_7cf53_12 : decode cJ8_hugeLength_7cf53 12 = .ok (.new 89, 3) := by decide +kernel
theorem dJ8_hugeLength_7cf53_15 : decode cJ8_hugeLength_7cf53 15 = .ok (.dup, 1) := by decide +kernel
theorem dJ8_hugeLength_7cf53_16 : decode cJ8_hugeLength_7cf53 16 = .ok (.invokespecial 91, 3) := by decide +kernel
theorem dJ8_hugeLength_7cf53_19 : decode cJ8_hugeLength_7cf53 19 = .ok (.ldc 206, 2) := by decide +kernel
theorem dJ8_hugeLength_7cf53_21 : decode cJ8_hugeLength_7cf53 21 = .ok (.invokevirtual 94, 3) := by decide +kernel
theorem dJ8_hugeLength_7cf53_24 : decode cJ8_hugeLength_7cf53 24 = .ok (.iload_n 0, 1) := by decide +kernel
theorem dJ8_hugeLength_7cf53_25 : decode cJ8_hugeLength_7cf53 25 = .ok (.invokevirtual 98, 3) := by decide +kernel
theorem dJ8_hugeLength_7cf53_28 : decode cJ8_hugeLength_7cf53 28 = .ok (.ldc 208, 2) := by decide +kernel
theorem dJ8_hugeLength_7cf53_30 : decode cJ8_hugeLength_7cf53 30 = .ok (.invokevirtual 94, 3) := by decide +kernel
theorem dJ8_hugeLength_7cf53_33 : decode cJ8_hugeLength_7cf53 33 = .ok (.iload_n 1, 1) := by decide +kernel
theorem dJ8_hugeLength_7cf53_34 : decode cJ8_hugeLength_7cf53 34 = .ok (.invokevirtual 98, 3) := by decide +kernel
theorem dJ8_hugeLength_7cf53_37 : decode cJ8_hugeLength_7cf53 37 = .ok (.ldc 210, 2) := by decide +kernel
theorem dJ8_hugeLength_7cf53_39 : decode cJ8_hugeLength_7cf53 39 = .ok (.invokevirtual 94, 3) := by decide +kernel
theorem dJ8_hugeLength_7cf53_42 : decode cJ8_hugeLength_7cf53 42 = .ok (.invokevirtual 101, 3) := by decide +kernel
theorem dJ8_hugeLength_7cf53_45 : decode cJ8_hugeLength_7cf53 45 = .ok (.invokespecial 212, 3) := by decide +kernel
theorem dJ8_hugeLength_7cf53_48 : decode cJ8_hugeLength_7cf53 48 = .ok (.athrow, 1) := by decide +kernel
theorem dJ8_hugeLength_7cf53_49 : decode cJ8_hugeLength_7cf53 49 = .ok (.iload_n 2, 1) := by decide +kernel
theorem dJ8_hugeLength_7cf53_50 : decode cJ8_hugeLength_7cf53 50 = .ok (.ldc 200, 2) := by decide +kernel
theorem dJ8_hugeLength_7cf53_52 : decode cJ8_hugeLength_7cf53 52 = .ok (.if_icmp .gt 6, 3) := by decide +kernel
theorem dJ8_hugeLength_7cf53_55 : decode cJ8_hugeLength_7cf53 55 = .ok (.ldc 200, 2) := by decide +kernel
theorem dJ8_hugeLength_7cf53_57 : decode cJ8_hugeLength_7cf53 57 = .ok (.ireturn, 1) := by decide +kernel
theorem dJ8_hugeLength_7cf53_58 : decode cJ8_hugeLength_7cf53 58 = .ok (.iload_n 2, 1) := by decide +kernel
theorem dJ8_hugeLength_7cf53_59 : decode cJ8_hugeLength_7cf53 59 = .ok (.ireturn, 1) := by decide +kernel
theorem dJ3_checkIndex_8e157_0 : decode cJ3_checkIndex_8e157 0 = .ok (.iload_n 0, 1) := by decide +kernel
theorem dJ3_checkIndex_8e157_1 : decode cJ3_checkIndex_8e157 1 = .ok (.ifCond .lt 8, 3) := by decide +kernel
theorem dJ3_checkIndex_8e157_4 : decode cJ3_checkIndex_8e157 4 = .ok (.iload_n 0, 1) := by decide +kernel
theorem dJ3_checkIndex_8e157_5 : decode cJ3_checkIndex_8e157 5 = .ok (.iload_n 1, 1) := by decide +kernel
theorem dJ3_checkIndex_8e157_6 : decode cJ3_checkIndex_8e157 6 = .ok (.if_icmp .lt 10, 3) := by decide +kernel
theorem dJ3_checkIndex_8e157_9 : decode cJ3_checkIndex_8e157 9 = .ok (.aload_n 2, 1) := by decide +kernel
theorem dJ3_checkIndex_8e157_10 : decode cJ3_checkIndex_8e157 10 = .ok (.iload_n 0, 1) := by decide +kernel
theorem dJ3_checkIndex_8e157_11 : decode cJ3_checkIndex_8e157 11 = .ok (.iload_n 1, 1) := by decide +kernel
theorem dJ3_checkIndex_8e157_12 : decode cJ3_checkIndex_8e157 12 = .ok (.invokestatic 95, 3) := by decide +kernel
theorem dJ3_checkIndex_8e157_15 : decode cJ3_checkIndex_8e157 15 = .ok (.athrow, 1) := by decide +kernel
theorem dJ3_checkIndex_8e157_16 : decode cJ3_checkIndex_8e157 16 = .ok (.iload_n 0, 1) := by decide +kernel
theorem dJ3_checkIndex_8e157_17 : decode cJ3_checkIndex_8e157 17 = .ok (.ireturn, 1) := by decide +kernel
theorem dJ3_checkFromToIndex_8c36e_0 : decode cJ3_checkFromToIndex_8c36e 0 = .ok (.iload_n 0, 1) := by decide +kernel
theorem dJ3_checkFromToIndex_8c36e_1 : decode cJ3_checkFromToIndex_8c36e 1 = .ok (.ifCond .lt 13, 3) := by decide +kernel
theorem dJ3_checkFromToIndex_8c36e_4 : decode cJ3_checkFromToIndex_8c36e 4 = .ok (.iload_n 0, 1) := by decide +kernel
theorem dJ3_checkFromToIndex_8c36e_5 : decode cJ3_checkFromToIndex_8c36e 5 = .ok (.iload_n 1, 1) := by decide +kernel
theorem dJ3_checkFromToIndex_8c36e_6 : decode cJ3_checkFromToIndex_8c36e 6 = .ok (.if_icmp .gt 8, 3) := by decide +kernel
theorem dJ3_checkFromToIndex_8c36e_9 : decode cJ3_checkFromToIndex_8c36e 9 = .ok (.iload_n 1, 1) := by decide +kernel
theorem dJ3_checkFromToIndex_8c36e_10 : decode cJ3_checkFromToIndex_8c36e 10 = .ok (.iload_n 2, 1) := by decide +kernel
theorem dJ3_checkFromToIndex_8c36e_11 : decode cJ3_checkFromToIndex_8c36e 11 = .ok (.if_icmp .le 11, 3) := by decide +kernel
theorem dJ3_checkFromToIndex_8c36e_14 : decode cJ3_checkFromToIndex_8c36e 14 = .ok (.aload_n 3, 1) := by decide +kernel
theorem dJ3_checkFromToIndex_8c36e_15 : decode cJ3_checkFromToIndex_8c36e 15 = .ok (.iload_n 0, 1) := by decide +kernel
theorem dJ3_checkFromToIndex_8c36e_16 : decode cJ3_checkFromToIndex_8c36e 16 = .ok (.iload_n 1, 1) := by decide +kernel
theorem dJ3_checkFromToIndex_8c36e_17 : decode cJ3_checkFromToIndex_8c36e 17 = .ok (.iload_n 2, 1) := by decide +kernel
theorem dJ3_checkFromToIndex_8c36e_18 : decode cJ3_checkFromToIndex_8c36e 18 = .ok (.invokestatic 99, 3) := by decide +kernel
theorem dJ3_checkFromToIndex_8c36e_21 : decode cJ3_checkFromToIndex_8c36e 21 = .ok (.athrow, 1) := by decide +kernel
theorem dJ3_checkFromToIndex_8c36e_22 : decode cJ3_checkFromToIndex_8c36e 22 = .ok (.iload_n 0, 1) := by decide +kernel
theorem dJ3_checkFromToIndex_8c36e_23 : decode cJ3_checkFromToIndex_8c36e 23 = .ok (.ireturn, 1) := by decide +kernel
theorem dJ3_checkFromIndexSize_8c36e_0 : decode cJ3_checkFromIndexSize_8c36e 0 = .ok (.iload_n 2, 1) := by decide +kernel
theorem dJ3_checkFromIndexSize_8c36e_1 : decode cJ3_checkFromIndexSize_8c36e 1 = .ok (.iload_n 0, 1) := by decide +kernel
theorem dJ3_checkFromIndexSize_8c36e_2 : decode cJ3_checkFromIndexSize_8c36e 2 = .ok (.ior, 1) := by decide +kernel
theorem dJ3_checkFromIndexSize_8c36e_3 : decode cJ3_checkFromIndexSize_8c36e 3 = .ok (.iload_n 1, 1) := by decide +kernel
theorem dJ3_checkFromIndexSize_8c36e_4 : decode cJ3_checkFromIndexSize_8c36e 4 = .ok (.ior, 1) := by decide +kernel
theorem dJ3_checkFromIndexSize_8c36e_5 : decode cJ3_checkFromIndexSize_8c36e 5 = .ok (.ifCond .lt 10, 3) := by decide +kernel
theorem dJ3_checkFromIndexSize_8c36e_8 : decode cJ3_checkFromIndexSize_8c36e 8 = .ok (.iload_n 1, 1) := by decide +kernel
theorem dJ3_checkFromIndexSize_8c36e_9 : decode cJ3_checkFromIndexSize_8c36e 9 = .ok (.iload_n 2, 1) := by decide +kernel
theorem dJ3_checkFromIndexSize_8c36e_10 : decode cJ3_checkFromIndexSize_8c36e 10 = .ok (.iload_n 0, 1) := by decide +kernel
theorem dJ3_checkFromIndexSize_8c36e_11 : decode cJ3_checkFromIndexSize_8c36e 11 = .ok (.isub, 1) := by decide +kernel
theorem dJ3_checkFromIndexSize_8c36e_12 : decode cJ3_checkFromIndexSize_8c36e 12 = .ok (.if_icmp .le 11, 3) := by decide +kernel
theorem dJ3_checkFromIndexSize_8c36e_15 : decode cJ3_checkFromIndexSize_8c36e 15 = .ok (.aload_n 3, 1) := by decide +kernel
theorem dJ3_checkFromIndexSize_8c36e_16 : decode cJ3_checkFromIndexSize_8c36e 16 = .ok (.iload_n 0, 1) := by decide +kernel
theorem dJ3_checkFromIndexSize_8c36e_17 : decode cJ3_checkFromIndexSize_8c36e 17 = .ok (.iload_n 1, 1) := by decide +kernel
theorem dJ3_checkFromIndexSize_8c36e_18 : decode cJ3_checkFromIndexSize_8c36e 18 = .ok (.iload_n 2, 1) := by decide +kernel
theorem dJ3_checkFromIndexSize_8c36e_19 : decode cJ3_checkFromIndexSize_8c36e 19 = .ok (.invokestatic 103, 3) := by decide +kernel
theorem dJ3_checkFromIndexSize_8c36e_22 : decode cJ3_checkFromIndexSize_8c36e 22 = .ok (.athrow, 1) := by decide +kernel
theorem dJ3_checkFromIndexSize_8c36e_23 : decode cJ3_checkFromIndexSize_8c36e 23 = .ok (.iload_n 0, 1) := by decide +kernel
theorem dJ3_checkFromIndexSize_8c36e_24 : decode cJ3_checkFromIndexSize_8c36e 24 = .ok (.ireturn, 1) := by decide +kernel
end
section
/-! frames of worlds; a text, the class, the reference: what stands where -/
def fr (P : Nat → Prop) (w0 w : wd) : Prop := ∀ q, ¬ P q → w0 q ≠ none → w q = w0 q
theorem fr.rf {P : Nat → Prop} {w : wd} : fr P w w := fun _ _ _ => rfl
theorem fr.tr {P : Nat → Prop} {w0 w1 w2 : wd} (h1 : fr P w0 w1) (h2 : fr P w1 w2) : fr P w0 w2 := fun q hq hn => by
  have e := h1 q hq hn
  rw [h2 q hq (by rw [e]; exact hn), e]
theorem fr.mono {P Q : Nat → Prop} {w0 w : wd} (hf : fr P w0 w) (h : ∀ q, P q → Q q) : fr Q w0 w := fun q hq hn => hf q (fun hp => hq (h q hp)) hn
theorem fr.set {P : Nat → Prop} {w0 w : wd} {a : Nat} {e : va_E} (h : fr P w0 w) (ha : P a) : fr P w0 (ws1 w a e) := fun q hq hn => by
  rw [ws1_n (show q ≠ a from fun z => hq (by rw [z]; exact ha))]
  exact h q hq hn
theorem fr.new {P : Nat → Prop} {w0 w : wd} {q : Nat} {e : va_E} (h : fr P w0 w) (hn : w q = none) : fr P w0 (ws1 w q e) := fun x hx h0 => by
  have e1 := h x hx h0
  by_cases z : x = q
  · subst z
    rw [hn] at e1
    exact absurd e1.symm h0
  · rw [ws1_n z]
    exact e1
theorem fr.at {P : Nat → Prop} {w0 w : wd} {q : Nat} {e : va_E} (h : fr P w0 w) (hq : ¬ P q) (hw : w0 q = some e) : w q = some e := by
  rw [h q hq (by rw [hw]; intro z; cases z)]
  exact hw
def wsub (w1 w : wd) : Prop := ∀ a e, w1 a = some e → w a = some e
theorem wsub.rf {w : wd} : wsub w w := fun _ _ h => h
theorem wsub.new {w : wd} {q : Nat} {e : va_E} (hn : w q = none) : wsub w (ws1 w q e) := fun a x h => by
  rw [ws1_n (fun z => by subst z; rw [hn] at h; cases h)]
  exact h
theorem wsub.tr {w1 w2 w3 : wd} (h1 : wsub w1 w2) (h2 : wsub w2 w3) : wsub w1 w3 := fun a e h => h2 a e (h1 a e h)
def eTag (e : va_E) : Nat := match e with
  | .inl (_, n, .inl _) => 2 * n
  | .inl (_, n, .inr _) => 2 * n + 1
  | .inr (ci, _) => 1000000 + ci
theorem tne {w : wd} {a b : Nat} {e e2 : va_E} (x y : Nat) (h1 : w a = some e) (h2 : w b = some e2) (t1 : eTag e = x) (t2 : eTag e2 = y) (h : x ≠ y) : a ≠ b := wne h1 h2 (fun z => h (by rw [← t1, ← t2, z]))
section GS
variable {b : gBt} {l : Launch} {s0 : State} {G : gK} {cc : ByteArray} {own : String} {nL : Nat} {rm : Room} {k n pc : Nat} {L : List (Nat × Value)} {st : List Value} {w : wd}
theorem x_fg {w1 : wd} (h : wsub w1 w) (kk : gX b s0 G k n pc L st w1) : gX b s0 G k n pc L st w :=
  fun H locs ls hP hS hl => kk H locs ls (fun a e ha => hP a e (h a e ha)) hS hl
end GS
/-! a text -/
def tP (a r bb : Nat) : Nat → Prop := fun q => q = a ∨ q = r ∨ q = bb
theorem tX.d {G : gK} {w : wd} {a r bb : Nat} {n : Int} {C B : Int → Int} (h : tX G w a r bb n C B) : a ≠ r ∧ a ≠ bb ∧ r ≠ bb := by
  obtain ⟨h1, h2, h3, -⟩ := h
  exact ⟨tne 1000002 60 h1 h2 rfl rfl (by decide), tne 1000002 62 h1 h3 rfl rfl (by decide), tne 60 62 h2 h3 rfl rfl (by decide)⟩
theorem uF_sg {C : Int → Int} {p s y : Int} (e : bB y = bB s) : uF (sgF C) p (bB y) = sgF (uF C p s) := by
  funext j
  show (if j = p then bB y else bB (C j)) = bB (if j = p then s else C j)
  by_cases h : j = p
  · rw [if_pos h, if_pos h]
    exact e
  · rw [if_neg h, if_neg h]
theorem tX.row {G : gK} {w : wd} {a r bb : Nat} {n : Int} {C B : Int → Int} {p s y : Int} (h : tX G w a r bb n C B) (hs : 0 ≤ s ∧ s ≤ 255) (e : bB y = bB s) : tX G (ws1 w r (eB G 30 (uF (sgF C) p (bB y)))) a r bb n (uF C p s) B := by
  obtain ⟨d1, d2, d3⟩ := h.d
  obtain ⟨h1, h2, h3, h4, h5, h6⟩ := h
  refine ⟨by rw [ws1_n d1]; exact h1, ?_, by rw [ws1_n d3.symm]; exact h3, h4, h5, ?_⟩
  · rw [ws1_s, uF_sg e]
  · intro j
    unfold uF
    split
    · exact hs
    · exact h6 j
theorem tX.many {G : gK} {w : wd} {a r bb : Nat} {n n' : Int} {C B : Int → Int} (h : tX G w a r bb n C B) (h0 : 0 ≤ n') (h9 : n' ≤ 30) : tX G (ws1 w a (eO 2 [rv r, iv n', rv bb])) a r bb n' C B := by
  obtain ⟨d1, d2, d3⟩ := h.d
  obtain ⟨h1, h2, h3, h4, h5, h6⟩ := h
  exact ⟨ws1_s, by rw [ws1_n d1.symm]; exact h2, by rw [ws1_n d2.symm]; exact h3, h0, h9, h6⟩
theorem tX.by {G : gK} {w : wd} {a r bb : Nat} {n : Int} {C B B' : Int → Int} (h : tX G w a r bb n C B) : tX G (ws1 w bb (eI G 31 B')) a r bb n C B' := by
  obtain ⟨d1, d2, d3⟩ := h.d
  obtain ⟨h1, h2, h3, h4, h5, h6⟩ := h
  exact ⟨by rw [ws1_n d2]; exact h1, by rw [ws1_n d3]; exact h2, ws1_s, h4, h5, h6⟩
theorem tX.fr {G : gK} {w w' : wd} {P : Nat → Prop} {a r bb : Nat} {n : Int} {C B : Int → Int} (h : tX G w a r bb n C B) (hf : fr P w w') (h1 : ¬ P a) (h2 : ¬ P r) (h3 : ¬ P bb) : tX G w' a r bb n C B :=
  ⟨hf.at h1 h.1, hf.at h2 h.2.1, hf.at h3 h.2.2.1, h.2.2.2⟩
theorem tP1 {a r bb : Nat} : tP a r bb a := Or.inl rfl
theorem tP2 {a r bb : Nat} : tP a r bb r := Or.inr (Or.inl rfl)
theorem tP3 {a r bb : Nat} : tP a r bb bb := Or.inr (Or.inr rfl)
/-- a text changed, nothing else -/
def tW (G : gK) (w : wd) (a r bb : Nat) (w' : wd) : Prop := ∃ n' C' B', tX G w' a r bb n' C' B' ∧ fr (tP a r bb) w w'
/-- its own row of ints changed, nothing else -/
def tB (G : gK) (w : wd) (a r bb : Nat) (n : Int) (C : Int → Int) (w' : wd) : Prop := ∃ B', tX G w' a r bb n C B' ∧ fr (tP a r bb) w w'
/-! the class: the object, its row of texts, text by text its object, row, ints -/
abbrev kA : Type := Nat × Nat × (Int → Nat) × (Int → Nat) × (Int → Nat)
abbrev kM : Type := (Int → Int) × (Int → Int → Int) × Int × Int × Int
def kP (K : kA) : Nat → Prop := fun q => q = K.1 ∨ q = K.2.1 ∨ ∃ i : Int, 0 ≤ i ∧ i < 3 ∧ tP (K.2.2.1 i) (K.2.2.2.1 i) (K.2.2.2.2 i) q
def kS (G : gK) (w : wd) (K : kA) (M : kM) : Prop :=
  w K.1 = some (eO 3 [rv K.2.1, iv M.2.2.1, iv M.2.2.2.1, iv M.2.2.2.2]) ∧ (∃ f, w K.2.1 = some (eT G 3 f) ∧ ∀ i : Int, 0 ≤ i → i < 3 → f i = some (K.2.2.1 i)) ∧ (∀ i : Int, 0 ≤ i → i < 3 → ∃ B, tX G w (K.2.2.1 i) (K.2.2.2.1 i) (K.2.2.2.2 i) (M.1 i) (M.2.1 i) B) ∧ (∀ i j : Int, 0 ≤ i → i < 3 → 0 ≤ j → j < 3 → i ≠ j → K.2.2.1 i ≠ K.2.2.1 j ∧ K.2.2.2.1 i ≠ K.2.2.2.1 j ∧ K.2.2.2.2 i ≠ K.2.2.2.2 j)
theorem kP_t {K : kA} {i : Int} (h0 : 0 ≤ i) (h3 : i < 3) : ∀ q, tP (K.2.2.1 i) (K.2.2.2.1 i) (K.2.2.2.2 i) q → kP K q := fun _ h => Or.inr (Or.inr ⟨i, h0, h3, h⟩)
theorem kS.put {G : gK} {w w' : wd} {K : kA} {M : kM} {i : Int} {n' : Int} {C' B' : Int → Int} (h : kS G w K M) (h0 : 0 ≤ i) (h3 : i < 3) (ht : tX G w' (K.2.2.1 i) (K.2.2.2.1 i) (K.2.2.2.2 i) n' C' B') (hf : fr (tP (K.2.2.1 i) (K.2.2.2.1 i) (K.2.2.2.2 i)) w w') : kS G w' K (fun j => if j = i then n' else M.1 j, fun j => if j = i then C' else M.2.1 j, M.2.2) := by
  obtain ⟨a1, ⟨f, a2, a3⟩, a4, a5⟩ := h
  obtain ⟨Bi, hti⟩ := a4 i h0 h3
  refine ⟨hf.at ?_ a1, ⟨f, hf.at ?_ a2, a3⟩, ?_, a5⟩
  · rintro (z | z | z)
    · exact tne 1000003 1000002 a1 hti.1 rfl rfl (by decide) z
    · exact tne 1000003 60 a1 hti.2.1 rfl rfl (by decide) z
    · exact tne 1000003 62 a1 hti.2.2.1 rfl rfl (by decide) z
  · rintro (z | z | z)
    · exact tne 7 1000002 a2 hti.1 rfl rfl (by decide) z
    · exact tne 7 60 a2 hti.2.1 rfl rfl (by decide) z
    · exact tne 7 62 a2 hti.2.2.1 rfl rfl (by decide) z
  · intro j j0 j3
    by_cases e : j = i
    · subst e
      exact ⟨B', by show tX G w' _ _ _ (if j = j then n' else M.1 j) (if j = j then C' else M.2.1 j) B'; rw [if_pos rfl, if_pos rfl]; exact ht⟩
    · obtain ⟨Bj, htj⟩ := a4 j j0 j3
      obtain ⟨e1, e2, e3⟩ := a5 j i j0 j3 h0 h3 e
      refine ⟨Bj, ?_⟩
      show tX G w' _ _ _ (if j = i then n' else M.1 j) (if j = i then C' else M.2.1 j) Bj
      rw [if_neg e, if_neg e]
      refine htj.fr hf ?_ ?_ ?_
      · rintro (z | z | z)
        · exact e1 z
        · exact tne 1000002 60 htj.1 hti.2.1 rfl rfl (by decide) z
        · exact tne 1000002 62 htj.1 hti.2.2.1 rfl rfl (by decide) z
      · rintro (z | z | z)
        · exact tne 60 1000002 htj.2.1 hti.1 rfl rfl (by decide) z
        · exact e2 z
        · exact tne 60 62 htj.2.1 hti.2.2.1 rfl rfl (by decide) z
      · rintro (z | z | z)
        · exact tne 62 1000002 htj.2.2.1 hti.1 rfl rfl (by decide) z
        · exact tne 62 60 htj.2.2.1 hti.2.1 rfl rfl (by decide) z
        · exact e3 z
theorem kS.cnt {G : gK} {w : wd} {K : kA} {M : kM} (h : kS G w K M) (x y z : Int) : kS G (ws1 w K.1 (eO 3 [rv K.2.1, iv x, iv y, iv z])) K (M.1, M.2.1, x, y, z) := by
  obtain ⟨a1, ⟨f, a2, a3⟩, a4, a5⟩ := h
  refine ⟨ws1_s, ⟨f, by rw [ws1_n (tne 7 1000003 a2 a1 rfl rfl (by decide))]; exact a2, a3⟩, ?_, a5⟩
  intro i h0 h3
  obtain ⟨B, ht⟩ := a4 i h0 h3
  exact ⟨B, by rw [ws1_n (tne 1000002 1000003 ht.1 a1 rfl rfl (by decide))]; exact ht.1, by rw [ws1_n (tne 60 1000003 ht.2.1 a1 rfl rfl (by decide))]; exact ht.2.1, by rw [ws1_n (tne 62 1000003 ht.2.2.1 a1 rfl rfl (by decide))]; exact ht.2.2.1, ht.2.2.2⟩
theorem kS.fr {G : gK} {w w' : wd} {P : Nat → Prop} {K : kA} {M : kM} (h : kS G w K M) (hf : fr P w w') (hd : ∀ q, kP K q → ¬ P q) : kS G w' K M := by
  obtain ⟨a1, ⟨f, a2, a3⟩, a4, a5⟩ := h
  refine ⟨hf.at (hd _ (Or.inl rfl)) a1, ⟨f, hf.at (hd _ (Or.inr (Or.inl rfl))) a2, a3⟩, fun i h0 h3 => ?_, a5⟩
  obtain ⟨B, ht⟩ := a4 i h0 h3
  exact ⟨B, ht.fr hf (hd _ (kP_t h0 h3 _ tP1)) (hd _ (kP_t h0 h3 _ tP2)) (hd _ (kP_t h0 h3 _ tP3))⟩
theorem kS.some {G : gK} {w : wd} {K : kA} {M : kM} (h : kS G w K M) : ∀ q, kP K q → w q ≠ none := by
  obtain ⟨a1, ⟨f, a2, a3⟩, a4, a5⟩ := h
  rintro q (z | z | ⟨i, h0, h3, z⟩)
  · rw [z, a1]; intro h; cases h
  · rw [z, a2]; intro h; cases h
  · obtain ⟨B, ht⟩ := a4 i h0 h3
    rcases z with z | z | z
    · rw [z, ht.1]; intro h; cases h
    · rw [z, ht.2.1]; intro h; cases h
    · rw [z, ht.2.2.1]; intro h; cases h
/-- the class's own state is another one (knocks alike), nothing else is -/
def kW (G : gK) (w : wd) (K : kA) (M : kM) (w' : wd) : Prop := ∃ M' : kM, kS G w' K M' ∧ M'.2.2.2.2 = M.2.2.2.2 ∧ fr (kP K) w w'
theorem kW.rf {G : gK} {w : wd} {K : kA} {M : kM} (h : kS G w K M) : kW G w K M w := ⟨M, h, rfl, fr.rf⟩
theorem kW.tr {G : gK} {w w1 w2 : wd} {K : kA} {M M1 : kM} (hf : fr (kP K) w w1) (hk : M1.2.2.2.2 = M.2.2.2.2) (h : kW G w1 K M1 w2) : kW G w K M w2 := by
  obtain ⟨M', h1, h2, h3⟩ := h
  exact ⟨M', h1, h2.trans hk, hf.tr h3⟩
theorem kS.putW {G : gK} {w w' : wd} {K : kA} {M : kM} {i : Int} (h : kS G w K M) (h0 : 0 ≤ i) (h3 : i < 3) (ht : tW G w (K.2.2.1 i) (K.2.2.2.1 i) (K.2.2.2.2 i) w') : kW G w K M w' := by
  obtain ⟨n', C', B', h1, h2⟩ := ht
  exact ⟨_, h.put h0 h3 h1 h2, rfl, h2.mono (kP_t h0 h3)⟩
section GT
variable {b : gBt} {l : Launch} {s0 : State} {G : gK} {cc : ByteArray} {own : String} {nL : Nat} {rm : Room} {k n pc : Nat} {L : List (Nat × Value)} {st : List Value} {w : wd}
/-- the top of the stack as a number in range -/
theorem x_nz {x : Int} (kk : ∀ z : Int, inr z → zI x = zI z → gX b s0 G k n pc L (iv z :: st) w) : gX b s0 G k n pc L (iv x :: st) w := by
  have e : zI x = zI (zI x).toInt := (zI_of (zI x)).symm
  have h := kk (zI x).toInt ⟨Int32.le_toInt _, by have := Int32.toInt_lt (zI x); omega⟩ e
  show gX b s0 G k n pc L (.int (zI x) :: st) w
  rw [e]
  exact h
def bUshr (a b : Int) : Int := (((zI a).toUInt32 >>> ((zI b).toUInt32 &&& Int32.toUInt32 31)).toInt32).toInt
theorem x_iushr (Z : gAm b l s0 G cc own nL rm) {x y : Int} (d : decode cc pc = .ok (.iushr, 1)) (kk : gX b s0 G k n (pc + 1) L (iv (bUshr x y) :: st) w) : gX b s0 G k n pc L (iv y :: iv x :: st) w := by
  obtain ⟨hx, hb, -⟩ := Z
  exact fun H locs ls hP hS hl => lv_iushr hx hb d (v := zI (bUshr x y)) (zI_of _).symm (kk H locs ls hP hS hl)
theorem x_ineg (Z : gAm b l s0 G cc own nL rm) {x : Int} (d : decode cc pc = .ok (.ineg, 1)) (kk : gX b s0 G k n (pc + 1) L (iv (-x) :: st) w) : gX b s0 G k n pc L (iv x :: st) w := by
  obtain ⟨hx, hb, -⟩ := Z
  exact fun H locs ls hP hS hl => lv_ineg hx hb d (by rw [zI_neg]; exact kk H locs ls hP hS hl)
theorem x_ldcw (Z : gAm b l s0 G cc own nL rm) {i : Nat} {v : Int32} {z : Int} (hc : Cond.constant own i v ∈ gT) (hz : v = zI z) (d : decode cc pc = .ok (.ldc_w i, 3)) (kk : gX b s0 G k n (pc + 3) L (iv z :: st) w) : gX b s0 G k n pc L st w := by
  have hc' := Z.word hc
  obtain ⟨hx, hb, ho, -⟩ := Z
  subst hz
  exact fun H locs ls hP hS hl => lv_ldcw hx hb ho hc' d (kk H locs ls hP hS hl)
theorem x_mmin (Z : gAm b l s0 G cc own nL rm) {idx : Nat} {x y : Int} (h1 : Cond.methodLink own idx Lib.Math.min.name ∈ gT) (h2 : Cond.static Lib.Math.min.name ∈ gT) (h3 : Cond.initialized "java/lang/Math" ∈ gT) (h4 : Cond.code Lib.Math.min.name Lib.Math.min.code 2 (some .int) ∈ gT) (d : decode cc pc = .ok (.invokestatic idx, 3)) (hx0 : inr x) (hy0 : inr y) (hfr : 1 ≤ rm.frames) (hlo : (st.map fun v => v.category).sum + 13 ≤ rm.locals) (hk : k ≤ rm.cells) (hn : n ≤ rm.slots) (kk : gX b s0 G k n (pc + 3) L (iv (if y < x then y else x) :: st) w) : gX b s0 G k n pc L (iv y :: iv x :: st) w := by
  have w1 := Z.word h1
  have w2 := Z.word h2
  have w3 := Z.word h3
  have w4 := Z.word h4
  obtain ⟨hx, hb, ho, -, -, -, -, hml, hR, -⟩ := Z
  have e : iv (if y < x then y else x) = .int (if zI y < zI x then zI y else zI x) := by
    by_cases h : y < x
    · rw [if_pos h, if_pos ((zI_lt hy0.1 hy0.2 hx0.1 hx0.2).mpr h)]
    · rw [if_neg h, if_neg (fun q => h ((zI_lt hy0.1 hy0.2 hx0.1 hx0.2).mp q))]
  rw [e] at kk
  exact fun H locs ls hP hS hl => va_mmin hx hb (hml.trans (hl.1.trans hml).symm) ho w1 w2 w3 w4 (by rw [hR]; exact hfr) (by rw [hR]; exact hlo) (by rw [hR]; exact hk) (by rw [hR]; exact hn) d (kk H locs ls hP hS hl)
theorem x_mmax (Z : gAm b l s0 G cc own nL rm) {idx : Nat} {x y : Int} (h1 : Cond.methodLink own idx Lib.Math.max.name ∈ gT) (h2 : Cond.static Lib.Math.max.name ∈ gT) (h3 : Cond.initialized "java/lang/Math" ∈ gT) (h4 : Cond.code Lib.Math.max.name Lib.Math.max.code 2 (some .int) ∈ gT) (d : decode cc pc = .ok (.invokestatic idx, 3)) (hx0 : inr x) (hy0 : inr y) (hfr : 1 ≤ rm.frames) (hlo : (st.map fun v => v.category).sum + 13 ≤ rm.locals) (hk : k ≤ rm.cells) (hn : n ≤ rm.slots) (kk : gX b s0 G k n (pc + 3) L (iv (if x < y then y else x) :: st) w) : gX b s0 G k n pc L (iv y :: iv x :: st) w := by
  have w1 := Z.word h1
  have w2 := Z.word h2
  have w3 := Z.word h3
  have w4 := Z.word h4
  obtain ⟨hx, hb, ho, -, -, -, -, hml, hR, -⟩ := Z
  have e : iv (if x < y then y else x) = .int (if zI x < zI y then zI y else zI x) := by
    by_cases h : x < y
    · rw [if_pos h, if_pos ((zI_lt hx0.1 hx0.2 hy0.1 hy0.2).mpr h)]
    · rw [if_neg h, if_neg (fun q => h ((zI_lt hx0.1 hx0.2 hy0.1 hy0.2).mp q))]
  rw [e] at kk
  exact fun H locs ls hP hS hl => va_mmax hx hb (hml.trans (hl.1.trans hml).symm) ho w1 w2 w3 w4 (by rw [hR]; exact hfr) (by rw [hR]; exact hlo) (by rw [hR]; exact hk) (by rw [hR]; exact hn) d (kk H locs ls hP hS hl)
end GT
/-- Integer.bitCount, as the JDK counts -/
def bcn (x : Int) : Int :=
  let a := x - bAnd (bUshr x 1) 1431655765
  let b := bAnd a 858993459 + bAnd (bUshr a 2) 858993459
  let c := bAnd (b + bUshr b 4) 252645135
  let d := c + bUshr c 8
  let e := d + bUshr d 16
  bAnd e 63
theorem bcn_in (x : Int) : inr (bcn x) := bAnd_in _ _
theorem bDiv2 {n : Int} (h0 : 0 ≤ n) (h9 : n ≤ 30) : bDiv n 2 = n / 2 := by
  have h : ∀ k : Fin 31, bDiv ((k.val : Nat) : Int) 2 = ((k.val : Nat) : Int) / 2 := by decide +kernel
  have e := h ⟨n.toNat, by omega⟩
  have e2 : ((n.toNat : Nat) : Int) = n := Int.toNat_of_nonneg h0
  rw [e2] at e
  exact e
theorem bB_in (x : Int) : -128 ≤ bB x ∧ bB x ≤ 127 := by
  unfold bB
  rw [Int8.toInt_toInt32]
  exact ⟨Int8.le_toInt _, by have := Int8.toInt_lt (zI x).toInt8; omega⟩
def tSelf (a r bb a2 r2 bb2 : Nat) : Prop := (a2 = a ∧ r2 = r ∧ bb2 = bb) ∨ (¬ tP a r bb a2 ∧ ¬ tP a r bb r2 ∧ ¬ tP a r bb bb2)
theorem tSelf.oth {G : gK} {w w1 : wd} {a r bb a2 r2 bb2 : Nat} {n n2 : Int} {C B C2 B2 : Int → Int} (hs : tSelf a r bb a2 r2 bb2) (ht : tX G w1 a r bb n C B) (ht2 : tX G w a2 r2 bb2 n2 C2 B2) (hf : fr (tP a r bb) w w1) : ∃ n3 D, w1 a2 = some (eO 2 [rv r2, iv n3, rv bb2]) ∧ w1 r2 = some (eB G 30 (sgF D)) ∧ ∀ j, 0 ≤ D j ∧ D j ≤ 255 := by
  rcases hs with ⟨rfl, rfl, rfl⟩ | ⟨h1, h2, h3⟩
  · exact ⟨n, C, ht.1, ht.2.1, ht.2.2.2.2.2⟩
  · exact ⟨n2, C2, hf.at h1 ht2.1, hf.at h2 ht2.2.1, ht2.2.2.2.2.2⟩
theorem kS.self {G : gK} {w : wd} {K : kA} {M : kM} (h : kS G w K M) {i j : Int} (i0 : 0 ≤ i) (i3 : i < 3) (j0 : 0 ≤ j) (j3 : j < 3) : tSelf (K.2.2.1 i) (K.2.2.2.1 i) (K.2.2.2.2 i) (K.2.2.1 j) (K.2.2.2.1 j) (K.2.2.2.2 j) := by
  obtain ⟨-, -, a4, a5⟩ := h
  by_cases e : j = i
  · subst e
    exact Or.inl ⟨rfl, rfl, rfl⟩
  · obtain ⟨Bi, hti⟩ := a4 i i0 i3
    obtain ⟨Bj, htj⟩ := a4 j j0 j3
    obtain ⟨e1, e2, e3⟩ := a5 j i j0 j3 i0 i3 e
    refine Or.inr ⟨?_, ?_, ?_⟩
    · rintro (z | z | z)
      · exact e1 z
      · exact tne 1000002 60 htj.1 hti.2.1 rfl rfl (by decide) z
      · exact tne 1000002 62 htj.1 hti.2.2.1 rfl rfl (by decide) z
    · rintro (z | z | z)
      · exact tne 60 1000002 htj.2.1 hti.1 rfl rfl (by decide) z
      · exact e2 z
      · exact tne 60 62 htj.2.1 hti.2.2.1 rfl rfl (by decide) z
    · rintro (z | z | z)
      · exact tne 62 1000002 htj.2.2.1 hti.1 rfl rfl (by decide) z
      · exact tne 62 60 htj.2.2.1 hti.2.1 rfl rfl (by decide) z
      · exact e3 z
/-- the places at which a piece of the row begins, step by step -/
def bgs (n : Int) (C : Int → Int) (j : Int) (z : Int × Int) : Int × Int := if j = z.1 then (z.1 + lon n C j, bOr z.2 (bShl 1 j)) else z
theorem bgs_t {n : Int} {C : Int → Int} {j e v : Int} (h : j = e) : bgs n C j (e, v) = (e + lon n C j, bOr v (bShl 1 j)) := if_pos h
theorem bgs_f {n : Int} {C : Int → Int} {j e v : Int} (h : j ≠ e) : bgs n C j (e, v) = (e, v) := if_neg h
def beg (n : Int) (C : Int → Int) : Int := (forI (bgs n C) 0 n (0, 0)).2
theorem forF_inv {σ : Type} {f : Int → σ → σ} {P : σ → Prop} (hf : ∀ i v, P v → P (f i v)) : ∀ (k : Nat) (i : Int) (v : σ), P v → P (forF f k i v)
  | 0, _, _, h => h
  | k + 1, i, v, h => forF_inv hf k (i + 1) (f i v) (hf i v h)
theorem forI_inv {σ : Type} {f : Int → σ → σ} {P : σ → Prop} (hf : ∀ i v, P v → P (f i v)) {i n : Int} {v : σ} (h : P v) : P (forI f i n v) := forF_inv hf _ _ _ h
theorem beg_in (n : Int) (C : Int → Int) : inr (beg n C) := forI_inv (P := fun z : Int × Int => inr z.2) (fun i z h => by
  unfold bgs
  split
  · exact bOr_in _ _
  · exact h) ⟨by decide, by decide⟩
theorem msk_in (P : Int → Bool) (n : Int) : inr (msk P n) := forI_inv (P := fun z : Int => inr z) (fun i z h => by
  unfold mstep
  split
  · exact bOr_in _ _
  · exact h) ⟨by decide, by decide⟩
/-- those that stay move up, step by step -/
def sfs (P : Int → Bool) (C : Int → Int) (j : Int) (z : Int × (Int → Int)) : Int × (Int → Int) := if P j = true then (z.1 + 1, uF z.2 z.1 (C j)) else z
theorem sfs_t {P : Int → Bool} {C : Int → Int} {j k : Int} {D : Int → Int} (h : P j = true) : sfs P C j (k, D) = (k + 1, uF D k (C j)) := if_pos h
theorem sfs_f {P : Int → Bool} {C : Int → Int} {j k : Int} {D : Int → Int} (h : P j = false) : sfs P C j (k, D) = (k, D) := if_neg (by rw [h]; decide)
def sft (P : Int → Bool) (n : Int) (C : Int → Int) : Int × (Int → Int) := forI (sfs P C) 0 n (0, C)
theorem sft0 {P : Int → Bool} {n : Int} {C : Int → Int} (h : ∀ j, P j = false) : sft P n C = (0, C) := forI_inv (P := fun z => z = (0, C)) (fun i z hz => by
  subst hz
  exact sfs_f (h i)) rfl
theorem inB0 (c : Int) : inB 0 c = false := by
  unfold inB
  have e : bShr 0 c = 0 := by
    unfold bShr
    rw [zI_0, Int32.zero_shiftRight]
    rfl
  rw [e]
  decide +kernel
end
section
/-! spec2: walks, by program -/
theorem q51 : Cond.initialized RJ9 ∈ gT := gt_of 51 rfl rfl
theorem q56 : Cond.initialized RJ6 ∈ gT := gt_of 56 rfl rfl
theorem q71 : Cond.methodLink RX1 3 objectInit ∈ gT := gt_of 71 rfl rfl
theorem q74 : Cond.fieldLink RX1 15 "Kindcutter$Text" "byEnd" "[I" ∈ gT := gt_of 74 rfl rfl
theorem q82 : Cond.arrayClass .byte ∈ gT := gt_of 82 rfl rfl
theorem q83 : Cond.arrayClass .int ∈ gT := gt_of 83 rfl rfl
theorem q117 : Cond.methodLink RX1 59 yX1_begins ∈ gT := gt_of 117 rfl rfl
theorem q118 : Cond.instanceMethod yX1_begins ∈ gT := gt_of 118 rfl rfl
theorem q119 : Cond.selects RX1 yX1_begins yX1_begins ∈ gT := gt_of 119 rfl rfl
theorem q120 : Cond.code yX1_begins cX1_begins 4 (some .int) ∈ gT := gt_of 120 rfl rfl
theorem q151 : Cond.methodLinkNest RX1 69 yX2_cutsOf RX2 ∈ gT := gt_of 151 rfl rfl
theorem q152 : Cond.static yX2_cutsOf ∈ gT := gt_of 152 rfl rfl
theorem q153 : Cond.code yX2_cutsOf cX2_cutsOf 1 (some .int) ∈ gT := gt_of 153 rfl rfl
theorem q154 : Cond.methodLink RX1 72 yJ6_bitCount_0f7a4 ∈ gT := gt_of 154 rfl rfl
theorem q155 : Cond.static yJ6_bitCount_0f7a4 ∈ gT := gt_of 155 rfl rfl
theorem q156 : Cond.code yJ6_bitCount_0f7a4 cJ6_bitCount_0f7a4 1 (some .int) ∈ gT := gt_of 156 rfl rfl
theorem q157 : Cond.constant RJ6 265 1431655765 ∈ gT := gt_of 157 rfl rfl
theorem q158 : Cond.constant RJ6 266 858993459 ∈ gT := gt_of 158 rfl rfl
theorem q159 : Cond.constant RJ6 267 252645135 ∈ gT := gt_of 159 rfl rfl
theorem q160 : Cond.methodLink RX1 77 yX1_backBegins ∈ gT := gt_of 160 rfl rfl
theorem q161 : Cond.instanceMethod yX1_backBegins ∈ gT := gt_of 161 rfl rfl
theorem q162 : Cond.selects RX1 yX1_backBegins yX1_backBegins ∈ gT := gt_of 162 rfl rfl
theorem q163 : Cond.code yX1_backBegins cX1_backBegins 4 (some .int) ∈ gT := gt_of 163 rfl rfl
theorem q164 : Cond.methodLink RX1 80 yX1_fewestPieces ∈ gT := gt_of 164 rfl rfl
theorem q165 : Cond.instanceMethod yX1_fewestPieces ∈ gT := gt_of 165 rfl rfl
theorem q166 : Cond.selects RX1 yX1_fewestPieces yX1_fewestPieces ∈ gT := gt_of 166 rfl rfl
theorem q167 : Cond.code yX1_fewestPieces cX1_fewestPieces 4 (some .int) ∈ gT := gt_of 167 rfl rfl
theorem q168 : Cond.methodLink RX1 63 yJ9_min_7cf53 ∈ gT := gt_of 168 rfl rfl
theorem q169 : Cond.static yJ9_min_7cf53 ∈ gT := gt_of 169 rfl rfl
theorem q170 : Cond.code yJ9_min_7cf53 cJ9_min_7cf53 2 (some .int) ∈ gT := gt_of 170 rfl rfl
theorem q171 : Cond.methodLink RX1 83 yX1_piecesCutAt ∈ gT := gt_of 171 rfl rfl
theorem q172 : Cond.instanceMethod yX1_piecesCutAt ∈ gT := gt_of 172 rfl rfl
theorem q173 : Cond.selects RX1 yX1_piecesCutAt yX1_piecesCutAt ∈ gT := gt_of 173 rfl rfl
theorem q174 : Cond.code yX1_piecesCutAt cX1_piecesCutAt 5 (some .int) ∈ gT := gt_of 174 rfl rfl
theorem q175 : Cond.methodLinkNest RX1 43 yX2_isIn RX2 ∈ gT := gt_of 175 rfl rfl
theorem q176 : Cond.methodLink RX1 86 yX1_isNamed ∈ gT := gt_of 176 rfl rfl
theorem q177 : Cond.instanceMethod yX1_isNamed ∈ gT := gt_of 177 rfl rfl
theorem q178 : Cond.selects RX1 yX1_isNamed yX1_isNamed ∈ gT := gt_of 178 rfl rfl
theorem q179 : Cond.code yX1_isNamed cX1_isNamed 1 (some .boolean) ∈ gT := gt_of 179 rfl rfl
theorem q180 : Cond.methodLink RX1 90 yX1_firstFault ∈ gT := gt_of 180 rfl rfl
theorem q181 : Cond.instanceMethod yX1_firstFault ∈ gT := gt_of 181 rfl rfl
theorem q182 : Cond.selects RX1 yX1_firstFault yX1_firstFault ∈ gT := gt_of 182 rfl rfl
theorem q183 : Cond.code yX1_firstFault cX1_firstFault 2 (some .int) ∈ gT := gt_of 183 rfl rfl
theorem q196 : Cond.methodLinkNest RX1 93 yX2_mixed RX2 ∈ gT := gt_of 196 rfl rfl
theorem q197 : Cond.static yX2_mixed ∈ gT := gt_of 197 rfl rfl
theorem q198 : Cond.code yX2_mixed cX2_mixed 3 (some .long) ∈ gT := gt_of 198 rfl rfl
theorem q205 : Cond.methodLink RX1 97 yX1_placesOf ∈ gT := gt_of 205 rfl rfl
theorem q206 : Cond.instanceMethod yX1_placesOf ∈ gT := gt_of 206 rfl rfl
theorem q207 : Cond.selects RX1 yX1_placesOf yX1_placesOf ∈ gT := gt_of 207 rfl rfl
theorem q208 : Cond.code yX1_placesOf cX1_placesOf 4 (some .int) ∈ gT := gt_of 208 rfl rfl
theorem q347 : Cond.methodLink RX1 39 yX1_setSign ∈ gT := gt_of 347 rfl rfl
theorem q348 : Cond.instanceMethod yX1_setSign ∈ gT := gt_of 348 rfl rfl
theorem q349 : Cond.selects RX1 yX1_setSign yX1_setSign ∈ gT := gt_of 349 rfl rfl
theorem q350 : Cond.code yX1_setSign cX1_setSign 3 none ∈ gT := gt_of 350 rfl rfl
theorem okX1_setSign : gOk yX1_setSign cX1_setSign 3 none 2 := ⟨q350, q37, ⟨by decide +kernel, by decide +kernel⟩, by decide +kernel⟩
theorem okX1_begins : gOk yX1_begins cX1_begins 4 (some .int) 0 := ⟨q120, q37, ⟨by decide +kernel, by decide +kernel⟩, by decide +kernel⟩
theorem okX2_cutsOf : gOk yX2_cutsOf cX2_cutsOf 1 (some .int) 1 := ⟨q153, q36, ⟨by decide +kernel, by decide +kernel⟩, by decide +kernel⟩
theorem okJ6_bitCount_0f7a4 : gOk yJ6_bitCount_0f7a4 cJ6_bitCount_0f7a4 1 (some .int) 1 := ⟨q156, q56, ⟨by decide +kernel, by decide +kernel⟩, by decide +kernel⟩
theorem okX1_backBegins : gOk yX1_backBegins cX1_backBegins 4 (some .int) 0 := ⟨q163, q37, ⟨by decide +kernel, by decide +kernel⟩, by decide +kernel⟩
theorem okX1_fewestPieces : gOk yX1_fewestPieces cX1_fewestPieces 4 (some .int) 0 := ⟨q167, q37, ⟨by decide +kernel, by decide +kernel⟩, by decide +kernel⟩
theorem okX1_piecesCutAt : gOk yX1_piecesCutAt cX1_piecesCutAt 5 (some .int) 1 := ⟨q174, q37, ⟨by decide +kernel, by decide +kernel⟩, by decide +kernel⟩
theorem okX1_isNamed : gOk yX1_isNamed cX1_isNamed 1 (some .boolean) 0 := ⟨q179, q37, ⟨by decide +kernel, by decide +kernel⟩, by decide +kernel⟩
theorem okX1_firstFault : gOk yX1_firstFault cX1_firstFault 2 (some .int) 0 := ⟨q183, q37, ⟨by decide +kernel, by decide +kernel⟩, by decide +kernel⟩
theorem okX2_mixed : gOk yX2_mixed cX2_mixed 3 (some .long) 2 := ⟨q198, q36, ⟨by decide +kernel, by decide +kernel⟩, by decide +kernel⟩
theorem okX1_placesOf : gOk yX1_placesOf cX1_placesOf 4 (some .int) 1 := ⟨q208, q37, ⟨by decide +kernel, by decide +kernel⟩, by decide +kernel⟩
abbrev rmc_J6_bitCount_0f7a4 : Room := { frames := 0, cells := 0, slots := 0, locals := 0 }
set_option maxRecDepth 100000 in
theorem c_J6_bitCount_0f7a4 {l : Launch} {s0 : State} {G : gK} {w : wd} (h0 : gS0 s0) (htr : l.stackTraces = false) {x : Int}  : gM l s0 G yJ6_bitCount_0f7a4 [Cond.code yJ6_bitCount_0f7a4 cJ6_bitCount_0f7a4 1 (some .int)] rmc_J6_bitCount_0f7a4 [iv x] w (fun v w' => v = some (iv (bcn x)) ∧ w' = w) (noX) := by
  refine g_of h0 htr (by decide +kernel) (Nat.le_of_ble_eq_true rfl) ?_
  intro b Z0 E
  have Z : gAm b l s0 G cJ6_bitCount_0f7a4 RJ6 1 rmc_J6_bitCount_0f7a4 := Z0
  refine x_el (L' := [(0, iv x)]) rfl ?_
  refine x_iload_n Z dJ6_bitCount_0f7a4_0 rfl rfl ?_
  refine x_iload_n Z dJ6_bitCount_0f7a4_1 rfl rfl ?_
  refine x_iconst Z dJ6_bitCount_0f7a4_2 ?_
  refine x_iushr Z dJ6_bitCount_0f7a4_3 ?_
  refine x_ldcw (z := 1431655765) Z q157 (by decide +kernel) dJ6_bitCount_0f7a4_4 ?_
  refine x_iand Z dJ6_bitCount_0f7a4_7 ?_
  refine x_isub Z dJ6_bitCount_0f7a4_8 ?_
  refine x_istore_n (L' := [(0, _)]) Z dJ6_bitCount_0f7a4_9 rfl (Nat.le_of_ble_eq_true rfl) rfl ?_
  refine x_iload_n Z dJ6_bitCount_0f7a4_10 rfl rfl ?_
  refine x_ldcw (z := 858993459) Z q158 (by decide +kernel) dJ6_bitCount_0f7a4_11 ?_
  refine x_iand Z dJ6_bitCount_0f7a4_14 ?_
  refine x_iload_n Z dJ6_bitCount_0f7a4_15 rfl rfl ?_
  refine x_iconst Z dJ6_bitCount_0f7a4_16 ?_
  refine x_iushr Z dJ6_bitCount_0f7a4_17 ?_
  refine x_ldcw (z := 858993459) Z q158 (by decide +kernel) dJ6_bitCount_0f7a4_18 ?_
  refine x_iand Z dJ6_bitCount_0f7a4_21 ?_
  refine x_iadd Z dJ6_bitCount_0f7a4_22 ?_
  refine x_istore_n (L' := [(0, _)]) Z dJ6_bitCount_0f7a4_23 rfl (Nat.le_of_ble_eq_true rfl) rfl ?_
  refine x_iload_n Z dJ6_bitCount_0f7a4_24 rfl rfl ?_
  refine x_iload_n Z dJ6_bitCount_0f7a4_25 rfl rfl ?_
  refine x_iconst Z dJ6_bitCount_0f7a4_26 ?_
  refine x_iushr Z dJ6_bitCount_0f7a4_27 ?_
  refine x_iadd Z dJ6_bitCount_0f7a4_28 ?_
  refine x_ldcw (z := 252645135) Z q159 (by decide +kernel) dJ6_bitCount_0f7a4_29 ?_
  refine x_iand Z dJ6_bitCount_0f7a4_32 ?_
  refine x_istore_n (L' := [(0, _)]) Z dJ6_bitCount_0f7a4_33 rfl (Nat.le_of_ble_eq_true rfl) rfl ?_
  refine x_iload_n Z dJ6_bitCount_0f7a4_34 rfl rfl ?_
  refine x_iload_n Z dJ6_bitCount_0f7a4_35 rfl rfl ?_
  refine x_bipush Z dJ6_bitCount_0f7a4_36 (by decide +kernel) ?_
  refine x_iushr Z dJ6_bitCount_0f7a4_38 ?_
  refine x_iadd Z dJ6_bitCount_0f7a4_39 ?_
  refine x_istore_n (L' := [(0, _)]) Z dJ6_bitCount_0f7a4_40 rfl (Nat.le_of_ble_eq_true rfl) rfl ?_
  refine x_iload_n Z dJ6_bitCount_0f7a4_41 rfl rfl ?_
  refine x_iload_n Z dJ6_bitCount_0f7a4_42 rfl rfl ?_
  refine x_bipush Z dJ6_bitCount_0f7a4_43 (by decide +kernel) ?_
  refine x_iushr Z dJ6_bitCount_0f7a4_45 ?_
  refine x_iadd Z dJ6_bitCount_0f7a4_46 ?_
  refine x_istore_n (L' := [(0, _)]) Z dJ6_bitCount_0f7a4_47 rfl (Nat.le_of_ble_eq_true rfl) rfl ?_
  refine x_iload_n Z dJ6_bitCount_0f7a4_48 rfl rfl ?_
  refine x_bipush Z dJ6_bitCount_0f7a4_49 (by decide +kernel) ?_
  refine x_iand Z dJ6_bitCount_0f7a4_51 ?_
  exact x_iret Z E (⟨rfl, rfl⟩) dJ6_bitCount_0f7a4_52 (Nat.le_of_ble_eq_true rfl) (Nat.le_of_ble_eq_true rfl)
abbrev rmc_X1_init : Room := { frames := 1, cells := 2, slots := 61, locals := 40 }
set_option maxRecDepth 100000 in
theorem c_X1_init {l : Launch} {s0 : State} {G : gK} {w : wd} (h0 : gS0 s0) (htr : l.stackTraces = false) {a : Nat} (ha : w a = some (eO 2 [.null, iv 0, .null])) : gM l s0 G yX1_init [Cond.code yX1_init cX1_init 1 none] rmc_X1_init [rv a] w (fun v w' => v = none ∧ ∃ r bb, tX G w' a r bb 0 (fun _ => 0) (fun _ => 0) ∧ w r = none ∧ w bb = none ∧ fr (fun q => q = a) w w') (noX) := by
  refine g_of h0 htr (by decide +kernel) (Nat.le_of_ble_eq_true rfl) ?_
  intro b Z0 E
  have Z : gAm b l s0 G cX1_init RX1 1 rmc_X1_init := Z0
  refine x_el (L' := [(0, rv a)]) rfl ?_
  refine x_aload_n Z dX1_init_0 rfl rfl ?_
  refine x_objI Z q71 dX1_init_1 (Nat.le_of_ble_eq_true rfl) (Nat.le_of_ble_eq_true rfl) (Nat.le_of_ble_eq_true rfl) ?_
  refine x_aload_n Z dX1_init_4 rfl rfl ?_
  refine x_bipush Z dX1_init_5 (by decide +kernel) ?_
  refine x_newB Z (30) q82 (by first | rfl | omega) (by omega) (Nat.le_of_ble_eq_true rfl) (Nat.le_of_ble_eq_true rfl) dX1_init_7 (fun n7 hn7 => ?_)
  have hd7 : a ≠ n7 := fun z => by subst z; rw [ha] at hn7; cases hn7
  have ha7 := (ws1_n (e := eB G 30 (fun _ => 0)) hd7).trans ha
  refine x_putfF (ci := 2) (j := 0) (C := RX1) (T := TX1) (N := 3) (fs' := [_, _, _]) Z tyX1 tyX1_ok nmX1 inX1g rfl (by decide) q72 rfl rfl E.2.2.2 rfl rfl rfl rfl dX1_init_9 (by assumption) (by exact Nat.le_of_ble_eq_true rfl) rfl ?_
  have ha9 := ws1_s (w := ws1 w n7 (eB G 30 (fun _ => 0))) (a := a) (e := eO 2 [rv n7, iv 0, .null])
  refine x_aload_n Z dX1_init_12 rfl rfl ?_
  refine x_bipush Z dX1_init_13 (by decide +kernel) ?_
  refine x_newI Z (31) q83 (by first | rfl | omega) (by omega) (Nat.le_of_ble_eq_true rfl) (Nat.le_of_ble_eq_true rfl) dX1_init_15 (fun n15 hn15 => ?_)
  have hd15 : a ≠ n15 := fun z => by subst z; rw [ha9] at hn15; cases hn15
  have hd57 : n7 ≠ n15 := fun z => by subst z; rw [ws1_n hd7.symm, ws1_s] at hn15; cases hn15
  have ha15 := (ws1_n (e := eI G 31 (fun _ => 0)) hd15).trans ha9
  have hnw : w n15 = none := by rw [ws1_n hd15.symm, ws1_n hd57.symm] at hn15; exact hn15
  refine x_putfF (ci := 2) (j := 2) (C := RX1) (T := TX1) (N := 3) (fs' := [_, _, _]) Z tyX1 tyX1_ok nmX1 inX1g rfl (by decide) q74 rfl rfl E.2.2.2 rfl rfl rfl rfl dX1_init_17 (by assumption) (by exact Nat.le_of_ble_eq_true rfl) rfl ?_
  exact x_vret Z E (⟨rfl, n7, n15, ⟨ws1_s, by rw [ws1_n hd7.symm, ws1_n hd57, ws1_n hd7.symm, ws1_s]; exact congrArg some (congrArg (eB G 30) (funext fun j => by show (0 : Int) = bB 0; decide +kernel)), by rw [ws1_n hd15.symm, ws1_s], by omega, by omega, fun j => ⟨Int.le_refl 0, by show (0 : Int) ≤ 255; decide⟩⟩, hn7, hnw, (((((fr.rf (P := fun q => q = a)).new hn7).set rfl).new hn15).set rfl)⟩) dX1_init_20 (Nat.le_of_ble_eq_true rfl) (Nat.le_of_ble_eq_true rfl)
abbrev rmc_X1_setSign : Room := { frames := 0, cells := 0, slots := 0, locals := 0 }
set_option maxRecDepth 100000 in
theorem c_X1_setSign {l : Launch} {s0 : State} {G : gK} {w : wd} (h0 : gS0 s0) (htr : l.stackTraces = false) {a r bb : Nat} {n : Int} {C B : Int → Int} {p s : Int} (ht : tX G w a r bb n C B) (h1 : 0 ≤ p) (h2 : p < 30) (h3 : 0 ≤ s) (h4 : s ≤ 255) : gM l s0 G yX1_setSign [Cond.code yX1_setSign cX1_setSign 3 none] rmc_X1_setSign [rv a, iv p, iv s] w (fun v w' => v = none ∧ tX G w' a r bb n (uF C p s) B ∧ fr (tP a r bb) w w') (noX) := by
  refine g_of h0 htr (by decide +kernel) (Nat.le_of_ble_eq_true rfl) ?_
  intro b Z0 E
  have Z : gAm b l s0 G cX1_setSign RX1 3 rmc_X1_setSign := Z0
  refine x_el (L' := [(0, rv a), (1, iv p), (2, iv s)]) rfl ?_
  obtain ⟨ha, hr, hb, hn0, hn30, hC⟩ := id ht
  refine x_aload_n Z dX1_setSign_0 rfl rfl ?_
  refine x_getf (ci := 2) (j := 0) (C := RX1) (T := TX1) (N := 3) Z inX1g rfl (by decide) q72 rfl dX1_setSign_1 (by assumption) rfl ?_
  refine x_iload_n Z dX1_setSign_4 rfl rfl ?_
  refine x_iload_n Z dX1_setSign_5 rfl rfl ?_
  refine x_i2b Z dX1_setSign_6 ?_
  refine x_bast Z dX1_setSign_7 (by assumption) (by omega) (by omega) (by omega) ?_
  exact x_vret Z E (⟨rfl, ht.row ⟨h3, h4⟩ bB_bB, fr.rf.set tP2⟩) dX1_setSign_8 (Nat.le_of_ble_eq_true rfl) (Nat.le_of_ble_eq_true rfl)
abbrev rmc_X1_insertSign : Room := { frames := 1, cells := 0, slots := 0, locals := 22 }
set_option maxRecDepth 100000 in
theorem c_X1_insertSign {l : Launch} {s0 : State} {G : gK} {w : wd} (h0 : gS0 s0) (htr : l.stackTraces = false) {a r bb : Nat} {n : Int} {C B : Int → Int} {p s : Int} (ht : tX G w a r bb n C B) (h0n : n < 30) (h1 : 0 ≤ p) (h2 : p ≤ n) (h3 : 0 ≤ s) (h4 : s ≤ 255) : gM l s0 G yX1_insertSign [Cond.code yX1_insertSign cX1_insertSign 4 none] rmc_X1_insertSign [rv a, iv p, iv s] w (fun v w' => v = none ∧ ∃ C', tX G w' a r bb (n + 1) C' B ∧ fr (tP a r bb) w w') (noX) := by
  refine g_of h0 htr (by decide +kernel) (Nat.le_of_ble_eq_true rfl) ?_
  intro b Z0 E
  have Z : gAm b l s0 G cX1_insertSign RX1 4 rmc_X1_insertSign := Z0
  refine x_el (L' := [(0, rv a), (1, iv p), (2, iv s)]) rfl ?_
  obtain ⟨ha, hr, hb, hn0, hn30, hC⟩ := id ht
  refine x_aload_n Z dX1_insertSign_0 rfl rfl ?_
  refine x_getf (ci := 2) (j := 1) (C := RX1) (T := TX1) (N := 3) Z inX1g rfl (by decide) q73 rfl dX1_insertSign_1 (by assumption) rfl ?_
  refine x_istore_n (L' := [(3, _), (0, _), (1, _), (2, _)]) Z dX1_insertSign_4 rfl (Nat.le_of_ble_eq_true rfl) rfl ?_
  have loop5 : ∀ (fu : Nat) (i : Int) (C1 : Int → Int) (w1 : wd), i < (fu : Int) → (p ≤ i ∧ i ≤ n ∧ tX G w1 a r bb n C1 B ∧ fr (tP a r bb) w w1) → gX b s0 G (0) (0) 5 [(3, iv i), (0, rv a), (1, iv p), (2, iv s)] [] (w1) := by
    intro fu; induction fu with
    | zero => intro i C1 w1 hm hv; exact absurd hm (by omega)
    | succ fu ih5 =>
      intro i C1 w1 hm hv
      obtain ⟨hi0, hin, ht, hf⟩ := hv
      obtain ⟨ha, hr, hb, hn0, hn30, hC⟩ := id ht
      refine x_iload_n Z dX1_insertSign_5 rfl rfl ?_
      refine x_iload_n Z dX1_insertSign_6 rfl rfl ?_
      refine x_icmp_le Z 30 dX1_insertSign_7 (by decide) ⟨by omega, by omega⟩ ⟨by omega, by omega⟩ (fun c7 => ?_) (fun c7 => ?_)
      ·
        refine x_aload_n Z dX1_insertSign_30 rfl rfl ?_
        refine x_iload_n Z dX1_insertSign_31 rfl rfl ?_
        refine x_iload_n Z dX1_insertSign_32 rfl rfl ?_
        refine x_callV (ci := 2) (C := RX1) (T := TX1) (N := 3) Z okX1_setSign q347 q348 q349 rfl dX1_insertSign_33 (c_X1_setSign h0 htr ht (by omega) (by omega) (by omega) (by omega)) ht.1 ⟨Nat.le_of_ble_eq_true rfl, Nat.le_of_ble_eq_true rfl, Nat.le_of_ble_eq_true rfl, Nat.le_of_ble_eq_true rfl⟩ rfl rfl (Nat.le_of_ble_eq_true rfl) (fun v9 w9 hR => ?_)
        obtain ⟨rfl, ht, hf9⟩ := hR
        obtain ⟨ha, hr, hb, hn0, hn30, hC⟩ := id ht
        simp only [Option.toList_some, Option.toList_none, List.cons_append, List.nil_append]
        have hf := hf.tr hf9
        refine x_aload_n Z dX1_insertSign_36 rfl rfl ?_
        refine x_dup Z dX1_insertSign_37 rfl ?_
        refine x_getf (ci := 2) (j := 1) (C := RX1) (T := TX1) (N := 3) Z inX1g rfl (by decide) q73 rfl dX1_insertSign_38 (by assumption) rfl ?_
        refine x_iconst Z dX1_insertSign_41 ?_
        refine x_iadd Z dX1_insertSign_42 ?_
        refine x_putf (ci := 2) (j := 1) (C := RX1) (T := TX1) (N := 3) (fs' := [_, _, _]) Z tyX1 tyX1_ok nmX1 inX1g rfl (by decide) q73 rfl rfl rfl rfl rfl dX1_insertSign_43 (by assumption) (by exact Nat.le_of_ble_eq_true rfl) rfl ?_
        exact x_vret Z E (⟨rfl, _, ht.many (by omega) (by omega), hf.set tP1⟩) dX1_insertSign_46 (Nat.le_of_ble_eq_true rfl) (Nat.le_of_ble_eq_true rfl)
      ·
        refine x_aload_n Z dX1_insertSign_10 rfl rfl ?_
        refine x_getf (ci := 2) (j := 0) (C := RX1) (T := TX1) (N := 3) Z inX1g rfl (by decide) q72 rfl dX1_insertSign_11 (by assumption) rfl ?_
        refine x_iload_n Z dX1_insertSign_14 rfl rfl ?_
        refine x_aload_n Z dX1_insertSign_15 rfl rfl ?_
        refine x_getf (ci := 2) (j := 0) (C := RX1) (T := TX1) (N := 3) Z inX1g rfl (by decide) q72 rfl dX1_insertSign_16 (by assumption) rfl ?_
        refine x_iload_n Z dX1_insertSign_19 rfl rfl ?_
        refine x_iconst Z dX1_insertSign_20 ?_
        refine x_isub Z dX1_insertSign_21 ?_
        refine x_bald Z dX1_insertSign_22 (by assumption) (by omega) (by omega) (by omega) ?_
        refine x_bast Z dX1_insertSign_23 (by assumption) (by omega) (by omega) (by omega) ?_
        refine x_iinc (L' := [(3, _), (0, _), (1, _), (2, _)]) Z dX1_insertSign_24 rfl (Nat.le_of_ble_eq_true rfl) rfl ?_
        refine x_goto Z 5 dX1_insertSign_27 (by decide) ?_
        exact ih5 (i + -1) _ _ (by omega) ⟨by omega, by omega, ht.row (hC (i - 1)) bB_bB, hf.set tP2⟩
  exact loop5 (n.toNat + 1) n C w (by omega) ⟨by omega, by omega, ht, fr.rf⟩
abbrev rmc_X1_retain : Room := { frames := 1, cells := 0, slots := 0, locals := 21 }
set_option maxRecDepth 100000 in
theorem c_X1_retain {l : Launch} {s0 : State} {G : gK} {w : wd} (h0 : gS0 s0) (htr : l.stackTraces = false) {a r bb : Nat} {n : Int} {C B : Int → Int} {m : Int} (ht : tX G w a r bb n C B) : gM l s0 G yX1_retain [Cond.code yX1_retain cX1_retain 4 (some .int)] rmc_X1_retain [rv a, iv m] w (fun v w' => v = some (iv (n - (sft (inB m) n C).1)) ∧ ∃ B', tX G w' a r bb (sft (inB m) n C).1 (sft (inB m) n C).2 B' ∧ fr (tP a r bb) w w') (noX) := by
  refine g_of h0 htr (by decide +kernel) (Nat.le_of_ble_eq_true rfl) ?_
  intro b Z0 E
  have Z : gAm b l s0 G cX1_retain RX1 4 rmc_X1_retain := Z0
  refine x_el (L' := [(0, rv a), (1, iv m)]) rfl ?_
  obtain ⟨ha, hr, hb, hn0, hn30, hC⟩ := id ht
  refine x_aload_n Z dX1_retain_0 rfl rfl ?_
  refine x_getf (ci := 2) (j := 1) (C := RX1) (T := TX1) (N := 3) Z inX1g rfl (by decide) q73 rfl dX1_retain_1 (by assumption) rfl ?_
  refine x_istore_n (L' := [(2, _), (0, _), (1, _)]) Z dX1_retain_4 rfl (Nat.le_of_ble_eq_true rfl) rfl ?_
  refine x_aload_n Z dX1_retain_5 rfl rfl ?_
  refine x_iconst Z dX1_retain_6 ?_
  refine x_putf (ci := 2) (j := 1) (C := RX1) (T := TX1) (N := 3) (fs' := [_, _, _]) Z tyX1 tyX1_ok nmX1 inX1g rfl (by decide) q73 rfl rfl rfl rfl rfl dX1_retain_7 (by assumption) (by exact Nat.le_of_ble_eq_true rfl) rfl ?_
  refine x_iconst Z dX1_retain_10 ?_
  refine x_istore_n (L' := [(3, _), (2, _), (0, _), (1, _)]) Z dX1_retain_11 rfl (Nat.le_of_ble_eq_true rfl) rfl ?_
  have loop12 : ∀ (fu : Nat) (i k : Int) (C1 : Int → Int) (w1 : wd), n - i < (fu : Int) → (0 ≤ i ∧ i ≤ n ∧ 0 ≤ k ∧ k ≤ i ∧ tX G w1 a r bb k C1 B ∧ fr (tP a r bb) w w1 ∧ forI (sfs (inB m) C) i n (k, C1) = sft (inB m) n C ∧ ∀ j, i ≤ j → C1 j = C j) → gX b s0 G (0) (0) 12 [(3, iv i), (2, iv n), (0, rv a), (1, iv m)] [] (w1) := by
    intro fu; induction fu with
    | zero => intro i k C1 w1 hm hv; exact absurd hm (by omega)
    | succ fu ih12 =>
      intro i k C1 w1 hm hv
      obtain ⟨hi0, hin, hk0, hki, ht, hf, hif, hie⟩ := hv
      obtain ⟨ha, hr, hb, hn00, hn300, hC⟩ := id ht
      refine x_iload_n Z dX1_retain_12 rfl rfl ?_
      refine x_iload_n Z dX1_retain_13 rfl rfl ?_
      refine x_icmp_ge Z 56 dX1_retain_14 (by decide) ⟨by omega, by omega⟩ ⟨by omega, by omega⟩ (fun c14 => ?_) (fun c14 => ?_)
      ·
        refine x_iload_n Z dX1_retain_56 rfl rfl ?_
        refine x_aload_n Z dX1_retain_57 rfl rfl ?_
        refine x_getf (ci := 2) (j := 1) (C := RX1) (T := TX1) (N := 3) Z inX1g rfl (by decide) q73 rfl dX1_retain_58 (by assumption) rfl ?_
        refine x_isub Z dX1_retain_61 ?_
        have hif2 := hif
        rw [forI_e (by omega)] at hif2
        exact x_iret Z E (⟨by rw [← hif2], B, by rw [← hif2]; exact ht, hf⟩) dX1_retain_62 (Nat.le_of_ble_eq_true rfl) (Nat.le_of_ble_eq_true rfl)
      ·
        refine x_iload_n Z dX1_retain_17 rfl rfl ?_
        refine x_iload_n Z dX1_retain_18 rfl rfl ?_
        refine x_callSN Z okX2_isIn q175 q140 dX1_retain_19 (c_X2_isIn h0 htr ) ⟨Nat.le_of_ble_eq_true rfl, Nat.le_of_ble_eq_true rfl, Nat.le_of_ble_eq_true rfl, Nat.le_of_ble_eq_true rfl⟩ rfl rfl (Nat.le_of_ble_eq_true rfl) (fun v9 w9 hR => ?_)
        obtain ⟨rfl, e9⟩ := hR
        refine x_ew e9 ?_
        simp only [Option.toList_some, Option.toList_none, List.cons_append, List.nil_append]
        refine x_ifb_eq Z 50 dX1_retain_22 (by decide) (fun c22 => ?_) (fun c22 => ?_)
        ·
          refine x_iinc (L' := [(3, _), (2, _), (0, _), (1, _)]) Z dX1_retain_50 rfl (Nat.le_of_ble_eq_true rfl) rfl ?_
          refine x_goto Z 12 dX1_retain_53 (by decide) ?_
          first | exact ih12 (i + 1) k C1 w1 (by omega) ⟨by omega, by omega, by omega, by omega, ht, hf, by rw [← hif, forI_s (i := i) (by omega), sfs_f c22], fun j hj => hie j (by omega)⟩ | exact ih12 (i + 1) (k + 1) (uF C1 k (C1 i)) _ (by omega) ⟨by omega, by omega, by omega, by omega, (ht.row (hC i) bB_bB).many (by omega) (by omega), (hf.set tP2).set tP1, by rw [← hif, forI_s (i := i) (by omega), sfs_t c22, hie i (by omega)], fun j hj => by rw [uF_n (by omega)]; exact hie j (by omega)⟩
        ·
          refine x_aload_n Z dX1_retain_25 rfl rfl ?_
          refine x_getf (ci := 2) (j := 0) (C := RX1) (T := TX1) (N := 3) Z inX1g rfl (by decide) q72 rfl dX1_retain_26 (by assumption) rfl ?_
          refine x_aload_n Z dX1_retain_29 rfl rfl ?_
          refine x_getf (ci := 2) (j := 1) (C := RX1) (T := TX1) (N := 3) Z inX1g rfl (by decide) q73 rfl dX1_retain_30 (by assumption) rfl ?_
          refine x_aload_n Z dX1_retain_33 rfl rfl ?_
          refine x_getf (ci := 2) (j := 0) (C := RX1) (T := TX1) (N := 3) Z inX1g rfl (by decide) q72 rfl dX1_retain_34 (by assumption) rfl ?_
          refine x_iload_n Z dX1_retain_37 rfl rfl ?_
          refine x_bald Z dX1_retain_38 (by assumption) (by omega) (by omega) (by omega) ?_
          refine x_bast Z dX1_retain_39 (by assumption) (by omega) (by omega) (by omega) ?_
          obtain ⟨ha, hr, -⟩ := id (ht.row (p := k) (hC i) bB_bB)
          refine x_aload_n Z dX1_retain_40 rfl rfl ?_
          refine x_dup Z dX1_retain_41 rfl ?_
          refine x_getf (ci := 2) (j := 1) (C := RX1) (T := TX1) (N := 3) Z inX1g rfl (by decide) q73 rfl dX1_retain_42 (by assumption) rfl ?_
          refine x_iconst Z dX1_retain_45 ?_
          refine x_iadd Z dX1_retain_46 ?_
          refine x_putf (ci := 2) (j := 1) (C := RX1) (T := TX1) (N := 3) (fs' := [_, _, _]) Z tyX1 tyX1_ok nmX1 inX1g rfl (by decide) q73 rfl rfl rfl rfl rfl dX1_retain_47 (by assumption) (by exact Nat.le_of_ble_eq_true rfl) rfl ?_
          refine x_iinc (L' := [(3, _), (2, _), (0, _), (1, _)]) Z dX1_retain_50 rfl (Nat.le_of_ble_eq_true rfl) rfl ?_
          refine x_goto Z 12 dX1_retain_53 (by decide) ?_
          first | exact ih12 (i + 1) k C1 w1 (by omega) ⟨by omega, by omega, by omega, by omega, ht, hf, by rw [← hif, forI_s (i := i) (by omega), sfs_f c22], fun j hj => hie j (by omega)⟩ | exact ih12 (i + 1) (k + 1) (uF C1 k (C1 i)) _ (by omega) ⟨by omega, by omega, by omega, by omega, (ht.row (hC i) bB_bB).many (by omega) (by omega), (hf.set tP2).set tP1, by rw [← hif, forI_s (i := i) (by omega), sfs_t c22, hie i (by omega)], fun j hj => by rw [uF_n (by omega)]; exact hie j (by omega)⟩
  exact loop12 (n.toNat + 1) 0 0 C _ (by omega) ⟨by omega, by omega, by omega, by omega, ht.many (by omega) (by omega), fr.rf.set tP1, rfl, fun _ _ => rfl⟩
abbrev rmc_X1_become : Room := { frames := 0, cells := 0, slots := 0, locals := 0 }
set_option maxRecDepth 100000 in
theorem c_X1_become {l : Launch} {s0 : State} {G : gK} {w : wd} (h0 : gS0 s0) (htr : l.stackTraces = false) {a r bb : Nat} {n : Int} {C B : Int → Int} {a2 r2 bb2 : Nat} {n2 : Int} {C2 B2 : Int → Int} {f t : Int} (ht : tX G w a r bb n C B) (ht2 : tX G w a2 r2 bb2 n2 C2 B2) (hs : tSelf a r bb a2 r2 bb2) (h1 : 0 ≤ f) (h2 : f ≤ t) (h3 : t ≤ n2) : gM l s0 G yX1_become [Cond.code yX1_become cX1_become 5 none] rmc_X1_become [rv a, rv a2, iv f, iv t] w (fun v w' => (v = none) ∧ tW G w a r bb w') (noX) := by
  refine g_of h0 htr (by decide +kernel) (Nat.le_of_ble_eq_true rfl) ?_
  intro b Z0 E
  have Z : gAm b l s0 G cX1_become RX1 5 rmc_X1_become := Z0
  refine x_el (L' := [(0, rv a), (1, rv a2), (2, iv f), (3, iv t)]) rfl ?_
  obtain ⟨ha, hr, hb, hn0, hn30, hC⟩ := id ht
  obtain ⟨-, -, -, h2n0, h2n30, -⟩ := id ht2
  refine x_iload_n Z dX1_become_0 rfl rfl ?_
  refine x_istore (L' := [(4, _), (0, _), (1, _), (2, _), (3, _)]) Z dX1_become_1 (Nat.le_of_ble_eq_true rfl) rfl ?_
  have loop3 : ∀ (fu : Nat) (i : Int) (C1 : Int → Int) (w1 : wd), t - i < (fu : Int) → (f ≤ i ∧ i ≤ t ∧ tX G w1 a r bb n C1 B ∧ fr (tP a r bb) w w1) → gX b s0 G (0) (0) 3 [(4, iv i), (0, rv a), (1, rv a2), (2, iv f), (3, iv t)] [] (w1) := by
    intro fu; induction fu with
    | zero => intro i C1 w1 hm hv; exact absurd hm (by omega)
    | succ fu ih3 =>
      intro i C1 w1 hm hv
      obtain ⟨hi0, hin, ht, hf⟩ := hv
      obtain ⟨ha, hr, hb, hn0, hn30, hC⟩ := id ht
      obtain ⟨n3, D, hb2, hr2, hD⟩ := hs.oth ht ht2 hf
      refine x_iload Z dX1_become_3 rfl ?_
      refine x_iload_n Z dX1_become_5 rfl rfl ?_
      refine x_icmp_ge Z 31 dX1_become_6 (by decide) ⟨by omega, by omega⟩ ⟨by omega, by omega⟩ (fun c6 => ?_) (fun c6 => ?_)
      ·
        refine x_aload_n Z dX1_become_31 rfl rfl ?_
        refine x_iload_n Z dX1_become_32 rfl rfl ?_
        refine x_iload_n Z dX1_become_33 rfl rfl ?_
        refine x_isub Z dX1_become_34 ?_
        refine x_putf (ci := 2) (j := 1) (C := RX1) (T := TX1) (N := 3) (fs' := [_, _, _]) Z tyX1 tyX1_ok nmX1 inX1g rfl (by decide) q73 rfl rfl rfl rfl rfl dX1_become_35 (by assumption) (by exact Nat.le_of_ble_eq_true rfl) rfl ?_
        exact x_vret Z E (⟨rfl, _, _, _, ht.many (by omega) (by omega), hf.set tP1⟩) dX1_become_38 (Nat.le_of_ble_eq_true rfl) (Nat.le_of_ble_eq_true rfl)
      ·
        refine x_aload_n Z dX1_become_9 rfl rfl ?_
        refine x_getf (ci := 2) (j := 0) (C := RX1) (T := TX1) (N := 3) Z inX1g rfl (by decide) q72 rfl dX1_become_10 (by assumption) rfl ?_
        refine x_iload Z dX1_become_13 rfl ?_
        refine x_iload_n Z dX1_become_15 rfl rfl ?_
        refine x_isub Z dX1_become_16 ?_
        refine x_aload_n Z dX1_become_17 rfl rfl ?_
        refine x_getf (ci := 2) (j := 0) (C := RX1) (T := TX1) (N := 3) Z inX1g rfl (by decide) q72 rfl dX1_become_18 (by assumption) rfl ?_
        refine x_iload Z dX1_become_21 rfl ?_
        refine x_bald Z dX1_become_23 (by assumption) (by omega) (by omega) (by omega) ?_
        refine x_bast Z dX1_become_24 (by assumption) (by omega) (by omega) (by omega) ?_
        refine x_iinc (L' := [(4, _), (0, _), (1, _), (2, _), (3, _)]) Z dX1_become_25 rfl (Nat.le_of_ble_eq_true rfl) rfl ?_
        refine x_goto Z 3 dX1_become_28 (by decide) ?_
        exact ih3 (i + 1) _ _ (by omega) ⟨by omega, by omega, ht.row (hD i) bB_bB, hf.set tP2⟩
  exact loop3 (t.toNat + 1) f C w (by omega) ⟨by omega, by omega, ht, fr.rf⟩
abbrev rmc_X1_append : Room := { frames := 0, cells := 0, slots := 0, locals := 0 }
set_option maxRecDepth 100000 in
theorem c_X1_append {l : Launch} {s0 : State} {G : gK} {w : wd} (h0 : gS0 s0) (htr : l.stackTraces = false) {a r bb : Nat} {n : Int} {C B : Int → Int} {a2 r2 bb2 : Nat} {n2 : Int} {C2 B2 : Int → Int} (ht : tX G w a r bb n C B) (ht2 : tX G w a2 r2 bb2 n2 C2 B2) (hs : tSelf a r bb a2 r2 bb2) (h1 : n + n2 ≤ 30) : gM l s0 G yX1_append [Cond.code yX1_append cX1_append 4 none] rmc_X1_append [rv a, rv a2] w (fun v w' => (v = none) ∧ tW G w a r bb w') (noX) := by
  refine g_of h0 htr (by decide +kernel) (Nat.le_of_ble_eq_true rfl) ?_
  intro b Z0 E
  have Z : gAm b l s0 G cX1_append RX1 4 rmc_X1_append := Z0
  refine x_el (L' := [(0, rv a), (1, rv a2)]) rfl ?_
  obtain ⟨ha, hr, hb, hn0, hn30, hC⟩ := id ht
  obtain ⟨hb2, hr2, -, h2n0, h2n30, hC2⟩ := id ht2
  refine x_aload_n Z dX1_append_0 rfl rfl ?_
  refine x_getf (ci := 2) (j := 1) (C := RX1) (T := TX1) (N := 3) Z inX1g rfl (by decide) q73 rfl dX1_append_1 (by assumption) rfl ?_
  refine x_istore_n (L' := [(2, _), (0, _), (1, _)]) Z dX1_append_4 rfl (Nat.le_of_ble_eq_true rfl) rfl ?_
  refine x_iconst Z dX1_append_5 ?_
  refine x_istore_n (L' := [(3, _), (2, _), (0, _), (1, _)]) Z dX1_append_6 rfl (Nat.le_of_ble_eq_true rfl) rfl ?_
  have loop7 : ∀ (fu : Nat) (i : Int) (C1 : Int → Int) (w1 : wd), n2 - i < (fu : Int) → (0 ≤ i ∧ i ≤ n2 ∧ tX G w1 a r bb n C1 B ∧ fr (tP a r bb) w w1) → gX b s0 G (0) (0) 7 [(3, iv i), (2, iv n2), (0, rv a), (1, rv a2)] [] (w1) := by
    intro fu; induction fu with
    | zero => intro i C1 w1 hm hv; exact absurd hm (by omega)
    | succ fu ih7 =>
      intro i C1 w1 hm hv
      obtain ⟨hi0, hin, ht, hf⟩ := hv
      obtain ⟨ha, hr, hb, hn0, hn30, hC⟩ := id ht
      obtain ⟨n3, D, hb2, hr2, hD⟩ := hs.oth ht ht2 hf
      refine x_iload_n Z dX1_append_7 rfl rfl ?_
      refine x_iload_n Z dX1_append_8 rfl rfl ?_
      refine x_icmp_ge Z 35 dX1_append_9 (by decide) ⟨by omega, by omega⟩ ⟨by omega, by omega⟩ (fun c9 => ?_) (fun c9 => ?_)
      ·
        refine x_aload_n Z dX1_append_35 rfl rfl ?_
        refine x_dup Z dX1_append_36 rfl ?_
        refine x_getf (ci := 2) (j := 1) (C := RX1) (T := TX1) (N := 3) Z inX1g rfl (by decide) q73 rfl dX1_append_37 (by assumption) rfl ?_
        refine x_iload_n Z dX1_append_40 rfl rfl ?_
        refine x_iadd Z dX1_append_41 ?_
        refine x_putf (ci := 2) (j := 1) (C := RX1) (T := TX1) (N := 3) (fs' := [_, _, _]) Z tyX1 tyX1_ok nmX1 inX1g rfl (by decide) q73 rfl rfl rfl rfl rfl dX1_append_42 (by assumption) (by exact Nat.le_of_ble_eq_true rfl) rfl ?_
        exact x_vret Z E (⟨rfl, _, _, _, ht.many (by omega) (by omega), hf.set tP1⟩) dX1_append_45 (Nat.le_of_ble_eq_true rfl) (Nat.le_of_ble_eq_true rfl)
      ·
        refine x_aload_n Z dX1_append_12 rfl rfl ?_
        refine x_getf (ci := 2) (j := 0) (C := RX1) (T := TX1) (N := 3) Z inX1g rfl (by decide) q72 rfl dX1_append_13 (by assumption) rfl ?_
        refine x_aload_n Z dX1_append_16 rfl rfl ?_
        refine x_getf (ci := 2) (j := 1) (C := RX1) (T := TX1) (N := 3) Z inX1g rfl (by decide) q73 rfl dX1_append_17 (by assumption) rfl ?_
        refine x_iload_n Z dX1_append_20 rfl rfl ?_
        refine x_iadd Z dX1_append_21 ?_
        refine x_aload_n Z dX1_append_22 rfl rfl ?_
        refine x_getf (ci := 2) (j := 0) (C := RX1) (T := TX1) (N := 3) Z inX1g rfl (by decide) q72 rfl dX1_append_23 (by assumption) rfl ?_
        refine x_iload_n Z dX1_append_26 rfl rfl ?_
        refine x_bald Z dX1_append_27 (by assumption) (by omega) (by omega) (by omega) ?_
        refine x_bast Z dX1_append_28 (by assumption) (by omega) (by omega) (by omega) ?_
        refine x_iinc (L' := [(3, _), (2, _), (0, _), (1, _)]) Z dX1_append_29 rfl (Nat.le_of_ble_eq_true rfl) rfl ?_
        refine x_goto Z 7 dX1_append_32 (by decide) ?_
        exact ih7 (i + 1) _ _ (by omega) ⟨by omega, by omega, ht.row (hD i) bB_bB, hf.set tP2⟩
  exact loop7 (n2.toNat + 1) 0 C w (by omega) ⟨by omega, by omega, ht, fr.rf⟩
abbrev rmc_X1_reverse : Room := { frames := 0, cells := 0, slots := 0, locals := 0 }
set_option maxRecDepth 100000 in
theorem c_X1_reverse {l : Launch} {s0 : State} {G : gK} {w : wd} (h0 : gS0 s0) (htr : l.stackTraces = false) {a r bb : Nat} {n : Int} {C B : Int → Int} (ht : tX G w a r bb n C B) : gM l s0 G yX1_reverse [Cond.code yX1_reverse cX1_reverse 5 (some .boolean)] rmc_X1_reverse [rv a] w (fun v w' => (∃ q : Bool, v = some (iv (b2 q))) ∧ tW G w a r bb w') (noX) := by
  refine g_of h0 htr (by decide +kernel) (Nat.le_of_ble_eq_true rfl) ?_
  intro b Z0 E
  have Z : gAm b l s0 G cX1_reverse RX1 5 rmc_X1_reverse := Z0
  refine x_el (L' := [(0, rv a)]) rfl ?_
  obtain ⟨ha, hr, hb, hn0, hn30, hC⟩ := id ht
  have hd2 := bDiv2 hn0 hn30
  refine x_ib false Z dX1_reverse_0 (by decide) ?_
  refine x_istore_n (L' := [(1, _), (0, _)]) Z dX1_reverse_1 rfl (Nat.le_of_ble_eq_true rfl) rfl ?_
  refine x_iconst Z dX1_reverse_2 ?_
  refine x_istore_n (L' := [(2, _), (1, _), (0, _)]) Z dX1_reverse_3 rfl (Nat.le_of_ble_eq_true rfl) rfl ?_
  have loop4 : ∀ (fu : Nat) (i : Int) (o : Bool) (C1 : Int → Int) (w1 : wd), n - i < (fu : Int) → (0 ≤ i ∧ i ≤ n ∧ tX G w1 a r bb n C1 B ∧ fr (tP a r bb) w w1) → gX b s0 G (0) (0) 4 [(2, iv i), (1, iv (b2 o)), (0, rv a)] [] (w1) := by
    intro fu; induction fu with
    | zero => intro i o C1 w1 hm hv; exact absurd hm (by omega)
    | succ fu ih4 =>
      intro i o C1 w1 hm hv
      obtain ⟨hi0, hin, ht, hf⟩ := hv
      obtain ⟨ha, hr, hb, hn0, hn30, hC⟩ := id ht
      refine x_iload_n Z dX1_reverse_4 rfl rfl ?_
      refine x_aload_n Z dX1_reverse_5 rfl rfl ?_
      refine x_getf (ci := 2) (j := 1) (C := RX1) (T := TX1) (N := 3) Z inX1g rfl (by decide) q73 rfl dX1_reverse_6 (by assumption) rfl ?_
      refine x_iconst Z dX1_reverse_9 ?_
      refine x_idiv Z dX1_reverse_10 ⟨by omega, by omega⟩ (by omega) ?_
      refine x_icmp_ge Z 80 dX1_reverse_11 (by decide) ⟨by omega, by omega⟩ ⟨by omega, by omega⟩ (fun c11 => ?_) (fun c11 => ?_)
      ·
        refine x_iload_n Z dX1_reverse_80 rfl rfl ?_
        exact x_zret Z E (⟨⟨_, rfl⟩, _, _, _, ht, hf⟩) dX1_reverse_81 (Nat.le_of_ble_eq_true rfl) (Nat.le_of_ble_eq_true rfl)
      ·
        refine x_aload_n Z dX1_reverse_14 rfl rfl ?_
        refine x_getf (ci := 2) (j := 0) (C := RX1) (T := TX1) (N := 3) Z inX1g rfl (by decide) q72 rfl dX1_reverse_15 (by assumption) rfl ?_
        refine x_iload_n Z dX1_reverse_18 rfl rfl ?_
        refine x_bald Z dX1_reverse_19 (by assumption) (by omega) (by omega) (by omega) ?_
        have hb1 := bB_in (C1 i)
        refine x_istore_n (L' := [(3, _), (2, _), (1, _), (0, _)]) Z dX1_reverse_20 rfl (Nat.le_of_ble_eq_true rfl) rfl ?_
        refine x_aload_n Z dX1_reverse_21 rfl rfl ?_
        refine x_getf (ci := 2) (j := 0) (C := RX1) (T := TX1) (N := 3) Z inX1g rfl (by decide) q72 rfl dX1_reverse_22 (by assumption) rfl ?_
        refine x_aload_n Z dX1_reverse_25 rfl rfl ?_
        refine x_getf (ci := 2) (j := 1) (C := RX1) (T := TX1) (N := 3) Z inX1g rfl (by decide) q73 rfl dX1_reverse_26 (by assumption) rfl ?_
        refine x_iconst Z dX1_reverse_29 ?_
        refine x_isub Z dX1_reverse_30 ?_
        refine x_iload_n Z dX1_reverse_31 rfl rfl ?_
        refine x_isub Z dX1_reverse_32 ?_
        refine x_bald Z dX1_reverse_33 (by assumption) (by omega) (by omega) (by omega) ?_
        have hb2 := bB_in (C1 (n - 1 - i))
        refine x_istore (L' := [(4, _), (3, _), (2, _), (1, _), (0, _)]) Z dX1_reverse_34 (Nat.le_of_ble_eq_true rfl) rfl ?_
        refine x_aload_n Z dX1_reverse_36 rfl rfl ?_
        refine x_getf (ci := 2) (j := 0) (C := RX1) (T := TX1) (N := 3) Z inX1g rfl (by decide) q72 rfl dX1_reverse_37 (by assumption) rfl ?_
        refine x_iload_n Z dX1_reverse_40 rfl rfl ?_
        refine x_iload Z dX1_reverse_41 rfl ?_
        refine x_bast Z dX1_reverse_43 (by assumption) (by omega) (by omega) (by omega) ?_
        obtain ⟨ha, hr, -⟩ := id (ht.row (p := i) (hC (n - 1 - i)) bB_bB)
        refine x_aload_n Z dX1_reverse_44 rfl rfl ?_
        refine x_getf (ci := 2) (j := 0) (C := RX1) (T := TX1) (N := 3) Z inX1g rfl (by decide) q72 rfl dX1_reverse_45 (by assumption) rfl ?_
        refine x_aload_n Z dX1_reverse_48 rfl rfl ?_
        refine x_getf (ci := 2) (j := 1) (C := RX1) (T := TX1) (N := 3) Z inX1g rfl (by decide) q73 rfl dX1_reverse_49 (by assumption) rfl ?_
        refine x_iconst Z dX1_reverse_52 ?_
        refine x_isub Z dX1_reverse_53 ?_
        refine x_iload_n Z dX1_reverse_54 rfl rfl ?_
        refine x_isub Z dX1_reverse_55 ?_
        refine x_iload_n Z dX1_reverse_56 rfl rfl ?_
        refine x_bast Z dX1_reverse_57 (by assumption) (by omega) (by omega) (by omega) ?_
        refine x_iload_n Z dX1_reverse_58 rfl rfl ?_
        refine x_ifb_ne Z 68 dX1_reverse_59 (by decide) (fun c59 => ?_) (fun c59 => ?_)
        ·
          refine x_ib true Z dX1_reverse_68 (by decide) ?_
          refine x_goto Z 73 dX1_reverse_69 (by decide) ?_
          refine x_istore_n (L' := [(1, _), (4, _), (3, _), (2, _), (0, _)]) Z dX1_reverse_73 rfl (Nat.le_of_ble_eq_true rfl) rfl ?_
          refine x_iinc (L' := [(2, _), (1, _), (4, _), (3, _), (0, _)]) Z dX1_reverse_74 rfl (Nat.le_of_ble_eq_true rfl) rfl ?_
          refine x_goto Z 4 dX1_reverse_77 (by decide) ?_
          refine x_sub [0, 1, 4] rfl ?_
          exact ih4 (i + 1) _ _ _ (by omega) ⟨by omega, by omega, (ht.row (hC (n - 1 - i)) bB_bB).row (hC i) bB_bB, (hf.set tP2).set tP2⟩
        ·
          refine x_iload_n Z dX1_reverse_62 rfl rfl ?_
          refine x_iload Z dX1_reverse_63 rfl ?_
          have hb1 : inr (sgF C1 i) := ⟨by show -2147483648 ≤ bB (C1 i); omega, by show bB (C1 i) ≤ 2147483647; omega⟩
          have hb2 : inr (sgF C1 (n - 1 - i)) := ⟨by show -2147483648 ≤ bB (C1 (n - 1 - i)); omega, by show bB (C1 (n - 1 - i)) ≤ 2147483647; omega⟩
          refine x_icmp_eq Z 72 dX1_reverse_65 (by decide) ⟨by omega, by omega⟩ ⟨by omega, by omega⟩ (fun c65 => ?_) (fun c65 => ?_)
          ·
            refine x_ib false Z dX1_reverse_72 (by decide) ?_
            refine x_istore_n (L' := [(1, _), (4, _), (3, _), (2, _), (0, _)]) Z dX1_reverse_73 rfl (Nat.le_of_ble_eq_true rfl) rfl ?_
            refine x_iinc (L' := [(2, _), (1, _), (4, _), (3, _), (0, _)]) Z dX1_reverse_74 rfl (Nat.le_of_ble_eq_true rfl) rfl ?_
            refine x_goto Z 4 dX1_reverse_77 (by decide) ?_
            refine x_sub [0, 1, 4] rfl ?_
            exact ih4 (i + 1) _ _ _ (by omega) ⟨by omega, by omega, (ht.row (hC (n - 1 - i)) bB_bB).row (hC i) bB_bB, (hf.set tP2).set tP2⟩
          ·
            refine x_ib true Z dX1_reverse_68 (by decide) ?_
            refine x_goto Z 73 dX1_reverse_69 (by decide) ?_
            refine x_istore_n (L' := [(1, _), (4, _), (3, _), (2, _), (0, _)]) Z dX1_reverse_73 rfl (Nat.le_of_ble_eq_true rfl) rfl ?_
            refine x_iinc (L' := [(2, _), (1, _), (4, _), (3, _), (0, _)]) Z dX1_reverse_74 rfl (Nat.le_of_ble_eq_true rfl) rfl ?_
            refine x_goto Z 4 dX1_reverse_77 (by decide) ?_
            refine x_sub [0, 1, 4] rfl ?_
            exact ih4 (i + 1) _ _ _ (by omega) ⟨by omega, by omega, (ht.row (hC (n - 1 - i)) bB_bB).row (hC i) bB_bB, (hf.set tP2).set tP2⟩
  exact loop4 (n.toNat + 1) 0 false C w (by omega) ⟨by omega, by omega, ht, fr.rf⟩
abbrev rmc_X1_begins : Room := { frames := 4, cells := 0, slots := 0, locals := 87 }
set_option maxRecDepth 100000 in
theorem c_X1_begins {l : Launch} {s0 : State} {G : gK} {w : wd} (h0 : gS0 s0) (htr : l.stackTraces = false) {a r bb : Nat} {n : Int} {C B : Int → Int} (ht : tX G w a r bb n C B) : gM l s0 G yX1_begins [Cond.code yX1_begins cX1_begins 4 (some .int)] rmc_X1_begins [rv a] w (fun v w' => v = some (iv (beg n C)) ∧ w' = w) (noX) := by
  refine g_of h0 htr (by decide +kernel) (Nat.le_of_ble_eq_true rfl) ?_
  intro b Z0 E
  have Z : gAm b l s0 G cX1_begins RX1 4 rmc_X1_begins := Z0
  refine x_el (L' := [(0, rv a)]) rfl ?_
  obtain ⟨ha, hr, hb, hn0, hn30, hC⟩ := id ht
  refine x_iconst Z dX1_begins_0 ?_
  refine x_istore_n (L' := [(1, _), (0, _)]) Z dX1_begins_1 rfl (Nat.le_of_ble_eq_true rfl) rfl ?_
  refine x_iconst Z dX1_begins_2 ?_
  refine x_istore_n (L' := [(2, _), (1, _), (0, _)]) Z dX1_begins_3 rfl (Nat.le_of_ble_eq_true rfl) rfl ?_
  refine x_iconst Z dX1_begins_4 ?_
  refine x_istore_n (L' := [(3, _), (2, _), (1, _), (0, _)]) Z dX1_begins_5 rfl (Nat.le_of_ble_eq_true rfl) rfl ?_
  have loop6 : ∀ (fu : Nat) (i e v : Int), n - i < (fu : Int) → (0 ≤ i ∧ i ≤ n ∧ i ≤ e ∧ e ≤ n ∧ forI (bgs n C) i n (e, v) = forI (bgs n C) 0 n (0, 0)) → gX b s0 G (0) (0) 6 [(3, iv i), (2, iv e), (1, iv v), (0, rv a)] [] (w) := by
    intro fu; induction fu with
    | zero => intro i e v hm hv; exact absurd hm (by omega)
    | succ fu ih6 =>
      intro i e v hm hv
      obtain ⟨hi0, hin, hie, hen, hif⟩ := hv
      refine x_iload_n Z dX1_begins_6 rfl rfl ?_
      refine x_aload_n Z dX1_begins_7 rfl rfl ?_
      refine x_getf (ci := 2) (j := 1) (C := RX1) (T := TX1) (N := 3) Z inX1g rfl (by decide) q73 rfl dX1_begins_8 (by assumption) rfl ?_
      refine x_icmp_ge Z 39 dX1_begins_11 (by decide) ⟨by omega, by omega⟩ ⟨by omega, by omega⟩ (fun c11 => ?_) (fun c11 => ?_)
      ·
        refine x_iload_n Z dX1_begins_39 rfl rfl ?_
        exact x_iret Z E (⟨by unfold beg; rw [← hif, forI_e (by omega)], rfl⟩) dX1_begins_40 (Nat.le_of_ble_eq_true rfl) (Nat.le_of_ble_eq_true rfl)
      ·
        refine x_iload_n Z dX1_begins_14 rfl rfl ?_
        refine x_iload_n Z dX1_begins_15 rfl rfl ?_
        refine x_icmp_ne Z 33 dX1_begins_16 (by decide) ⟨by omega, by omega⟩ ⟨by omega, by omega⟩ (fun c16 => ?_) (fun c16 => ?_)
        ·
          refine x_iinc (L' := [(3, _), (2, _), (1, _), (0, _)]) Z dX1_begins_33 rfl (Nat.le_of_ble_eq_true rfl) rfl ?_
          refine x_goto Z 6 dX1_begins_36 (by decide) ?_
          first | exact ih6 (i + 1) _ _ (by omega) ⟨by omega, by omega, by omega, by omega, by rw [← hif, forI_s (i := i) (by omega), bgs_t c16]⟩ | exact ih6 (i + 1) _ _ (by omega) ⟨by omega, by omega, by omega, by omega, by rw [← hif, forI_s (i := i) (by omega), bgs_f c16]⟩
        ·
          refine x_iload_n Z dX1_begins_19 rfl rfl ?_
          refine x_iconst Z dX1_begins_20 ?_
          refine x_iload_n Z dX1_begins_21 rfl rfl ?_
          refine x_ishl Z dX1_begins_22 ?_
          refine x_ior Z dX1_begins_23 ?_
          refine x_istore_n (L' := [(1, _), (3, _), (2, _), (0, _)]) Z dX1_begins_24 rfl (Nat.le_of_ble_eq_true rfl) rfl ?_
          refine x_iload_n Z dX1_begins_25 rfl rfl ?_
          refine x_aload_n Z dX1_begins_26 rfl rfl ?_
          refine x_iload_n Z dX1_begins_27 rfl rfl ?_
          have hlo := lon_in (n := n) (C := C) (p := i) (by omega)
          refine x_callV (ci := 2) (C := RX1) (T := TX1) (N := 3) Z okX1_longestAt q121 q122 q123 rfl dX1_begins_28 (c_X1_longestAt h0 htr ht (by omega) (by omega)) ht.1 ⟨Nat.le_of_ble_eq_true rfl, Nat.le_of_ble_eq_true rfl, Nat.le_of_ble_eq_true rfl, Nat.le_of_ble_eq_true rfl⟩ rfl rfl (Nat.le_of_ble_eq_true rfl) (fun v9 w9 hR => ?_)
          obtain ⟨rfl, e9⟩ := hR
          refine x_ew e9 ?_
          simp only [Option.toList_some, Option.toList_none, List.cons_append, List.nil_append]
          refine x_iadd Z dX1_begins_31 ?_
          refine x_istore_n (L' := [(2, _), (1, _), (3, _), (0, _)]) Z dX1_begins_32 rfl (Nat.le_of_ble_eq_true rfl) rfl ?_
          refine x_iinc (L' := [(3, _), (2, _), (1, _), (0, _)]) Z dX1_begins_33 rfl (Nat.le_of_ble_eq_true rfl) rfl ?_
          refine x_goto Z 6 dX1_begins_36 (by decide) ?_
          first | exact ih6 (i + 1) _ _ (by omega) ⟨by omega, by omega, by omega, by omega, by rw [← hif, forI_s (i := i) (by omega), bgs_t c16]⟩ | exact ih6 (i + 1) _ _ (by omega) ⟨by omega, by omega, by omega, by omega, by rw [← hif, forI_s (i := i) (by omega), bgs_f c16]⟩
  exact loop6 (n.toNat + 1) 0 0 0 (by omega) ⟨by omega, by omega, by omega, by omega, rfl⟩
abbrev rmc_X1_beginOf : Room := { frames := 5, cells := 0, slots := 0, locals := 110 }
set_option maxRecDepth 100000 in
theorem c_X1_beginOf {l : Launch} {s0 : State} {G : gK} {w : wd} (h0 : gS0 s0) (htr : l.stackTraces = false) {a r bb : Nat} {n : Int} {C B : Int → Int} {k1 : Int} (ht : tX G w a r bb n C B) (hk : inr k1) : gM l s0 G yX1_beginOf [Cond.code yX1_beginOf cX1_beginOf 5 (some .int)] rmc_X1_beginOf [rv a, iv k1] w (fun v w' => ∃ z : Int, v = some (iv z) ∧ w' = w ∧ (z = -1 ∨ (0 ≤ z ∧ z < n))) (noX) := by
  refine g_of h0 htr (by decide +kernel) (Nat.le_of_ble_eq_true rfl) ?_
  intro b Z0 E
  have Z : gAm b l s0 G cX1_beginOf RX1 5 rmc_X1_beginOf := Z0
  refine x_el (L' := [(0, rv a), (1, iv k1)]) rfl ?_
  obtain ⟨ha, hr, hb, hn0, hn30, hC⟩ := id ht
  refine x_aload_n Z dX1_beginOf_0 rfl rfl ?_
  refine x_callV (ci := 2) (C := RX1) (T := TX1) (N := 3) Z okX1_begins q117 q118 q119 rfl dX1_beginOf_1 (c_X1_begins h0 htr ht) ht.1 ⟨Nat.le_of_ble_eq_true rfl, Nat.le_of_ble_eq_true rfl, Nat.le_of_ble_eq_true rfl, Nat.le_of_ble_eq_true rfl⟩ rfl rfl (Nat.le_of_ble_eq_true rfl) (fun v9 w9 hR => ?_)
  obtain ⟨rfl, e9⟩ := hR
  refine x_ew e9 ?_
  simp only [Option.toList_some, Option.toList_none, List.cons_append, List.nil_append]
  refine x_istore_n (L' := [(2, _), (0, _), (1, _)]) Z dX1_beginOf_4 rfl (Nat.le_of_ble_eq_true rfl) rfl ?_
  refine x_iconst Z dX1_beginOf_5 ?_
  refine x_istore_n (L' := [(3, _), (2, _), (0, _), (1, _)]) Z dX1_beginOf_6 rfl (Nat.le_of_ble_eq_true rfl) rfl ?_
  refine x_iconst Z dX1_beginOf_7 ?_
  refine x_istore (L' := [(4, _), (3, _), (2, _), (0, _), (1, _)]) Z dX1_beginOf_8 (Nat.le_of_ble_eq_true rfl) rfl ?_
  have loop10 : ∀ (fu : Nat) (i h : Int), n - i < (fu : Int) → (0 ≤ i ∧ i ≤ n ∧ 0 ≤ h ∧ h ≤ i) → gX b s0 G (0) (0) 10 [(4, iv i), (3, iv h), (2, iv (beg n C)), (0, rv a), (1, iv k1)] [] (w) := by
    intro fu; induction fu with
    | zero => intro i h hm hv; exact absurd hm (by omega)
    | succ fu ih10 =>
      intro i h hm hv
      obtain ⟨hi0, hin, hh0, hhi⟩ := hv
      refine x_iload Z dX1_beginOf_10 rfl ?_
      refine x_aload_n Z dX1_beginOf_12 rfl rfl ?_
      refine x_getf (ci := 2) (j := 1) (C := RX1) (T := TX1) (N := 3) Z inX1g rfl (by decide) q73 rfl dX1_beginOf_13 (by assumption) rfl ?_
      refine x_icmp_ge Z 45 dX1_beginOf_16 (by decide) ⟨by omega, by omega⟩ ⟨by omega, by omega⟩ (fun c16 => ?_) (fun c16 => ?_)
      ·
        refine x_iconst Z dX1_beginOf_45 ?_
        exact x_iret Z E (⟨_, rfl, rfl, Or.inl rfl⟩) dX1_beginOf_46 (Nat.le_of_ble_eq_true rfl) (Nat.le_of_ble_eq_true rfl)
      ·
        refine x_iload_n Z dX1_beginOf_19 rfl rfl ?_
        refine x_iload Z dX1_beginOf_20 rfl ?_
        refine x_callSN Z okX2_isIn q175 q140 dX1_beginOf_22 (c_X2_isIn h0 htr ) ⟨Nat.le_of_ble_eq_true rfl, Nat.le_of_ble_eq_true rfl, Nat.le_of_ble_eq_true rfl, Nat.le_of_ble_eq_true rfl⟩ rfl rfl (Nat.le_of_ble_eq_true rfl) (fun v9 w9 hR => ?_)
        obtain ⟨rfl, e9⟩ := hR
        refine x_ew e9 ?_
        simp only [Option.toList_some, Option.toList_none, List.cons_append, List.nil_append]
        refine x_ifb_eq Z 39 dX1_beginOf_25 (by decide) (fun c25 => ?_) (fun c25 => ?_)
        ·
          refine x_iinc (L' := [(4, _), (3, _), (2, _), (0, _), (1, _)]) Z dX1_beginOf_39 rfl (Nat.le_of_ble_eq_true rfl) rfl ?_
          refine x_goto Z 10 dX1_beginOf_42 (by decide) ?_
          first | exact ih10 (i + 1) (h + 1) (by omega) ⟨by omega, by omega, by omega, by omega⟩ | exact ih10 (i + 1) h (by omega) ⟨by omega, by omega, by omega, by omega⟩
        ·
          refine x_iload_n Z dX1_beginOf_28 rfl rfl ?_
          refine x_iload_n Z dX1_beginOf_29 rfl rfl ?_
          refine x_icmp_ne Z 36 dX1_beginOf_30 (by decide) ⟨by omega, by omega⟩ ⟨by omega, by omega⟩ (fun c30 => ?_) (fun c30 => ?_)
          ·
            refine x_iinc (L' := [(3, _), (4, _), (2, _), (0, _), (1, _)]) Z dX1_beginOf_36 rfl (Nat.le_of_ble_eq_true rfl) rfl ?_
            refine x_iinc (L' := [(4, _), (3, _), (2, _), (0, _), (1, _)]) Z dX1_beginOf_39 rfl (Nat.le_of_ble_eq_true rfl) rfl ?_
            refine x_goto Z 10 dX1_beginOf_42 (by decide) ?_
            first | exact ih10 (i + 1) (h + 1) (by omega) ⟨by omega, by omega, by omega, by omega⟩ | exact ih10 (i + 1) h (by omega) ⟨by omega, by omega, by omega, by omega⟩
          ·
            refine x_iload Z dX1_beginOf_33 rfl ?_
            exact x_iret Z E (⟨_, rfl, rfl, Or.inr ⟨by omega, by omega⟩⟩) dX1_beginOf_35 (Nat.le_of_ble_eq_true rfl) (Nat.le_of_ble_eq_true rfl)
  exact loop10 (n.toNat + 1) 0 0 (by omega) ⟨by omega, by omega, by omega, by omega⟩
abbrev rmc_X1_backBegins : Room := { frames := 4, cells := 0, slots := 0, locals := 87 }
set_option maxRecDepth 100000 in
theorem c_X1_backBegins {l : Launch} {s0 : State} {G : gK} {w : wd} (h0 : gS0 s0) (htr : l.stackTraces = false) {a r bb : Nat} {n : Int} {C B : Int → Int} (ht : tX G w a r bb n C B) : gM l s0 G yX1_backBegins [Cond.code yX1_backBegins cX1_backBegins 4 (some .int)] rmc_X1_backBegins [rv a] w (fun v w' => (∃ z : Int, inr z ∧ v = some (iv z)) ∧ tB G w a r bb n C w') (noX) := by
  refine g_of h0 htr (by decide +kernel) (Nat.le_of_ble_eq_true rfl) ?_
  intro b Z0 E
  have Z : gAm b l s0 G cX1_backBegins RX1 4 rmc_X1_backBegins := Z0
  refine x_el (L' := [(0, rv a)]) rfl ?_
  obtain ⟨ha, hr, hb, hn0, hn30, hC⟩ := id ht
  refine x_aload_n Z dX1_backBegins_0 rfl rfl ?_
  refine x_getf (ci := 2) (j := 1) (C := RX1) (T := TX1) (N := 3) Z inX1g rfl (by decide) q73 rfl dX1_backBegins_1 (by assumption) rfl ?_
  refine x_iconst Z dX1_backBegins_4 ?_
  refine x_isub Z dX1_backBegins_5 ?_
  refine x_istore_n (L' := [(1, _), (0, _)]) Z dX1_backBegins_6 rfl (Nat.le_of_ble_eq_true rfl) rfl ?_
  have loop7 : ∀ (fu : Nat) (i : Int) (B1 : Int → Int) (w1 : wd), i + 1 < (fu : Int) → (-1 ≤ i ∧ i ≤ n - 1 ∧ tX G w1 a r bb n C B1 ∧ fr (tP a r bb) w w1) → gX b s0 G (0) (0) 7 [(1, iv i), (0, rv a)] [] (w1) := by
    intro fu; induction fu with
    | zero => intro i B1 w1 hm hv; exact absurd hm (by omega)
    | succ fu ih7 =>
      intro i B1 w1 hm hv
      obtain ⟨hi0, hin, ht, hf⟩ := hv
      obtain ⟨ha, hr, hb, hn0, hn30, hC⟩ := id ht
      refine x_iload_n Z dX1_backBegins_7 rfl rfl ?_
      refine x_if_lt Z 47 dX1_backBegins_8 (by decide) ⟨by omega, by omega⟩ (fun c8 => ?_) (fun c8 => ?_)
      ·
        refine x_iconst Z dX1_backBegins_47 ?_
        refine x_istore_n (L' := [(1, _), (0, _)]) Z dX1_backBegins_48 rfl (Nat.le_of_ble_eq_true rfl) rfl ?_
        refine x_aload_n Z dX1_backBegins_49 rfl rfl ?_
        refine x_getf (ci := 2) (j := 1) (C := RX1) (T := TX1) (N := 3) Z inX1g rfl (by decide) q73 rfl dX1_backBegins_50 (by assumption) rfl ?_
        refine x_istore_n (L' := [(2, _), (1, _), (0, _)]) Z dX1_backBegins_53 rfl (Nat.le_of_ble_eq_true rfl) rfl ?_
        refine x_aload_n Z dX1_backBegins_54 rfl rfl ?_
        refine x_getf (ci := 2) (j := 1) (C := RX1) (T := TX1) (N := 3) Z inX1g rfl (by decide) q73 rfl dX1_backBegins_55 (by assumption) rfl ?_
        refine x_istore_n (L' := [(3, _), (2, _), (1, _), (0, _)]) Z dX1_backBegins_58 rfl (Nat.le_of_ble_eq_true rfl) rfl ?_
        have loop59 : ∀ (fu : Nat) (e g v : Int), e < (fu : Int) → (0 ≤ e ∧ e ≤ n ∧ inr g) → gX b s0 G (0) (0) 59 [(3, iv e), (2, iv g), (1, iv v), (0, rv a)] [] (w1) := by
          intro fu; induction fu with
          | zero => intro e g v hm hv; exact absurd hm (by omega)
          | succ fu ih59 =>
            intro e g v hm hv
            obtain ⟨he0, hen, hg⟩ := hv
            refine x_iload_n Z dX1_backBegins_59 rfl rfl ?_
            refine x_if_le Z 87 dX1_backBegins_60 (by decide) ⟨by omega, by omega⟩ (fun c60 => ?_) (fun c60 => ?_)
            ·
              refine x_iload_n Z dX1_backBegins_87 rfl rfl ?_
              refine x_nz fun z8 hz8 ez8 => ?_
              exact x_iret Z E (⟨⟨z8, hz8, rfl⟩, _, ht, hf⟩) dX1_backBegins_88 (Nat.le_of_ble_eq_true rfl) (Nat.le_of_ble_eq_true rfl)
            ·
              refine x_iload_n Z dX1_backBegins_63 rfl rfl ?_
              refine x_iload_n Z dX1_backBegins_64 rfl rfl ?_
              refine x_icmp_ne Z 81 dX1_backBegins_65 (by decide) ⟨by omega, by omega⟩ ⟨by omega, by omega⟩ (fun c65 => ?_) (fun c65 => ?_)
              ·
                refine x_iinc (L' := [(3, _), (2, _), (1, _), (0, _)]) Z dX1_backBegins_81 rfl (Nat.le_of_ble_eq_true rfl) rfl ?_
                refine x_goto Z 59 dX1_backBegins_84 (by decide) ?_
                first | exact ih59 (e + -1) _ _ (by omega) ⟨by omega, by omega, hz⟩ | exact ih59 (e + -1) _ _ (by omega) ⟨by omega, by omega, hg⟩
              ·
                refine x_aload_n Z dX1_backBegins_68 rfl rfl ?_
                refine x_getf (ci := 2) (j := 2) (C := RX1) (T := TX1) (N := 3) Z inX1g rfl (by decide) q74 rfl dX1_backBegins_69 (by assumption) rfl ?_
                refine x_iload_n Z dX1_backBegins_72 rfl rfl ?_
                refine x_iald Z dX1_backBegins_73 (by assumption) (by omega) (by omega) (by omega) ?_
                refine x_nz fun z hz ez => ?_
                refine x_istore_n (L' := [(2, _), (3, _), (1, _), (0, _)]) Z dX1_backBegins_74 rfl (Nat.le_of_ble_eq_true rfl) rfl ?_
                refine x_iload_n Z dX1_backBegins_75 rfl rfl ?_
                refine x_iconst Z dX1_backBegins_76 ?_
                refine x_iload_n Z dX1_backBegins_77 rfl rfl ?_
                refine x_ishl Z dX1_backBegins_78 ?_
                refine x_ior Z dX1_backBegins_79 ?_
                refine x_istore_n (L' := [(1, _), (2, _), (3, _), (0, _)]) Z dX1_backBegins_80 rfl (Nat.le_of_ble_eq_true rfl) rfl ?_
                refine x_iinc (L' := [(3, _), (1, _), (2, _), (0, _)]) Z dX1_backBegins_81 rfl (Nat.le_of_ble_eq_true rfl) rfl ?_
                refine x_goto Z 59 dX1_backBegins_84 (by decide) ?_
                refine x_sub [0, 2, 1, 3] rfl ?_
                first | exact ih59 (e + -1) _ _ (by omega) ⟨by omega, by omega, hz⟩ | exact ih59 (e + -1) _ _ (by omega) ⟨by omega, by omega, hg⟩
        exact loop59 (n.toNat + 1) n n 0 (by omega) ⟨by omega, by omega, by omega, by omega⟩
      ·
        have hlo := lon_in (n := n) (C := C) (p := i) (by omega)
        refine x_iload_n Z dX1_backBegins_11 rfl rfl ?_
        refine x_aload_n Z dX1_backBegins_12 rfl rfl ?_
        refine x_iload_n Z dX1_backBegins_13 rfl rfl ?_
        refine x_callV (ci := 2) (C := RX1) (T := TX1) (N := 3) Z okX1_longestAt q121 q122 q123 rfl dX1_backBegins_14 (c_X1_longestAt h0 htr ht (by omega) (by omega)) ht.1 ⟨Nat.le_of_ble_eq_true rfl, Nat.le_of_ble_eq_true rfl, Nat.le_of_ble_eq_true rfl, Nat.le_of_ble_eq_true rfl⟩ rfl rfl (Nat.le_of_ble_eq_true rfl) (fun v9 w9 hR => ?_)
        obtain ⟨rfl, e9⟩ := hR
        refine x_ew e9 ?_
        simp only [Option.toList_some, Option.toList_none, List.cons_append, List.nil_append]
        refine x_iadd Z dX1_backBegins_17 ?_
        refine x_istore_n (L' := [(2, _), (1, _), (0, _)]) Z dX1_backBegins_18 rfl (Nat.le_of_ble_eq_true rfl) rfl ?_
        refine x_iload_n Z dX1_backBegins_19 rfl rfl ?_
        refine x_iconst Z dX1_backBegins_20 ?_
        refine x_iadd Z dX1_backBegins_21 ?_
        refine x_istore_n (L' := [(3, _), (2, _), (1, _), (0, _)]) Z dX1_backBegins_22 rfl (Nat.le_of_ble_eq_true rfl) rfl ?_
        have loop23 : ∀ (fu : Nat) (e : Int) (B2 : Int → Int) (w2 : wd), i + lon n C i + 1 - e < (fu : Int) → (i + 1 ≤ e ∧ e ≤ i + lon n C i + 1 ∧ tX G w2 a r bb n C B2 ∧ fr (tP a r bb) w w2) → gX b s0 G (0) (0) 23 [(3, iv e), (2, iv (i + lon n C i)), (1, iv i), (0, rv a)] [] (w2) := by
          intro fu; induction fu with
          | zero => intro e B2 w2 hm hv; exact absurd hm (by omega)
          | succ fu ih23 =>
            intro e B2 w2 hm hv
            obtain ⟨he0, hen, ht, hf⟩ := hv
            obtain ⟨ha, hr, hb, hn0, hn30, hC⟩ := id ht
            refine x_iload_n Z dX1_backBegins_23 rfl rfl ?_
            refine x_iload_n Z dX1_backBegins_24 rfl rfl ?_
            refine x_icmp_gt Z 41 dX1_backBegins_25 (by decide) ⟨by omega, by omega⟩ ⟨by omega, by omega⟩ (fun c25 => ?_) (fun c25 => ?_)
            ·
              refine x_iinc (L' := [(1, _), (3, _), (2, _), (0, _)]) Z dX1_backBegins_41 rfl (Nat.le_of_ble_eq_true rfl) rfl ?_
              refine x_goto Z 7 dX1_backBegins_44 (by decide) ?_
              refine x_sub [0, 3] rfl ?_
              exact ih7 (i + -1) _ _ (by omega) ⟨by omega, by omega, ht, hf⟩
            ·
              refine x_aload_n Z dX1_backBegins_28 rfl rfl ?_
              refine x_getf (ci := 2) (j := 2) (C := RX1) (T := TX1) (N := 3) Z inX1g rfl (by decide) q74 rfl dX1_backBegins_29 (by assumption) rfl ?_
              refine x_iload_n Z dX1_backBegins_32 rfl rfl ?_
              refine x_iload_n Z dX1_backBegins_33 rfl rfl ?_
              refine x_iast Z dX1_backBegins_34 (by assumption) (by omega) (by omega) (by omega) ?_
              refine x_iinc (L' := [(3, _), (2, _), (1, _), (0, _)]) Z dX1_backBegins_35 rfl (Nat.le_of_ble_eq_true rfl) rfl ?_
              refine x_goto Z 23 dX1_backBegins_38 (by decide) ?_
              exact ih23 (e + 1) _ _ (by omega) ⟨by omega, by omega, ht.by, hf.set tP3⟩
        exact loop23 40 (i + 1) B1 w1 (by omega) ⟨by omega, by omega, ht, hf⟩
  exact loop7 (n.toNat + 1) (n - 1) B w (by omega) ⟨by omega, by omega, ht, fr.rf⟩
abbrev rmc_X1_fewestPieces : Room := { frames := 4, cells := 0, slots := 0, locals := 87 }
set_option maxRecDepth 100000 in
theorem c_X1_fewestPieces {l : Launch} {s0 : State} {G : gK} {w : wd} (h0 : gS0 s0) (htr : l.stackTraces = false) {a r bb : Nat} {n : Int} {C B : Int → Int} (ht : tX G w a r bb n C B) : gM l s0 G yX1_fewestPieces [Cond.code yX1_fewestPieces cX1_fewestPieces 4 (some .int)] rmc_X1_fewestPieces [rv a] w (fun v w' => (∃ z : Int, inr z ∧ v = some (iv z)) ∧ tB G w a r bb n C w') (noX) := by
  refine g_of h0 htr (by decide +kernel) (Nat.le_of_ble_eq_true rfl) ?_
  intro b Z0 E
  have Z : gAm b l s0 G cX1_fewestPieces RX1 4 rmc_X1_fewestPieces := Z0
  refine x_el (L' := [(0, rv a)]) rfl ?_
  obtain ⟨ha, hr, hb, hn0, hn30, hC⟩ := id ht
  refine x_iconst Z dX1_fewestPieces_0 ?_
  refine x_istore_n (L' := [(1, _), (0, _)]) Z dX1_fewestPieces_1 rfl (Nat.le_of_ble_eq_true rfl) rfl ?_
  have loop2 : ∀ (fu : Nat) (i : Int) (B1 : Int → Int) (w1 : wd), n + 1 - i < (fu : Int) → (0 ≤ i ∧ i ≤ n + 1 ∧ tX G w1 a r bb n C B1 ∧ fr (tP a r bb) w w1) → gX b s0 G (0) (0) 2 [(1, iv i), (0, rv a)] [] (w1) := by
    intro fu; induction fu with
    | zero => intro i B1 w1 hm hv; exact absurd hm (by omega)
    | succ fu ih2 =>
      intro i B1 w1 hm hv
      obtain ⟨hi0, hin, ht, hf⟩ := hv
      obtain ⟨ha, hr, hb, hn0, hn30, hC⟩ := id ht
      refine x_iload_n Z dX1_fewestPieces_2 rfl rfl ?_
      refine x_aload_n Z dX1_fewestPieces_3 rfl rfl ?_
      refine x_getf (ci := 2) (j := 1) (C := RX1) (T := TX1) (N := 3) Z inX1g rfl (by decide) q73 rfl dX1_fewestPieces_4 (by assumption) rfl ?_
      refine x_icmp_gt Z 23 dX1_fewestPieces_7 (by decide) ⟨by omega, by omega⟩ ⟨by omega, by omega⟩ (fun c7 => ?_) (fun c7 => ?_)
      ·
        refine x_iconst Z dX1_fewestPieces_23 ?_
        refine x_istore_n (L' := [(1, _), (0, _)]) Z dX1_fewestPieces_24 rfl (Nat.le_of_ble_eq_true rfl) rfl ?_
        have loop25 : ∀ (fu : Nat) (i : Int) (B1 : Int → Int) (w1 : wd), n - i < (fu : Int) → (0 ≤ i ∧ i ≤ n ∧ tX G w1 a r bb n C B1 ∧ fr (tP a r bb) w w1) → gX b s0 G (0) (0) 25 [(1, iv i), (0, rv a)] [] (w1) := by
          intro fu; induction fu with
          | zero => intro i B1 w1 hm hv; exact absurd hm (by omega)
          | succ fu ih25 =>
            intro i B1 w1 hm hv
            obtain ⟨hi0, hin, ht, hf⟩ := hv
            obtain ⟨ha, hr, hb, hn0, hn30, hC⟩ := id ht
            refine x_iload_n Z dX1_fewestPieces_25 rfl rfl ?_
            refine x_aload_n Z dX1_fewestPieces_26 rfl rfl ?_
            refine x_getf (ci := 2) (j := 1) (C := RX1) (T := TX1) (N := 3) Z inX1g rfl (by decide) q73 rfl dX1_fewestPieces_27 (by assumption) rfl ?_
            refine x_icmp_ge Z 85 dX1_fewestPieces_30 (by decide) ⟨by omega, by omega⟩ ⟨by omega, by omega⟩ (fun c30 => ?_) (fun c30 => ?_)
            ·
              refine x_aload_n Z dX1_fewestPieces_85 rfl rfl ?_
              refine x_getf (ci := 2) (j := 2) (C := RX1) (T := TX1) (N := 3) Z inX1g rfl (by decide) q74 rfl dX1_fewestPieces_86 (by assumption) rfl ?_
              refine x_aload_n Z dX1_fewestPieces_89 rfl rfl ?_
              refine x_getf (ci := 2) (j := 1) (C := RX1) (T := TX1) (N := 3) Z inX1g rfl (by decide) q73 rfl dX1_fewestPieces_90 (by assumption) rfl ?_
              refine x_iald Z dX1_fewestPieces_93 (by assumption) (by omega) (by omega) (by omega) ?_
              refine x_nz fun z8 hz8 ez8 => ?_
              exact x_iret Z E (⟨⟨z8, hz8, rfl⟩, _, ht, hf⟩) dX1_fewestPieces_94 (Nat.le_of_ble_eq_true rfl) (Nat.le_of_ble_eq_true rfl)
            ·
              have hlo := lon_in (n := n) (C := C) (p := i) (by omega)
              refine x_iload_n Z dX1_fewestPieces_33 rfl rfl ?_
              refine x_aload_n Z dX1_fewestPieces_34 rfl rfl ?_
              refine x_iload_n Z dX1_fewestPieces_35 rfl rfl ?_
              refine x_callV (ci := 2) (C := RX1) (T := TX1) (N := 3) Z okX1_longestAt q121 q122 q123 rfl dX1_fewestPieces_36 (c_X1_longestAt h0 htr ht (by omega) (by omega)) ht.1 ⟨Nat.le_of_ble_eq_true rfl, Nat.le_of_ble_eq_true rfl, Nat.le_of_ble_eq_true rfl, Nat.le_of_ble_eq_true rfl⟩ rfl rfl (Nat.le_of_ble_eq_true rfl) (fun v9 w9 hR => ?_)
              obtain ⟨rfl, e9⟩ := hR
              refine x_ew e9 ?_
              simp only [Option.toList_some, Option.toList_none, List.cons_append, List.nil_append]
              refine x_iadd Z dX1_fewestPieces_39 ?_
              refine x_istore_n (L' := [(2, _), (1, _), (0, _)]) Z dX1_fewestPieces_40 rfl (Nat.le_of_ble_eq_true rfl) rfl ?_
              refine x_iload_n Z dX1_fewestPieces_41 rfl rfl ?_
              refine x_iconst Z dX1_fewestPieces_42 ?_
              refine x_iadd Z dX1_fewestPieces_43 ?_
              refine x_istore_n (L' := [(3, _), (2, _), (1, _), (0, _)]) Z dX1_fewestPieces_44 rfl (Nat.le_of_ble_eq_true rfl) rfl ?_
              have loop45 : ∀ (fu : Nat) (e : Int) (B2 : Int → Int) (w2 : wd), i + lon n C i + 1 - e < (fu : Int) → (i + 1 ≤ e ∧ e ≤ i + lon n C i + 1 ∧ tX G w2 a r bb n C B2 ∧ fr (tP a r bb) w w2) → gX b s0 G (0) (0) 45 [(3, iv e), (2, iv (i + lon n C i)), (1, iv i), (0, rv a)] [] (w2) := by
                intro fu; induction fu with
                | zero => intro e B2 w2 hm hv; exact absurd hm (by omega)
                | succ fu ih45 =>
                  intro e B2 w2 hm hv
                  obtain ⟨he0, hen, ht, hf⟩ := hv
                  obtain ⟨ha, hr, hb, hn0, hn30, hC⟩ := id ht
                  refine x_iload_n Z dX1_fewestPieces_45 rfl rfl ?_
                  refine x_iload_n Z dX1_fewestPieces_46 rfl rfl ?_
                  refine x_icmp_gt Z 79 dX1_fewestPieces_47 (by decide) ⟨by omega, by omega⟩ ⟨by omega, by omega⟩ (fun c47 => ?_) (fun c47 => ?_)
                  ·
                    refine x_iinc (L' := [(1, _), (3, _), (2, _), (0, _)]) Z dX1_fewestPieces_79 rfl (Nat.le_of_ble_eq_true rfl) rfl ?_
                    refine x_goto Z 25 dX1_fewestPieces_82 (by decide) ?_
                    refine x_sub [0, 3] rfl ?_
                    exact ih25 (i + 1) _ _ (by omega) ⟨by omega, by omega, ht, hf⟩
                  ·
                    refine x_aload_n Z dX1_fewestPieces_50 rfl rfl ?_
                    refine x_getf (ci := 2) (j := 2) (C := RX1) (T := TX1) (N := 3) Z inX1g rfl (by decide) q74 rfl dX1_fewestPieces_51 (by assumption) rfl ?_
                    refine x_iload_n Z dX1_fewestPieces_54 rfl rfl ?_
                    refine x_aload_n Z dX1_fewestPieces_55 rfl rfl ?_
                    refine x_getf (ci := 2) (j := 2) (C := RX1) (T := TX1) (N := 3) Z inX1g rfl (by decide) q74 rfl dX1_fewestPieces_56 (by assumption) rfl ?_
                    refine x_iload_n Z dX1_fewestPieces_59 rfl rfl ?_
                    refine x_iald Z dX1_fewestPieces_60 (by assumption) (by omega) (by omega) (by omega) ?_
                    refine x_nz fun z1 hz1 ez1 => ?_
                    refine x_aload_n Z dX1_fewestPieces_61 rfl rfl ?_
                    refine x_getf (ci := 2) (j := 2) (C := RX1) (T := TX1) (N := 3) Z inX1g rfl (by decide) q74 rfl dX1_fewestPieces_62 (by assumption) rfl ?_
                    refine x_iload_n Z dX1_fewestPieces_65 rfl rfl ?_
                    refine x_iald Z dX1_fewestPieces_66 (by assumption) (by omega) (by omega) (by omega) ?_
                    refine x_iconst Z dX1_fewestPieces_67 ?_
                    refine x_iadd Z dX1_fewestPieces_68 ?_
                    refine x_nz fun z2 hz2 ez2 => ?_
                    refine x_mmin Z q168 q169 q51 q170 dX1_fewestPieces_69 hz1 hz2 (Nat.le_of_ble_eq_true rfl) (Nat.le_of_ble_eq_true rfl) (by exact Nat.le_of_ble_eq_true rfl) (by exact Nat.le_of_ble_eq_true rfl) ?_
                    refine x_iast Z dX1_fewestPieces_72 (by assumption) (by omega) (by omega) (by omega) ?_
                    refine x_iinc (L' := [(3, _), (2, _), (1, _), (0, _)]) Z dX1_fewestPieces_73 rfl (Nat.le_of_ble_eq_true rfl) rfl ?_
                    refine x_goto Z 45 dX1_fewestPieces_76 (by decide) ?_
                    exact ih45 (e + 1) _ _ (by omega) ⟨by omega, by omega, ht.by, hf.set tP3⟩
              exact loop45 40 (i + 1) B1 w1 (by omega) ⟨by omega, by omega, ht, hf⟩
        exact loop25 (n.toNat + 1) 0 B1 w1 (by omega) ⟨by omega, by omega, ht, hf⟩
      ·
        refine x_aload_n Z dX1_fewestPieces_10 rfl rfl ?_
        refine x_getf (ci := 2) (j := 2) (C := RX1) (T := TX1) (N := 3) Z inX1g rfl (by decide) q74 rfl dX1_fewestPieces_11 (by assumption) rfl ?_
        refine x_iload_n Z dX1_fewestPieces_14 rfl rfl ?_
        refine x_iload_n Z dX1_fewestPieces_15 rfl rfl ?_
        refine x_iast Z dX1_fewestPieces_16 (by assumption) (by omega) (by omega) (by omega) ?_
        refine x_iinc (L' := [(1, _), (0, _)]) Z dX1_fewestPieces_17 rfl (Nat.le_of_ble_eq_true rfl) rfl ?_
        refine x_goto Z 2 dX1_fewestPieces_20 (by decide) ?_
        exact ih2 (i + 1) _ _ (by omega) ⟨by omega, by omega, ht.by, hf.set tP3⟩
  exact loop2 (n.toNat + 2) 0 B w (by omega) ⟨by omega, by omega, ht, fr.rf⟩
abbrev rmc_X1_piecesCutAt : Room := { frames := 4, cells := 0, slots := 0, locals := 87 }
set_option maxRecDepth 100000 in
theorem c_X1_piecesCutAt {l : Launch} {s0 : State} {G : gK} {w : wd} (h0 : gS0 s0) (htr : l.stackTraces = false) {a r bb : Nat} {n : Int} {C B : Int → Int} {m : Int} (ht : tX G w a r bb n C B) : gM l s0 G yX1_piecesCutAt [Cond.code yX1_piecesCutAt cX1_piecesCutAt 5 (some .int)] rmc_X1_piecesCutAt [rv a, iv m] w (fun v w' => ∃ z : Int, inr z ∧ v = some (iv z) ∧ w' = w) (noX) := by
  refine g_of h0 htr (by decide +kernel) (Nat.le_of_ble_eq_true rfl) ?_
  intro b Z0 E
  have Z : gAm b l s0 G cX1_piecesCutAt RX1 5 rmc_X1_piecesCutAt := Z0
  refine x_el (L' := [(0, rv a), (1, iv m)]) rfl ?_
  obtain ⟨ha, hr, hb, hn0, hn30, hC⟩ := id ht
  refine x_iconst Z dX1_piecesCutAt_0 ?_
  refine x_istore_n (L' := [(2, _), (0, _), (1, _)]) Z dX1_piecesCutAt_1 rfl (Nat.le_of_ble_eq_true rfl) rfl ?_
  refine x_iconst Z dX1_piecesCutAt_2 ?_
  refine x_istore_n (L' := [(3, _), (2, _), (0, _), (1, _)]) Z dX1_piecesCutAt_3 rfl (Nat.le_of_ble_eq_true rfl) rfl ?_
  refine x_iconst Z dX1_piecesCutAt_4 ?_
  refine x_istore (L' := [(4, _), (3, _), (2, _), (0, _), (1, _)]) Z dX1_piecesCutAt_5 (Nat.le_of_ble_eq_true rfl) rfl ?_
  have loop7 : ∀ (fu : Nat) (i g p : Int), n + 1 - i < (fu : Int) → (1 ≤ i ∧ i ≤ n + 1 ∧ 0 ≤ g ∧ g < i ∧ 0 ≤ p ∧ p ≤ i) → gX b s0 G (0) (0) 7 [(4, iv i), (3, iv g), (2, iv p), (0, rv a), (1, iv m)] [] (w) := by
    intro fu; induction fu with
    | zero => intro i g p hm hv; exact absurd hm (by omega)
    | succ fu ih7 =>
      intro i g p hm hv
      obtain ⟨hi0, hin, hg0, hgi, hp0, hpi⟩ := hv
      refine x_iload Z dX1_piecesCutAt_7 rfl ?_
      refine x_aload_n Z dX1_piecesCutAt_9 rfl rfl ?_
      refine x_getf (ci := 2) (j := 1) (C := RX1) (T := TX1) (N := 3) Z inX1g rfl (by decide) q73 rfl dX1_piecesCutAt_10 (by assumption) rfl ?_
      refine x_icmp_gt Z 60 dX1_piecesCutAt_13 (by decide) ⟨by omega, by omega⟩ ⟨by omega, by omega⟩ (fun c13 => ?_) (fun c13 => ?_)
      ·
        refine x_iload_n Z dX1_piecesCutAt_60 rfl rfl ?_
        exact x_iret Z E (⟨_, ⟨by omega, by omega⟩, rfl, rfl⟩) dX1_piecesCutAt_61 (Nat.le_of_ble_eq_true rfl) (Nat.le_of_ble_eq_true rfl)
      ·
        refine x_iload Z dX1_piecesCutAt_16 rfl ?_
        refine x_aload_n Z dX1_piecesCutAt_18 rfl rfl ?_
        refine x_getf (ci := 2) (j := 1) (C := RX1) (T := TX1) (N := 3) Z inX1g rfl (by decide) q73 rfl dX1_piecesCutAt_19 (by assumption) rfl ?_
        refine x_icmp_eq Z 34 dX1_piecesCutAt_22 (by decide) ⟨by omega, by omega⟩ ⟨by omega, by omega⟩ (fun c22 => ?_) (fun c22 => ?_)
        ·
          refine x_aload_n Z dX1_piecesCutAt_34 rfl rfl ?_
          refine x_iload_n Z dX1_piecesCutAt_35 rfl rfl ?_
          have hlo := lon_in (n := n) (C := C) (p := g) (by omega)
          refine x_callV (ci := 2) (C := RX1) (T := TX1) (N := 3) Z okX1_longestAt q121 q122 q123 rfl dX1_piecesCutAt_36 (c_X1_longestAt h0 htr ht (by omega) (by omega)) ht.1 ⟨Nat.le_of_ble_eq_true rfl, Nat.le_of_ble_eq_true rfl, Nat.le_of_ble_eq_true rfl, Nat.le_of_ble_eq_true rfl⟩ rfl rfl (Nat.le_of_ble_eq_true rfl) (fun v9 w9 hR => ?_)
          obtain ⟨rfl, e9⟩ := hR
          refine x_ew e9 ?_
          simp only [Option.toList_some, Option.toList_none, List.cons_append, List.nil_append]
          refine x_iload Z dX1_piecesCutAt_39 rfl ?_
          refine x_iload_n Z dX1_piecesCutAt_41 rfl rfl ?_
          refine x_isub Z dX1_piecesCutAt_42 ?_
          refine x_icmp_ge Z 48 dX1_piecesCutAt_43 (by decide) ⟨by omega, by omega⟩ ⟨by omega, by omega⟩ (fun c43 => ?_) (fun c43 => ?_)
          ·
            refine x_iinc (L' := [(2, _), (4, _), (3, _), (0, _), (1, _)]) Z dX1_piecesCutAt_48 rfl (Nat.le_of_ble_eq_true rfl) rfl ?_
            refine x_iload Z dX1_piecesCutAt_51 rfl ?_
            refine x_istore_n (L' := [(3, _), (2, _), (4, _), (0, _), (1, _)]) Z dX1_piecesCutAt_53 rfl (Nat.le_of_ble_eq_true rfl) rfl ?_
            refine x_iinc (L' := [(4, _), (3, _), (2, _), (0, _), (1, _)]) Z dX1_piecesCutAt_54 rfl (Nat.le_of_ble_eq_true rfl) rfl ?_
            refine x_goto Z 7 dX1_piecesCutAt_57 (by decide) ?_
            first | exact ih7 (i + 1) i (p + 1) (by omega) ⟨by omega, by omega, by omega, by omega, by omega, by omega⟩ | exact ih7 (i + 1) g p (by omega) ⟨by omega, by omega, by omega, by omega, by omega, by omega⟩
          ·
            refine x_iconst Z dX1_piecesCutAt_46 ?_
            exact x_iret Z E (⟨_, ⟨by omega, by omega⟩, rfl, rfl⟩) dX1_piecesCutAt_47 (Nat.le_of_ble_eq_true rfl) (Nat.le_of_ble_eq_true rfl)
        ·
          refine x_iload_n Z dX1_piecesCutAt_25 rfl rfl ?_
          refine x_iload Z dX1_piecesCutAt_26 rfl ?_
          refine x_callSN Z okX2_isIn q175 q140 dX1_piecesCutAt_28 (c_X2_isIn h0 htr ) ⟨Nat.le_of_ble_eq_true rfl, Nat.le_of_ble_eq_true rfl, Nat.le_of_ble_eq_true rfl, Nat.le_of_ble_eq_true rfl⟩ rfl rfl (Nat.le_of_ble_eq_true rfl) (fun v9 w9 hR => ?_)
          obtain ⟨rfl, e9⟩ := hR
          refine x_ew e9 ?_
          simp only [Option.toList_some, Option.toList_none, List.cons_append, List.nil_append]
          refine x_ifb_eq Z 54 dX1_piecesCutAt_31 (by decide) (fun c31 => ?_) (fun c31 => ?_)
          ·
            refine x_iinc (L' := [(4, _), (3, _), (2, _), (0, _), (1, _)]) Z dX1_piecesCutAt_54 rfl (Nat.le_of_ble_eq_true rfl) rfl ?_
            refine x_goto Z 7 dX1_piecesCutAt_57 (by decide) ?_
            first | exact ih7 (i + 1) i (p + 1) (by omega) ⟨by omega, by omega, by omega, by omega, by omega, by omega⟩ | exact ih7 (i + 1) g p (by omega) ⟨by omega, by omega, by omega, by omega, by omega, by omega⟩
          ·
            refine x_aload_n Z dX1_piecesCutAt_34 rfl rfl ?_
            refine x_iload_n Z dX1_piecesCutAt_35 rfl rfl ?_
            have hlo := lon_in (n := n) (C := C) (p := g) (by omega)
            refine x_callV (ci := 2) (C := RX1) (T := TX1) (N := 3) Z okX1_longestAt q121 q122 q123 rfl dX1_piecesCutAt_36 (c_X1_longestAt h0 htr ht (by omega) (by omega)) ht.1 ⟨Nat.le_of_ble_eq_true rfl, Nat.le_of_ble_eq_true rfl, Nat.le_of_ble_eq_true rfl, Nat.le_of_ble_eq_true rfl⟩ rfl rfl (Nat.le_of_ble_eq_true rfl) (fun v9 w9 hR => ?_)
            obtain ⟨rfl, e9⟩ := hR
            refine x_ew e9 ?_
            simp only [Option.toList_some, Option.toList_none, List.cons_append, List.nil_append]
            refine x_iload Z dX1_piecesCutAt_39 rfl ?_
            refine x_iload_n Z dX1_piecesCutAt_41 rfl rfl ?_
            refine x_isub Z dX1_piecesCutAt_42 ?_
            refine x_icmp_ge Z 48 dX1_piecesCutAt_43 (by decide) ⟨by omega, by omega⟩ ⟨by omega, by omega⟩ (fun c43 => ?_) (fun c43 => ?_)
            ·
              refine x_iinc (L' := [(2, _), (4, _), (3, _), (0, _), (1, _)]) Z dX1_piecesCutAt_48 rfl (Nat.le_of_ble_eq_true rfl) rfl ?_
              refine x_iload Z dX1_piecesCutAt_51 rfl ?_
              refine x_istore_n (L' := [(3, _), (2, _), (4, _), (0, _), (1, _)]) Z dX1_piecesCutAt_53 rfl (Nat.le_of_ble_eq_true rfl) rfl ?_
              refine x_iinc (L' := [(4, _), (3, _), (2, _), (0, _), (1, _)]) Z dX1_piecesCutAt_54 rfl (Nat.le_of_ble_eq_true rfl) rfl ?_
              refine x_goto Z 7 dX1_piecesCutAt_57 (by decide) ?_
              first | exact ih7 (i + 1) i (p + 1) (by omega) ⟨by omega, by omega, by omega, by omega, by omega, by omega⟩ | exact ih7 (i + 1) g p (by omega) ⟨by omega, by omega, by omega, by omega, by omega, by omega⟩
            ·
              refine x_iconst Z dX1_piecesCutAt_46 ?_
              exact x_iret Z E (⟨_, ⟨by omega, by omega⟩, rfl, rfl⟩) dX1_piecesCutAt_47 (Nat.le_of_ble_eq_true rfl) (Nat.le_of_ble_eq_true rfl)
  exact loop7 (n.toNat + 2) 1 0 0 (by omega) ⟨by omega, by omega, by omega, by omega, by omega, by omega⟩
abbrev rmc_X1_isTextSound : Room := { frames := 5, cells := 0, slots := 0, locals := 111 }
set_option maxRecDepth 100000 in
theorem c_X1_isTextSound {l : Launch} {s0 : State} {G : gK} {w : wd} (h0 : gS0 s0) (htr : l.stackTraces = false) {a r bb : Nat} {n : Int} {C B : Int → Int} (ht : tX G w a r bb n C B) : gM l s0 G yX1_isTextSound [Cond.code yX1_isTextSound cX1_isTextSound 3 (some .boolean)] rmc_X1_isTextSound [rv a] w (fun v w' => (∃ q : Bool, v = some (iv (b2 q))) ∧ tB G w a r bb n C w') (noX) := by
  refine g_of h0 htr (by decide +kernel) (Nat.le_of_ble_eq_true rfl) ?_
  intro b Z0 E
  have Z : gAm b l s0 G cX1_isTextSound RX1 3 rmc_X1_isTextSound := Z0
  refine x_el (L' := [(0, rv a)]) rfl ?_
  obtain ⟨ha, hr, hb, hn0, hn30, hC⟩ := id ht
  have hf : fr (tP a r bb) w w := fr.rf
  have hbi := bAnd_in (beg n C) (-2)
  have hbc := bcn_in (beg n C)
  refine x_aload_n Z dX1_isTextSound_0 rfl rfl ?_
  refine x_callV (ci := 2) (C := RX1) (T := TX1) (N := 3) Z okX1_begins q117 q118 q119 rfl dX1_isTextSound_1 (c_X1_begins h0 htr ht) ht.1 ⟨Nat.le_of_ble_eq_true rfl, Nat.le_of_ble_eq_true rfl, Nat.le_of_ble_eq_true rfl, Nat.le_of_ble_eq_true rfl⟩ rfl rfl (Nat.le_of_ble_eq_true rfl) (fun v9 w9 hR => ?_)
  obtain ⟨rfl, e9⟩ := hR
  refine x_ew e9 ?_
  simp only [Option.toList_some, Option.toList_none, List.cons_append, List.nil_append]
  refine x_callSN Z okX2_cutsOf q151 q152 dX1_isTextSound_4 (c_X2_cutsOf h0 htr ) ⟨Nat.le_of_ble_eq_true rfl, Nat.le_of_ble_eq_true rfl, Nat.le_of_ble_eq_true rfl, Nat.le_of_ble_eq_true rfl⟩ rfl rfl (Nat.le_of_ble_eq_true rfl) (fun v9 w9 hR => ?_)
  obtain ⟨rfl, e9⟩ := hR
  refine x_ew e9 ?_
  simp only [Option.toList_some, Option.toList_none, List.cons_append, List.nil_append]
  refine x_istore_n (L' := [(1, _), (0, _)]) Z dX1_isTextSound_7 rfl (Nat.le_of_ble_eq_true rfl) rfl ?_
  refine x_aload_n Z dX1_isTextSound_8 rfl rfl ?_
  refine x_callV (ci := 2) (C := RX1) (T := TX1) (N := 3) Z okX1_begins q117 q118 q119 rfl dX1_isTextSound_9 (c_X1_begins h0 htr ht) ht.1 ⟨Nat.le_of_ble_eq_true rfl, Nat.le_of_ble_eq_true rfl, Nat.le_of_ble_eq_true rfl, Nat.le_of_ble_eq_true rfl⟩ rfl rfl (Nat.le_of_ble_eq_true rfl) (fun v9 w9 hR => ?_)
  obtain ⟨rfl, e9⟩ := hR
  refine x_ew e9 ?_
  simp only [Option.toList_some, Option.toList_none, List.cons_append, List.nil_append]
  refine x_callS Z okJ6_bitCount_0f7a4 q154 q155 dX1_isTextSound_12 (c_J6_bitCount_0f7a4 h0 htr ) ⟨Nat.le_of_ble_eq_true rfl, Nat.le_of_ble_eq_true rfl, Nat.le_of_ble_eq_true rfl, Nat.le_of_ble_eq_true rfl⟩ rfl rfl (Nat.le_of_ble_eq_true rfl) (fun v9 w9 hR => ?_)
  obtain ⟨rfl, e9⟩ := hR
  refine x_ew e9 ?_
  simp only [Option.toList_some, Option.toList_none, List.cons_append, List.nil_append]
  refine x_istore_n (L' := [(2, _), (1, _), (0, _)]) Z dX1_isTextSound_15 rfl (Nat.le_of_ble_eq_true rfl) rfl ?_
  refine x_aload_n Z dX1_isTextSound_16 rfl rfl ?_
  refine x_getf (ci := 2) (j := 1) (C := RX1) (T := TX1) (N := 3) Z inX1g rfl (by decide) q73 rfl dX1_isTextSound_17 (by assumption) rfl ?_
  refine x_bipush Z dX1_isTextSound_20 (by decide +kernel) ?_
  refine x_icmp_gt Z 77 dX1_isTextSound_22 (by decide) ⟨by omega, by omega⟩ ⟨by omega, by omega⟩ (fun c22 => ?_) (fun c22 => ?_)
  ·
    refine x_ib false Z dX1_isTextSound_77 (by decide) ?_
    exact x_zret Z E (⟨⟨_, rfl⟩, _, ht, hf⟩) dX1_isTextSound_78 (Nat.le_of_ble_eq_true rfl) (Nat.le_of_ble_eq_true rfl)
  ·
    refine x_iload_n Z dX1_isTextSound_25 rfl rfl ?_
    refine x_aload_n Z dX1_isTextSound_26 rfl rfl ?_
    refine x_callV (ci := 2) (C := RX1) (T := TX1) (N := 3) Z okX1_backBegins q160 q161 q162 rfl dX1_isTextSound_27 (c_X1_backBegins h0 htr ht) ht.1 ⟨Nat.le_of_ble_eq_true rfl, Nat.le_of_ble_eq_true rfl, Nat.le_of_ble_eq_true rfl, Nat.le_of_ble_eq_true rfl⟩ rfl rfl (Nat.le_of_ble_eq_true rfl) (fun v9 w9 hR => ?_)
    obtain ⟨⟨z, hz, rfl⟩, B, ht, hf9⟩ := hR
    obtain ⟨ha, hr, hb, hn0, hn30, hC⟩ := id ht
    simp only [Option.toList_some, Option.toList_none, List.cons_append, List.nil_append]
    have hf := hf.tr hf9
    refine x_callSN Z okX2_cutsOf q151 q152 dX1_isTextSound_30 (c_X2_cutsOf h0 htr ) ⟨Nat.le_of_ble_eq_true rfl, Nat.le_of_ble_eq_true rfl, Nat.le_of_ble_eq_true rfl, Nat.le_of_ble_eq_true rfl⟩ rfl rfl (Nat.le_of_ble_eq_true rfl) (fun v9 w9 hR => ?_)
    obtain ⟨rfl, e9⟩ := hR
    refine x_ew e9 ?_
    simp only [Option.toList_some, Option.toList_none, List.cons_append, List.nil_append]
    have hz3 := bAnd_in z (-2)
    refine x_icmp_ne Z 77 dX1_isTextSound_33 (by decide) ⟨by omega, by omega⟩ ⟨by omega, by omega⟩ (fun c33 => ?_) (fun c33 => ?_)
    ·
      refine x_ib false Z dX1_isTextSound_77 (by decide) ?_
      exact x_zret Z E (⟨⟨_, rfl⟩, _, ht, hf⟩) dX1_isTextSound_78 (Nat.le_of_ble_eq_true rfl) (Nat.le_of_ble_eq_true rfl)
    ·
      refine x_iload_n Z dX1_isTextSound_36 rfl rfl ?_
      refine x_aload_n Z dX1_isTextSound_37 rfl rfl ?_
      refine x_callV (ci := 2) (C := RX1) (T := TX1) (N := 3) Z okX1_fewestPieces q164 q165 q166 rfl dX1_isTextSound_38 (c_X1_fewestPieces h0 htr ht) ht.1 ⟨Nat.le_of_ble_eq_true rfl, Nat.le_of_ble_eq_true rfl, Nat.le_of_ble_eq_true rfl, Nat.le_of_ble_eq_true rfl⟩ rfl rfl (Nat.le_of_ble_eq_true rfl) (fun v9 w9 hR => ?_)
      obtain ⟨⟨z, hz, rfl⟩, B, ht, hf9⟩ := hR
      obtain ⟨ha, hr, hb, hn0, hn30, hC⟩ := id ht
      simp only [Option.toList_some, Option.toList_none, List.cons_append, List.nil_append]
      have hf := hf.tr hf9
      refine x_icmp_ne Z 77 dX1_isTextSound_41 (by decide) ⟨by omega, by omega⟩ ⟨by omega, by omega⟩ (fun c41 => ?_) (fun c41 => ?_)
      ·
        refine x_ib false Z dX1_isTextSound_77 (by decide) ?_
        exact x_zret Z E (⟨⟨_, rfl⟩, _, ht, hf⟩) dX1_isTextSound_78 (Nat.le_of_ble_eq_true rfl) (Nat.le_of_ble_eq_true rfl)
      ·
        refine x_iload_n Z dX1_isTextSound_44 rfl rfl ?_
        refine x_aload_n Z dX1_isTextSound_45 rfl rfl ?_
        refine x_iload_n Z dX1_isTextSound_46 rfl rfl ?_
        refine x_callV (ci := 2) (C := RX1) (T := TX1) (N := 3) Z okX1_piecesCutAt q171 q172 q173 rfl dX1_isTextSound_47 (c_X1_piecesCutAt h0 htr ht) ht.1 ⟨Nat.le_of_ble_eq_true rfl, Nat.le_of_ble_eq_true rfl, Nat.le_of_ble_eq_true rfl, Nat.le_of_ble_eq_true rfl⟩ rfl rfl (Nat.le_of_ble_eq_true rfl) (fun v9 w9 hR => ?_)
        obtain ⟨z, hz, rfl, e9⟩ := hR
        refine x_ew e9 ?_
        simp only [Option.toList_some, Option.toList_none, List.cons_append, List.nil_append]
        refine x_icmp_ne Z 77 dX1_isTextSound_50 (by decide) ⟨by omega, by omega⟩ ⟨by omega, by omega⟩ (fun c50 => ?_) (fun c50 => ?_)
        ·
          refine x_ib false Z dX1_isTextSound_77 (by decide) ?_
          exact x_zret Z E (⟨⟨_, rfl⟩, _, ht, hf⟩) dX1_isTextSound_78 (Nat.le_of_ble_eq_true rfl) (Nat.le_of_ble_eq_true rfl)
        ·
          refine x_aload_n Z dX1_isTextSound_53 rfl rfl ?_
          refine x_callV (ci := 2) (C := RX1) (T := TX1) (N := 3) Z okX1_isNamed q176 q177 q178 rfl dX1_isTextSound_54 (c_X1_isNamed h0 htr ht) ht.1 ⟨Nat.le_of_ble_eq_true rfl, Nat.le_of_ble_eq_true rfl, Nat.le_of_ble_eq_true rfl, Nat.le_of_ble_eq_true rfl⟩ rfl rfl (Nat.le_of_ble_eq_true rfl) (fun v9 w9 hR => ?_)
          obtain ⟨rfl, e9⟩ := hR
          refine x_ew e9 ?_
          simp only [Option.toList_some, Option.toList_none, List.cons_append, List.nil_append]
          refine x_aload_n Z dX1_isTextSound_57 rfl rfl ?_
          refine x_callV (ci := 2) (C := RX1) (T := TX1) (N := 3) Z okX1_firstFault q180 q181 q182 rfl dX1_isTextSound_58 (c_X1_firstFault h0 htr ht) ht.1 ⟨Nat.le_of_ble_eq_true rfl, Nat.le_of_ble_eq_true rfl, Nat.le_of_ble_eq_true rfl, Nat.le_of_ble_eq_true rfl⟩ rfl rfl (Nat.le_of_ble_eq_true rfl) (fun v9 w9 hR => ?_)
          obtain ⟨rfl, e9⟩ := hR
          refine x_ew e9 ?_
          simp only [Option.toList_some, Option.toList_none, List.cons_append, List.nil_append]
          refine x_iconst Z dX1_isTextSound_61 ?_
          have hfi := findI_in (P := fun j => !so (C j) (cond (decide (j = 0)) 11 12)) (i := 0) (n := n) (by omega)
          refine x_icmp_ne Z 69 dX1_isTextSound_62 (by decide) ⟨by omega, by omega⟩ ⟨by omega, by omega⟩ (fun c62 => ?_) (fun c62 => ?_)
          ·
            refine x_ib false Z dX1_isTextSound_69 (by decide) ?_
            refine x_icmpb_ne Z 77 dX1_isTextSound_70 (by decide) (fun c70 => ?_) (fun c70 => ?_)
            ·
              refine x_ib false Z dX1_isTextSound_77 (by decide) ?_
              exact x_zret Z E (⟨⟨_, rfl⟩, _, ht, hf⟩) dX1_isTextSound_78 (Nat.le_of_ble_eq_true rfl) (Nat.le_of_ble_eq_true rfl)
            ·
              refine x_ib true Z dX1_isTextSound_73 (by decide) ?_
              refine x_goto Z 78 dX1_isTextSound_74 (by decide) ?_
              exact x_zret Z E (⟨⟨_, rfl⟩, _, ht, hf⟩) dX1_isTextSound_78 (Nat.le_of_ble_eq_true rfl) (Nat.le_of_ble_eq_true rfl)
          ·
            refine x_ib true Z dX1_isTextSound_65 (by decide) ?_
            refine x_goto Z 70 dX1_isTextSound_66 (by decide) ?_
            refine x_icmpb_ne Z 77 dX1_isTextSound_70 (by decide) (fun c70 => ?_) (fun c70 => ?_)
            ·
              refine x_ib false Z dX1_isTextSound_77 (by decide) ?_
              exact x_zret Z E (⟨⟨_, rfl⟩, _, ht, hf⟩) dX1_isTextSound_78 (Nat.le_of_ble_eq_true rfl) (Nat.le_of_ble_eq_true rfl)
            ·
              refine x_ib true Z dX1_isTextSound_73 (by decide) ?_
              refine x_goto Z 78 dX1_isTextSound_74 (by decide) ?_
              exact x_zret Z E (⟨⟨_, rfl⟩, _, ht, hf⟩) dX1_isTextSound_78 (Nat.le_of_ble_eq_true rfl) (Nat.le_of_ble_eq_true rfl)
abbrev rmc_X1_digestFrom : Room := { frames := 5, cells := 0, slots := 0, locals := 110 }
set_option maxRecDepth 100000 in
theorem c_X1_digestFrom {l : Launch} {s0 : State} {G : gK} {w : wd} (h0 : gS0 s0) (htr : l.stackTraces = false) {a r bb : Nat} {n : Int} {C B : Int → Int} {x : Int64} (ht : tX G w a r bb n C B) : gM l s0 G yX1_digestFrom [Cond.code yX1_digestFrom cX1_digestFrom 6 (some .long)] rmc_X1_digestFrom [rv a, .long x] w (fun v w' => (∃ y : Int64, v = some (.long y)) ∧ tB G w a r bb n C w') (noX) := by
  refine g_of h0 htr (by decide +kernel) (Nat.le_of_ble_eq_true rfl) ?_
  intro b Z0 E
  have Z : gAm b l s0 G cX1_digestFrom RX1 6 rmc_X1_digestFrom := Z0
  refine x_el (L' := [(0, rv a), (1, .long x)]) rfl ?_
  obtain ⟨ha, hr, hb, hn0, hn30, hC⟩ := id ht
  refine x_lload_n Z dX1_digestFrom_0 rfl rfl ?_
  refine x_aload_n Z dX1_digestFrom_1 rfl rfl ?_
  refine x_getf (ci := 2) (j := 1) (C := RX1) (T := TX1) (N := 3) Z inX1g rfl (by decide) q73 rfl dX1_digestFrom_2 (by assumption) rfl ?_
  refine x_callSN Z okX2_mixed q196 q197 dX1_digestFrom_5 (c_X2_mixed h0 htr ) ⟨Nat.le_of_ble_eq_true rfl, Nat.le_of_ble_eq_true rfl, Nat.le_of_ble_eq_true rfl, Nat.le_of_ble_eq_true rfl⟩ rfl rfl (Nat.le_of_ble_eq_true rfl) (fun v9 w9 hR => ?_)
  obtain ⟨rfl, e9⟩ := hR
  refine x_ew e9 ?_
  simp only [Option.toList_some, Option.toList_none, List.cons_append, List.nil_append]
  refine x_lstore_n (L' := [(3, _), (0, _), (1, _)]) Z dX1_digestFrom_8 rfl (Nat.le_of_ble_eq_true rfl) rfl ?_
  refine x_iconst Z dX1_digestFrom_9 ?_
  refine x_istore (L' := [(5, _), (3, _), (0, _), (1, _)]) Z dX1_digestFrom_10 (Nat.le_of_ble_eq_true rfl) rfl ?_
  have loop12 : ∀ (fu : Nat) (i : Int) (x1 : Int64), n - i < (fu : Int) → (0 ≤ i ∧ i ≤ n) → gX b s0 G (0) (0) 12 [(5, iv i), (3, .long x1), (0, rv a)] [] (w) := by
    intro fu; induction fu with
    | zero => intro i x1 hm hv; exact absurd hm (by omega)
    | succ fu ih12 =>
      intro i x1 hm hv
      obtain ⟨hi0, hin⟩ := hv
      refine x_iload Z dX1_digestFrom_12 rfl ?_
      refine x_aload_n Z dX1_digestFrom_14 rfl rfl ?_
      refine x_getf (ci := 2) (j := 1) (C := RX1) (T := TX1) (N := 3) Z inX1g rfl (by decide) q73 rfl dX1_digestFrom_15 (by assumption) rfl ?_
      refine x_icmp_ge Z 49 dX1_digestFrom_18 (by decide) ⟨by omega, by omega⟩ ⟨by omega, by omega⟩ (fun c18 => ?_) (fun c18 => ?_)
      ·
        refine x_iconst Z dX1_digestFrom_49 ?_
        refine x_istore (L' := [(5, _), (3, _), (0, _)]) Z dX1_digestFrom_50 (Nat.le_of_ble_eq_true rfl) rfl ?_
        have loop52 : ∀ (fu : Nat) (i : Int) (x1 : Int64), 14 - i < (fu : Int) → (0 ≤ i ∧ i ≤ 14) → gX b s0 G (0) (0) 52 [(5, iv i), (3, .long x1), (0, rv a)] [] (w) := by
          intro fu; induction fu with
          | zero => intro i x1 hm hv; exact absurd hm (by omega)
          | succ fu ih52 =>
            intro i x1 hm hv
            obtain ⟨hi0, hin⟩ := hv
            refine x_iload Z dX1_digestFrom_52 rfl ?_
            refine x_bipush Z dX1_digestFrom_54 (by decide +kernel) ?_
            refine x_icmp_gt Z 79 dX1_digestFrom_56 (by decide) ⟨by omega, by omega⟩ ⟨by omega, by omega⟩ (fun c56 => ?_) (fun c56 => ?_)
            ·
              refine x_lload_n Z dX1_digestFrom_79 rfl rfl ?_
              refine x_aload_n Z dX1_digestFrom_80 rfl rfl ?_
              refine x_callV (ci := 2) (C := RX1) (T := TX1) (N := 3) Z okX1_firstFault q180 q181 q182 rfl dX1_digestFrom_81 (c_X1_firstFault h0 htr ht) ht.1 ⟨Nat.le_of_ble_eq_true rfl, Nat.le_of_ble_eq_true rfl, Nat.le_of_ble_eq_true rfl, Nat.le_of_ble_eq_true rfl⟩ rfl rfl (Nat.le_of_ble_eq_true rfl) (fun v9 w9 hR => ?_)
              obtain ⟨rfl, e9⟩ := hR
              refine x_ew e9 ?_
              simp only [Option.toList_some, Option.toList_none, List.cons_append, List.nil_append]
              refine x_callSN Z okX2_mixed q196 q197 dX1_digestFrom_84 (c_X2_mixed h0 htr ) ⟨Nat.le_of_ble_eq_true rfl, Nat.le_of_ble_eq_true rfl, Nat.le_of_ble_eq_true rfl, Nat.le_of_ble_eq_true rfl⟩ rfl rfl (Nat.le_of_ble_eq_true rfl) (fun v9 w9 hR => ?_)
              obtain ⟨rfl, e9⟩ := hR
              refine x_ew e9 ?_
              simp only [Option.toList_some, Option.toList_none, List.cons_append, List.nil_append]
              refine x_lstore_n (L' := [(3, _), (5, _), (0, _)]) Z dX1_digestFrom_87 rfl (Nat.le_of_ble_eq_true rfl) rfl ?_
              refine x_lload_n Z dX1_digestFrom_88 rfl rfl ?_
              refine x_aload_n Z dX1_digestFrom_89 rfl rfl ?_
              refine x_callV (ci := 2) (C := RX1) (T := TX1) (N := 3) Z okX1_begins q117 q118 q119 rfl dX1_digestFrom_90 (c_X1_begins h0 htr ht) ht.1 ⟨Nat.le_of_ble_eq_true rfl, Nat.le_of_ble_eq_true rfl, Nat.le_of_ble_eq_true rfl, Nat.le_of_ble_eq_true rfl⟩ rfl rfl (Nat.le_of_ble_eq_true rfl) (fun v9 w9 hR => ?_)
              obtain ⟨rfl, e9⟩ := hR
              refine x_ew e9 ?_
              simp only [Option.toList_some, Option.toList_none, List.cons_append, List.nil_append]
              refine x_callS Z okJ6_bitCount_0f7a4 q154 q155 dX1_digestFrom_93 (c_J6_bitCount_0f7a4 h0 htr ) ⟨Nat.le_of_ble_eq_true rfl, Nat.le_of_ble_eq_true rfl, Nat.le_of_ble_eq_true rfl, Nat.le_of_ble_eq_true rfl⟩ rfl rfl (Nat.le_of_ble_eq_true rfl) (fun v9 w9 hR => ?_)
              obtain ⟨rfl, e9⟩ := hR
              refine x_ew e9 ?_
              simp only [Option.toList_some, Option.toList_none, List.cons_append, List.nil_append]
              refine x_callSN Z okX2_mixed q196 q197 dX1_digestFrom_96 (c_X2_mixed h0 htr ) ⟨Nat.le_of_ble_eq_true rfl, Nat.le_of_ble_eq_true rfl, Nat.le_of_ble_eq_true rfl, Nat.le_of_ble_eq_true rfl⟩ rfl rfl (Nat.le_of_ble_eq_true rfl) (fun v9 w9 hR => ?_)
              obtain ⟨rfl, e9⟩ := hR
              refine x_ew e9 ?_
              simp only [Option.toList_some, Option.toList_none, List.cons_append, List.nil_append]
              refine x_lstore_n (L' := [(3, _), (5, _), (0, _)]) Z dX1_digestFrom_99 rfl (Nat.le_of_ble_eq_true rfl) rfl ?_
              refine x_lload_n Z dX1_digestFrom_100 rfl rfl ?_
              refine x_aload_n Z dX1_digestFrom_101 rfl rfl ?_
              refine x_callV (ci := 2) (C := RX1) (T := TX1) (N := 3) Z okX1_begins q117 q118 q119 rfl dX1_digestFrom_102 (c_X1_begins h0 htr ht) ht.1 ⟨Nat.le_of_ble_eq_true rfl, Nat.le_of_ble_eq_true rfl, Nat.le_of_ble_eq_true rfl, Nat.le_of_ble_eq_true rfl⟩ rfl rfl (Nat.le_of_ble_eq_true rfl) (fun v9 w9 hR => ?_)
              obtain ⟨rfl, e9⟩ := hR
              refine x_ew e9 ?_
              simp only [Option.toList_some, Option.toList_none, List.cons_append, List.nil_append]
              refine x_callSN Z okX2_cutsOf q151 q152 dX1_digestFrom_105 (c_X2_cutsOf h0 htr ) ⟨Nat.le_of_ble_eq_true rfl, Nat.le_of_ble_eq_true rfl, Nat.le_of_ble_eq_true rfl, Nat.le_of_ble_eq_true rfl⟩ rfl rfl (Nat.le_of_ble_eq_true rfl) (fun v9 w9 hR => ?_)
              obtain ⟨rfl, e9⟩ := hR
              refine x_ew e9 ?_
              simp only [Option.toList_some, Option.toList_none, List.cons_append, List.nil_append]
              refine x_callSN Z okX2_mixed q196 q197 dX1_digestFrom_108 (c_X2_mixed h0 htr ) ⟨Nat.le_of_ble_eq_true rfl, Nat.le_of_ble_eq_true rfl, Nat.le_of_ble_eq_true rfl, Nat.le_of_ble_eq_true rfl⟩ rfl rfl (Nat.le_of_ble_eq_true rfl) (fun v9 w9 hR => ?_)
              obtain ⟨rfl, e9⟩ := hR
              refine x_ew e9 ?_
              simp only [Option.toList_some, Option.toList_none, List.cons_append, List.nil_append]
              refine x_lstore_n (L' := [(3, _), (5, _), (0, _)]) Z dX1_digestFrom_111 rfl (Nat.le_of_ble_eq_true rfl) rfl ?_
              refine x_lload_n Z dX1_digestFrom_112 rfl rfl ?_
              refine x_aload_n Z dX1_digestFrom_113 rfl rfl ?_
              refine x_callV (ci := 2) (C := RX1) (T := TX1) (N := 3) Z okX1_fewestPieces q164 q165 q166 rfl dX1_digestFrom_114 (c_X1_fewestPieces h0 htr ht) ht.1 ⟨Nat.le_of_ble_eq_true rfl, Nat.le_of_ble_eq_true rfl, Nat.le_of_ble_eq_true rfl, Nat.le_of_ble_eq_true rfl⟩ rfl rfl (Nat.le_of_ble_eq_true rfl) (fun v9 w9 hR => ?_)
              obtain ⟨⟨z, hz, rfl⟩, B, ht, hf9⟩ := hR
              obtain ⟨ha, hr, hb, hn0, hn30, hC⟩ := id ht
              simp only [Option.toList_some, Option.toList_none, List.cons_append, List.nil_append]
              refine x_callSN Z okX2_mixed q196 q197 dX1_digestFrom_117 (c_X2_mixed h0 htr ) ⟨Nat.le_of_ble_eq_true rfl, Nat.le_of_ble_eq_true rfl, Nat.le_of_ble_eq_true rfl, Nat.le_of_ble_eq_true rfl⟩ rfl rfl (Nat.le_of_ble_eq_true rfl) (fun v9 w9 hR => ?_)
              obtain ⟨rfl, e9⟩ := hR
              refine x_ew e9 ?_
              simp only [Option.toList_some, Option.toList_none, List.cons_append, List.nil_append]
              exact x_lret Z E (⟨⟨_, rfl⟩, _, ht, hf9⟩) dX1_digestFrom_120 (Nat.le_of_ble_eq_true rfl) (Nat.le_of_ble_eq_true rfl)
            ·
              refine x_lload_n Z dX1_digestFrom_59 rfl rfl ?_
              refine x_aload_n Z dX1_digestFrom_60 rfl rfl ?_
              refine x_iload Z dX1_digestFrom_61 rfl ?_
              refine x_callV (ci := 2) (C := RX1) (T := TX1) (N := 3) Z okX1_placesOf q205 q206 q207 rfl dX1_digestFrom_63 (c_X1_placesOf h0 htr ht (by omega) (by omega)) ht.1 ⟨Nat.le_of_ble_eq_true rfl, Nat.le_of_ble_eq_true rfl, Nat.le_of_ble_eq_true rfl, Nat.le_of_ble_eq_true rfl⟩ rfl rfl (Nat.le_of_ble_eq_true rfl) (fun v9 w9 hR => ?_)
              obtain ⟨rfl, e9⟩ := hR
              refine x_ew e9 ?_
              simp only [Option.toList_some, Option.toList_none, List.cons_append, List.nil_append]
              refine x_callS Z okJ6_bitCount_0f7a4 q154 q155 dX1_digestFrom_66 (c_J6_bitCount_0f7a4 h0 htr ) ⟨Nat.le_of_ble_eq_true rfl, Nat.le_of_ble_eq_true rfl, Nat.le_of_ble_eq_true rfl, Nat.le_of_ble_eq_true rfl⟩ rfl rfl (Nat.le_of_ble_eq_true rfl) (fun v9 w9 hR => ?_)
              obtain ⟨rfl, e9⟩ := hR
              refine x_ew e9 ?_
              simp only [Option.toList_some, Option.toList_none, List.cons_append, List.nil_append]
              refine x_callSN Z okX2_mixed q196 q197 dX1_digestFrom_69 (c_X2_mixed h0 htr ) ⟨Nat.le_of_ble_eq_true rfl, Nat.le_of_ble_eq_true rfl, Nat.le_of_ble_eq_true rfl, Nat.le_of_ble_eq_true rfl⟩ rfl rfl (Nat.le_of_ble_eq_true rfl) (fun v9 w9 hR => ?_)
              obtain ⟨rfl, e9⟩ := hR
              refine x_ew e9 ?_
              simp only [Option.toList_some, Option.toList_none, List.cons_append, List.nil_append]
              refine x_lstore_n (L' := [(3, _), (5, _), (0, _)]) Z dX1_digestFrom_72 rfl (Nat.le_of_ble_eq_true rfl) rfl ?_
              refine x_iinc (L' := [(5, _), (3, _), (0, _)]) Z dX1_digestFrom_73 rfl (Nat.le_of_ble_eq_true rfl) rfl ?_
              refine x_goto Z 52 dX1_digestFrom_76 (by decide) ?_
              exact ih52 (i + 1) _ (by omega) ⟨by omega, by omega⟩
        exact loop52 20 0 _ (by omega) ⟨by omega, by omega⟩
      ·
        refine x_lload_n Z dX1_digestFrom_21 rfl rfl ?_
        refine x_aload_n Z dX1_digestFrom_22 rfl rfl ?_
        refine x_iload Z dX1_digestFrom_23 rfl ?_
        refine x_callV (ci := 2) (C := RX1) (T := TX1) (N := 3) Z okX1_signAt q125 q126 q127 rfl dX1_digestFrom_25 (c_X1_signAt h0 htr ht (by omega) (by omega)) ht.1 ⟨Nat.le_of_ble_eq_true rfl, Nat.le_of_ble_eq_true rfl, Nat.le_of_ble_eq_true rfl, Nat.le_of_ble_eq_true rfl⟩ rfl rfl (Nat.le_of_ble_eq_true rfl) (fun v9 w9 hR => ?_)
        obtain ⟨rfl, e9⟩ := hR
        refine x_ew e9 ?_
        simp only [Option.toList_some, Option.toList_none, List.cons_append, List.nil_append]
        refine x_callSN Z okX2_mixed q196 q197 dX1_digestFrom_28 (c_X2_mixed h0 htr ) ⟨Nat.le_of_ble_eq_true rfl, Nat.le_of_ble_eq_true rfl, Nat.le_of_ble_eq_true rfl, Nat.le_of_ble_eq_true rfl⟩ rfl rfl (Nat.le_of_ble_eq_true rfl) (fun v9 w9 hR => ?_)
        obtain ⟨rfl, e9⟩ := hR
        refine x_ew e9 ?_
        simp only [Option.toList_some, Option.toList_none, List.cons_append, List.nil_append]
        refine x_lstore_n (L' := [(3, _), (5, _), (0, _)]) Z dX1_digestFrom_31 rfl (Nat.le_of_ble_eq_true rfl) rfl ?_
        refine x_lload_n Z dX1_digestFrom_32 rfl rfl ?_
        refine x_aload_n Z dX1_digestFrom_33 rfl rfl ?_
        refine x_iload Z dX1_digestFrom_34 rfl ?_
        refine x_callV (ci := 2) (C := RX1) (T := TX1) (N := 3) Z okX1_kindAt q200 q201 q202 rfl dX1_digestFrom_36 (c_X1_kindAt h0 htr ht (by omega) (by omega)) ht.1 ⟨Nat.le_of_ble_eq_true rfl, Nat.le_of_ble_eq_true rfl, Nat.le_of_ble_eq_true rfl, Nat.le_of_ble_eq_true rfl⟩ rfl rfl (Nat.le_of_ble_eq_true rfl) (fun v9 w9 hR => ?_)
        obtain ⟨rfl, e9⟩ := hR
        refine x_ew e9 ?_
        simp only [Option.toList_some, Option.toList_none, List.cons_append, List.nil_append]
        refine x_callSN Z okX2_mixed q196 q197 dX1_digestFrom_39 (c_X2_mixed h0 htr ) ⟨Nat.le_of_ble_eq_true rfl, Nat.le_of_ble_eq_true rfl, Nat.le_of_ble_eq_true rfl, Nat.le_of_ble_eq_true rfl⟩ rfl rfl (Nat.le_of_ble_eq_true rfl) (fun v9 w9 hR => ?_)
        obtain ⟨rfl, e9⟩ := hR
        refine x_ew e9 ?_
        simp only [Option.toList_some, Option.toList_none, List.cons_append, List.nil_append]
        refine x_lstore_n (L' := [(3, _), (5, _), (0, _)]) Z dX1_digestFrom_42 rfl (Nat.le_of_ble_eq_true rfl) rfl ?_
        refine x_iinc (L' := [(5, _), (3, _), (0, _)]) Z dX1_digestFrom_43 rfl (Nat.le_of_ble_eq_true rfl) rfl ?_
        refine x_goto Z 12 dX1_digestFrom_46 (by decide) ?_
        exact ih12 (i + 1) _ (by omega) ⟨by omega, by omega⟩
  refine x_sub [0, 1, 2] rfl ?_
  exact loop12 (n.toNat + 1) 0 _ (by omega) ⟨by omega, by omega⟩
end
section
/-! spec3: walks, by program -/
theorem q3 : Cond.selects RX2 yX2_textAt yX2_textAt ∈ gT := gt_of 3 rfl rfl
theorem q4 : Cond.selects RX2 yX2_inserted yX2_inserted ∈ gT := gt_of 4 rfl rfl
theorem q5 : Cond.selects RX2 yX2_refused yX2_refused ∈ gT := gt_of 5 rfl rfl
theorem q6 : Cond.selects RX2 yX2_acted yX2_acted ∈ gT := gt_of 6 rfl rfl
theorem q84 : Cond.fieldLink RX2 11 "Kindcutter" "texts" "[LKindcutter$Text;" ∈ gT := gt_of 84 rfl rfl
theorem q85 : Cond.fieldLink RX2 169 "Kindcutter" "acts" "I" ∈ gT := gt_of 85 rfl rfl
theorem q86 : Cond.fieldLink RX2 173 "Kindcutter" "refusals" "I" ∈ gT := gt_of 86 rfl rfl
theorem q87 : Cond.fieldLink RX2 176 "Kindcutter" "knocks" "I" ∈ gT := gt_of 87 rfl rfl
theorem q217 : Cond.methodLink RX2 24 yX1_size ∈ gT := gt_of 217 rfl rfl
theorem q218 : Cond.instanceMethod yX1_size ∈ gT := gt_of 218 rfl rfl
theorem q219 : Cond.selects RX1 yX1_size yX1_size ∈ gT := gt_of 219 rfl rfl
theorem q220 : Cond.code yX1_size cX1_size 1 (some .int) ∈ gT := gt_of 220 rfl rfl
theorem q313 : Cond.methodLink RX2 16 yX2_textAt ∈ gT := gt_of 313 rfl rfl
theorem q315 : Cond.instanceMethod yX2_textAt ∈ gT := gt_of 315 rfl rfl
theorem q316 : Cond.code yX2_textAt cX2_textAt 2 (some (.object "Kindcutter$Text")) ∈ gT := gt_of 316 rfl rfl
theorem q332 : Cond.methodLink RX2 20 yX2_checkSign ∈ gT := gt_of 332 rfl rfl
theorem q333 : Cond.static yX2_checkSign ∈ gT := gt_of 333 rfl rfl
theorem q334 : Cond.code yX2_checkSign cX2_checkSign 1 none ∈ gT := gt_of 334 rfl rfl
theorem q335 : Cond.methodLink RX2 28 yX2_inserted ∈ gT := gt_of 335 rfl rfl
theorem q337 : Cond.instanceMethod yX2_inserted ∈ gT := gt_of 337 rfl rfl
theorem q338 : Cond.code yX2_inserted cX2_inserted 4 (some .int) ∈ gT := gt_of 338 rfl rfl
theorem q339 : Cond.methodLink RX2 60 yX2_refused ∈ gT := gt_of 339 rfl rfl
theorem q341 : Cond.instanceMethod yX2_refused ∈ gT := gt_of 341 rfl rfl
theorem q342 : Cond.code yX2_refused cX2_refused 1 (some .int) ∈ gT := gt_of 342 rfl rfl
theorem q343 : Cond.methodLink RX2 74 yX1_insertSign ∈ gT := gt_of 343 rfl rfl
theorem q344 : Cond.instanceMethod yX1_insertSign ∈ gT := gt_of 344 rfl rfl
theorem q345 : Cond.selects RX1 yX1_insertSign yX1_insertSign ∈ gT := gt_of 345 rfl rfl
theorem q346 : Cond.code yX1_insertSign cX1_insertSign 4 none ∈ gT := gt_of 346 rfl rfl
theorem q351 : Cond.methodLink RX2 44 yX2_acted ∈ gT := gt_of 351 rfl rfl
theorem q353 : Cond.instanceMethod yX2_acted ∈ gT := gt_of 353 rfl rfl
theorem q354 : Cond.code yX2_acted cX2_acted 2 (some .int) ∈ gT := gt_of 354 rfl rfl
theorem q362 : Cond.methodLink RX2 32 yX2_checkPlace ∈ gT := gt_of 362 rfl rfl
theorem q363 : Cond.static yX2_checkPlace ∈ gT := gt_of 363 rfl rfl
theorem q364 : Cond.code yX2_checkPlace cX2_checkPlace 2 none ∈ gT := gt_of 364 rfl rfl
theorem q365 : Cond.methodLink RX2 36 yX1_signAt ∈ gT := gt_of 365 rfl rfl
theorem q366 : Cond.methodLink RX2 40 yX1_setSign ∈ gT := gt_of 366 rfl rfl
theorem q381 : Cond.methodLink RX2 50 yX1_allPlaces ∈ gT := gt_of 381 rfl rfl
theorem q382 : Cond.instanceMethod yX1_allPlaces ∈ gT := gt_of 382 rfl rfl
theorem q383 : Cond.selects RX1 yX1_allPlaces yX1_allPlaces ∈ gT := gt_of 383 rfl rfl
theorem q384 : Cond.code yX1_allPlaces cX1_allPlaces 1 (some .int) ∈ gT := gt_of 384 rfl rfl
theorem q385 : Cond.methodLink RX2 53 yX1_retain ∈ gT := gt_of 385 rfl rfl
theorem q386 : Cond.instanceMethod yX1_retain ∈ gT := gt_of 386 rfl rfl
theorem q387 : Cond.selects RX1 yX1_retain yX1_retain ∈ gT := gt_of 387 rfl rfl
theorem q388 : Cond.code yX1_retain cX1_retain 4 (some .int) ∈ gT := gt_of 388 rfl rfl
theorem q403 : Cond.methodLink RX2 56 yX1_become ∈ gT := gt_of 403 rfl rfl
theorem q404 : Cond.instanceMethod yX1_become ∈ gT := gt_of 404 rfl rfl
theorem q405 : Cond.selects RX1 yX1_become yX1_become ∈ gT := gt_of 405 rfl rfl
theorem q406 : Cond.code yX1_become cX1_become 5 none ∈ gT := gt_of 406 rfl rfl
theorem q414 : Cond.methodLink RX2 63 yX1_append ∈ gT := gt_of 414 rfl rfl
theorem q415 : Cond.instanceMethod yX1_append ∈ gT := gt_of 415 rfl rfl
theorem q416 : Cond.selects RX1 yX1_append yX1_append ∈ gT := gt_of 416 rfl rfl
theorem q417 : Cond.code yX1_append cX1_append 4 none ∈ gT := gt_of 417 rfl rfl
theorem q425 : Cond.methodLink RX2 67 yX1_reverse ∈ gT := gt_of 425 rfl rfl
theorem q426 : Cond.instanceMethod yX1_reverse ∈ gT := gt_of 426 rfl rfl
theorem q427 : Cond.selects RX1 yX1_reverse yX1_reverse ∈ gT := gt_of 427 rfl rfl
theorem q428 : Cond.code yX1_reverse cX1_reverse 5 (some .boolean) ∈ gT := gt_of 428 rfl rfl
theorem q450 : Cond.methodLink RX2 77 yX2_checkQuestion ∈ gT := gt_of 450 rfl rfl
theorem q451 : Cond.static yX2_checkQuestion ∈ gT := gt_of 451 rfl rfl
theorem q452 : Cond.code yX2_checkQuestion cX2_checkQuestion 1 none ∈ gT := gt_of 452 rfl rfl
theorem q453 : Cond.methodLink RX2 80 yX1_placesOf ∈ gT := gt_of 453 rfl rfl
theorem q454 : Cond.methodLink RX2 83 yX2_sifted ∈ gT := gt_of 454 rfl rfl
theorem q455 : Cond.static yX2_sifted ∈ gT := gt_of 455 rfl rfl
theorem q456 : Cond.code yX2_sifted cX2_sifted 3 (some .int) ∈ gT := gt_of 456 rfl rfl
theorem q464 : Cond.methodLink RX2 87 yX2_checkKind ∈ gT := gt_of 464 rfl rfl
theorem q465 : Cond.static yX2_checkKind ∈ gT := gt_of 465 rfl rfl
theorem q466 : Cond.code yX2_checkKind cX2_checkKind 1 none ∈ gT := gt_of 466 rfl rfl
theorem q467 : Cond.methodLink RX2 90 yX1_placesOfKind ∈ gT := gt_of 467 rfl rfl
theorem q468 : Cond.instanceMethod yX1_placesOfKind ∈ gT := gt_of 468 rfl rfl
theorem q469 : Cond.selects RX1 yX1_placesOfKind yX1_placesOfKind ∈ gT := gt_of 469 rfl rfl
theorem q470 : Cond.code yX1_placesOfKind cX1_placesOfKind 4 (some .int) ∈ gT := gt_of 470 rfl rfl
theorem q478 : Cond.methodLink RX2 93 yX2_beginOfPiece ∈ gT := gt_of 478 rfl rfl
theorem q479 : Cond.static yX2_beginOfPiece ∈ gT := gt_of 479 rfl rfl
theorem q480 : Cond.code yX2_beginOfPiece cX2_beginOfPiece 3 (some .int) ∈ gT := gt_of 480 rfl rfl
theorem q481 : Cond.methodLink RX2 204 yX1_beginOf ∈ gT := gt_of 481 rfl rfl
theorem q482 : Cond.instanceMethod yX1_beginOf ∈ gT := gt_of 482 rfl rfl
theorem q483 : Cond.selects RX1 yX1_beginOf yX1_beginOf ∈ gT := gt_of 483 rfl rfl
theorem q484 : Cond.code yX1_beginOf cX1_beginOf 5 (some .int) ∈ gT := gt_of 484 rfl rfl
theorem q485 : Cond.methodLink RX2 97 yX1_longestAt ∈ gT := gt_of 485 rfl rfl
theorem q493 : Cond.methodLink RX2 100 yX0_isLet ∈ gT := gt_of 493 rfl rfl
theorem okX2_checkSign : gOk yX2_checkSign cX2_checkSign 1 none 1 := ⟨q334, q36, ⟨by decide +kernel, by decide +kernel⟩, by decide +kernel⟩
theorem okX1_size : gOk yX1_size cX1_size 1 (some .int) 0 := ⟨q220, q37, ⟨by decide +kernel, by decide +kernel⟩, by decide +kernel⟩
theorem okX1_beginOf : gOk yX1_beginOf cX1_beginOf 5 (some .int) 1 := ⟨q484, q37, ⟨by decide +kernel, by decide +kernel⟩, by decide +kernel⟩
theorem okX1_insertSign : gOk yX1_insertSign cX1_insertSign 4 none 2 := ⟨q346, q37, ⟨by decide +kernel, by decide +kernel⟩, by decide +kernel⟩
theorem okX2_acted : gOk yX2_acted cX2_acted 2 (some .int) 1 := ⟨q354, q36, ⟨by decide +kernel, by decide +kernel⟩, by decide +kernel⟩
theorem okX2_refused : gOk yX2_refused cX2_refused 1 (some .int) 0 := ⟨q342, q36, ⟨by decide +kernel, by decide +kernel⟩, by decide +kernel⟩
theorem okX2_textAt : gOk yX2_textAt cX2_textAt 2 (some (.object "Kindcutter$Text")) 1 := ⟨q316, q36, ⟨by decide +kernel, by decide +kernel⟩, by decide +kernel⟩
theorem okX2_inserted : gOk yX2_inserted cX2_inserted 4 (some .int) 3 := ⟨q338, q36, ⟨by decide +kernel, by decide +kernel⟩, by decide +kernel⟩
theorem okX2_checkPlace : gOk yX2_checkPlace cX2_checkPlace 2 none 2 := ⟨q364, q36, ⟨by decide +kernel, by decide +kernel⟩, by decide +kernel⟩
theorem okX1_allPlaces : gOk yX1_allPlaces cX1_allPlaces 1 (some .int) 0 := ⟨q384, q37, ⟨by decide +kernel, by decide +kernel⟩, by decide +kernel⟩
theorem okX1_retain : gOk yX1_retain cX1_retain 4 (some .int) 1 := ⟨q388, q37, ⟨by decide +kernel, by decide +kernel⟩, by decide +kernel⟩
theorem okX1_become : gOk yX1_become cX1_become 5 none 3 := ⟨q406, q37, ⟨by decide +kernel, by decide +kernel⟩, by decide +kernel⟩
theorem okX1_append : gOk yX1_append cX1_append 4 none 1 := ⟨q417, q37, ⟨by decide +kernel, by decide +kernel⟩, by decide +kernel⟩
theorem okX1_reverse : gOk yX1_reverse cX1_reverse 5 (some .boolean) 0 := ⟨q428, q37, ⟨by decide +kernel, by decide +kernel⟩, by decide +kernel⟩
theorem okX2_checkQuestion : gOk yX2_checkQuestion cX2_checkQuestion 1 none 1 := ⟨q452, q36, ⟨by decide +kernel, by decide +kernel⟩, by decide +kernel⟩
theorem okX2_sifted : gOk yX2_sifted cX2_sifted 3 (some .int) 3 := ⟨q456, q36, ⟨by decide +kernel, by decide +kernel⟩, by decide +kernel⟩
theorem okX2_checkKind : gOk yX2_checkKind cX2_checkKind 1 none 1 := ⟨q466, q36, ⟨by decide +kernel, by decide +kernel⟩, by decide +kernel⟩
theorem okX1_placesOfKind : gOk yX1_placesOfKind cX1_placesOfKind 4 (some .int) 1 := ⟨q470, q37, ⟨by decide +kernel, by decide +kernel⟩, by decide +kernel⟩
theorem okX2_beginOfPiece : gOk yX2_beginOfPiece cX2_beginOfPiece 3 (some .int) 2 := ⟨q480, q36, ⟨by decide +kernel, by decide +kernel⟩, by decide +kernel⟩
abbrev rmc_X2_textAt : Room := { frames := 6, cells := 1, slots := 6, locals := 100 }
set_option maxRecDepth 100000 in
theorem c_X2_textAt {l : Launch} {s0 : State} {G : gK} {w : wd} (h0 : gS0 s0) (htr : l.stackTraces = false) {K : kA} {M : kM} {p : Int} (hS : kS G w K M) (hp : inr p) : gM l s0 G yX2_textAt [Cond.code yX2_textAt cX2_textAt 2 (some (.object "Kindcutter$Text"))] rmc_X2_textAt [rv K.1, iv p] w (fun v w' => (v = some (rv (K.2.2.1 p)) ∧ w' = w) ∧ 0 ≤ p ∧ p < 3) (fun X w' => X = "java/lang/IndexOutOfBoundsException" ∧ w' = w) := by
  refine g_of h0 htr (by decide +kernel) (Nat.le_of_ble_eq_true rfl) ?_
  intro b Z0 E
  have Z : gAm b l s0 G cX2_textAt RX2 2 rmc_X2_textAt := Z0
  refine x_el (L' := [(0, rv K.1), (1, iv p)]) rfl ?_
  obtain ⟨hk1, ⟨f0, hk2, hk3⟩, hk4, hk5⟩ := id hS
  have hf0 : fr (kP K) w w := fr.rf
  refine x_iload_n Z dX2_textAt_0 rfl rfl ?_
  refine x_if_lt Z 9 dX2_textAt_1 (by decide) ⟨by omega, by omega⟩ (fun c1 => ?_) (fun c1 => ?_)
  ·
    exact x_thr Z E (cls := "java/lang/IndexOutOfBoundsException") (ik := 47) (ic := 49) (by decide +kernel) wsIO dX2_textAt_9 dX2_textAt_12 dX2_textAt_13 dX2_textAt_16 (Nat.le_of_ble_eq_true rfl) (Nat.le_of_ble_eq_true rfl) (Nat.le_of_ble_eq_true rfl) (Nat.le_of_ble_eq_true rfl) ⟨rfl, rfl⟩
  ·
    refine x_iload_n Z dX2_textAt_4 rfl rfl ?_
    refine x_iconst Z dX2_textAt_5 ?_
    refine x_icmp_lt Z 17 dX2_textAt_6 (by decide) ⟨by omega, by omega⟩ ⟨by omega, by omega⟩ (fun c6 => ?_) (fun c6 => ?_)
    ·
      refine x_aload_n Z dX2_textAt_17 rfl rfl ?_
      refine x_getf (ci := 3) (j := 0) (C := RX2) (T := TX2) (N := 4) Z inX2g rfl (by decide) q84 rfl dX2_textAt_18 (by assumption) rfl ?_
      refine x_iload_n Z dX2_textAt_21 rfl rfl ?_
      refine x_aaldT Z dX2_textAt_22 hk2 (by decide) (by omega) (by omega) (hk3 p (by omega) (by omega)) ?_
      exact x_aret Z E (⟨⟨rfl, rfl⟩, by omega, by omega⟩) dX2_textAt_23 (Nat.le_of_ble_eq_true rfl) (Nat.le_of_ble_eq_true rfl)
    ·
      exact x_thr Z E (cls := "java/lang/IndexOutOfBoundsException") (ik := 47) (ic := 49) (by decide +kernel) wsIO dX2_textAt_9 dX2_textAt_12 dX2_textAt_13 dX2_textAt_16 (Nat.le_of_ble_eq_true rfl) (Nat.le_of_ble_eq_true rfl) (Nat.le_of_ble_eq_true rfl) (Nat.le_of_ble_eq_true rfl) ⟨rfl, rfl⟩
abbrev rmc_X2_checkSign : Room := { frames := 6, cells := 1, slots := 6, locals := 100 }
set_option maxRecDepth 100000 in
theorem c_X2_checkSign {l : Launch} {s0 : State} {G : gK} {w : wd} (h0 : gS0 s0) (htr : l.stackTraces = false) {s : Int} (hp : inr s) : gM l s0 G yX2_checkSign [Cond.code yX2_checkSign cX2_checkSign 1 none] rmc_X2_checkSign [iv s] w (fun v w' => (v = none ∧ w' = w) ∧ 0 ≤ s ∧ s ≤ 255) (fun X w' => X = "java/lang/IllegalArgumentException" ∧ w' = w) := by
  refine g_of h0 htr (by decide +kernel) (Nat.le_of_ble_eq_true rfl) ?_
  intro b Z0 E
  have Z : gAm b l s0 G cX2_checkSign RX2 1 rmc_X2_checkSign := Z0
  refine x_el (L' := [(0, iv s)]) rfl ?_
  refine x_iload_n Z dX2_checkSign_0 rfl rfl ?_
  refine x_if_lt Z 11 dX2_checkSign_1 (by decide) ⟨by omega, by omega⟩ (fun c1 => ?_) (fun c1 => ?_)
  ·
    exact x_thr Z E (cls := "java/lang/IllegalArgumentException") (ik := 71) (ic := 73) (by decide +kernel) wsIA dX2_checkSign_11 dX2_checkSign_14 dX2_checkSign_15 dX2_checkSign_18 (Nat.le_of_ble_eq_true rfl) (Nat.le_of_ble_eq_true rfl) (Nat.le_of_ble_eq_true rfl) (Nat.le_of_ble_eq_true rfl) ⟨rfl, rfl⟩
  ·
    refine x_iload_n Z dX2_checkSign_4 rfl rfl ?_
    refine x_sipush Z dX2_checkSign_5 (by decide +kernel) ?_
    refine x_icmp_le Z 19 dX2_checkSign_8 (by decide) ⟨by omega, by omega⟩ ⟨by omega, by omega⟩ (fun c8 => ?_) (fun c8 => ?_)
    ·
      exact x_vret Z E (⟨⟨rfl, rfl⟩, by omega, by omega⟩) dX2_checkSign_19 (Nat.le_of_ble_eq_true rfl) (Nat.le_of_ble_eq_true rfl)
    ·
      exact x_thr Z E (cls := "java/lang/IllegalArgumentException") (ik := 71) (ic := 73) (by decide +kernel) wsIA dX2_checkSign_11 dX2_checkSign_14 dX2_checkSign_15 dX2_checkSign_18 (Nat.le_of_ble_eq_true rfl) (Nat.le_of_ble_eq_true rfl) (Nat.le_of_ble_eq_true rfl) (Nat.le_of_ble_eq_true rfl) ⟨rfl, rfl⟩
abbrev rmc_X2_checkKind : Room := { frames := 6, cells := 1, slots := 6, locals := 100 }
set_option maxRecDepth 100000 in
theorem c_X2_checkKind {l : Launch} {s0 : State} {G : gK} {w : wd} (h0 : gS0 s0) (htr : l.stackTraces = false) {s : Int} (hp : inr s) : gM l s0 G yX2_checkKind [Cond.code yX2_checkKind cX2_checkKind 1 none] rmc_X2_checkKind [iv s] w (fun v w' => (v = none ∧ w' = w) ∧ 0 ≤ s ∧ s ≤ 30) (fun X w' => X = "java/lang/IllegalArgumentException" ∧ w' = w) := by
  refine g_of h0 htr (by decide +kernel) (Nat.le_of_ble_eq_true rfl) ?_
  intro b Z0 E
  have Z : gAm b l s0 G cX2_checkKind RX2 1 rmc_X2_checkKind := Z0
  refine x_el (L' := [(0, iv s)]) rfl ?_
  refine x_iload_n Z dX2_checkKind_0 rfl rfl ?_
  refine x_if_lt Z 10 dX2_checkKind_1 (by decide) ⟨by omega, by omega⟩ (fun c1 => ?_) (fun c1 => ?_)
  ·
    exact x_thr Z E (cls := "java/lang/IllegalArgumentException") (ik := 71) (ic := 73) (by decide +kernel) wsIA dX2_checkKind_10 dX2_checkKind_13 dX2_checkKind_14 dX2_checkKind_17 (Nat.le_of_ble_eq_true rfl) (Nat.le_of_ble_eq_true rfl) (Nat.le_of_ble_eq_true rfl) (Nat.le_of_ble_eq_true rfl) ⟨rfl, rfl⟩
  ·
    refine x_iload_n Z dX2_checkKind_4 rfl rfl ?_
    refine x_bipush Z dX2_checkKind_5 (by decide +kernel) ?_
    refine x_icmp_le Z 18 dX2_checkKind_7 (by decide) ⟨by omega, by omega⟩ ⟨by omega, by omega⟩ (fun c7 => ?_) (fun c7 => ?_)
    ·
      exact x_vret Z E (⟨⟨rfl, rfl⟩, by omega, by omega⟩) dX2_checkKind_18 (Nat.le_of_ble_eq_true rfl) (Nat.le_of_ble_eq_true rfl)
    ·
      exact x_thr Z E (cls := "java/lang/IllegalArgumentException") (ik := 71) (ic := 73) (by decide +kernel) wsIA dX2_checkKind_10 dX2_checkKind_13 dX2_checkKind_14 dX2_checkKind_17 (Nat.le_of_ble_eq_true rfl) (Nat.le_of_ble_eq_true rfl) (Nat.le_of_ble_eq_true rfl) (Nat.le_of_ble_eq_true rfl) ⟨rfl, rfl⟩
abbrev rmc_X2_checkQuestion : Room := { frames := 6, cells := 1, slots := 6, locals := 100 }
set_option maxRecDepth 100000 in
theorem c_X2_checkQuestion {l : Launch} {s0 : State} {G : gK} {w : wd} (h0 : gS0 s0) (htr : l.stackTraces = false) {s : Int} (hp : inr s) : gM l s0 G yX2_checkQuestion [Cond.code yX2_checkQuestion cX2_checkQuestion 1 none] rmc_X2_checkQuestion [iv s] w (fun v w' => (v = none ∧ w' = w) ∧ 0 ≤ s ∧ s ≤ 13) (fun X w' => X = "java/lang/IllegalArgumentException" ∧ w' = w) := by
  refine g_of h0 htr (by decide +kernel) (Nat.le_of_ble_eq_true rfl) ?_
  intro b Z0 E
  have Z : gAm b l s0 G cX2_checkQuestion RX2 1 rmc_X2_checkQuestion := Z0
  refine x_el (L' := [(0, iv s)]) rfl ?_
  refine x_iload_n Z dX2_checkQuestion_0 rfl rfl ?_
  refine x_if_lt Z 10 dX2_checkQuestion_1 (by decide) ⟨by omega, by omega⟩ (fun c1 => ?_) (fun c1 => ?_)
  ·
    exact x_thr Z E (cls := "java/lang/IllegalArgumentException") (ik := 71) (ic := 73) (by decide +kernel) wsIA dX2_checkQuestion_10 dX2_checkQuestion_13 dX2_checkQuestion_14 dX2_checkQuestion_17 (Nat.le_of_ble_eq_true rfl) (Nat.le_of_ble_eq_true rfl) (Nat.le_of_ble_eq_true rfl) (Nat.le_of_ble_eq_true rfl) ⟨rfl, rfl⟩
  ·
    refine x_iload_n Z dX2_checkQuestion_4 rfl rfl ?_
    refine x_bipush Z dX2_checkQuestion_5 (by decide +kernel) ?_
    refine x_icmp_le Z 18 dX2_checkQuestion_7 (by decide) ⟨by omega, by omega⟩ ⟨by omega, by omega⟩ (fun c7 => ?_) (fun c7 => ?_)
    ·
      exact x_vret Z E (⟨⟨rfl, rfl⟩, by omega, by omega⟩) dX2_checkQuestion_18 (Nat.le_of_ble_eq_true rfl) (Nat.le_of_ble_eq_true rfl)
    ·
      exact x_thr Z E (cls := "java/lang/IllegalArgumentException") (ik := 71) (ic := 73) (by decide +kernel) wsIA dX2_checkQuestion_10 dX2_checkQuestion_13 dX2_checkQuestion_14 dX2_checkQuestion_17 (Nat.le_of_ble_eq_true rfl) (Nat.le_of_ble_eq_true rfl) (Nat.le_of_ble_eq_true rfl) (Nat.le_of_ble_eq_true rfl) ⟨rfl, rfl⟩
abbrev rmc_X2_checkSpan : Room := { frames := 7, cells := 3, slots := 18, locals := 120 }
set_option maxRecDepth 100000 in
theorem c_X2_checkSpan {l : Launch} {s0 : State} {G : gK} {w : wd} (h0 : gS0 s0) (htr : l.stackTraces = false) {f t : Int} (hp : inr f) (hp2 : inr t) : gM l s0 G yX2_checkSpan [Cond.code yX2_checkSpan cX2_checkSpan 2 none] rmc_X2_checkSpan [iv f, iv t] w (fun v w' => (v = none ∧ w' = w) ∧ 0 ≤ f ∧ f ≤ t ∧ t ≤ 255) (fun X w' => X = "java/lang/IllegalArgumentException" ∧ w' = w) := by
  refine g_of h0 htr (by decide +kernel) (Nat.le_of_ble_eq_true rfl) ?_
  intro b Z0 E
  have Z : gAm b l s0 G cX2_checkSpan RX2 2 rmc_X2_checkSpan := Z0
  refine x_el (L' := [(0, iv f), (1, iv t)]) rfl ?_
  refine x_iload_n Z dX2_checkSpan_0 rfl rfl ?_
  refine x_callSx Z okX2_checkSign q332 q333 dX2_checkSpan_1 (c_X2_checkSign h0 htr (by assumption)) ⟨Nat.le_of_ble_eq_true rfl, Nat.le_of_ble_eq_true rfl, Nat.le_of_ble_eq_true rfl, Nat.le_of_ble_eq_true rfl⟩ rfl rfl (Nat.le_of_ble_eq_true rfl) (fun X w9 hX => x_out Z E (hX) (Nat.le_of_ble_eq_true rfl) (Nat.le_of_ble_eq_true rfl)) (fun v9 w9 hR => ?_)
  obtain ⟨⟨rfl, e9⟩, hq0, hq9⟩ := hR
  refine x_ew e9 ?_
  simp only [Option.toList_some, Option.toList_none, List.cons_append, List.nil_append]
  refine x_iload_n Z dX2_checkSpan_4 rfl rfl ?_
  refine x_callSx Z okX2_checkSign q332 q333 dX2_checkSpan_5 (c_X2_checkSign h0 htr (by assumption)) ⟨Nat.le_of_ble_eq_true rfl, Nat.le_of_ble_eq_true rfl, Nat.le_of_ble_eq_true rfl, Nat.le_of_ble_eq_true rfl⟩ rfl rfl (Nat.le_of_ble_eq_true rfl) (fun X w9 hX => x_out Z E (hX) (Nat.le_of_ble_eq_true rfl) (Nat.le_of_ble_eq_true rfl)) (fun v9 w9 hR => ?_)
  obtain ⟨⟨rfl, e9⟩, hq0, hq9⟩ := hR
  refine x_ew e9 ?_
  simp only [Option.toList_some, Option.toList_none, List.cons_append, List.nil_append]
  refine x_iload_n Z dX2_checkSpan_8 rfl rfl ?_
  refine x_iload_n Z dX2_checkSpan_9 rfl rfl ?_
  refine x_icmp_le Z 21 dX2_checkSpan_10 (by decide) ⟨by omega, by omega⟩ ⟨by omega, by omega⟩ (fun c10 => ?_) (fun c10 => ?_)
  ·
    exact x_vret Z E (⟨⟨rfl, rfl⟩, by omega, by omega, by omega⟩) dX2_checkSpan_21 (Nat.le_of_ble_eq_true rfl) (Nat.le_of_ble_eq_true rfl)
  ·
    exact x_thr Z E (cls := "java/lang/IllegalArgumentException") (ik := 71) (ic := 73) (by decide +kernel) wsIA dX2_checkSpan_13 dX2_checkSpan_16 dX2_checkSpan_17 dX2_checkSpan_20 (Nat.le_of_ble_eq_true rfl) (Nat.le_of_ble_eq_true rfl) (Nat.le_of_ble_eq_true rfl) (Nat.le_of_ble_eq_true rfl) ⟨rfl, rfl⟩
abbrev rmc_X2_checkPlace : Room := { frames := 6, cells := 1, slots := 6, locals := 100 }
set_option maxRecDepth 100000 in
theorem c_X2_checkPlace {l : Launch} {s0 : State} {G : gK} {w : wd} (h0 : gS0 s0) (htr : l.stackTraces = false) {a r bb : Nat} {n : Int} {C B : Int → Int} {p : Int} (ht : tX G w a r bb n C B) (hp : inr p) : gM l s0 G yX2_checkPlace [Cond.code yX2_checkPlace cX2_checkPlace 2 none] rmc_X2_checkPlace [rv a, iv p] w (fun v w' => (v = none ∧ w' = w) ∧ 0 ≤ p ∧ p < n) (fun X w' => X = "java/lang/IndexOutOfBoundsException" ∧ w' = w) := by
  refine g_of h0 htr (by decide +kernel) (Nat.le_of_ble_eq_true rfl) ?_
  intro b Z0 E
  have Z : gAm b l s0 G cX2_checkPlace RX2 2 rmc_X2_checkPlace := Z0
  refine x_el (L' := [(0, rv a), (1, iv p)]) rfl ?_
  obtain ⟨ha, hr, hb, hn0, hn30, hC⟩ := id ht
  refine x_iload_n Z dX2_checkPlace_0 rfl rfl ?_
  refine x_if_lt Z 12 dX2_checkPlace_1 (by decide) ⟨by omega, by omega⟩ (fun c1 => ?_) (fun c1 => ?_)
  ·
    exact x_thr Z E (cls := "java/lang/IndexOutOfBoundsException") (ik := 47) (ic := 49) (by decide +kernel) wsIO dX2_checkPlace_12 dX2_checkPlace_15 dX2_checkPlace_16 dX2_checkPlace_19 (Nat.le_of_ble_eq_true rfl) (Nat.le_of_ble_eq_true rfl) (Nat.le_of_ble_eq_true rfl) (Nat.le_of_ble_eq_true rfl) ⟨rfl, rfl⟩
  ·
    refine x_iload_n Z dX2_checkPlace_4 rfl rfl ?_
    refine x_aload_n Z dX2_checkPlace_5 rfl rfl ?_
    refine x_callV (ci := 2) (C := RX1) (T := TX1) (N := 3) Z okX1_size q217 q218 q219 rfl dX2_checkPlace_6 (c_X1_size h0 htr ht) ht.1 ⟨Nat.le_of_ble_eq_true rfl, Nat.le_of_ble_eq_true rfl, Nat.le_of_ble_eq_true rfl, Nat.le_of_ble_eq_true rfl⟩ rfl rfl (Nat.le_of_ble_eq_true rfl) (fun v9 w9 hR => ?_)
    obtain ⟨rfl, e9⟩ := hR
    refine x_ew e9 ?_
    simp only [Option.toList_some, Option.toList_none, List.cons_append, List.nil_append]
    refine x_icmp_lt Z 20 dX2_checkPlace_9 (by decide) ⟨by omega, by omega⟩ ⟨by omega, by omega⟩ (fun c9 => ?_) (fun c9 => ?_)
    ·
      exact x_vret Z E (⟨⟨rfl, rfl⟩, by omega, by omega⟩) dX2_checkPlace_20 (Nat.le_of_ble_eq_true rfl) (Nat.le_of_ble_eq_true rfl)
    ·
      exact x_thr Z E (cls := "java/lang/IndexOutOfBoundsException") (ik := 47) (ic := 49) (by decide +kernel) wsIO dX2_checkPlace_12 dX2_checkPlace_15 dX2_checkPlace_16 dX2_checkPlace_19 (Nat.le_of_ble_eq_true rfl) (Nat.le_of_ble_eq_true rfl) (Nat.le_of_ble_eq_true rfl) (Nat.le_of_ble_eq_true rfl) ⟨rfl, rfl⟩
abbrev rmc_X2_beginOfPiece : Room := { frames := 6, cells := 1, slots := 6, locals := 134 }
set_option maxRecDepth 100000 in
theorem c_X2_beginOfPiece {l : Launch} {s0 : State} {G : gK} {w : wd} (h0 : gS0 s0) (htr : l.stackTraces = false) {a r bb : Nat} {n : Int} {C B : Int → Int} {p : Int} (ht : tX G w a r bb n C B) (hp : inr p) : gM l s0 G yX2_beginOfPiece [Cond.code yX2_beginOfPiece cX2_beginOfPiece 3 (some .int)] rmc_X2_beginOfPiece [rv a, iv p] w (fun v w' => ∃ z : Int, v = some (iv z) ∧ w' = w ∧ 0 ≤ z ∧ z < n) (fun X w' => X = "java/lang/IndexOutOfBoundsException" ∧ w' = w) := by
  refine g_of h0 htr (by decide +kernel) (Nat.le_of_ble_eq_true rfl) ?_
  intro b Z0 E
  have Z : gAm b l s0 G cX2_beginOfPiece RX2 3 rmc_X2_beginOfPiece := Z0
  refine x_el (L' := [(0, rv a), (1, iv p)]) rfl ?_
  obtain ⟨ha, hr, hb, hn0, hn30, hC⟩ := id ht
  refine x_aload_n Z dX2_beginOfPiece_0 rfl rfl ?_
  refine x_iload_n Z dX2_beginOfPiece_1 rfl rfl ?_
  refine x_callV (ci := 2) (C := RX1) (T := TX1) (N := 3) Z okX1_beginOf q481 q482 q483 rfl dX2_beginOfPiece_2 (c_X1_beginOf h0 htr ht (by assumption)) ht.1 ⟨Nat.le_of_ble_eq_true rfl, Nat.le_of_ble_eq_true rfl, Nat.le_of_ble_eq_true rfl, Nat.le_of_ble_eq_true rfl⟩ rfl rfl (Nat.le_of_ble_eq_true rfl) (fun v9 w9 hR => ?_)
  obtain ⟨z, rfl, e9, hz⟩ := hR
  refine x_ew e9 ?_
  simp only [Option.toList_some, Option.toList_none, List.cons_append, List.nil_append]
  refine x_istore_n (L' := [(2, _), (0, _), (1, _)]) Z dX2_beginOfPiece_5 rfl (Nat.le_of_ble_eq_true rfl) rfl ?_
  refine x_iload_n Z dX2_beginOfPiece_6 rfl rfl ?_
  refine x_iconst Z dX2_beginOfPiece_7 ?_
  refine x_icmp_ne Z 19 dX2_beginOfPiece_8 (by decide) ⟨by omega, by omega⟩ ⟨by omega, by omega⟩ (fun c8 => ?_) (fun c8 => ?_)
  ·
    refine x_iload_n Z dX2_beginOfPiece_19 rfl rfl ?_
    exact x_iret Z E (⟨_, rfl, rfl, by omega, by omega⟩) dX2_beginOfPiece_20 (Nat.le_of_ble_eq_true rfl) (Nat.le_of_ble_eq_true rfl)
  ·
    exact x_thr Z E (cls := "java/lang/IndexOutOfBoundsException") (ik := 47) (ic := 49) (by decide +kernel) wsIO dX2_beginOfPiece_11 dX2_beginOfPiece_14 dX2_beginOfPiece_15 dX2_beginOfPiece_18 (Nat.le_of_ble_eq_true rfl) (Nat.le_of_ble_eq_true rfl) (Nat.le_of_ble_eq_true rfl) (Nat.le_of_ble_eq_true rfl) ⟨rfl, rfl⟩
abbrev rmc_X2_acted : Room := { frames := 0, cells := 0, slots := 0, locals := 0 }
set_option maxRecDepth 100000 in
theorem c_X2_acted {l : Launch} {s0 : State} {G : gK} {w : wd} (h0 : gS0 s0) (htr : l.stackTraces = false) {K : kA} {M : kM} {z : Int} (hS : kS G w K M) : gM l s0 G yX2_acted [Cond.code yX2_acted cX2_acted 2 (some .int)] rmc_X2_acted [rv K.1, iv z] w (fun v w' => v = some (iv z) ∧ kS G w' K (M.1, M.2.1, M.2.2.1 + 1, M.2.2.2.1, M.2.2.2.2) ∧ fr (kP K) w w') (noX) := by
  refine g_of h0 htr (by decide +kernel) (Nat.le_of_ble_eq_true rfl) ?_
  intro b Z0 E
  have Z : gAm b l s0 G cX2_acted RX2 2 rmc_X2_acted := Z0
  refine x_el (L' := [(0, rv K.1), (1, iv z)]) rfl ?_
  obtain ⟨hk1, ⟨f0, hk2, hk3⟩, hk4, hk5⟩ := id hS
  have hf0 : fr (kP K) w w := fr.rf
  refine x_aload_n Z dX2_acted_0 rfl rfl ?_
  refine x_dup Z dX2_acted_1 rfl ?_
  refine x_getf (ci := 3) (j := 1) (C := RX2) (T := TX2) (N := 4) Z inX2g rfl (by decide) q85 rfl dX2_acted_2 (by assumption) rfl ?_
  refine x_iconst Z dX2_acted_5 ?_
  refine x_iadd Z dX2_acted_6 ?_
  refine x_putf (ci := 3) (j := 1) (C := RX2) (T := TX2) (N := 4) (fs' := [_, _, _, _]) Z tyX2 tyX2_ok nmX2 inX2g rfl (by decide) q85 rfl rfl rfl rfl rfl dX2_acted_7 (by assumption) (by exact Nat.le_of_ble_eq_true rfl) rfl ?_
  refine x_iload_n Z dX2_acted_10 rfl rfl ?_
  exact x_iret Z E (⟨rfl, hS.cnt _ _ _, fr.rf.set (Or.inl rfl)⟩) dX2_acted_11 (Nat.le_of_ble_eq_true rfl) (Nat.le_of_ble_eq_true rfl)
abbrev rmc_X2_refused : Room := { frames := 0, cells := 0, slots := 0, locals := 0 }
set_option maxRecDepth 100000 in
theorem c_X2_refused {l : Launch} {s0 : State} {G : gK} {w : wd} (h0 : gS0 s0) (htr : l.stackTraces = false) {K : kA} {M : kM} (hS : kS G w K M) : gM l s0 G yX2_refused [Cond.code yX2_refused cX2_refused 1 (some .int)] rmc_X2_refused [rv K.1] w (fun v w' => v = some (iv (-9)) ∧ kS G w' K (M.1, M.2.1, M.2.2.1, M.2.2.2.1 + 1, M.2.2.2.2) ∧ fr (kP K) w w') (noX) := by
  refine g_of h0 htr (by decide +kernel) (Nat.le_of_ble_eq_true rfl) ?_
  intro b Z0 E
  have Z : gAm b l s0 G cX2_refused RX2 1 rmc_X2_refused := Z0
  refine x_el (L' := [(0, rv K.1)]) rfl ?_
  obtain ⟨hk1, ⟨f0, hk2, hk3⟩, hk4, hk5⟩ := id hS
  have hf0 : fr (kP K) w w := fr.rf
  refine x_aload_n Z dX2_refused_0 rfl rfl ?_
  refine x_dup Z dX2_refused_1 rfl ?_
  refine x_getf (ci := 3) (j := 2) (C := RX2) (T := TX2) (N := 4) Z inX2g rfl (by decide) q86 rfl dX2_refused_2 (by assumption) rfl ?_
  refine x_iconst Z dX2_refused_5 ?_
  refine x_iadd Z dX2_refused_6 ?_
  refine x_putf (ci := 3) (j := 2) (C := RX2) (T := TX2) (N := 4) (fs' := [_, _, _, _]) Z tyX2 tyX2_ok nmX2 inX2g rfl (by decide) q86 rfl rfl rfl rfl rfl dX2_refused_7 (by assumption) (by exact Nat.le_of_ble_eq_true rfl) rfl ?_
  refine x_bipush Z dX2_refused_10 (by decide +kernel) ?_
  exact x_iret Z E (⟨rfl, hS.cnt _ _ _, fr.rf.set (Or.inl rfl)⟩) dX2_refused_12 (Nat.le_of_ble_eq_true rfl) (Nat.le_of_ble_eq_true rfl)
abbrev rmc_X2_knock : Room := { frames := 0, cells := 0, slots := 0, locals := 0 }
set_option maxRecDepth 100000 in
theorem c_X2_knock {l : Launch} {s0 : State} {G : gK} {w : wd} (h0 : gS0 s0) (htr : l.stackTraces = false) {K : kA} {M : kM} (hS : kS G w K M) : gM l s0 G yX2_knock [Cond.code yX2_knock cX2_knock 1 (some .int)] rmc_X2_knock [rv K.1] w (fun v w' => v = some (iv (M.2.2.2.2 + 1)) ∧ kS G w' K (M.1, M.2.1, M.2.2.1, M.2.2.2.1, M.2.2.2.2 + 1) ∧ fr (kP K) w w') (noX) := by
  refine g_of h0 htr (by decide +kernel) (Nat.le_of_ble_eq_true rfl) ?_
  intro b Z0 E
  have Z : gAm b l s0 G cX2_knock RX2 1 rmc_X2_knock := Z0
  refine x_el (L' := [(0, rv K.1)]) rfl ?_
  obtain ⟨hk1, ⟨f0, hk2, hk3⟩, hk4, hk5⟩ := id hS
  have hf0 : fr (kP K) w w := fr.rf
  refine x_aload_n Z dX2_knock_0 rfl rfl ?_
  refine x_dup Z dX2_knock_1 rfl ?_
  refine x_getf (ci := 3) (j := 3) (C := RX2) (T := TX2) (N := 4) Z inX2g rfl (by decide) q87 rfl dX2_knock_2 (by assumption) rfl ?_
  refine x_iconst Z dX2_knock_5 ?_
  refine x_iadd Z dX2_knock_6 ?_
  refine x_putf (ci := 3) (j := 3) (C := RX2) (T := TX2) (N := 4) (fs' := [_, _, _, _]) Z tyX2 tyX2_ok nmX2 inX2g rfl (by decide) q87 rfl rfl rfl rfl rfl dX2_knock_7 (by assumption) (by exact Nat.le_of_ble_eq_true rfl) rfl ?_
  refine x_aload_n Z dX2_knock_10 rfl rfl ?_
  refine x_getf (ci := 3) (j := 3) (C := RX2) (T := TX2) (N := 4) Z inX2g rfl (by decide) q87 rfl dX2_knock_11 ws1_s rfl ?_
  exact x_iret Z E (⟨rfl, hS.cnt _ _ _, fr.rf.set (Or.inl rfl)⟩) dX2_knock_14 (Nat.le_of_ble_eq_true rfl) (Nat.le_of_ble_eq_true rfl)
abbrev rmc_X2_inserted : Room := { frames := 2, cells := 0, slots := 0, locals := 45 }
set_option maxRecDepth 100000 in
theorem c_X2_inserted {l : Launch} {s0 : State} {G : gK} {w : wd} (h0 : gS0 s0) (htr : l.stackTraces = false) {K : kA} {M : kM} {i p s : Int} (hS : kS G w K M) (hp0i : 0 ≤ i) (hp3i : i < 3) (h1 : 0 ≤ p) (h2 : p ≤ M.1 i) (h3 : 0 ≤ s) (h4 : s ≤ 255) : gM l s0 G yX2_inserted [Cond.code yX2_inserted cX2_inserted 4 (some .int)] rmc_X2_inserted [rv K.1, rv (K.2.2.1 i), iv p, iv s] w (fun v w' => (∃ z : Int, v = some (iv z)) ∧ kW G w K M w') (noX) := by
  refine g_of h0 htr (by decide +kernel) (Nat.le_of_ble_eq_true rfl) ?_
  intro b Z0 E
  have Z : gAm b l s0 G cX2_inserted RX2 4 rmc_X2_inserted := Z0
  refine x_el (L' := [(0, rv K.1), (1, rv (K.2.2.1 i)), (2, iv p), (3, iv s)]) rfl ?_
  obtain ⟨hk1, ⟨f0, hk2, hk3⟩, hk4, hk5⟩ := id hS
  have hf0 : fr (kP K) w w := fr.rf
  obtain ⟨B, ht⟩ := hS.2.2.1 i hp0i hp3i
  obtain ⟨ha, hr, hb, hn0, hn30, hC⟩ := id ht
  refine x_aload_n Z dX2_inserted_0 rfl rfl ?_
  refine x_callV (ci := 2) (C := RX1) (T := TX1) (N := 3) Z okX1_size q217 q218 q219 rfl dX2_inserted_1 (c_X1_size h0 htr ht) ht.1 ⟨Nat.le_of_ble_eq_true rfl, Nat.le_of_ble_eq_true rfl, Nat.le_of_ble_eq_true rfl, Nat.le_of_ble_eq_true rfl⟩ rfl rfl (Nat.le_of_ble_eq_true rfl) (fun v9 w9 hR => ?_)
  obtain ⟨rfl, e9⟩ := hR
  refine x_ew e9 ?_
  simp only [Option.toList_some, Option.toList_none, List.cons_append, List.nil_append]
  refine x_bipush Z dX2_inserted_4 (by decide +kernel) ?_
  refine x_icmp_lt Z 14 dX2_inserted_6 (by decide) ⟨by omega, by omega⟩ ⟨by omega, by omega⟩ (fun c6 => ?_) (fun c6 => ?_)
  ·
    refine x_aload_n Z dX2_inserted_14 rfl rfl ?_
    refine x_iload_n Z dX2_inserted_15 rfl rfl ?_
    refine x_iload_n Z dX2_inserted_16 rfl rfl ?_
    refine x_callV (ci := 2) (C := RX1) (T := TX1) (N := 3) Z okX1_insertSign q343 q344 q345 rfl dX2_inserted_17 (c_X1_insertSign h0 htr ht (by omega) (by omega) (by omega) (by omega) (by omega)) ht.1 ⟨Nat.le_of_ble_eq_true rfl, Nat.le_of_ble_eq_true rfl, Nat.le_of_ble_eq_true rfl, Nat.le_of_ble_eq_true rfl⟩ rfl rfl (Nat.le_of_ble_eq_true rfl) (fun v9 w9 hR => ?_)
    obtain ⟨rfl, C, ht, hf9⟩ := hR
    obtain ⟨ha, hr, hb, hn0, hn30, hC⟩ := id ht
    simp only [Option.toList_some, Option.toList_none, List.cons_append, List.nil_append]
    have hS := hS.put hp0i hp3i ht hf9
    have hf0 := hf0.tr (hf9.mono (kP_t hp0i hp3i))
    refine x_aload_n Z dX2_inserted_20 rfl rfl ?_
    refine x_aload_n Z dX2_inserted_21 rfl rfl ?_
    refine x_callV (ci := 2) (C := RX1) (T := TX1) (N := 3) Z okX1_size q217 q218 q219 rfl dX2_inserted_22 (c_X1_size h0 htr ht) ht.1 ⟨Nat.le_of_ble_eq_true rfl, Nat.le_of_ble_eq_true rfl, Nat.le_of_ble_eq_true rfl, Nat.le_of_ble_eq_true rfl⟩ rfl rfl (Nat.le_of_ble_eq_true rfl) (fun v9 w9 hR => ?_)
    obtain ⟨rfl, e9⟩ := hR
    refine x_ew e9 ?_
    simp only [Option.toList_some, Option.toList_none, List.cons_append, List.nil_append]
    refine x_callV (ci := 3) (C := RX2) (T := TX2) (N := 4) Z okX2_acted q351 q353 q6 rfl dX2_inserted_25 (c_X2_acted h0 htr hS) hS.1 ⟨Nat.le_of_ble_eq_true rfl, Nat.le_of_ble_eq_true rfl, Nat.le_of_ble_eq_true rfl, Nat.le_of_ble_eq_true rfl⟩ rfl rfl (Nat.le_of_ble_eq_true rfl) (fun v9 w9 hR => ?_)
    obtain ⟨rfl, hS, hf9⟩ := hR
    have hf0 := hf0.tr hf9
    simp only [Option.toList_some, Option.toList_none, List.cons_append, List.nil_append]
    exact x_iret Z E (⟨⟨_, rfl⟩, _, hS, rfl, hf0⟩) dX2_inserted_28 (Nat.le_of_ble_eq_true rfl) (Nat.le_of_ble_eq_true rfl)
  ·
    refine x_aload_n Z dX2_inserted_9 rfl rfl ?_
    refine x_callV (ci := 3) (C := RX2) (T := TX2) (N := 4) Z okX2_refused q339 q341 q5 rfl dX2_inserted_10 (c_X2_refused h0 htr hS) hS.1 ⟨Nat.le_of_ble_eq_true rfl, Nat.le_of_ble_eq_true rfl, Nat.le_of_ble_eq_true rfl, Nat.le_of_ble_eq_true rfl⟩ rfl rfl (Nat.le_of_ble_eq_true rfl) (fun v9 w9 hR => ?_)
    obtain ⟨rfl, hS, hf9⟩ := hR
    have hf0 := hf0.tr hf9
    simp only [Option.toList_some, Option.toList_none, List.cons_append, List.nil_append]
    exact x_iret Z E (⟨⟨_, rfl⟩, _, hS, rfl, hf0⟩) dX2_inserted_13 (Nat.le_of_ble_eq_true rfl) (Nat.le_of_ble_eq_true rfl)
abbrev rmc_X2_add : Room := { frames := 7, cells := 2, slots := 12, locals := 121 }
set_option maxRecDepth 100000 in
theorem c_X2_add {l : Launch} {s0 : State} {G : gK} {w : wd} (h0 : gS0 s0) (htr : l.stackTraces = false) {K : kA} {M : kM} {t : Int} {s : Int} (hS : kS G w K M) (ht : inr t) (hs : inr s) : gM l s0 G yX2_add [Cond.code yX2_add cX2_add 4 (some .int)] rmc_X2_add [rv K.1, iv t, iv s] w (fun v w' => (∃ z : Int, v = some (iv z)) ∧ kW G w K M w') (fun X w' => (X = "java/lang/IndexOutOfBoundsException" ∨ X = "java/lang/IllegalArgumentException") ∧ w' = w) := by
  refine g_of h0 htr (by decide +kernel) (Nat.le_of_ble_eq_true rfl) ?_
  intro b Z0 E
  have Z : gAm b l s0 G cX2_add RX2 4 rmc_X2_add := Z0
  refine x_el (L' := [(0, rv K.1), (1, iv t), (2, iv s)]) rfl ?_
  obtain ⟨hk1, ⟨f0, hk2, hk3⟩, hk4, hk5⟩ := id hS
  have hf0 : fr (kP K) w w := fr.rf
  refine x_aload_n Z dX2_add_0 rfl rfl ?_
  refine x_iload_n Z dX2_add_1 rfl rfl ?_
  refine x_callVx (ci := 3) (C := RX2) (T := TX2) (N := 4) Z okX2_textAt q313 q315 q3 rfl dX2_add_2 (c_X2_textAt h0 htr hS (by assumption)) hS.1 ⟨Nat.le_of_ble_eq_true rfl, Nat.le_of_ble_eq_true rfl, Nat.le_of_ble_eq_true rfl, Nat.le_of_ble_eq_true rfl⟩ rfl rfl (Nat.le_of_ble_eq_true rfl) (fun X w9 hX => x_out Z E (⟨Or.inl hX.1, hX.2⟩) (Nat.le_of_ble_eq_true rfl) (Nat.le_of_ble_eq_true rfl)) (fun v9 w9 hR => ?_)
  obtain ⟨⟨rfl, e9⟩, hp0t, hp3t⟩ := hR
  refine x_ew e9 ?_
  simp only [Option.toList_some, Option.toList_none, List.cons_append, List.nil_append]
  obtain ⟨B, ht⟩ := hS.2.2.1 t hp0t hp3t
  obtain ⟨ha, hr, hb, hn0, hn30, hC⟩ := id ht
  refine x_astore_n (L' := [(3, _), (0, _), (1, _), (2, _)]) Z dX2_add_5 rfl (Nat.le_of_ble_eq_true rfl) rfl ?_
  refine x_iload_n Z dX2_add_6 rfl rfl ?_
  refine x_callSx Z okX2_checkSign q332 q333 dX2_add_7 (c_X2_checkSign h0 htr (by assumption)) ⟨Nat.le_of_ble_eq_true rfl, Nat.le_of_ble_eq_true rfl, Nat.le_of_ble_eq_true rfl, Nat.le_of_ble_eq_true rfl⟩ rfl rfl (Nat.le_of_ble_eq_true rfl) (fun X w9 hX => x_out Z E (⟨Or.inr hX.1, hX.2⟩) (Nat.le_of_ble_eq_true rfl) (Nat.le_of_ble_eq_true rfl)) (fun v9 w9 hR => ?_)
  obtain ⟨⟨rfl, e9⟩, hq0, hq9⟩ := hR
  refine x_ew e9 ?_
  simp only [Option.toList_some, Option.toList_none, List.cons_append, List.nil_append]
  refine x_aload_n Z dX2_add_10 rfl rfl ?_
  refine x_aload_n Z dX2_add_11 rfl rfl ?_
  refine x_aload_n Z dX2_add_12 rfl rfl ?_
  refine x_callV (ci := 2) (C := RX1) (T := TX1) (N := 3) Z okX1_size q217 q218 q219 rfl dX2_add_13 (c_X1_size h0 htr ht) ht.1 ⟨Nat.le_of_ble_eq_true rfl, Nat.le_of_ble_eq_true rfl, Nat.le_of_ble_eq_true rfl, Nat.le_of_ble_eq_true rfl⟩ rfl rfl (Nat.le_of_ble_eq_true rfl) (fun v9 w9 hR => ?_)
  obtain ⟨rfl, e9⟩ := hR
  refine x_ew e9 ?_
  simp only [Option.toList_some, Option.toList_none, List.cons_append, List.nil_append]
  refine x_iload_n Z dX2_add_16 rfl rfl ?_
  refine x_callV (ci := 3) (C := RX2) (T := TX2) (N := 4) Z okX2_inserted q335 q337 q4 rfl dX2_add_17 (c_X2_inserted h0 htr hS (by assumption) (by assumption) (by omega) (by omega) (by omega) (by omega)) hS.1 ⟨Nat.le_of_ble_eq_true rfl, Nat.le_of_ble_eq_true rfl, Nat.le_of_ble_eq_true rfl, Nat.le_of_ble_eq_true rfl⟩ rfl rfl (Nat.le_of_ble_eq_true rfl) (fun v9 w9 hR => ?_)
  obtain ⟨⟨z, rfl⟩, M9, hS, hkn, hf9⟩ := hR
  have hf0 := hf0.tr hf9
  simp only [Option.toList_some, Option.toList_none, List.cons_append, List.nil_append]
  exact x_iret Z E (⟨⟨_, rfl⟩, _, hS, hkn, hf0⟩) dX2_add_20 (Nat.le_of_ble_eq_true rfl) (Nat.le_of_ble_eq_true rfl)
abbrev rmc_X2_put : Room := { frames := 7, cells := 3, slots := 18, locals := 121 }
set_option maxRecDepth 100000 in
theorem c_X2_put {l : Launch} {s0 : State} {G : gK} {w : wd} (h0 : gS0 s0) (htr : l.stackTraces = false) {K : kA} {M : kM} {t : Int} {p : Int} {s : Int} (hS : kS G w K M) (ht : inr t) (hp : inr p) (hs : inr s) : gM l s0 G yX2_put [Cond.code yX2_put cX2_put 6 (some .int)] rmc_X2_put [rv K.1, iv t, iv p, iv s] w (fun v w' => (∃ z : Int, v = some (iv z)) ∧ kW G w K M w') (fun X w' => (X = "java/lang/IndexOutOfBoundsException" ∨ X = "java/lang/IllegalArgumentException") ∧ w' = w) := by
  refine g_of h0 htr (by decide +kernel) (Nat.le_of_ble_eq_true rfl) ?_
  intro b Z0 E
  have Z : gAm b l s0 G cX2_put RX2 6 rmc_X2_put := Z0
  refine x_el (L' := [(0, rv K.1), (1, iv t), (2, iv p), (3, iv s)]) rfl ?_
  obtain ⟨hk1, ⟨f0, hk2, hk3⟩, hk4, hk5⟩ := id hS
  have hf0 : fr (kP K) w w := fr.rf
  refine x_aload_n Z dX2_put_0 rfl rfl ?_
  refine x_iload_n Z dX2_put_1 rfl rfl ?_
  refine x_callVx (ci := 3) (C := RX2) (T := TX2) (N := 4) Z okX2_textAt q313 q315 q3 rfl dX2_put_2 (c_X2_textAt h0 htr hS (by assumption)) hS.1 ⟨Nat.le_of_ble_eq_true rfl, Nat.le_of_ble_eq_true rfl, Nat.le_of_ble_eq_true rfl, Nat.le_of_ble_eq_true rfl⟩ rfl rfl (Nat.le_of_ble_eq_true rfl) (fun X w9 hX => x_out Z E (⟨Or.inl hX.1, hX.2⟩) (Nat.le_of_ble_eq_true rfl) (Nat.le_of_ble_eq_true rfl)) (fun v9 w9 hR => ?_)
  obtain ⟨⟨rfl, e9⟩, hp0t, hp3t⟩ := hR
  refine x_ew e9 ?_
  simp only [Option.toList_some, Option.toList_none, List.cons_append, List.nil_append]
  obtain ⟨B, ht⟩ := hS.2.2.1 t hp0t hp3t
  obtain ⟨ha, hr, hb, hn0, hn30, hC⟩ := id ht
  refine x_astore (L' := [(4, _), (0, _), (1, _), (2, _), (3, _)]) Z dX2_put_5 (Nat.le_of_ble_eq_true rfl) rfl ?_
  refine x_aload Z dX2_put_7 rfl ?_
  refine x_iload_n Z dX2_put_9 rfl rfl ?_
  refine x_callSx Z okX2_checkPlace q362 q363 dX2_put_10 (c_X2_checkPlace h0 htr ht (by assumption)) ⟨Nat.le_of_ble_eq_true rfl, Nat.le_of_ble_eq_true rfl, Nat.le_of_ble_eq_true rfl, Nat.le_of_ble_eq_true rfl⟩ rfl rfl (Nat.le_of_ble_eq_true rfl) (fun X w9 hX => x_out Z E (⟨Or.inl hX.1, hX.2⟩) (Nat.le_of_ble_eq_true rfl) (Nat.le_of_ble_eq_true rfl)) (fun v9 w9 hR => ?_)
  obtain ⟨⟨rfl, e9⟩, hl0, hl9⟩ := hR
  refine x_ew e9 ?_
  simp only [Option.toList_some, Option.toList_none, List.cons_append, List.nil_append]
  refine x_iload_n Z dX2_put_13 rfl rfl ?_
  refine x_callSx Z okX2_checkSign q332 q333 dX2_put_14 (c_X2_checkSign h0 htr (by assumption)) ⟨Nat.le_of_ble_eq_true rfl, Nat.le_of_ble_eq_true rfl, Nat.le_of_ble_eq_true rfl, Nat.le_of_ble_eq_true rfl⟩ rfl rfl (Nat.le_of_ble_eq_true rfl) (fun X w9 hX => x_out Z E (⟨Or.inr hX.1, hX.2⟩) (Nat.le_of_ble_eq_true rfl) (Nat.le_of_ble_eq_true rfl)) (fun v9 w9 hR => ?_)
  obtain ⟨⟨rfl, e9⟩, hq0, hq9⟩ := hR
  refine x_ew e9 ?_
  simp only [Option.toList_some, Option.toList_none, List.cons_append, List.nil_append]
  refine x_aload Z dX2_put_17 rfl ?_
  refine x_iload_n Z dX2_put_19 rfl rfl ?_
  refine x_callV (ci := 2) (C := RX1) (T := TX1) (N := 3) Z okX1_signAt q365 q126 q127 rfl dX2_put_20 (c_X1_signAt h0 htr ht (by omega) (by omega)) ht.1 ⟨Nat.le_of_ble_eq_true rfl, Nat.le_of_ble_eq_true rfl, Nat.le_of_ble_eq_true rfl, Nat.le_of_ble_eq_true rfl⟩ rfl rfl (Nat.le_of_ble_eq_true rfl) (fun v9 w9 hR => ?_)
  obtain ⟨rfl, e9⟩ := hR
  refine x_ew e9 ?_
  simp only [Option.toList_some, Option.toList_none, List.cons_append, List.nil_append]
  refine x_istore (L' := [(5, _), (4, _), (0, _), (1, _), (2, _), (3, _)]) Z dX2_put_23 (Nat.le_of_ble_eq_true rfl) rfl ?_
  refine x_aload Z dX2_put_25 rfl ?_
  refine x_iload_n Z dX2_put_27 rfl rfl ?_
  refine x_iload_n Z dX2_put_28 rfl rfl ?_
  refine x_callV (ci := 2) (C := RX1) (T := TX1) (N := 3) Z okX1_setSign q366 q348 q349 rfl dX2_put_29 (c_X1_setSign h0 htr ht (by omega) (by omega) (by omega) (by omega)) ht.1 ⟨Nat.le_of_ble_eq_true rfl, Nat.le_of_ble_eq_true rfl, Nat.le_of_ble_eq_true rfl, Nat.le_of_ble_eq_true rfl⟩ rfl rfl (Nat.le_of_ble_eq_true rfl) (fun v9 w9 hR => ?_)
  obtain ⟨rfl, ht, hf9⟩ := hR
  obtain ⟨ha, hr, hb, hn0, hn30, hC⟩ := id ht
  simp only [Option.toList_some, Option.toList_none, List.cons_append, List.nil_append]
  have hS := hS.put hp0t hp3t ht hf9
  have hf0 := hf0.tr (hf9.mono (kP_t hp0t hp3t))
  refine x_aload_n Z dX2_put_32 rfl rfl ?_
  refine x_iload Z dX2_put_33 rfl ?_
  refine x_callV (ci := 3) (C := RX2) (T := TX2) (N := 4) Z okX2_acted q351 q353 q6 rfl dX2_put_35 (c_X2_acted h0 htr hS) hS.1 ⟨Nat.le_of_ble_eq_true rfl, Nat.le_of_ble_eq_true rfl, Nat.le_of_ble_eq_true rfl, Nat.le_of_ble_eq_true rfl⟩ rfl rfl (Nat.le_of_ble_eq_true rfl) (fun v9 w9 hR => ?_)
  obtain ⟨rfl, hS, hf9⟩ := hR
  have hf0 := hf0.tr hf9
  simp only [Option.toList_some, Option.toList_none, List.cons_append, List.nil_append]
  exact x_iret Z E (⟨⟨_, rfl⟩, _, hS, rfl, hf0⟩) dX2_put_38 (Nat.le_of_ble_eq_true rfl) (Nat.le_of_ble_eq_true rfl)
abbrev rmc_X2_insert : Room := { frames := 7, cells := 3, slots := 18, locals := 121 }
set_option maxRecDepth 100000 in
theorem c_X2_insert {l : Launch} {s0 : State} {G : gK} {w : wd} (h0 : gS0 s0) (htr : l.stackTraces = false) {K : kA} {M : kM} {t : Int} {p : Int} {s : Int} (hS : kS G w K M) (ht : inr t) (hp : inr p) (hs : inr s) : gM l s0 G yX2_insert [Cond.code yX2_insert cX2_insert 5 (some .int)] rmc_X2_insert [rv K.1, iv t, iv p, iv s] w (fun v w' => (∃ z : Int, v = some (iv z)) ∧ kW G w K M w') (fun X w' => (X = "java/lang/IndexOutOfBoundsException" ∨ X = "java/lang/IllegalArgumentException") ∧ w' = w) := by
  refine g_of h0 htr (by decide +kernel) (Nat.le_of_ble_eq_true rfl) ?_
  intro b Z0 E
  have Z : gAm b l s0 G cX2_insert RX2 5 rmc_X2_insert := Z0
  refine x_el (L' := [(0, rv K.1), (1, iv t), (2, iv p), (3, iv s)]) rfl ?_
  obtain ⟨hk1, ⟨f0, hk2, hk3⟩, hk4, hk5⟩ := id hS
  have hf0 : fr (kP K) w w := fr.rf
  refine x_aload_n Z dX2_insert_0 rfl rfl ?_
  refine x_iload_n Z dX2_insert_1 rfl rfl ?_
  refine x_callVx (ci := 3) (C := RX2) (T := TX2) (N := 4) Z okX2_textAt q313 q315 q3 rfl dX2_insert_2 (c_X2_textAt h0 htr hS (by assumption)) hS.1 ⟨Nat.le_of_ble_eq_true rfl, Nat.le_of_ble_eq_true rfl, Nat.le_of_ble_eq_true rfl, Nat.le_of_ble_eq_true rfl⟩ rfl rfl (Nat.le_of_ble_eq_true rfl) (fun X w9 hX => x_out Z E (⟨Or.inl hX.1, hX.2⟩) (Nat.le_of_ble_eq_true rfl) (Nat.le_of_ble_eq_true rfl)) (fun v9 w9 hR => ?_)
  obtain ⟨⟨rfl, e9⟩, hp0t, hp3t⟩ := hR
  refine x_ew e9 ?_
  simp only [Option.toList_some, Option.toList_none, List.cons_append, List.nil_append]
  obtain ⟨B, ht⟩ := hS.2.2.1 t hp0t hp3t
  obtain ⟨ha, hr, hb, hn0, hn30, hC⟩ := id ht
  refine x_astore (L' := [(4, _), (0, _), (1, _), (2, _), (3, _)]) Z dX2_insert_5 (Nat.le_of_ble_eq_true rfl) rfl ?_
  refine x_iload_n Z dX2_insert_7 rfl rfl ?_
  refine x_if_lt Z 20 dX2_insert_8 (by decide) ⟨by omega, by omega⟩ (fun c8 => ?_) (fun c8 => ?_)
  ·
    exact x_thr Z E (cls := "java/lang/IndexOutOfBoundsException") (ik := 47) (ic := 49) (by decide +kernel) wsIO dX2_insert_20 dX2_insert_23 dX2_insert_24 dX2_insert_27 (Nat.le_of_ble_eq_true rfl) (Nat.le_of_ble_eq_true rfl) (Nat.le_of_ble_eq_true rfl) (Nat.le_of_ble_eq_true rfl) ⟨Or.inl rfl, rfl⟩
  ·
    refine x_iload_n Z dX2_insert_11 rfl rfl ?_
    refine x_aload Z dX2_insert_12 rfl ?_
    refine x_callV (ci := 2) (C := RX1) (T := TX1) (N := 3) Z okX1_size q217 q218 q219 rfl dX2_insert_14 (c_X1_size h0 htr ht) ht.1 ⟨Nat.le_of_ble_eq_true rfl, Nat.le_of_ble_eq_true rfl, Nat.le_of_ble_eq_true rfl, Nat.le_of_ble_eq_true rfl⟩ rfl rfl (Nat.le_of_ble_eq_true rfl) (fun v9 w9 hR => ?_)
    obtain ⟨rfl, e9⟩ := hR
    refine x_ew e9 ?_
    simp only [Option.toList_some, Option.toList_none, List.cons_append, List.nil_append]
    refine x_icmp_le Z 28 dX2_insert_17 (by decide) ⟨by omega, by omega⟩ ⟨by omega, by omega⟩ (fun c17 => ?_) (fun c17 => ?_)
    ·
      refine x_iload_n Z dX2_insert_28 rfl rfl ?_
      refine x_callSx Z okX2_checkSign q332 q333 dX2_insert_29 (c_X2_checkSign h0 htr (by assumption)) ⟨Nat.le_of_ble_eq_true rfl, Nat.le_of_ble_eq_true rfl, Nat.le_of_ble_eq_true rfl, Nat.le_of_ble_eq_true rfl⟩ rfl rfl (Nat.le_of_ble_eq_true rfl) (fun X w9 hX => x_out Z E (⟨Or.inr hX.1, hX.2⟩) (Nat.le_of_ble_eq_true rfl) (Nat.le_of_ble_eq_true rfl)) (fun v9 w9 hR => ?_)
      obtain ⟨⟨rfl, e9⟩, hq0, hq9⟩ := hR
      refine x_ew e9 ?_
      simp only [Option.toList_some, Option.toList_none, List.cons_append, List.nil_append]
      refine x_aload_n Z dX2_insert_32 rfl rfl ?_
      refine x_aload Z dX2_insert_33 rfl ?_
      refine x_iload_n Z dX2_insert_35 rfl rfl ?_
      refine x_iload_n Z dX2_insert_36 rfl rfl ?_
      refine x_callV (ci := 3) (C := RX2) (T := TX2) (N := 4) Z okX2_inserted q335 q337 q4 rfl dX2_insert_37 (c_X2_inserted h0 htr hS (by assumption) (by assumption) (by omega) (by omega) (by omega) (by omega)) hS.1 ⟨Nat.le_of_ble_eq_true rfl, Nat.le_of_ble_eq_true rfl, Nat.le_of_ble_eq_true rfl, Nat.le_of_ble_eq_true rfl⟩ rfl rfl (Nat.le_of_ble_eq_true rfl) (fun v9 w9 hR => ?_)
      obtain ⟨⟨z, rfl⟩, M9, hS, hkn, hf9⟩ := hR
      have hf0 := hf0.tr hf9
      simp only [Option.toList_some, Option.toList_none, List.cons_append, List.nil_append]
      exact x_iret Z E (⟨⟨_, rfl⟩, _, hS, hkn, hf0⟩) dX2_insert_40 (Nat.le_of_ble_eq_true rfl) (Nat.le_of_ble_eq_true rfl)
    ·
      exact x_thr Z E (cls := "java/lang/IndexOutOfBoundsException") (ik := 47) (ic := 49) (by decide +kernel) wsIO dX2_insert_20 dX2_insert_23 dX2_insert_24 dX2_insert_27 (Nat.le_of_ble_eq_true rfl) (Nat.le_of_ble_eq_true rfl) (Nat.le_of_ble_eq_true rfl) (Nat.le_of_ble_eq_true rfl) ⟨Or.inl rfl, rfl⟩
abbrev rmc_X2_drop : Room := { frames := 7, cells := 2, slots := 12, locals := 121 }
set_option maxRecDepth 100000 in
theorem c_X2_drop {l : Launch} {s0 : State} {G : gK} {w : wd} (h0 : gS0 s0) (htr : l.stackTraces = false) {K : kA} {M : kM} {t : Int} {p : Int} (hS : kS G w K M) (ht : inr t) (hp : inr p) : gM l s0 G yX2_drop [Cond.code yX2_drop cX2_drop 5 (some .int)] rmc_X2_drop [rv K.1, iv t, iv p] w (fun v w' => (∃ z : Int, v = some (iv z)) ∧ kW G w K M w') (fun X w' => X = "java/lang/IndexOutOfBoundsException" ∧ w' = w) := by
  refine g_of h0 htr (by decide +kernel) (Nat.le_of_ble_eq_true rfl) ?_
  intro b Z0 E
  have Z : gAm b l s0 G cX2_drop RX2 5 rmc_X2_drop := Z0
  refine x_el (L' := [(0, rv K.1), (1, iv t), (2, iv p)]) rfl ?_
  obtain ⟨hk1, ⟨f0, hk2, hk3⟩, hk4, hk5⟩ := id hS
  have hf0 : fr (kP K) w w := fr.rf
  refine x_aload_n Z dX2_drop_0 rfl rfl ?_
  refine x_iload_n Z dX2_drop_1 rfl rfl ?_
  refine x_callVx (ci := 3) (C := RX2) (T := TX2) (N := 4) Z okX2_textAt q313 q315 q3 rfl dX2_drop_2 (c_X2_textAt h0 htr hS (by assumption)) hS.1 ⟨Nat.le_of_ble_eq_true rfl, Nat.le_of_ble_eq_true rfl, Nat.le_of_ble_eq_true rfl, Nat.le_of_ble_eq_true rfl⟩ rfl rfl (Nat.le_of_ble_eq_true rfl) (fun X w9 hX => x_out Z E (hX) (Nat.le_of_ble_eq_true rfl) (Nat.le_of_ble_eq_true rfl)) (fun v9 w9 hR => ?_)
  obtain ⟨⟨rfl, e9⟩, hp0t, hp3t⟩ := hR
  refine x_ew e9 ?_
  simp only [Option.toList_some, Option.toList_none, List.cons_append, List.nil_append]
  obtain ⟨B, ht⟩ := hS.2.2.1 t hp0t hp3t
  obtain ⟨ha, hr, hb, hn0, hn30, hC⟩ := id ht
  refine x_astore_n (L' := [(3, _), (0, _), (1, _), (2, _)]) Z dX2_drop_5 rfl (Nat.le_of_ble_eq_true rfl) rfl ?_
  refine x_aload_n Z dX2_drop_6 rfl rfl ?_
  refine x_iload_n Z dX2_drop_7 rfl rfl ?_
  refine x_callSx Z okX2_checkPlace q362 q363 dX2_drop_8 (c_X2_checkPlace h0 htr ht (by assumption)) ⟨Nat.le_of_ble_eq_true rfl, Nat.le_of_ble_eq_true rfl, Nat.le_of_ble_eq_true rfl, Nat.le_of_ble_eq_true rfl⟩ rfl rfl (Nat.le_of_ble_eq_true rfl) (fun X w9 hX => x_out Z E (hX) (Nat.le_of_ble_eq_true rfl) (Nat.le_of_ble_eq_true rfl)) (fun v9 w9 hR => ?_)
  obtain ⟨⟨rfl, e9⟩, hl0, hl9⟩ := hR
  refine x_ew e9 ?_
  simp only [Option.toList_some, Option.toList_none, List.cons_append, List.nil_append]
  refine x_aload_n Z dX2_drop_11 rfl rfl ?_
  refine x_iload_n Z dX2_drop_12 rfl rfl ?_
  refine x_callV (ci := 2) (C := RX1) (T := TX1) (N := 3) Z okX1_signAt q365 q126 q127 rfl dX2_drop_13 (c_X1_signAt h0 htr ht (by omega) (by omega)) ht.1 ⟨Nat.le_of_ble_eq_true rfl, Nat.le_of_ble_eq_true rfl, Nat.le_of_ble_eq_true rfl, Nat.le_of_ble_eq_true rfl⟩ rfl rfl (Nat.le_of_ble_eq_true rfl) (fun v9 w9 hR => ?_)
  obtain ⟨rfl, e9⟩ := hR
  refine x_ew e9 ?_
  simp only [Option.toList_some, Option.toList_none, List.cons_append, List.nil_append]
  refine x_istore (L' := [(4, _), (3, _), (0, _), (1, _), (2, _)]) Z dX2_drop_16 (Nat.le_of_ble_eq_true rfl) rfl ?_
  refine x_aload_n Z dX2_drop_18 rfl rfl ?_
  refine x_aload_n Z dX2_drop_19 rfl rfl ?_
  refine x_callV (ci := 2) (C := RX1) (T := TX1) (N := 3) Z okX1_allPlaces q381 q382 q383 rfl dX2_drop_20 (c_X1_allPlaces h0 htr ht) ht.1 ⟨Nat.le_of_ble_eq_true rfl, Nat.le_of_ble_eq_true rfl, Nat.le_of_ble_eq_true rfl, Nat.le_of_ble_eq_true rfl⟩ rfl rfl (Nat.le_of_ble_eq_true rfl) (fun v9 w9 hR => ?_)
  obtain ⟨rfl, e9⟩ := hR
  refine x_ew e9 ?_
  simp only [Option.toList_some, Option.toList_none, List.cons_append, List.nil_append]
  refine x_iconst Z dX2_drop_23 ?_
  refine x_iload_n Z dX2_drop_24 rfl rfl ?_
  refine x_ishl Z dX2_drop_25 ?_
  refine x_iconst Z dX2_drop_26 ?_
  refine x_ixor Z dX2_drop_27 ?_
  refine x_iand Z dX2_drop_28 ?_
  refine x_callV (ci := 2) (C := RX1) (T := TX1) (N := 3) Z okX1_retain q385 q386 q387 rfl dX2_drop_29 (c_X1_retain h0 htr ht) ht.1 ⟨Nat.le_of_ble_eq_true rfl, Nat.le_of_ble_eq_true rfl, Nat.le_of_ble_eq_true rfl, Nat.le_of_ble_eq_true rfl⟩ rfl rfl (Nat.le_of_ble_eq_true rfl) (fun v9 w9 hR => ?_)
  obtain ⟨rfl, B, ht, hf9⟩ := hR
  obtain ⟨ha, hr, hb, hn0, hn30, hC⟩ := id ht
  simp only [Option.toList_some, Option.toList_none, List.cons_append, List.nil_append]
  have hS := hS.put hp0t hp3t ht hf9
  have hf0 := hf0.tr (hf9.mono (kP_t hp0t hp3t))
  refine x_pop Z dX2_drop_32 rfl ?_
  refine x_aload_n Z dX2_drop_33 rfl rfl ?_
  refine x_iload Z dX2_drop_34 rfl ?_
  refine x_callV (ci := 3) (C := RX2) (T := TX2) (N := 4) Z okX2_acted q351 q353 q6 rfl dX2_drop_36 (c_X2_acted h0 htr hS) hS.1 ⟨Nat.le_of_ble_eq_true rfl, Nat.le_of_ble_eq_true rfl, Nat.le_of_ble_eq_true rfl, Nat.le_of_ble_eq_true rfl⟩ rfl rfl (Nat.le_of_ble_eq_true rfl) (fun v9 w9 hR => ?_)
  obtain ⟨rfl, hS, hf9⟩ := hR
  have hf0 := hf0.tr hf9
  simp only [Option.toList_some, Option.toList_none, List.cons_append, List.nil_append]
  exact x_iret Z E (⟨⟨_, rfl⟩, _, hS, rfl, hf0⟩) dX2_drop_39 (Nat.le_of_ble_eq_true rfl) (Nat.le_of_ble_eq_true rfl)
abbrev rmc_X2_clear : Room := { frames := 7, cells := 1, slots := 6, locals := 121 }
set_option maxRecDepth 100000 in
theorem c_X2_clear {l : Launch} {s0 : State} {G : gK} {w : wd} (h0 : gS0 s0) (htr : l.stackTraces = false) {K : kA} {M : kM} {t : Int} (hS : kS G w K M) (ht : inr t) : gM l s0 G yX2_clear [Cond.code yX2_clear cX2_clear 2 (some .int)] rmc_X2_clear [rv K.1, iv t] w (fun v w' => (∃ z : Int, v = some (iv z)) ∧ kW G w K M w') (fun X w' => X = "java/lang/IndexOutOfBoundsException" ∧ w' = w) := by
  refine g_of h0 htr (by decide +kernel) (Nat.le_of_ble_eq_true rfl) ?_
  intro b Z0 E
  have Z : gAm b l s0 G cX2_clear RX2 2 rmc_X2_clear := Z0
  refine x_el (L' := [(0, rv K.1), (1, iv t)]) rfl ?_
  obtain ⟨hk1, ⟨f0, hk2, hk3⟩, hk4, hk5⟩ := id hS
  have hf0 : fr (kP K) w w := fr.rf
  refine x_aload_n Z dX2_clear_0 rfl rfl ?_
  refine x_aload_n Z dX2_clear_1 rfl rfl ?_
  refine x_iload_n Z dX2_clear_2 rfl rfl ?_
  refine x_callVx (ci := 3) (C := RX2) (T := TX2) (N := 4) Z okX2_textAt q313 q315 q3 rfl dX2_clear_3 (c_X2_textAt h0 htr hS (by assumption)) hS.1 ⟨Nat.le_of_ble_eq_true rfl, Nat.le_of_ble_eq_true rfl, Nat.le_of_ble_eq_true rfl, Nat.le_of_ble_eq_true rfl⟩ rfl rfl (Nat.le_of_ble_eq_true rfl) (fun X w9 hX => x_out Z E (hX) (Nat.le_of_ble_eq_true rfl) (Nat.le_of_ble_eq_true rfl)) (fun v9 w9 hR => ?_)
  obtain ⟨⟨rfl, e9⟩, hp0t, hp3t⟩ := hR
  refine x_ew e9 ?_
  simp only [Option.toList_some, Option.toList_none, List.cons_append, List.nil_append]
  obtain ⟨B, ht⟩ := hS.2.2.1 t hp0t hp3t
  obtain ⟨ha, hr, hb, hn0, hn30, hC⟩ := id ht
  refine x_iconst Z dX2_clear_6 ?_
  refine x_callV (ci := 2) (C := RX1) (T := TX1) (N := 3) Z okX1_retain q385 q386 q387 rfl dX2_clear_7 (c_X1_retain h0 htr ht) ht.1 ⟨Nat.le_of_ble_eq_true rfl, Nat.le_of_ble_eq_true rfl, Nat.le_of_ble_eq_true rfl, Nat.le_of_ble_eq_true rfl⟩ rfl rfl (Nat.le_of_ble_eq_true rfl) (fun v9 w9 hR => ?_)
  obtain ⟨rfl, B, ht, hf9⟩ := hR
  obtain ⟨ha, hr, hb, hn0, hn30, hC⟩ := id ht
  simp only [Option.toList_some, Option.toList_none, List.cons_append, List.nil_append]
  have hS := hS.put hp0t hp3t ht hf9
  have hf0 := hf0.tr (hf9.mono (kP_t hp0t hp3t))
  refine x_callV (ci := 3) (C := RX2) (T := TX2) (N := 4) Z okX2_acted q351 q353 q6 rfl dX2_clear_10 (c_X2_acted h0 htr hS) hS.1 ⟨Nat.le_of_ble_eq_true rfl, Nat.le_of_ble_eq_true rfl, Nat.le_of_ble_eq_true rfl, Nat.le_of_ble_eq_true rfl⟩ rfl rfl (Nat.le_of_ble_eq_true rfl) (fun v9 w9 hR => ?_)
  obtain ⟨rfl, hS, hf9⟩ := hR
  have hf0 := hf0.tr hf9
  simp only [Option.toList_some, Option.toList_none, List.cons_append, List.nil_append]
  exact x_iret Z E (⟨⟨_, rfl⟩, _, hS, rfl, hf0⟩) dX2_clear_13 (Nat.le_of_ble_eq_true rfl) (Nat.le_of_ble_eq_true rfl)
abbrev rmc_X2_copy : Room := { frames := 7, cells := 2, slots := 12, locals := 121 }
set_option maxRecDepth 100000 in
theorem c_X2_copy {l : Launch} {s0 : State} {G : gK} {w : wd} (h0 : gS0 s0) (htr : l.stackTraces = false) {K : kA} {M : kM} {t : Int} {u : Int} (hS : kS G w K M) (ht : inr t) (hu : inr u) : gM l s0 G yX2_copy [Cond.code yX2_copy cX2_copy 5 (some .int)] rmc_X2_copy [rv K.1, iv t, iv u] w (fun v w' => (∃ z : Int, v = some (iv z)) ∧ kW G w K M w') (fun X w' => X = "java/lang/IndexOutOfBoundsException" ∧ w' = w) := by
  refine g_of h0 htr (by decide +kernel) (Nat.le_of_ble_eq_true rfl) ?_
  intro b Z0 E
  have Z : gAm b l s0 G cX2_copy RX2 5 rmc_X2_copy := Z0
  refine x_el (L' := [(0, rv K.1), (1, iv t), (2, iv u)]) rfl ?_
  obtain ⟨hk1, ⟨f0, hk2, hk3⟩, hk4, hk5⟩ := id hS
  have hf0 : fr (kP K) w w := fr.rf
  refine x_aload_n Z dX2_copy_0 rfl rfl ?_
  refine x_iload_n Z dX2_copy_1 rfl rfl ?_
  refine x_callVx (ci := 3) (C := RX2) (T := TX2) (N := 4) Z okX2_textAt q313 q315 q3 rfl dX2_copy_2 (c_X2_textAt h0 htr hS (by assumption)) hS.1 ⟨Nat.le_of_ble_eq_true rfl, Nat.le_of_ble_eq_true rfl, Nat.le_of_ble_eq_true rfl, Nat.le_of_ble_eq_true rfl⟩ rfl rfl (Nat.le_of_ble_eq_true rfl) (fun X w9 hX => x_out Z E (hX) (Nat.le_of_ble_eq_true rfl) (Nat.le_of_ble_eq_true rfl)) (fun v9 w9 hR => ?_)
  obtain ⟨⟨rfl, e9⟩, hp0t, hp3t⟩ := hR
  refine x_ew e9 ?_
  simp only [Option.toList_some, Option.toList_none, List.cons_append, List.nil_append]
  obtain ⟨B2, ht2⟩ := hS.2.2.1 t hp0t hp3t
  refine x_astore_n (L' := [(3, _), (0, _), (1, _), (2, _)]) Z dX2_copy_5 rfl (Nat.le_of_ble_eq_true rfl) rfl ?_
  refine x_aload_n Z dX2_copy_6 rfl rfl ?_
  refine x_iload_n Z dX2_copy_7 rfl rfl ?_
  refine x_callVx (ci := 3) (C := RX2) (T := TX2) (N := 4) Z okX2_textAt q313 q315 q3 rfl dX2_copy_8 (c_X2_textAt h0 htr hS (by assumption)) hS.1 ⟨Nat.le_of_ble_eq_true rfl, Nat.le_of_ble_eq_true rfl, Nat.le_of_ble_eq_true rfl, Nat.le_of_ble_eq_true rfl⟩ rfl rfl (Nat.le_of_ble_eq_true rfl) (fun X w9 hX => x_out Z E (hX) (Nat.le_of_ble_eq_true rfl) (Nat.le_of_ble_eq_true rfl)) (fun v9 w9 hR => ?_)
  obtain ⟨⟨rfl, e9⟩, hp0u, hp3u⟩ := hR
  refine x_ew e9 ?_
  simp only [Option.toList_some, Option.toList_none, List.cons_append, List.nil_append]
  obtain ⟨B, ht⟩ := hS.2.2.1 u hp0u hp3u
  obtain ⟨ha, hr, hb, hn0, hn30, hC⟩ := id ht
  refine x_astore (L' := [(4, _), (3, _), (0, _), (1, _), (2, _)]) Z dX2_copy_11 (Nat.le_of_ble_eq_true rfl) rfl ?_
  obtain ⟨-, -, -, h2n0, h2n30, -⟩ := id ht2
  refine x_aload Z dX2_copy_13 rfl ?_
  refine x_aload_n Z dX2_copy_15 rfl rfl ?_
  refine x_iconst Z dX2_copy_16 ?_
  refine x_aload_n Z dX2_copy_17 rfl rfl ?_
  refine x_callV (ci := 2) (C := RX1) (T := TX1) (N := 3) Z okX1_size q217 q218 q219 rfl dX2_copy_18 (c_X1_size h0 htr ht2) ht2.1 ⟨Nat.le_of_ble_eq_true rfl, Nat.le_of_ble_eq_true rfl, Nat.le_of_ble_eq_true rfl, Nat.le_of_ble_eq_true rfl⟩ rfl rfl (Nat.le_of_ble_eq_true rfl) (fun v9 w9 hR => ?_)
  obtain ⟨rfl, e9⟩ := hR
  refine x_ew e9 ?_
  simp only [Option.toList_some, Option.toList_none, List.cons_append, List.nil_append]
  refine x_callV (ci := 2) (C := RX1) (T := TX1) (N := 3) Z okX1_become q403 q404 q405 rfl dX2_copy_21 (c_X1_become h0 htr ht ht2 (hS.self hp0u hp3u hp0t hp3t) (by omega) (by omega) (by omega)) ht.1 ⟨Nat.le_of_ble_eq_true rfl, Nat.le_of_ble_eq_true rfl, Nat.le_of_ble_eq_true rfl, Nat.le_of_ble_eq_true rfl⟩ rfl rfl (Nat.le_of_ble_eq_true rfl) (fun v9 w9 hR => ?_)
  obtain ⟨rfl, n, C, B, ht, hf9⟩ := hR
  obtain ⟨ha, hr, hb, hn0, hn30, hC⟩ := id ht
  simp only [Option.toList_some, Option.toList_none, List.cons_append, List.nil_append]
  have hS := hS.put hp0u hp3u ht hf9
  have hf0 := hf0.tr (hf9.mono (kP_t hp0u hp3u))
  refine x_aload_n Z dX2_copy_24 rfl rfl ?_
  refine x_aload Z dX2_copy_25 rfl ?_
  refine x_callV (ci := 2) (C := RX1) (T := TX1) (N := 3) Z okX1_size q217 q218 q219 rfl dX2_copy_27 (c_X1_size h0 htr ht) ht.1 ⟨Nat.le_of_ble_eq_true rfl, Nat.le_of_ble_eq_true rfl, Nat.le_of_ble_eq_true rfl, Nat.le_of_ble_eq_true rfl⟩ rfl rfl (Nat.le_of_ble_eq_true rfl) (fun v9 w9 hR => ?_)
  obtain ⟨rfl, e9⟩ := hR
  refine x_ew e9 ?_
  simp only [Option.toList_some, Option.toList_none, List.cons_append, List.nil_append]
  refine x_callV (ci := 3) (C := RX2) (T := TX2) (N := 4) Z okX2_acted q351 q353 q6 rfl dX2_copy_30 (c_X2_acted h0 htr hS) hS.1 ⟨Nat.le_of_ble_eq_true rfl, Nat.le_of_ble_eq_true rfl, Nat.le_of_ble_eq_true rfl, Nat.le_of_ble_eq_true rfl⟩ rfl rfl (Nat.le_of_ble_eq_true rfl) (fun v9 w9 hR => ?_)
  obtain ⟨rfl, hS, hf9⟩ := hR
  have hf0 := hf0.tr hf9
  simp only [Option.toList_some, Option.toList_none, List.cons_append, List.nil_append]
  exact x_iret Z E (⟨⟨_, rfl⟩, _, hS, rfl, hf0⟩) dX2_copy_33 (Nat.le_of_ble_eq_true rfl) (Nat.le_of_ble_eq_true rfl)
abbrev rmc_X2_join : Room := { frames := 7, cells := 2, slots := 12, locals := 121 }
set_option maxRecDepth 100000 in
theorem c_X2_join {l : Launch} {s0 : State} {G : gK} {w : wd} (h0 : gS0 s0) (htr : l.stackTraces = false) {K : kA} {M : kM} {t : Int} {u : Int} (hS : kS G w K M) (ht : inr t) (hu : inr u) : gM l s0 G yX2_join [Cond.code yX2_join cX2_join 5 (some .int)] rmc_X2_join [rv K.1, iv t, iv u] w (fun v w' => (∃ z : Int, v = some (iv z)) ∧ kW G w K M w') (fun X w' => X = "java/lang/IndexOutOfBoundsException" ∧ w' = w) := by
  refine g_of h0 htr (by decide +kernel) (Nat.le_of_ble_eq_true rfl) ?_
  intro b Z0 E
  have Z : gAm b l s0 G cX2_join RX2 5 rmc_X2_join := Z0
  refine x_el (L' := [(0, rv K.1), (1, iv t), (2, iv u)]) rfl ?_
  obtain ⟨hk1, ⟨f0, hk2, hk3⟩, hk4, hk5⟩ := id hS
  have hf0 : fr (kP K) w w := fr.rf
  refine x_aload_n Z dX2_join_0 rfl rfl ?_
  refine x_iload_n Z dX2_join_1 rfl rfl ?_
  refine x_callVx (ci := 3) (C := RX2) (T := TX2) (N := 4) Z okX2_textAt q313 q315 q3 rfl dX2_join_2 (c_X2_textAt h0 htr hS (by assumption)) hS.1 ⟨Nat.le_of_ble_eq_true rfl, Nat.le_of_ble_eq_true rfl, Nat.le_of_ble_eq_true rfl, Nat.le_of_ble_eq_true rfl⟩ rfl rfl (Nat.le_of_ble_eq_true rfl) (fun X w9 hX => x_out Z E (hX) (Nat.le_of_ble_eq_true rfl) (Nat.le_of_ble_eq_true rfl)) (fun v9 w9 hR => ?_)
  obtain ⟨⟨rfl, e9⟩, hp0t, hp3t⟩ := hR
  refine x_ew e9 ?_
  simp only [Option.toList_some, Option.toList_none, List.cons_append, List.nil_append]
  obtain ⟨B, ht⟩ := hS.2.2.1 t hp0t hp3t
  obtain ⟨ha, hr, hb, hn0, hn30, hC⟩ := id ht
  refine x_astore_n (L' := [(3, _), (0, _), (1, _), (2, _)]) Z dX2_join_5 rfl (Nat.le_of_ble_eq_true rfl) rfl ?_
  refine x_aload_n Z dX2_join_6 rfl rfl ?_
  refine x_iload_n Z dX2_join_7 rfl rfl ?_
  refine x_callVx (ci := 3) (C := RX2) (T := TX2) (N := 4) Z okX2_textAt q313 q315 q3 rfl dX2_join_8 (c_X2_textAt h0 htr hS (by assumption)) hS.1 ⟨Nat.le_of_ble_eq_true rfl, Nat.le_of_ble_eq_true rfl, Nat.le_of_ble_eq_true rfl, Nat.le_of_ble_eq_true rfl⟩ rfl rfl (Nat.le_of_ble_eq_true rfl) (fun X w9 hX => x_out Z E (hX) (Nat.le_of_ble_eq_true rfl) (Nat.le_of_ble_eq_true rfl)) (fun v9 w9 hR => ?_)
  obtain ⟨⟨rfl, e9⟩, hp0u, hp3u⟩ := hR
  refine x_ew e9 ?_
  simp only [Option.toList_some, Option.toList_none, List.cons_append, List.nil_append]
  obtain ⟨B2, ht2⟩ := hS.2.2.1 u hp0u hp3u
  refine x_astore (L' := [(4, _), (3, _), (0, _), (1, _), (2, _)]) Z dX2_join_11 (Nat.le_of_ble_eq_true rfl) rfl ?_
  obtain ⟨-, -, -, h2n0, h2n30, -⟩ := id ht2
  refine x_aload_n Z dX2_join_13 rfl rfl ?_
  refine x_callV (ci := 2) (C := RX1) (T := TX1) (N := 3) Z okX1_size q217 q218 q219 rfl dX2_join_14 (c_X1_size h0 htr ht) ht.1 ⟨Nat.le_of_ble_eq_true rfl, Nat.le_of_ble_eq_true rfl, Nat.le_of_ble_eq_true rfl, Nat.le_of_ble_eq_true rfl⟩ rfl rfl (Nat.le_of_ble_eq_true rfl) (fun v9 w9 hR => ?_)
  obtain ⟨rfl, e9⟩ := hR
  refine x_ew e9 ?_
  simp only [Option.toList_some, Option.toList_none, List.cons_append, List.nil_append]
  refine x_aload Z dX2_join_17 rfl ?_
  refine x_callV (ci := 2) (C := RX1) (T := TX1) (N := 3) Z okX1_size q217 q218 q219 rfl dX2_join_19 (c_X1_size h0 htr ht2) ht2.1 ⟨Nat.le_of_ble_eq_true rfl, Nat.le_of_ble_eq_true rfl, Nat.le_of_ble_eq_true rfl, Nat.le_of_ble_eq_true rfl⟩ rfl rfl (Nat.le_of_ble_eq_true rfl) (fun v9 w9 hR => ?_)
  obtain ⟨rfl, e9⟩ := hR
  refine x_ew e9 ?_
  simp only [Option.toList_some, Option.toList_none, List.cons_append, List.nil_append]
  refine x_iadd Z dX2_join_22 ?_
  refine x_bipush Z dX2_join_23 (by decide +kernel) ?_
  refine x_icmp_le Z 33 dX2_join_25 (by decide) ⟨by omega, by omega⟩ ⟨by omega, by omega⟩ (fun c25 => ?_) (fun c25 => ?_)
  ·
    refine x_aload_n Z dX2_join_33 rfl rfl ?_
    refine x_aload Z dX2_join_34 rfl ?_
    refine x_callV (ci := 2) (C := RX1) (T := TX1) (N := 3) Z okX1_append q414 q415 q416 rfl dX2_join_36 (c_X1_append h0 htr ht ht2 (hS.self hp0t hp3t hp0u hp3u) (by omega)) ht.1 ⟨Nat.le_of_ble_eq_true rfl, Nat.le_of_ble_eq_true rfl, Nat.le_of_ble_eq_true rfl, Nat.le_of_ble_eq_true rfl⟩ rfl rfl (Nat.le_of_ble_eq_true rfl) (fun v9 w9 hR => ?_)
    obtain ⟨rfl, n, C, B, ht, hf9⟩ := hR
    obtain ⟨ha, hr, hb, hn0, hn30, hC⟩ := id ht
    simp only [Option.toList_some, Option.toList_none, List.cons_append, List.nil_append]
    have hS := hS.put hp0t hp3t ht hf9
    have hf0 := hf0.tr (hf9.mono (kP_t hp0t hp3t))
    refine x_aload_n Z dX2_join_39 rfl rfl ?_
    refine x_aload_n Z dX2_join_40 rfl rfl ?_
    refine x_callV (ci := 2) (C := RX1) (T := TX1) (N := 3) Z okX1_size q217 q218 q219 rfl dX2_join_41 (c_X1_size h0 htr ht) ht.1 ⟨Nat.le_of_ble_eq_true rfl, Nat.le_of_ble_eq_true rfl, Nat.le_of_ble_eq_true rfl, Nat.le_of_ble_eq_true rfl⟩ rfl rfl (Nat.le_of_ble_eq_true rfl) (fun v9 w9 hR => ?_)
    obtain ⟨rfl, e9⟩ := hR
    refine x_ew e9 ?_
    simp only [Option.toList_some, Option.toList_none, List.cons_append, List.nil_append]
    refine x_callV (ci := 3) (C := RX2) (T := TX2) (N := 4) Z okX2_acted q351 q353 q6 rfl dX2_join_44 (c_X2_acted h0 htr hS) hS.1 ⟨Nat.le_of_ble_eq_true rfl, Nat.le_of_ble_eq_true rfl, Nat.le_of_ble_eq_true rfl, Nat.le_of_ble_eq_true rfl⟩ rfl rfl (Nat.le_of_ble_eq_true rfl) (fun v9 w9 hR => ?_)
    obtain ⟨rfl, hS, hf9⟩ := hR
    have hf0 := hf0.tr hf9
    simp only [Option.toList_some, Option.toList_none, List.cons_append, List.nil_append]
    exact x_iret Z E (⟨⟨_, rfl⟩, _, hS, rfl, hf0⟩) dX2_join_47 (Nat.le_of_ble_eq_true rfl) (Nat.le_of_ble_eq_true rfl)
  ·
    refine x_aload_n Z dX2_join_28 rfl rfl ?_
    refine x_callV (ci := 3) (C := RX2) (T := TX2) (N := 4) Z okX2_refused q339 q341 q5 rfl dX2_join_29 (c_X2_refused h0 htr hS) hS.1 ⟨Nat.le_of_ble_eq_true rfl, Nat.le_of_ble_eq_true rfl, Nat.le_of_ble_eq_true rfl, Nat.le_of_ble_eq_true rfl⟩ rfl rfl (Nat.le_of_ble_eq_true rfl) (fun v9 w9 hR => ?_)
    obtain ⟨rfl, hS, hf9⟩ := hR
    have hf0 := hf0.tr hf9
    simp only [Option.toList_some, Option.toList_none, List.cons_append, List.nil_append]
    exact x_iret Z E (⟨⟨_, rfl⟩, _, hS, rfl, hf0⟩) dX2_join_32 (Nat.le_of_ble_eq_true rfl) (Nat.le_of_ble_eq_true rfl)
abbrev rmc_X2_turn : Room := { frames := 7, cells := 1, slots := 6, locals := 121 }
set_option maxRecDepth 100000 in
theorem c_X2_turn {l : Launch} {s0 : State} {G : gK} {w : wd} (h0 : gS0 s0) (htr : l.stackTraces = false) {K : kA} {M : kM} {t : Int} (hS : kS G w K M) (ht : inr t) : gM l s0 G yX2_turn [Cond.code yX2_turn cX2_turn 2 (some .int)] rmc_X2_turn [rv K.1, iv t] w (fun v w' => (∃ z : Int, v = some (iv z)) ∧ kW G w K M w') (fun X w' => X = "java/lang/IndexOutOfBoundsException" ∧ w' = w) := by
  refine g_of h0 htr (by decide +kernel) (Nat.le_of_ble_eq_true rfl) ?_
  intro b Z0 E
  have Z : gAm b l s0 G cX2_turn RX2 2 rmc_X2_turn := Z0
  refine x_el (L' := [(0, rv K.1), (1, iv t)]) rfl ?_
  obtain ⟨hk1, ⟨f0, hk2, hk3⟩, hk4, hk5⟩ := id hS
  have hf0 : fr (kP K) w w := fr.rf
  refine x_aload_n Z dX2_turn_0 rfl rfl ?_
  refine x_aload_n Z dX2_turn_1 rfl rfl ?_
  refine x_iload_n Z dX2_turn_2 rfl rfl ?_
  refine x_callVx (ci := 3) (C := RX2) (T := TX2) (N := 4) Z okX2_textAt q313 q315 q3 rfl dX2_turn_3 (c_X2_textAt h0 htr hS (by assumption)) hS.1 ⟨Nat.le_of_ble_eq_true rfl, Nat.le_of_ble_eq_true rfl, Nat.le_of_ble_eq_true rfl, Nat.le_of_ble_eq_true rfl⟩ rfl rfl (Nat.le_of_ble_eq_true rfl) (fun X w9 hX => x_out Z E (hX) (Nat.le_of_ble_eq_true rfl) (Nat.le_of_ble_eq_true rfl)) (fun v9 w9 hR => ?_)
  obtain ⟨⟨rfl, e9⟩, hp0t, hp3t⟩ := hR
  refine x_ew e9 ?_
  simp only [Option.toList_some, Option.toList_none, List.cons_append, List.nil_append]
  obtain ⟨B, ht⟩ := hS.2.2.1 t hp0t hp3t
  obtain ⟨ha, hr, hb, hn0, hn30, hC⟩ := id ht
  refine x_callV (ci := 2) (C := RX1) (T := TX1) (N := 3) Z okX1_reverse q425 q426 q427 rfl dX2_turn_6 (c_X1_reverse h0 htr ht) ht.1 ⟨Nat.le_of_ble_eq_true rfl, Nat.le_of_ble_eq_true rfl, Nat.le_of_ble_eq_true rfl, Nat.le_of_ble_eq_true rfl⟩ rfl rfl (Nat.le_of_ble_eq_true rfl) (fun v9 w9 hR => ?_)
  obtain ⟨⟨q, rfl⟩, n, C, B, ht, hf9⟩ := hR
  obtain ⟨ha, hr, hb, hn0, hn30, hC⟩ := id ht
  simp only [Option.toList_some, Option.toList_none, List.cons_append, List.nil_append]
  have hS := hS.put hp0t hp3t ht hf9
  have hf0 := hf0.tr (hf9.mono (kP_t hp0t hp3t))
  refine x_ifb_eq Z 16 dX2_turn_9 (by decide) (fun c9 => ?_) (fun c9 => ?_)
  ·
    refine x_ib false Z dX2_turn_16 (by decide) ?_
    refine x_callV (ci := 3) (C := RX2) (T := TX2) (N := 4) Z okX2_acted q351 q353 q6 rfl dX2_turn_17 (c_X2_acted h0 htr hS) hS.1 ⟨Nat.le_of_ble_eq_true rfl, Nat.le_of_ble_eq_true rfl, Nat.le_of_ble_eq_true rfl, Nat.le_of_ble_eq_true rfl⟩ rfl rfl (Nat.le_of_ble_eq_true rfl) (fun v9 w9 hR => ?_)
    obtain ⟨rfl, hS, hf9⟩ := hR
    have hf0 := hf0.tr hf9
    simp only [Option.toList_some, Option.toList_none, List.cons_append, List.nil_append]
    exact x_iret Z E (⟨⟨_, rfl⟩, _, hS, rfl, hf0⟩) dX2_turn_20 (Nat.le_of_ble_eq_true rfl) (Nat.le_of_ble_eq_true rfl)
  ·
    refine x_ib true Z dX2_turn_12 (by decide) ?_
    refine x_goto Z 17 dX2_turn_13 (by decide) ?_
    refine x_callV (ci := 3) (C := RX2) (T := TX2) (N := 4) Z okX2_acted q351 q353 q6 rfl dX2_turn_17 (c_X2_acted h0 htr hS) hS.1 ⟨Nat.le_of_ble_eq_true rfl, Nat.le_of_ble_eq_true rfl, Nat.le_of_ble_eq_true rfl, Nat.le_of_ble_eq_true rfl⟩ rfl rfl (Nat.le_of_ble_eq_true rfl) (fun v9 w9 hR => ?_)
    obtain ⟨rfl, hS, hf9⟩ := hR
    have hf0 := hf0.tr hf9
    simp only [Option.toList_some, Option.toList_none, List.cons_append, List.nil_append]
    exact x_iret Z E (⟨⟨_, rfl⟩, _, hS, rfl, hf0⟩) dX2_turn_20 (Nat.le_of_ble_eq_true rfl) (Nat.le_of_ble_eq_true rfl)
abbrev rmc_X2_fill : Room := { frames := 7, cells := 3, slots := 18, locals := 121 }
set_option maxRecDepth 100000 in
theorem c_X2_fill {l : Launch} {s0 : State} {G : gK} {w : wd} (h0 : gS0 s0) (htr : l.stackTraces = false) {K : kA} {M : kM} {t : Int} {f : Int} {m : Int} (hS : kS G w K M) (ht : inr t) (hf : inr f) (hm : inr m) : gM l s0 G yX2_fill [Cond.code yX2_fill cX2_fill 7 (some .int)] rmc_X2_fill [rv K.1, iv t, iv f, iv m] w (fun v w' => (∃ z : Int, v = some (iv z)) ∧ kW G w K M w') (fun X w' => (X = "java/lang/IndexOutOfBoundsException" ∨ X = "java/lang/IllegalArgumentException") ∧ w' = w) := by
  refine g_of h0 htr (by decide +kernel) (Nat.le_of_ble_eq_true rfl) ?_
  intro b Z0 E
  have Z : gAm b l s0 G cX2_fill RX2 7 rmc_X2_fill := Z0
  refine x_el (L' := [(0, rv K.1), (1, iv t), (2, iv f), (3, iv m)]) rfl ?_
  obtain ⟨hk1, ⟨f0, hk2, hk3⟩, hk4, hk5⟩ := id hS
  have hf0 : fr (kP K) w w := fr.rf
  refine x_aload_n Z dX2_fill_0 rfl rfl ?_
  refine x_iload_n Z dX2_fill_1 rfl rfl ?_
  refine x_callVx (ci := 3) (C := RX2) (T := TX2) (N := 4) Z okX2_textAt q313 q315 q3 rfl dX2_fill_2 (c_X2_textAt h0 htr hS (by assumption)) hS.1 ⟨Nat.le_of_ble_eq_true rfl, Nat.le_of_ble_eq_true rfl, Nat.le_of_ble_eq_true rfl, Nat.le_of_ble_eq_true rfl⟩ rfl rfl (Nat.le_of_ble_eq_true rfl) (fun X w9 hX => x_out Z E (⟨Or.inl hX.1, hX.2⟩) (Nat.le_of_ble_eq_true rfl) (Nat.le_of_ble_eq_true rfl)) (fun v9 w9 hR => ?_)
  obtain ⟨⟨rfl, e9⟩, hp0t, hp3t⟩ := hR
  refine x_ew e9 ?_
  simp only [Option.toList_some, Option.toList_none, List.cons_append, List.nil_append]
  obtain ⟨B, ht⟩ := hS.2.2.1 t hp0t hp3t
  obtain ⟨ha, hr, hb, hn0, hn30, hC⟩ := id ht
  refine x_astore (L' := [(4, _), (0, _), (1, _), (2, _), (3, _)]) Z dX2_fill_5 (Nat.le_of_ble_eq_true rfl) rfl ?_
  refine x_iload_n Z dX2_fill_7 rfl rfl ?_
  refine x_callSx Z okX2_checkSign q332 q333 dX2_fill_8 (c_X2_checkSign h0 htr (by assumption)) ⟨Nat.le_of_ble_eq_true rfl, Nat.le_of_ble_eq_true rfl, Nat.le_of_ble_eq_true rfl, Nat.le_of_ble_eq_true rfl⟩ rfl rfl (Nat.le_of_ble_eq_true rfl) (fun X w9 hX => x_out Z E (⟨Or.inr hX.1, hX.2⟩) (Nat.le_of_ble_eq_true rfl) (Nat.le_of_ble_eq_true rfl)) (fun v9 w9 hR => ?_)
  obtain ⟨⟨rfl, e9⟩, hq0, hq9⟩ := hR
  refine x_ew e9 ?_
  simp only [Option.toList_some, Option.toList_none, List.cons_append, List.nil_append]
  refine x_iload_n Z dX2_fill_11 rfl rfl ?_
  refine x_if_lt Z 30 dX2_fill_12 (by decide) ⟨by omega, by omega⟩ (fun c12 => ?_) (fun c12 => ?_)
  ·
    exact x_thr Z E (cls := "java/lang/IllegalArgumentException") (ik := 71) (ic := 73) (by decide +kernel) wsIA dX2_fill_30 dX2_fill_33 dX2_fill_34 dX2_fill_37 (Nat.le_of_ble_eq_true rfl) (Nat.le_of_ble_eq_true rfl) (Nat.le_of_ble_eq_true rfl) (Nat.le_of_ble_eq_true rfl) ⟨Or.inr rfl, rfl⟩
  ·
    refine x_iload_n Z dX2_fill_15 rfl rfl ?_
    refine x_bipush Z dX2_fill_16 (by decide +kernel) ?_
    refine x_icmp_gt Z 30 dX2_fill_18 (by decide) ⟨by omega, by omega⟩ ⟨by omega, by omega⟩ (fun c18 => ?_) (fun c18 => ?_)
    ·
      exact x_thr Z E (cls := "java/lang/IllegalArgumentException") (ik := 71) (ic := 73) (by decide +kernel) wsIA dX2_fill_30 dX2_fill_33 dX2_fill_34 dX2_fill_37 (Nat.le_of_ble_eq_true rfl) (Nat.le_of_ble_eq_true rfl) (Nat.le_of_ble_eq_true rfl) (Nat.le_of_ble_eq_true rfl) ⟨Or.inr rfl, rfl⟩
    ·
      refine x_iload_n Z dX2_fill_21 rfl rfl ?_
      refine x_iload_n Z dX2_fill_22 rfl rfl ?_
      refine x_iadd Z dX2_fill_23 ?_
      refine x_sipush Z dX2_fill_24 (by decide +kernel) ?_
      refine x_icmp_le Z 38 dX2_fill_27 (by decide) ⟨by omega, by omega⟩ ⟨by omega, by omega⟩ (fun c27 => ?_) (fun c27 => ?_)
      ·
        refine x_aload Z dX2_fill_38 rfl ?_
        refine x_iconst Z dX2_fill_40 ?_
        refine x_callV (ci := 2) (C := RX1) (T := TX1) (N := 3) Z okX1_retain q385 q386 q387 rfl dX2_fill_41 (c_X1_retain h0 htr ht) ht.1 ⟨Nat.le_of_ble_eq_true rfl, Nat.le_of_ble_eq_true rfl, Nat.le_of_ble_eq_true rfl, Nat.le_of_ble_eq_true rfl⟩ rfl rfl (Nat.le_of_ble_eq_true rfl) (fun v9 w9 hR => ?_)
        obtain ⟨rfl, B, ht, hf9⟩ := hR
        obtain ⟨ha, hr, hb, hn0, hn30, hC⟩ := id ht
        simp only [Option.toList_some, Option.toList_none, List.cons_append, List.nil_append]
        have ht : tX G w9 (K.2.2.1 t) (K.2.2.2.1 t) (K.2.2.2.2 t) 0 (M.2.1 t) B := by { have h := ht; rw [sft0 (fun j => inB0 j)] at h; exact h }
        have hS := hS.put hp0t hp3t ht hf9
        have hf0 := hf0.tr (hf9.mono (kP_t hp0t hp3t))
        refine x_istore (L' := [(5, _), (4, _), (0, _), (1, _), (2, _), (3, _)]) Z dX2_fill_44 (Nat.le_of_ble_eq_true rfl) rfl ?_
        refine x_iconst Z dX2_fill_46 ?_
        refine x_istore (L' := [(6, _), (5, _), (4, _), (0, _), (1, _), (2, _), (3, _)]) Z dX2_fill_47 (Nat.le_of_ble_eq_true rfl) rfl ?_
        have loop49 : ∀ (fu : Nat) (i n : Int) (C B : Int → Int) (M1 : kM) (w1 : wd), m - i < (fu : Int) → (0 ≤ i ∧ i ≤ m ∧ n = i ∧ tX G w1 (K.2.2.1 t) (K.2.2.2.1 t) (K.2.2.2.2 t) n C B ∧ kS G w1 K M1 ∧ M1.2.2.2.2 = M.2.2.2.2 ∧ fr (kP K) w w1) → gX b s0 G (2) (12) 49 [(6, iv i), (5, iv (M.1 t - (sft (inB 0) (M.1 t) (M.2.1 t)).1)), (4, rv (K.2.2.1 t)), (0, rv K.1), (1, iv t), (2, iv f), (3, iv m)] [] (w1) := by
          intro fu; induction fu with
          | zero => intro i n C B M1 w1 hm hv; exact absurd hm (by omega)
          | succ fu ih49 =>
            intro i n C B M1 w1 hm hv
            obtain ⟨hi0, him, hni, ht, hS, hkn, hf0⟩ := hv
            obtain ⟨ha, hr, hb, hn0, hn30, hC⟩ := id ht
            refine x_iload Z dX2_fill_49 rfl ?_
            refine x_iload_n Z dX2_fill_51 rfl rfl ?_
            refine x_icmp_ge Z 72 dX2_fill_52 (by decide) ⟨by omega, by omega⟩ ⟨by omega, by omega⟩ (fun c52 => ?_) (fun c52 => ?_)
            ·
              refine x_aload_n Z dX2_fill_72 rfl rfl ?_
              refine x_iload Z dX2_fill_73 rfl ?_
              refine x_callV (ci := 3) (C := RX2) (T := TX2) (N := 4) Z okX2_acted q351 q353 q6 rfl dX2_fill_75 (c_X2_acted h0 htr hS) hS.1 ⟨Nat.le_of_ble_eq_true rfl, Nat.le_of_ble_eq_true rfl, Nat.le_of_ble_eq_true rfl, Nat.le_of_ble_eq_true rfl⟩ rfl rfl (Nat.le_of_ble_eq_true rfl) (fun v9 w9 hR => ?_)
              obtain ⟨rfl, hS, hf9⟩ := hR
              have hf0 := hf0.tr hf9
              simp only [Option.toList_some, Option.toList_none, List.cons_append, List.nil_append]
              exact x_iret Z E (⟨⟨_, rfl⟩, _, hS, hkn, hf0⟩) dX2_fill_78 (Nat.le_of_ble_eq_true rfl) (Nat.le_of_ble_eq_true rfl)
            ·
              refine x_aload Z dX2_fill_55 rfl ?_
              refine x_iload Z dX2_fill_57 rfl ?_
              refine x_iload_n Z dX2_fill_59 rfl rfl ?_
              refine x_iload Z dX2_fill_60 rfl ?_
              refine x_iadd Z dX2_fill_62 ?_
              refine x_callV (ci := 2) (C := RX1) (T := TX1) (N := 3) Z okX1_insertSign q343 q344 q345 rfl dX2_fill_63 (c_X1_insertSign h0 htr ht (by omega) (by omega) (by omega) (by omega) (by omega)) ht.1 ⟨Nat.le_of_ble_eq_true rfl, Nat.le_of_ble_eq_true rfl, Nat.le_of_ble_eq_true rfl, Nat.le_of_ble_eq_true rfl⟩ rfl rfl (Nat.le_of_ble_eq_true rfl) (fun v9 w9 hR => ?_)
              obtain ⟨rfl, C, ht, hf9⟩ := hR
              obtain ⟨ha, hr, hb, hn0, hn30, hC⟩ := id ht
              simp only [Option.toList_some, Option.toList_none, List.cons_append, List.nil_append]
              have hS := hS.put hp0t hp3t ht hf9
              have hf0 := hf0.tr (hf9.mono (kP_t hp0t hp3t))
              refine x_iinc (L' := [(6, _), (5, _), (4, _), (0, _), (1, _), (2, _), (3, _)]) Z dX2_fill_66 rfl (Nat.le_of_ble_eq_true rfl) rfl ?_
              refine x_goto Z 49 dX2_fill_69 (by decide) ?_
              exact ih49 (i + 1) _ _ _ _ _ (by omega) ⟨by omega, by omega, by omega, ht, hS, hkn, hf0⟩
        exact loop49 40 0 0 _ _ _ _ (by omega) ⟨by omega, by omega, rfl, ht, hS, rfl, hf0⟩
      ·
        exact x_thr Z E (cls := "java/lang/IllegalArgumentException") (ik := 71) (ic := 73) (by decide +kernel) wsIA dX2_fill_30 dX2_fill_33 dX2_fill_34 dX2_fill_37 (Nat.le_of_ble_eq_true rfl) (Nat.le_of_ble_eq_true rfl) (Nat.le_of_ble_eq_true rfl) (Nat.le_of_ble_eq_true rfl) ⟨Or.inr rfl, rfl⟩
abbrev rmc_X2_cut : Room := { frames := 7, cells := 2, slots := 12, locals := 121 }
set_option maxRecDepth 100000 in
theorem c_X2_cut {l : Launch} {s0 : State} {G : gK} {w : wd} (h0 : gS0 s0) (htr : l.stackTraces = false) {K : kA} {M : kM} {t : Int} {f : Int} {g : Int} (hS : kS G w K M) (ht : inr t) (hf : inr f) (hg : inr g) : gM l s0 G yX2_cut [Cond.code yX2_cut cX2_cut 5 (some .int)] rmc_X2_cut [rv K.1, iv t, iv f, iv g] w (fun v w' => (∃ z : Int, v = some (iv z)) ∧ kW G w K M w') (fun X w' => X = "java/lang/IndexOutOfBoundsException" ∧ w' = w) := by
  refine g_of h0 htr (by decide +kernel) (Nat.le_of_ble_eq_true rfl) ?_
  intro b Z0 E
  have Z : gAm b l s0 G cX2_cut RX2 5 rmc_X2_cut := Z0
  refine x_el (L' := [(0, rv K.1), (1, iv t), (2, iv f), (3, iv g)]) rfl ?_
  obtain ⟨hk1, ⟨f0, hk2, hk3⟩, hk4, hk5⟩ := id hS
  have hf0 : fr (kP K) w w := fr.rf
  refine x_aload_n Z dX2_cut_0 rfl rfl ?_
  refine x_iload_n Z dX2_cut_1 rfl rfl ?_
  refine x_callVx (ci := 3) (C := RX2) (T := TX2) (N := 4) Z okX2_textAt q313 q315 q3 rfl dX2_cut_2 (c_X2_textAt h0 htr hS (by assumption)) hS.1 ⟨Nat.le_of_ble_eq_true rfl, Nat.le_of_ble_eq_true rfl, Nat.le_of_ble_eq_true rfl, Nat.le_of_ble_eq_true rfl⟩ rfl rfl (Nat.le_of_ble_eq_true rfl) (fun X w9 hX => x_out Z E (hX) (Nat.le_of_ble_eq_true rfl) (Nat.le_of_ble_eq_true rfl)) (fun v9 w9 hR => ?_)
  obtain ⟨⟨rfl, e9⟩, hp0t, hp3t⟩ := hR
  refine x_ew e9 ?_
  simp only [Option.toList_some, Option.toList_none, List.cons_append, List.nil_append]
  obtain ⟨B, ht⟩ := hS.2.2.1 t hp0t hp3t
  obtain ⟨ha, hr, hb, hn0, hn30, hC⟩ := id ht
  refine x_astore (L' := [(4, _), (0, _), (1, _), (2, _), (3, _)]) Z dX2_cut_5 (Nat.le_of_ble_eq_true rfl) rfl ?_
  refine x_iload_n Z dX2_cut_7 rfl rfl ?_
  refine x_if_lt Z 25 dX2_cut_8 (by decide) ⟨by omega, by omega⟩ (fun c8 => ?_) (fun c8 => ?_)
  ·
    exact x_thr Z E (cls := "java/lang/IndexOutOfBoundsException") (ik := 47) (ic := 49) (by decide +kernel) wsIO dX2_cut_25 dX2_cut_28 dX2_cut_29 dX2_cut_32 (Nat.le_of_ble_eq_true rfl) (Nat.le_of_ble_eq_true rfl) (Nat.le_of_ble_eq_true rfl) (Nat.le_of_ble_eq_true rfl) ⟨rfl, rfl⟩
  ·
    refine x_iload_n Z dX2_cut_11 rfl rfl ?_
    refine x_iload_n Z dX2_cut_12 rfl rfl ?_
    refine x_icmp_gt Z 25 dX2_cut_13 (by decide) ⟨by omega, by omega⟩ ⟨by omega, by omega⟩ (fun c13 => ?_) (fun c13 => ?_)
    ·
      exact x_thr Z E (cls := "java/lang/IndexOutOfBoundsException") (ik := 47) (ic := 49) (by decide +kernel) wsIO dX2_cut_25 dX2_cut_28 dX2_cut_29 dX2_cut_32 (Nat.le_of_ble_eq_true rfl) (Nat.le_of_ble_eq_true rfl) (Nat.le_of_ble_eq_true rfl) (Nat.le_of_ble_eq_true rfl) ⟨rfl, rfl⟩
    ·
      refine x_iload_n Z dX2_cut_16 rfl rfl ?_
      refine x_aload Z dX2_cut_17 rfl ?_
      refine x_callV (ci := 2) (C := RX1) (T := TX1) (N := 3) Z okX1_size q217 q218 q219 rfl dX2_cut_19 (c_X1_size h0 htr ht) ht.1 ⟨Nat.le_of_ble_eq_true rfl, Nat.le_of_ble_eq_true rfl, Nat.le_of_ble_eq_true rfl, Nat.le_of_ble_eq_true rfl⟩ rfl rfl (Nat.le_of_ble_eq_true rfl) (fun v9 w9 hR => ?_)
      obtain ⟨rfl, e9⟩ := hR
      refine x_ew e9 ?_
      simp only [Option.toList_some, Option.toList_none, List.cons_append, List.nil_append]
      refine x_icmp_le Z 33 dX2_cut_22 (by decide) ⟨by omega, by omega⟩ ⟨by omega, by omega⟩ (fun c22 => ?_) (fun c22 => ?_)
      ·
        refine x_aload Z dX2_cut_33 rfl ?_
        refine x_aload Z dX2_cut_35 rfl ?_
        refine x_iload_n Z dX2_cut_37 rfl rfl ?_
        refine x_iload_n Z dX2_cut_38 rfl rfl ?_
        refine x_callV (ci := 2) (C := RX1) (T := TX1) (N := 3) Z okX1_become q403 q404 q405 rfl dX2_cut_39 (c_X1_become h0 htr ht ht (hS.self hp0t hp3t hp0t hp3t) (by omega) (by omega) (by omega)) ht.1 ⟨Nat.le_of_ble_eq_true rfl, Nat.le_of_ble_eq_true rfl, Nat.le_of_ble_eq_true rfl, Nat.le_of_ble_eq_true rfl⟩ rfl rfl (Nat.le_of_ble_eq_true rfl) (fun v9 w9 hR => ?_)
        obtain ⟨rfl, n, C, B, ht, hf9⟩ := hR
        obtain ⟨ha, hr, hb, hn0, hn30, hC⟩ := id ht
        simp only [Option.toList_some, Option.toList_none, List.cons_append, List.nil_append]
        have hS := hS.put hp0t hp3t ht hf9
        have hf0 := hf0.tr (hf9.mono (kP_t hp0t hp3t))
        refine x_aload_n Z dX2_cut_42 rfl rfl ?_
        refine x_aload Z dX2_cut_43 rfl ?_
        refine x_callV (ci := 2) (C := RX1) (T := TX1) (N := 3) Z okX1_size q217 q218 q219 rfl dX2_cut_45 (c_X1_size h0 htr ht) ht.1 ⟨Nat.le_of_ble_eq_true rfl, Nat.le_of_ble_eq_true rfl, Nat.le_of_ble_eq_true rfl, Nat.le_of_ble_eq_true rfl⟩ rfl rfl (Nat.le_of_ble_eq_true rfl) (fun v9 w9 hR => ?_)
        obtain ⟨rfl, e9⟩ := hR
        refine x_ew e9 ?_
        simp only [Option.toList_some, Option.toList_none, List.cons_append, List.nil_append]
        refine x_callV (ci := 3) (C := RX2) (T := TX2) (N := 4) Z okX2_acted q351 q353 q6 rfl dX2_cut_48 (c_X2_acted h0 htr hS) hS.1 ⟨Nat.le_of_ble_eq_true rfl, Nat.le_of_ble_eq_true rfl, Nat.le_of_ble_eq_true rfl, Nat.le_of_ble_eq_true rfl⟩ rfl rfl (Nat.le_of_ble_eq_true rfl) (fun v9 w9 hR => ?_)
        obtain ⟨rfl, hS, hf9⟩ := hR
        have hf0 := hf0.tr hf9
        simp only [Option.toList_some, Option.toList_none, List.cons_append, List.nil_append]
        exact x_iret Z E (⟨⟨_, rfl⟩, _, hS, rfl, hf0⟩) dX2_cut_51 (Nat.le_of_ble_eq_true rfl) (Nat.le_of_ble_eq_true rfl)
      ·
        exact x_thr Z E (cls := "java/lang/IndexOutOfBoundsException") (ik := 47) (ic := 49) (by decide +kernel) wsIO dX2_cut_25 dX2_cut_28 dX2_cut_29 dX2_cut_32 (Nat.le_of_ble_eq_true rfl) (Nat.le_of_ble_eq_true rfl) (Nat.le_of_ble_eq_true rfl) (Nat.le_of_ble_eq_true rfl) ⟨rfl, rfl⟩
abbrev rmc_X2_sifted : Room := { frames := 2, cells := 0, slots := 0, locals := 44 }
set_option maxRecDepth 100000 in
theorem c_X2_sifted {l : Launch} {s0 : State} {G : gK} {w : wd} (h0 : gS0 s0) (htr : l.stackTraces = false) {a r bb : Nat} {n : Int} {C B : Int → Int} {m : Int} {q : Bool} (ht : tX G w a r bb n C B) : gM l s0 G yX2_sifted [Cond.code yX2_sifted cX2_sifted 3 (some .int)] rmc_X2_sifted [rv a, iv m, iv (b2 q)] w (fun v w' => v = some (iv (n - (sft (inB (cond q m (bAnd (bShl 1 n - 1) (bXor m (-1))))) n C).1)) ∧ ∃ B', tX G w' a r bb (sft (inB (cond q m (bAnd (bShl 1 n - 1) (bXor m (-1))))) n C).1 (sft (inB (cond q m (bAnd (bShl 1 n - 1) (bXor m (-1))))) n C).2 B' ∧ fr (tP a r bb) w w') (noX) := by
  refine g_of h0 htr (by decide +kernel) (Nat.le_of_ble_eq_true rfl) ?_
  intro b Z0 E
  have Z : gAm b l s0 G cX2_sifted RX2 3 rmc_X2_sifted := Z0
  refine x_el (L' := [(0, rv a), (1, iv m), (2, iv (b2 q))]) rfl ?_
  obtain ⟨ha, hr, hb, hn0, hn30, hC⟩ := id ht
  refine x_aload_n Z dX2_sifted_0 rfl rfl ?_
  refine x_iload_n Z dX2_sifted_1 rfl rfl ?_
  refine x_ifb_eq Z 9 dX2_sifted_2 (by decide) (fun c2 => ?_) (fun c2 => ?_)
  ·
    refine x_aload_n Z dX2_sifted_9 rfl rfl ?_
    refine x_callV (ci := 2) (C := RX1) (T := TX1) (N := 3) Z okX1_allPlaces q381 q382 q383 rfl dX2_sifted_10 (c_X1_allPlaces h0 htr ht) ht.1 ⟨Nat.le_of_ble_eq_true rfl, Nat.le_of_ble_eq_true rfl, Nat.le_of_ble_eq_true rfl, Nat.le_of_ble_eq_true rfl⟩ rfl rfl (Nat.le_of_ble_eq_true rfl) (fun v9 w9 hR => ?_)
    obtain ⟨rfl, e9⟩ := hR
    refine x_ew e9 ?_
    simp only [Option.toList_some, Option.toList_none, List.cons_append, List.nil_append]
    refine x_iload_n Z dX2_sifted_13 rfl rfl ?_
    refine x_iconst Z dX2_sifted_14 ?_
    refine x_ixor Z dX2_sifted_15 ?_
    refine x_iand Z dX2_sifted_16 ?_
    refine x_callV (ci := 2) (C := RX1) (T := TX1) (N := 3) Z okX1_retain q385 q386 q387 rfl dX2_sifted_17 (c_X1_retain h0 htr ht) ht.1 ⟨Nat.le_of_ble_eq_true rfl, Nat.le_of_ble_eq_true rfl, Nat.le_of_ble_eq_true rfl, Nat.le_of_ble_eq_true rfl⟩ rfl rfl (Nat.le_of_ble_eq_true rfl) (fun v9 w9 hR => ?_)
    obtain ⟨rfl, B, ht, hf9⟩ := hR
    obtain ⟨ha, hr, hb, hn0, hn30, hC⟩ := id ht
    simp only [Option.toList_some, Option.toList_none, List.cons_append, List.nil_append]
    exact x_iret Z E (by subst c2; exact ⟨rfl, B, ht, hf9⟩) dX2_sifted_20 (Nat.le_of_ble_eq_true rfl) (Nat.le_of_ble_eq_true rfl)
  ·
    refine x_iload_n Z dX2_sifted_5 rfl rfl ?_
    refine x_goto Z 17 dX2_sifted_6 (by decide) ?_
    refine x_callV (ci := 2) (C := RX1) (T := TX1) (N := 3) Z okX1_retain q385 q386 q387 rfl dX2_sifted_17 (c_X1_retain h0 htr ht) ht.1 ⟨Nat.le_of_ble_eq_true rfl, Nat.le_of_ble_eq_true rfl, Nat.le_of_ble_eq_true rfl, Nat.le_of_ble_eq_true rfl⟩ rfl rfl (Nat.le_of_ble_eq_true rfl) (fun v9 w9 hR => ?_)
    obtain ⟨rfl, B, ht, hf9⟩ := hR
    obtain ⟨ha, hr, hb, hn0, hn30, hC⟩ := id ht
    simp only [Option.toList_some, Option.toList_none, List.cons_append, List.nil_append]
    exact x_iret Z E (by subst c2; exact ⟨rfl, B, ht, hf9⟩) dX2_sifted_20 (Nat.le_of_ble_eq_true rfl) (Nat.le_of_ble_eq_true rfl)
abbrev rmc_X2_keep : Room := { frames := 7, cells := 2, slots := 12, locals := 121 }
set_option maxRecDepth 100000 in
theorem c_X2_keep {l : Launch} {s0 : State} {G : gK} {w : wd} (h0 : gS0 s0) (htr : l.stackTraces = false) {K : kA} {M : kM} {t : Int} {q : Int} {o : Bool} (hS : kS G w K M) (ht : inr t) (hq : inr q) : gM l s0 G yX2_keep [Cond.code yX2_keep cX2_keep 5 (some .int)] rmc_X2_keep [rv K.1, iv t, iv q, iv (b2 o)] w (fun v w' => (∃ z : Int, v = some (iv z)) ∧ kW G w K M w') (fun X w' => (X = "java/lang/IndexOutOfBoundsException" ∨ X = "java/lang/IllegalArgumentException") ∧ w' = w) := by
  refine g_of h0 htr (by decide +kernel) (Nat.le_of_ble_eq_true rfl) ?_
  intro b Z0 E
  have Z : gAm b l s0 G cX2_keep RX2 5 rmc_X2_keep := Z0
  refine x_el (L' := [(0, rv K.1), (1, iv t), (2, iv q), (3, iv (b2 o))]) rfl ?_
  obtain ⟨hk1, ⟨f0, hk2, hk3⟩, hk4, hk5⟩ := id hS
  have hf0 : fr (kP K) w w := fr.rf
  refine x_aload_n Z dX2_keep_0 rfl rfl ?_
  refine x_iload_n Z dX2_keep_1 rfl rfl ?_
  refine x_callVx (ci := 3) (C := RX2) (T := TX2) (N := 4) Z okX2_textAt q313 q315 q3 rfl dX2_keep_2 (c_X2_textAt h0 htr hS (by assumption)) hS.1 ⟨Nat.le_of_ble_eq_true rfl, Nat.le_of_ble_eq_true rfl, Nat.le_of_ble_eq_true rfl, Nat.le_of_ble_eq_true rfl⟩ rfl rfl (Nat.le_of_ble_eq_true rfl) (fun X w9 hX => x_out Z E (⟨Or.inl hX.1, hX.2⟩) (Nat.le_of_ble_eq_true rfl) (Nat.le_of_ble_eq_true rfl)) (fun v9 w9 hR => ?_)
  obtain ⟨⟨rfl, e9⟩, hp0t, hp3t⟩ := hR
  refine x_ew e9 ?_
  simp only [Option.toList_some, Option.toList_none, List.cons_append, List.nil_append]
  obtain ⟨B, ht⟩ := hS.2.2.1 t hp0t hp3t
  obtain ⟨ha, hr, hb, hn0, hn30, hC⟩ := id ht
  refine x_astore (L' := [(4, _), (0, _), (1, _), (2, _), (3, _)]) Z dX2_keep_5 (Nat.le_of_ble_eq_true rfl) rfl ?_
  refine x_iload_n Z dX2_keep_7 rfl rfl ?_
  refine x_callSx Z okX2_checkQuestion q450 q451 dX2_keep_8 (c_X2_checkQuestion h0 htr (by assumption)) ⟨Nat.le_of_ble_eq_true rfl, Nat.le_of_ble_eq_true rfl, Nat.le_of_ble_eq_true rfl, Nat.le_of_ble_eq_true rfl⟩ rfl rfl (Nat.le_of_ble_eq_true rfl) (fun X w9 hX => x_out Z E (⟨Or.inr hX.1, hX.2⟩) (Nat.le_of_ble_eq_true rfl) (Nat.le_of_ble_eq_true rfl)) (fun v9 w9 hR => ?_)
  obtain ⟨⟨rfl, e9⟩, hq0, hq9⟩ := hR
  refine x_ew e9 ?_
  simp only [Option.toList_some, Option.toList_none, List.cons_append, List.nil_append]
  refine x_aload_n Z dX2_keep_11 rfl rfl ?_
  refine x_aload Z dX2_keep_12 rfl ?_
  refine x_aload Z dX2_keep_14 rfl ?_
  refine x_iload_n Z dX2_keep_16 rfl rfl ?_
  refine x_callV (ci := 2) (C := RX1) (T := TX1) (N := 3) Z okX1_placesOf q453 q206 q207 rfl dX2_keep_17 (c_X1_placesOf h0 htr ht (by omega) (by omega)) ht.1 ⟨Nat.le_of_ble_eq_true rfl, Nat.le_of_ble_eq_true rfl, Nat.le_of_ble_eq_true rfl, Nat.le_of_ble_eq_true rfl⟩ rfl rfl (Nat.le_of_ble_eq_true rfl) (fun v9 w9 hR => ?_)
  obtain ⟨rfl, e9⟩ := hR
  refine x_ew e9 ?_
  simp only [Option.toList_some, Option.toList_none, List.cons_append, List.nil_append]
  refine x_iload_n Z dX2_keep_20 rfl rfl ?_
  refine x_callS Z okX2_sifted q454 q455 dX2_keep_21 (c_X2_sifted h0 htr ht) ⟨Nat.le_of_ble_eq_true rfl, Nat.le_of_ble_eq_true rfl, Nat.le_of_ble_eq_true rfl, Nat.le_of_ble_eq_true rfl⟩ rfl rfl (Nat.le_of_ble_eq_true rfl) (fun v9 w9 hR => ?_)
  obtain ⟨rfl, B, ht, hf9⟩ := hR
  obtain ⟨ha, hr, hb, hn0, hn30, hC⟩ := id ht
  simp only [Option.toList_some, Option.toList_none, List.cons_append, List.nil_append]
  have hS := hS.put hp0t hp3t ht hf9
  have hf0 := hf0.tr (hf9.mono (kP_t hp0t hp3t))
  refine x_callV (ci := 3) (C := RX2) (T := TX2) (N := 4) Z okX2_acted q351 q353 q6 rfl dX2_keep_24 (c_X2_acted h0 htr hS) hS.1 ⟨Nat.le_of_ble_eq_true rfl, Nat.le_of_ble_eq_true rfl, Nat.le_of_ble_eq_true rfl, Nat.le_of_ble_eq_true rfl⟩ rfl rfl (Nat.le_of_ble_eq_true rfl) (fun v9 w9 hR => ?_)
  obtain ⟨rfl, hS, hf9⟩ := hR
  have hf0 := hf0.tr hf9
  simp only [Option.toList_some, Option.toList_none, List.cons_append, List.nil_append]
  exact x_iret Z E (⟨⟨_, rfl⟩, _, hS, rfl, hf0⟩) dX2_keep_27 (Nat.le_of_ble_eq_true rfl) (Nat.le_of_ble_eq_true rfl)
abbrev rmc_X2_keepKind : Room := { frames := 7, cells := 2, slots := 12, locals := 121 }
set_option maxRecDepth 100000 in
theorem c_X2_keepKind {l : Launch} {s0 : State} {G : gK} {w : wd} (h0 : gS0 s0) (htr : l.stackTraces = false) {K : kA} {M : kM} {t : Int} {q : Int} {o : Bool} (hS : kS G w K M) (ht : inr t) (hq : inr q) : gM l s0 G yX2_keepKind [Cond.code yX2_keepKind cX2_keepKind 5 (some .int)] rmc_X2_keepKind [rv K.1, iv t, iv q, iv (b2 o)] w (fun v w' => (∃ z : Int, v = some (iv z)) ∧ kW G w K M w') (fun X w' => (X = "java/lang/IndexOutOfBoundsException" ∨ X = "java/lang/IllegalArgumentException") ∧ w' = w) := by
  refine g_of h0 htr (by decide +kernel) (Nat.le_of_ble_eq_true rfl) ?_
  intro b Z0 E
  have Z : gAm b l s0 G cX2_keepKind RX2 5 rmc_X2_keepKind := Z0
  refine x_el (L' := [(0, rv K.1), (1, iv t), (2, iv q), (3, iv (b2 o))]) rfl ?_
  obtain ⟨hk1, ⟨f0, hk2, hk3⟩, hk4, hk5⟩ := id hS
  have hf0 : fr (kP K) w w := fr.rf
  refine x_aload_n Z dX2_keepKind_0 rfl rfl ?_
  refine x_iload_n Z dX2_keepKind_1 rfl rfl ?_
  refine x_callVx (ci := 3) (C := RX2) (T := TX2) (N := 4) Z okX2_textAt q313 q315 q3 rfl dX2_keepKind_2 (c_X2_textAt h0 htr hS (by assumption)) hS.1 ⟨Nat.le_of_ble_eq_true rfl, Nat.le_of_ble_eq_true rfl, Nat.le_of_ble_eq_true rfl, Nat.le_of_ble_eq_true rfl⟩ rfl rfl (Nat.le_of_ble_eq_true rfl) (fun X w9 hX => x_out Z E (⟨Or.inl hX.1, hX.2⟩) (Nat.le_of_ble_eq_true rfl) (Nat.le_of_ble_eq_true rfl)) (fun v9 w9 hR => ?_)
  obtain ⟨⟨rfl, e9⟩, hp0t, hp3t⟩ := hR
  refine x_ew e9 ?_
  simp only [Option.toList_some, Option.toList_none, List.cons_append, List.nil_append]
  obtain ⟨B, ht⟩ := hS.2.2.1 t hp0t hp3t
  obtain ⟨ha, hr, hb, hn0, hn30, hC⟩ := id ht
  refine x_astore (L' := [(4, _), (0, _), (1, _), (2, _), (3, _)]) Z dX2_keepKind_5 (Nat.le_of_ble_eq_true rfl) rfl ?_
  refine x_iload_n Z dX2_keepKind_7 rfl rfl ?_
  refine x_callSx Z okX2_checkKind q464 q465 dX2_keepKind_8 (c_X2_checkKind h0 htr (by assumption)) ⟨Nat.le_of_ble_eq_true rfl, Nat.le_of_ble_eq_true rfl, Nat.le_of_ble_eq_true rfl, Nat.le_of_ble_eq_true rfl⟩ rfl rfl (Nat.le_of_ble_eq_true rfl) (fun X w9 hX => x_out Z E (⟨Or.inr hX.1, hX.2⟩) (Nat.le_of_ble_eq_true rfl) (Nat.le_of_ble_eq_true rfl)) (fun v9 w9 hR => ?_)
  obtain ⟨⟨rfl, e9⟩, hq0, hq9⟩ := hR
  refine x_ew e9 ?_
  simp only [Option.toList_some, Option.toList_none, List.cons_append, List.nil_append]
  refine x_aload_n Z dX2_keepKind_11 rfl rfl ?_
  refine x_aload Z dX2_keepKind_12 rfl ?_
  refine x_aload Z dX2_keepKind_14 rfl ?_
  refine x_iload_n Z dX2_keepKind_16 rfl rfl ?_
  refine x_callV (ci := 2) (C := RX1) (T := TX1) (N := 3) Z okX1_placesOfKind q467 q468 q469 rfl dX2_keepKind_17 (c_X1_placesOfKind h0 htr ht (by omega) (by omega)) ht.1 ⟨Nat.le_of_ble_eq_true rfl, Nat.le_of_ble_eq_true rfl, Nat.le_of_ble_eq_true rfl, Nat.le_of_ble_eq_true rfl⟩ rfl rfl (Nat.le_of_ble_eq_true rfl) (fun v9 w9 hR => ?_)
  obtain ⟨rfl, e9⟩ := hR
  refine x_ew e9 ?_
  simp only [Option.toList_some, Option.toList_none, List.cons_append, List.nil_append]
  refine x_iload_n Z dX2_keepKind_20 rfl rfl ?_
  refine x_callS Z okX2_sifted q454 q455 dX2_keepKind_21 (c_X2_sifted h0 htr ht) ⟨Nat.le_of_ble_eq_true rfl, Nat.le_of_ble_eq_true rfl, Nat.le_of_ble_eq_true rfl, Nat.le_of_ble_eq_true rfl⟩ rfl rfl (Nat.le_of_ble_eq_true rfl) (fun v9 w9 hR => ?_)
  obtain ⟨rfl, B, ht, hf9⟩ := hR
  obtain ⟨ha, hr, hb, hn0, hn30, hC⟩ := id ht
  simp only [Option.toList_some, Option.toList_none, List.cons_append, List.nil_append]
  have hS := hS.put hp0t hp3t ht hf9
  have hf0 := hf0.tr (hf9.mono (kP_t hp0t hp3t))
  refine x_callV (ci := 3) (C := RX2) (T := TX2) (N := 4) Z okX2_acted q351 q353 q6 rfl dX2_keepKind_24 (c_X2_acted h0 htr hS) hS.1 ⟨Nat.le_of_ble_eq_true rfl, Nat.le_of_ble_eq_true rfl, Nat.le_of_ble_eq_true rfl, Nat.le_of_ble_eq_true rfl⟩ rfl rfl (Nat.le_of_ble_eq_true rfl) (fun v9 w9 hR => ?_)
  obtain ⟨rfl, hS, hf9⟩ := hR
  have hf0 := hf0.tr hf9
  simp only [Option.toList_some, Option.toList_none, List.cons_append, List.nil_append]
  exact x_iret Z E (⟨⟨_, rfl⟩, _, hS, rfl, hf0⟩) dX2_keepKind_27 (Nat.le_of_ble_eq_true rfl) (Nat.le_of_ble_eq_true rfl)
abbrev rmc_X2_take : Room := { frames := 7, cells := 3, slots := 18, locals := 156 }
set_option maxRecDepth 100000 in
theorem c_X2_take {l : Launch} {s0 : State} {G : gK} {w : wd} (h0 : gS0 s0) (htr : l.stackTraces = false) {K : kA} {M : kM} {t : Int} {k1 : Int} {u : Int} (hS : kS G w K M) (ht : inr t) (hk1 : inr k1) (hu : inr u) : gM l s0 G yX2_take [Cond.code yX2_take cX2_take 7 (some .int)] rmc_X2_take [rv K.1, iv t, iv k1, iv u] w (fun v w' => (∃ z : Int, v = some (iv z)) ∧ kW G w K M w') (fun X w' => X = "java/lang/IndexOutOfBoundsException" ∧ w' = w) := by
  refine g_of h0 htr (by decide +kernel) (Nat.le_of_ble_eq_true rfl) ?_
  intro b Z0 E
  have Z : gAm b l s0 G cX2_take RX2 7 rmc_X2_take := Z0
  refine x_el (L' := [(0, rv K.1), (1, iv t), (2, iv k1), (3, iv u)]) rfl ?_
  obtain ⟨hk1, ⟨f0, hk2, hk3⟩, hk4, hk5⟩ := id hS
  have hf0 : fr (kP K) w w := fr.rf
  refine x_aload_n Z dX2_take_0 rfl rfl ?_
  refine x_iload_n Z dX2_take_1 rfl rfl ?_
  refine x_callVx (ci := 3) (C := RX2) (T := TX2) (N := 4) Z okX2_textAt q313 q315 q3 rfl dX2_take_2 (c_X2_textAt h0 htr hS (by assumption)) hS.1 ⟨Nat.le_of_ble_eq_true rfl, Nat.le_of_ble_eq_true rfl, Nat.le_of_ble_eq_true rfl, Nat.le_of_ble_eq_true rfl⟩ rfl rfl (Nat.le_of_ble_eq_true rfl) (fun X w9 hX => x_out Z E (hX) (Nat.le_of_ble_eq_true rfl) (Nat.le_of_ble_eq_true rfl)) (fun v9 w9 hR => ?_)
  obtain ⟨⟨rfl, e9⟩, hp0t, hp3t⟩ := hR
  refine x_ew e9 ?_
  simp only [Option.toList_some, Option.toList_none, List.cons_append, List.nil_append]
  obtain ⟨B2, ht2⟩ := hS.2.2.1 t hp0t hp3t
  refine x_astore (L' := [(4, _), (0, _), (1, _), (2, _), (3, _)]) Z dX2_take_5 (Nat.le_of_ble_eq_true rfl) rfl ?_
  refine x_aload_n Z dX2_take_7 rfl rfl ?_
  refine x_iload_n Z dX2_take_8 rfl rfl ?_
  refine x_callVx (ci := 3) (C := RX2) (T := TX2) (N := 4) Z okX2_textAt q313 q315 q3 rfl dX2_take_9 (c_X2_textAt h0 htr hS (by assumption)) hS.1 ⟨Nat.le_of_ble_eq_true rfl, Nat.le_of_ble_eq_true rfl, Nat.le_of_ble_eq_true rfl, Nat.le_of_ble_eq_true rfl⟩ rfl rfl (Nat.le_of_ble_eq_true rfl) (fun X w9 hX => x_out Z E (hX) (Nat.le_of_ble_eq_true rfl) (Nat.le_of_ble_eq_true rfl)) (fun v9 w9 hR => ?_)
  obtain ⟨⟨rfl, e9⟩, hp0u, hp3u⟩ := hR
  refine x_ew e9 ?_
  simp only [Option.toList_some, Option.toList_none, List.cons_append, List.nil_append]
  obtain ⟨B, ht⟩ := hS.2.2.1 u hp0u hp3u
  obtain ⟨ha, hr, hb, hn0, hn30, hC⟩ := id ht
  refine x_astore (L' := [(5, _), (4, _), (0, _), (1, _), (2, _), (3, _)]) Z dX2_take_12 (Nat.le_of_ble_eq_true rfl) rfl ?_
  obtain ⟨-, -, -, h2n0, h2n30, hC2⟩ := id ht2
  refine x_aload Z dX2_take_14 rfl ?_
  refine x_iload_n Z dX2_take_16 rfl rfl ?_
  refine x_callSx Z okX2_beginOfPiece q478 q479 dX2_take_17 (c_X2_beginOfPiece h0 htr ht2 (by assumption)) ⟨Nat.le_of_ble_eq_true rfl, Nat.le_of_ble_eq_true rfl, Nat.le_of_ble_eq_true rfl, Nat.le_of_ble_eq_true rfl⟩ rfl rfl (Nat.le_of_ble_eq_true rfl) (fun X w9 hX => x_out Z E (hX) (Nat.le_of_ble_eq_true rfl) (Nat.le_of_ble_eq_true rfl)) (fun v9 w9 hR => ?_)
  obtain ⟨z, rfl, e9, hz0, hz9⟩ := hR
  refine x_ew e9 ?_
  simp only [Option.toList_some, Option.toList_none, List.cons_append, List.nil_append]
  refine x_istore (L' := [(6, _), (5, _), (4, _), (0, _), (1, _), (2, _), (3, _)]) Z dX2_take_20 (Nat.le_of_ble_eq_true rfl) rfl ?_
  have hlo := lon_in (n := M.1 t) (C := M.2.1 t) (p := z) (by omega)
  refine x_aload Z dX2_take_22 rfl ?_
  refine x_aload Z dX2_take_24 rfl ?_
  refine x_iload Z dX2_take_26 rfl ?_
  refine x_iload Z dX2_take_28 rfl ?_
  refine x_aload Z dX2_take_30 rfl ?_
  refine x_iload Z dX2_take_32 rfl ?_
  refine x_callV (ci := 2) (C := RX1) (T := TX1) (N := 3) Z okX1_longestAt q485 q122 q123 rfl dX2_take_34 (c_X1_longestAt h0 htr ht2 (by omega) (by omega)) ht2.1 ⟨Nat.le_of_ble_eq_true rfl, Nat.le_of_ble_eq_true rfl, Nat.le_of_ble_eq_true rfl, Nat.le_of_ble_eq_true rfl⟩ rfl rfl (Nat.le_of_ble_eq_true rfl) (fun v9 w9 hR => ?_)
  obtain ⟨rfl, e9⟩ := hR
  refine x_ew e9 ?_
  simp only [Option.toList_some, Option.toList_none, List.cons_append, List.nil_append]
  refine x_iadd Z dX2_take_37 ?_
  refine x_callV (ci := 2) (C := RX1) (T := TX1) (N := 3) Z okX1_become q403 q404 q405 rfl dX2_take_38 (c_X1_become h0 htr ht ht2 (hS.self hp0u hp3u hp0t hp3t) (by omega) (by omega) (by omega)) ht.1 ⟨Nat.le_of_ble_eq_true rfl, Nat.le_of_ble_eq_true rfl, Nat.le_of_ble_eq_true rfl, Nat.le_of_ble_eq_true rfl⟩ rfl rfl (Nat.le_of_ble_eq_true rfl) (fun v9 w9 hR => ?_)
  obtain ⟨rfl, n, C, B, ht, hf9⟩ := hR
  obtain ⟨ha, hr, hb, hn0, hn30, hC⟩ := id ht
  simp only [Option.toList_some, Option.toList_none, List.cons_append, List.nil_append]
  have hS := hS.put hp0u hp3u ht hf9
  have hf0 := hf0.tr (hf9.mono (kP_t hp0u hp3u))
  refine x_aload_n Z dX2_take_41 rfl rfl ?_
  refine x_aload Z dX2_take_42 rfl ?_
  refine x_callV (ci := 2) (C := RX1) (T := TX1) (N := 3) Z okX1_size q217 q218 q219 rfl dX2_take_44 (c_X1_size h0 htr ht) ht.1 ⟨Nat.le_of_ble_eq_true rfl, Nat.le_of_ble_eq_true rfl, Nat.le_of_ble_eq_true rfl, Nat.le_of_ble_eq_true rfl⟩ rfl rfl (Nat.le_of_ble_eq_true rfl) (fun v9 w9 hR => ?_)
  obtain ⟨rfl, e9⟩ := hR
  refine x_ew e9 ?_
  simp only [Option.toList_some, Option.toList_none, List.cons_append, List.nil_append]
  refine x_callV (ci := 3) (C := RX2) (T := TX2) (N := 4) Z okX2_acted q351 q353 q6 rfl dX2_take_47 (c_X2_acted h0 htr hS) hS.1 ⟨Nat.le_of_ble_eq_true rfl, Nat.le_of_ble_eq_true rfl, Nat.le_of_ble_eq_true rfl, Nat.le_of_ble_eq_true rfl⟩ rfl rfl (Nat.le_of_ble_eq_true rfl) (fun v9 w9 hR => ?_)
  obtain ⟨rfl, hS, hf9⟩ := hR
  have hf0 := hf0.tr hf9
  simp only [Option.toList_some, Option.toList_none, List.cons_append, List.nil_append]
  exact x_iret Z E (⟨⟨_, rfl⟩, _, hS, rfl, hf0⟩) dX2_take_50 (Nat.le_of_ble_eq_true rfl) (Nat.le_of_ble_eq_true rfl)
abbrev rmc_X2_mend : Room := { frames := 7, cells := 1, slots := 6, locals := 121 }
set_option maxRecDepth 100000 in
theorem c_X2_mend {l : Launch} {s0 : State} {G : gK} {w : wd} (h0 : gS0 s0) (htr : l.stackTraces = false) {K : kA} {M : kM} {t : Int} (hS : kS G w K M) (ht : inr t) : gM l s0 G yX2_mend [Cond.code yX2_mend cX2_mend 5 (some .int)] rmc_X2_mend [rv K.1, iv t] w (fun v w' => (∃ z : Int, v = some (iv z)) ∧ kW G w K M w') (fun X w' => X = "java/lang/IndexOutOfBoundsException" ∧ w' = w) := by
  refine g_of h0 htr (by decide +kernel) (Nat.le_of_ble_eq_true rfl) ?_
  intro b Z0 E
  have Z : gAm b l s0 G cX2_mend RX2 5 rmc_X2_mend := Z0
  refine x_el (L' := [(0, rv K.1), (1, iv t)]) rfl ?_
  obtain ⟨hk1, ⟨f0, hk2, hk3⟩, hk4, hk5⟩ := id hS
  have hf0 : fr (kP K) w w := fr.rf
  refine x_aload_n Z dX2_mend_0 rfl rfl ?_
  refine x_iload_n Z dX2_mend_1 rfl rfl ?_
  refine x_callVx (ci := 3) (C := RX2) (T := TX2) (N := 4) Z okX2_textAt q313 q315 q3 rfl dX2_mend_2 (c_X2_textAt h0 htr hS (by assumption)) hS.1 ⟨Nat.le_of_ble_eq_true rfl, Nat.le_of_ble_eq_true rfl, Nat.le_of_ble_eq_true rfl, Nat.le_of_ble_eq_true rfl⟩ rfl rfl (Nat.le_of_ble_eq_true rfl) (fun X w9 hX => x_out Z E (hX) (Nat.le_of_ble_eq_true rfl) (Nat.le_of_ble_eq_true rfl)) (fun v9 w9 hR => ?_)
  obtain ⟨⟨rfl, e9⟩, hp0t, hp3t⟩ := hR
  refine x_ew e9 ?_
  simp only [Option.toList_some, Option.toList_none, List.cons_append, List.nil_append]
  obtain ⟨B, ht⟩ := hS.2.2.1 t hp0t hp3t
  obtain ⟨ha, hr, hb, hn0, hn30, hC⟩ := id ht
  refine x_astore_n (L' := [(2, _), (0, _), (1, _)]) Z dX2_mend_5 rfl (Nat.le_of_ble_eq_true rfl) rfl ?_
  refine x_iconst Z dX2_mend_6 ?_
  refine x_istore_n (L' := [(3, _), (2, _), (0, _), (1, _)]) Z dX2_mend_7 rfl (Nat.le_of_ble_eq_true rfl) rfl ?_
  refine x_iconst Z dX2_mend_8 ?_
  refine x_istore (L' := [(4, _), (3, _), (2, _), (0, _), (1, _)]) Z dX2_mend_9 (Nat.le_of_ble_eq_true rfl) rfl ?_
  have loop11 : ∀ (fu : Nat) (i v : Int), M.1 t - i < (fu : Int) → (0 ≤ i ∧ i ≤ M.1 t ∧ inr v) → gX b s0 G (1) (6) 11 [(4, iv i), (3, iv v), (2, rv (K.2.2.1 t)), (0, rv K.1), (1, iv t)] [] (w) := by
    intro fu; induction fu with
    | zero => intro i v hm hv; exact absurd hm (by omega)
    | succ fu ih11 =>
      intro i v hm hv
      obtain ⟨hi0, hin, hv⟩ := hv
      have hCi := hC i
      have hbo := bOr_in v (bShl 1 i)
      refine x_iload Z dX2_mend_11 rfl ?_
      refine x_aload_n Z dX2_mend_13 rfl rfl ?_
      refine x_callV (ci := 2) (C := RX1) (T := TX1) (N := 3) Z okX1_size q217 q218 q219 rfl dX2_mend_14 (c_X1_size h0 htr ht) ht.1 ⟨Nat.le_of_ble_eq_true rfl, Nat.le_of_ble_eq_true rfl, Nat.le_of_ble_eq_true rfl, Nat.le_of_ble_eq_true rfl⟩ rfl rfl (Nat.le_of_ble_eq_true rfl) (fun v9 w9 hR => ?_)
      obtain ⟨rfl, e9⟩ := hR
      refine x_ew e9 ?_
      simp only [Option.toList_some, Option.toList_none, List.cons_append, List.nil_append]
      refine x_icmp_ge Z 54 dX2_mend_17 (by decide) ⟨by omega, by omega⟩ ⟨by omega, by omega⟩ (fun c17 => ?_) (fun c17 => ?_)
      ·
        refine x_aload_n Z dX2_mend_54 rfl rfl ?_
        refine x_aload_n Z dX2_mend_55 rfl rfl ?_
        refine x_iload_n Z dX2_mend_56 rfl rfl ?_
        refine x_callV (ci := 2) (C := RX1) (T := TX1) (N := 3) Z okX1_retain q385 q386 q387 rfl dX2_mend_57 (c_X1_retain h0 htr ht) ht.1 ⟨Nat.le_of_ble_eq_true rfl, Nat.le_of_ble_eq_true rfl, Nat.le_of_ble_eq_true rfl, Nat.le_of_ble_eq_true rfl⟩ rfl rfl (Nat.le_of_ble_eq_true rfl) (fun v9 w9 hR => ?_)
        obtain ⟨rfl, B, ht, hf9⟩ := hR
        obtain ⟨ha, hr, hb, hn0, hn30, hC⟩ := id ht
        simp only [Option.toList_some, Option.toList_none, List.cons_append, List.nil_append]
        have hS := hS.put hp0t hp3t ht hf9
        have hf0 := hf0.tr (hf9.mono (kP_t hp0t hp3t))
        refine x_callV (ci := 3) (C := RX2) (T := TX2) (N := 4) Z okX2_acted q351 q353 q6 rfl dX2_mend_60 (c_X2_acted h0 htr hS) hS.1 ⟨Nat.le_of_ble_eq_true rfl, Nat.le_of_ble_eq_true rfl, Nat.le_of_ble_eq_true rfl, Nat.le_of_ble_eq_true rfl⟩ rfl rfl (Nat.le_of_ble_eq_true rfl) (fun v9 w9 hR => ?_)
        obtain ⟨rfl, hS, hf9⟩ := hR
        have hf0 := hf0.tr hf9
        simp only [Option.toList_some, Option.toList_none, List.cons_append, List.nil_append]
        exact x_iret Z E (⟨⟨_, rfl⟩, _, hS, rfl, hf0⟩) dX2_mend_63 (Nat.le_of_ble_eq_true rfl) (Nat.le_of_ble_eq_true rfl)
      ·
        refine x_aload_n Z dX2_mend_20 rfl rfl ?_
        refine x_iload Z dX2_mend_21 rfl ?_
        refine x_callV (ci := 2) (C := RX1) (T := TX1) (N := 3) Z okX1_signAt q365 q126 q127 rfl dX2_mend_23 (c_X1_signAt h0 htr ht (by omega) (by omega)) ht.1 ⟨Nat.le_of_ble_eq_true rfl, Nat.le_of_ble_eq_true rfl, Nat.le_of_ble_eq_true rfl, Nat.le_of_ble_eq_true rfl⟩ rfl rfl (Nat.le_of_ble_eq_true rfl) (fun v9 w9 hR => ?_)
        obtain ⟨rfl, e9⟩ := hR
        refine x_ew e9 ?_
        simp only [Option.toList_some, Option.toList_none, List.cons_append, List.nil_append]
        refine x_iload_n Z dX2_mend_26 rfl rfl ?_
        refine x_if_ne Z 34 dX2_mend_27 (by decide) ⟨by omega, by omega⟩ (fun c27 => ?_) (fun c27 => ?_)
        ·
          refine x_ib false Z dX2_mend_34 (by decide) ?_
          refine x_callS Z okX0_isLet q493 q185 dX2_mend_35 (c_X0_isLet h0 htr (by omega) (by omega)) ⟨Nat.le_of_ble_eq_true rfl, Nat.le_of_ble_eq_true rfl, Nat.le_of_ble_eq_true rfl, Nat.le_of_ble_eq_true rfl⟩ rfl rfl (Nat.le_of_ble_eq_true rfl) (fun v9 w9 hR => ?_)
          obtain ⟨rfl, e9⟩ := hR
          refine x_ew e9 ?_
          simp only [Option.toList_some, Option.toList_none, List.cons_append, List.nil_append]
          refine x_ifb_eq Z 48 dX2_mend_38 (by decide) (fun c38 => ?_) (fun c38 => ?_)
          ·
            refine x_iinc (L' := [(4, _), (3, _), (2, _), (0, _), (1, _)]) Z dX2_mend_48 rfl (Nat.le_of_ble_eq_true rfl) rfl ?_
            refine x_goto Z 11 dX2_mend_51 (by decide) ?_
            first | exact ih11 (i + 1) _ (by omega) ⟨by omega, by omega, hv⟩ | exact ih11 (i + 1) _ (by omega) ⟨by omega, by omega, hbo⟩
          ·
            refine x_iload_n Z dX2_mend_41 rfl rfl ?_
            refine x_iconst Z dX2_mend_42 ?_
            refine x_iload Z dX2_mend_43 rfl ?_
            refine x_ishl Z dX2_mend_45 ?_
            refine x_ior Z dX2_mend_46 ?_
            refine x_istore_n (L' := [(3, _), (4, _), (2, _), (0, _), (1, _)]) Z dX2_mend_47 rfl (Nat.le_of_ble_eq_true rfl) rfl ?_
            refine x_iinc (L' := [(4, _), (3, _), (2, _), (0, _), (1, _)]) Z dX2_mend_48 rfl (Nat.le_of_ble_eq_true rfl) rfl ?_
            refine x_goto Z 11 dX2_mend_51 (by decide) ?_
            first | exact ih11 (i + 1) _ (by omega) ⟨by omega, by omega, hv⟩ | exact ih11 (i + 1) _ (by omega) ⟨by omega, by omega, hbo⟩
        ·
          refine x_ib true Z dX2_mend_30 (by decide) ?_
          refine x_goto Z 35 dX2_mend_31 (by decide) ?_
          refine x_callS Z okX0_isLet q493 q185 dX2_mend_35 (c_X0_isLet h0 htr (by omega) (by omega)) ⟨Nat.le_of_ble_eq_true rfl, Nat.le_of_ble_eq_true rfl, Nat.le_of_ble_eq_true rfl, Nat.le_of_ble_eq_true rfl⟩ rfl rfl (Nat.le_of_ble_eq_true rfl) (fun v9 w9 hR => ?_)
          obtain ⟨rfl, e9⟩ := hR
          refine x_ew e9 ?_
          simp only [Option.toList_some, Option.toList_none, List.cons_append, List.nil_append]
          refine x_ifb_eq Z 48 dX2_mend_38 (by decide) (fun c38 => ?_) (fun c38 => ?_)
          ·
            refine x_iinc (L' := [(4, _), (3, _), (2, _), (0, _), (1, _)]) Z dX2_mend_48 rfl (Nat.le_of_ble_eq_true rfl) rfl ?_
            refine x_goto Z 11 dX2_mend_51 (by decide) ?_
            first | exact ih11 (i + 1) _ (by omega) ⟨by omega, by omega, hv⟩ | exact ih11 (i + 1) _ (by omega) ⟨by omega, by omega, hbo⟩
          ·
            refine x_iload_n Z dX2_mend_41 rfl rfl ?_
            refine x_iconst Z dX2_mend_42 ?_
            refine x_iload Z dX2_mend_43 rfl ?_
            refine x_ishl Z dX2_mend_45 ?_
            refine x_ior Z dX2_mend_46 ?_
            refine x_istore_n (L' := [(3, _), (4, _), (2, _), (0, _), (1, _)]) Z dX2_mend_47 rfl (Nat.le_of_ble_eq_true rfl) rfl ?_
            refine x_iinc (L' := [(4, _), (3, _), (2, _), (0, _), (1, _)]) Z dX2_mend_48 rfl (Nat.le_of_ble_eq_true rfl) rfl ?_
            refine x_goto Z 11 dX2_mend_51 (by decide) ?_
            first | exact ih11 (i + 1) _ (by omega) ⟨by omega, by omega, hv⟩ | exact ih11 (i + 1) _ (by omega) ⟨by omega, by omega, hbo⟩
  exact loop11 40 0 0 (by omega) ⟨by omega, by omega, by omega, by omega⟩
end
