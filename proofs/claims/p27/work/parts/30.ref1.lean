/-! ref1: walks, by program -/
theorem q7 : Cond.selects RX4 yX4_letters yX4_letters ∈ gT := gt_s 7 rfl rfl
theorem q8 : Cond.selects RX4 yX4_told yX4_told ∈ gT := gt_s 8 rfl rfl
theorem q9 : Cond.selects RX4 yX4_points yX4_points ∈ gT := gt_s 9 rfl rfl
theorem q10 : Cond.selects RX4 yX4_others yX4_others ∈ gT := gt_s 10 rfl rfl
theorem q38 : Cond.initialized RX4 ∈ gT := gt_1 3 rfl rfl
theorem q1022 : Cond.methodLink RX4 1 objectInit ∈ gT := gt_5 27 rfl rfl
theorem q1025 : Cond.methodLink RX4 21 yX4_letters ∈ gT := gt_5 30 rfl rfl
theorem q1027 : Cond.instanceMethod yX4_letters ∈ gT := gt_5 32 rfl rfl
theorem q1028 : Cond.code yX4_letters cX4_letters 1 none ∈ gT := gt_5 33 rfl rfl
theorem q1029 : Cond.methodLink RX4 34 yX4_told ∈ gT := gt_5 34 rfl rfl
theorem q1031 : Cond.instanceMethod yX4_told ∈ gT := gt_5 36 rfl rfl
theorem q1032 : Cond.code yX4_told cX4_told 5 none ∈ gT := gt_5 37 rfl rfl
theorem q1033 : Cond.methodLink RX4 24 yX4_points ∈ gT := gt_5 38 rfl rfl
theorem q1035 : Cond.instanceMethod yX4_points ∈ gT := gt_5 40 rfl rfl
theorem q1036 : Cond.code yX4_points cX4_points 8 none ∈ gT := gt_5 41 rfl rfl
theorem q1037 : Cond.methodLink RX4 27 yX4_others ∈ gT := gt_5 42 rfl rfl
theorem q1039 : Cond.instanceMethod yX4_others ∈ gT := gt_5 44 rfl rfl
theorem q1040 : Cond.code yX4_others cX4_others 8 none ∈ gT := gt_5 45 rfl rfl
theorem q1041 : Cond.fieldLink RX4 7 "KindcutterModel" "kinds" "[I" ∈ gT := gt_5 46 rfl rfl
theorem q1042 : Cond.fieldLink RX4 15 "KindcutterModel" "rows" "[[I" ∈ gT := gt_5 47 rfl rfl
theorem q1043 : Cond.fieldLink RX4 18 "KindcutterModel" "sizes" "[I" ∈ gT := gt_5 48 rfl rfl
theorem okX4_told : gOk yX4_told cX4_told 5 none 3 := ⟨q1032, q38, ⟨by decide +kernel, by decide +kernel⟩, by decide +kernel⟩
theorem okX4_letters : gOk yX4_letters cX4_letters 1 none 0 := ⟨q1028, q38, ⟨by decide +kernel, by decide +kernel⟩, by decide +kernel⟩
theorem okX4_points : gOk yX4_points cX4_points 8 none 0 := ⟨q1036, q38, ⟨by decide +kernel, by decide +kernel⟩, by decide +kernel⟩
theorem okX4_others : gOk yX4_others cX4_others 8 none 0 := ⟨q1040, q38, ⟨by decide +kernel, by decide +kernel⟩, by decide +kernel⟩
def kfin : Int → Int := (tld 30 187 187 (tld 29 171 171 (forI (fun j F => tld 28 ((uF (uF (uF (uF (fun _ => 0) 0 166) 1 169) 2 174) 3 176) j) ((uF (uF (uF (uF (fun _ => 0) 0 166) 1 169) 2 174) 3 176) j) F) 0 4 (forI (fun j F => tld 27 ((uF (uF (uF (uF (uF (uF (fun _ => 0) 0 94) 1 96) 2 168) 3 175) 4 180) 5 184) j) ((uF (uF (uF (uF (uF (uF (fun _ => 0) 0 94) 1 96) 2 168) 3 175) 4 180) 5 184) j) F) 0 6 (tld 26 162 165 (tld 26 36 36 (forI (fun j F => tld 25 ((uF (uF (uF (uF (uF (uF (uF (uF (uF (uF (fun _ => 0) 0 43) 1 60) 2 61) 3 62) 4 124) 5 126) 6 172) 7 177) 8 215) 9 247) j) ((uF (uF (uF (uF (uF (uF (uF (uF (uF (uF (fun _ => 0) 0 43) 1 60) 2 61) 3 62) 4 124) 5 126) 6 172) 7 177) 8 215) 9 247) j) F) 0 10 (forI (fun j F => tld 24 ((uF (uF (uF (uF (uF (uF (uF (uF (uF (uF (uF (uF (uF (uF (uF (uF (uF (uF (uF (uF (fun _ => 0) 0 33) 1 34) 2 35) 3 37) 4 38) 5 39) 6 42) 7 44) 8 46) 9 47) 10 58) 11 59) 12 63) 13 64) 14 92) 15 161) 16 167) 17 182) 18 183) 19 191) j) ((uF (uF (uF (uF (uF (uF (uF (uF (uF (uF (uF (uF (uF (uF (uF (uF (uF (uF (uF (uF (fun _ => 0) 0 33) 1 34) 2 35) 3 37) 4 38) 5 39) 6 42) 7 44) 8 46) 9 47) 10 58) 11 59) 12 63) 13 64) 14 92) 15 161) 16 167) 17 182) 18 183) 19 191) j) F) 0 20 (tld 23 95 95 (forI (fun j F => tld 22 ((uF (uF (uF (fun _ => 0) 0 41) 1 93) 2 125) j) ((uF (uF (uF (fun _ => 0) 0 41) 1 93) 2 125) j) F) 0 3 (forI (fun j F => tld 21 ((uF (uF (uF (fun _ => 0) 0 40) 1 91) 2 123) j) ((uF (uF (uF (fun _ => 0) 0 40) 1 91) 2 123) j) F) 0 3 (tld 20 45 45 (tld 16 173 173 (tld 15 127 159 (tld 15 0 31 (tld 12 160 160 (tld 12 32 32 (tld 11 188 190 (tld 11 185 185 (tld 11 178 179 (tld 9 48 57 (tld 5 186 186 (tld 5 170 170 (tld 2 248 255 (tld 2 223 246 (tld 2 181 181 (tld 2 97 122 (tld 1 216 222 (tld 1 192 214 (tld 1 65 90 (fun _ => 0)))))))))))))))))))))))))))))))
set_option maxRecDepth 100000 in
theorem kfin_d : ∀ j : Fin 256, kfin ((j.val : Nat) : Int) = kin ((j.val : Nat) : Int) := by decide +kernel
theorem kfin_ok : ∀ j : Nat, j < 256 → kfin (j : Int) = kin (j : Int) := fun j hj => kfin_d ⟨j, hj⟩
theorem q_mna : Cond.classLink RX4 13 ("[" ++ (FieldType.array .int).toString) ∈ gT := by decide +kernel
theorem fr.none {P : Nat → Prop} {w0 w : wd} {q : Nat} (h : fr P w0 w) (hq : w q = .none) (hp : ¬ P q := by assumption) : w0 q = .none := by
  cases e : w0 q with
  | none => rfl
  | some x =>
    have := h.at hp e
    rw [hq] at this
    cases this
theorem fr.tr0 {P : Nat → Prop} {w0 w1 w2 : wd} {k : Nat} (h1 : fr P w0 w1) (h2 : fr (fun q => q = k) w1 w2) (_ : ∀ q, q = k → q = k) (hn : w0 k = .none) : fr P w0 w2 := fun q hq hn0 => by
  have e := h1 q hq hn0
  rw [h2 q (fun z => hn0 (by rw [z]; exact hn)) (by rw [e]; exact hn0), e]
abbrev rmc_X4_told : Room := { frames := 0, cells := 0, slots := 0, locals := 0 }
set_option maxRecDepth 100000 in
theorem c_X4_told {l : Launch} {s0 : State} {G : gK} {w : wd} (h0 : gS0 s0) (htr : l.stackTraces = false) {a kd : Nat} {fs : List Value} {F : Int → Int} {k1 f t : Int} (ha : w a = some (eO 5 (rv kd :: fs))) (hk : w kd = some (eI G 256 F)) (z0 : 0 ≤ f) (z1 : f ≤ t) (z2 : t ≤ 255) : gM l s0 G yX4_told [Cond.code yX4_told cX4_told 5 none] rmc_X4_told [rv a, iv k1, iv f, iv t] w (fun v w' => v = none ∧ w' a = some (eO 5 (rv kd :: fs)) ∧ w' kd = some (eI G 256 (tld k1 f t F)) ∧ fr (fun q => q = kd) w w') (noX) := by
  refine g_of h0 htr (by decide +kernel) (Nat.le_of_ble_eq_true rfl) ?_
  intro b Z0 E
  have Z : gAm b l s0 G cX4_told RX4 5 rmc_X4_told := Z0
  refine x_el (L' := [(0, rv a), (1, iv k1), (2, iv f), (3, iv t)]) rfl ?_
  refine x_iload_n Z dX4_told_0 rfl rfl ?_
  refine x_istore (L' := [(4, _), (0, _), (1, _), (2, _), (3, _)]) Z dX4_told_1 (Nat.le_of_ble_eq_true rfl) rfl ?_
  have loop3 : ∀ (fu : Nat) (i : Int) (F1 : Int → Int) (w1 : wd), 256 - i < (fu : Int) → (f ≤ i ∧ i ≤ t + 1 ∧ w1 a = some (eO 5 (rv kd :: fs)) ∧ w1 kd = some (eI G 256 F1) ∧ fr (fun q => q = kd) w w1 ∧ ∀ j, F1 j = if f ≤ j ∧ j < i then k1 else F j) → gX b s0 G (0) (0) 3 [(4, iv i), (0, rv a), (1, iv k1), (2, iv f), (3, iv t)] [] (w1) := by
    intro fu; induction fu with
    | zero => intro i F1 w1 hm hv; exact absurd hm (by omega)
    | succ fu ih3 =>
      intro i F1 w1 hm hv
      obtain ⟨hi0, hin, ha, hk, hf, hF⟩ := hv
      refine x_iload Z dX4_told_3 rfl ?_
      refine x_iload_n Z dX4_told_5 rfl rfl ?_
      refine x_icmp_gt Z 23 dX4_told_6 (by decide) ⟨by omega, by omega⟩ ⟨by omega, by omega⟩ (fun c6 => ?_) (fun c6 => ?_)
      ·
        have e : F1 = tld k1 f t F := funext fun j => by
          rw [hF j]
          show (if f ≤ j ∧ j < i then k1 else F j) = (if f ≤ j ∧ j ≤ t then k1 else F j)
          by_cases c2 : f ≤ j ∧ j < i
          · rw [if_pos c2, if_pos (by omega)]
          · rw [if_neg c2, if_neg (by omega)]
        exact x_vret Z E (⟨rfl, ha, by rw [← e]; exact hk, hf⟩) dX4_told_23 (Nat.le_of_ble_eq_true rfl) (Nat.le_of_ble_eq_true rfl)
      ·
        refine x_aload_n Z dX4_told_9 rfl rfl ?_
        refine x_getf (ci := 5) (j := 0) (C := RX4) (T := TX4) (N := 7) Z inX4g rfl (by decide) q1041 rfl dX4_told_10 (by assumption) rfl ?_
        refine x_iload Z dX4_told_13 rfl ?_
        refine x_iload_n Z dX4_told_15 rfl rfl ?_
        refine x_iast Z dX4_told_16 (by assumption) (by omega) (by omega) (by omega) ?_
        refine x_iinc (L' := [(4, _), (0, _), (1, _), (2, _), (3, _)]) Z dX4_told_17 rfl (Nat.le_of_ble_eq_true rfl) rfl ?_
        refine x_goto Z 3 dX4_told_20 (by decide) ?_
        exact ih3 (i + 1) _ _ (by omega) ⟨by omega, by omega, (ws1_n (tne 1000005 512 ha hk rfl rfl (by decide))).trans ha, ws1_s, hf.set rfl, fun j => by
          show (if j = i then k1 else F1 j) = _
          rw [hF j]
          by_cases c1 : j = i
          · rw [if_pos c1, if_pos (by omega)]
          · rw [if_neg c1]
            by_cases c2 : f ≤ j ∧ j < i
            · rw [if_pos c2, if_pos (by omega)]
            · rw [if_neg c2, if_neg (by omega)]⟩
  exact loop3 300 f F w (by omega) ⟨by omega, by omega, ha, hk, fr.rf, fun j => by rw [if_neg (by omega)]⟩
abbrev rmc_X4_letters : Room := { frames := 1, cells := 0, slots := 0, locals := 24 }
set_option maxRecDepth 100000 in
theorem c_X4_letters {l : Launch} {s0 : State} {G : gK} {w : wd} (h0 : gS0 s0) (htr : l.stackTraces = false) {a kd : Nat} {fs : List Value} {F : Int → Int} (ha : w a = some (eO 5 (rv kd :: fs))) (hk : w kd = some (eI G 256 F)) : gM l s0 G yX4_letters [Cond.code yX4_letters cX4_letters 1 none] rmc_X4_letters [rv a] w (fun v w' => v = none ∧ w' a = some (eO 5 (rv kd :: fs)) ∧ w' kd = some (eI G 256 (tld 16 173 173 (tld 15 127 159 (tld 15 0 31 (tld 12 160 160 (tld 12 32 32 (tld 11 188 190 (tld 11 185 185 (tld 11 178 179 (tld 9 48 57 (tld 5 186 186 (tld 5 170 170 (tld 2 248 255 (tld 2 223 246 (tld 2 181 181 (tld 2 97 122 (tld 1 216 222 (tld 1 192 214 (tld 1 65 90 F))))))))))))))))))) ∧ fr (fun q => q = kd) w w') (noX) := by
  refine g_of h0 htr (by decide +kernel) (Nat.le_of_ble_eq_true rfl) ?_
  intro b Z0 E
  have Z : gAm b l s0 G cX4_letters RX4 1 rmc_X4_letters := Z0
  refine x_el (L' := [(0, rv a)]) rfl ?_
  have hf0 : fr (fun q => q = kd) w w := fr.rf
  refine x_aload_n Z dX4_letters_0 rfl rfl ?_
  refine x_iconst Z dX4_letters_1 ?_
  refine x_bipush Z dX4_letters_2 (by decide +kernel) ?_
  refine x_bipush Z dX4_letters_4 (by decide +kernel) ?_
  refine x_callV (ci := 5) (C := RX4) (T := TX4) (N := 7) Z okX4_told q1029 q1031 q8 rfl dX4_letters_6 (c_X4_told h0 htr ha hk (by decide) (by decide) (by decide)) ha ⟨Nat.le_of_ble_eq_true rfl, Nat.le_of_ble_eq_true rfl, Nat.le_of_ble_eq_true rfl, Nat.le_of_ble_eq_true rfl⟩ rfl rfl (Nat.le_of_ble_eq_true rfl) (fun v9 w9 hR => ?_)
  obtain ⟨rfl, ha, hk, hf9⟩ := hR
  have hf0 := hf0.tr hf9
  simp only [Option.toList_some, Option.toList_none, List.cons_append, List.nil_append]
  refine x_aload_n Z dX4_letters_9 rfl rfl ?_
  refine x_iconst Z dX4_letters_10 ?_
  refine x_sipush Z dX4_letters_11 (by decide +kernel) ?_
  refine x_sipush Z dX4_letters_14 (by decide +kernel) ?_
  refine x_callV (ci := 5) (C := RX4) (T := TX4) (N := 7) Z okX4_told q1029 q1031 q8 rfl dX4_letters_17 (c_X4_told h0 htr ha hk (by decide) (by decide) (by decide)) ha ⟨Nat.le_of_ble_eq_true rfl, Nat.le_of_ble_eq_true rfl, Nat.le_of_ble_eq_true rfl, Nat.le_of_ble_eq_true rfl⟩ rfl rfl (Nat.le_of_ble_eq_true rfl) (fun v9 w9 hR => ?_)
  obtain ⟨rfl, ha, hk, hf9⟩ := hR
  have hf0 := hf0.tr hf9
  simp only [Option.toList_some, Option.toList_none, List.cons_append, List.nil_append]
  refine x_aload_n Z dX4_letters_20 rfl rfl ?_
  refine x_iconst Z dX4_letters_21 ?_
  refine x_sipush Z dX4_letters_22 (by decide +kernel) ?_
  refine x_sipush Z dX4_letters_25 (by decide +kernel) ?_
  refine x_callV (ci := 5) (C := RX4) (T := TX4) (N := 7) Z okX4_told q1029 q1031 q8 rfl dX4_letters_28 (c_X4_told h0 htr ha hk (by decide) (by decide) (by decide)) ha ⟨Nat.le_of_ble_eq_true rfl, Nat.le_of_ble_eq_true rfl, Nat.le_of_ble_eq_true rfl, Nat.le_of_ble_eq_true rfl⟩ rfl rfl (Nat.le_of_ble_eq_true rfl) (fun v9 w9 hR => ?_)
  obtain ⟨rfl, ha, hk, hf9⟩ := hR
  have hf0 := hf0.tr hf9
  simp only [Option.toList_some, Option.toList_none, List.cons_append, List.nil_append]
  refine x_aload_n Z dX4_letters_31 rfl rfl ?_
  refine x_iconst Z dX4_letters_32 ?_
  refine x_bipush Z dX4_letters_33 (by decide +kernel) ?_
  refine x_bipush Z dX4_letters_35 (by decide +kernel) ?_
  refine x_callV (ci := 5) (C := RX4) (T := TX4) (N := 7) Z okX4_told q1029 q1031 q8 rfl dX4_letters_37 (c_X4_told h0 htr ha hk (by decide) (by decide) (by decide)) ha ⟨Nat.le_of_ble_eq_true rfl, Nat.le_of_ble_eq_true rfl, Nat.le_of_ble_eq_true rfl, Nat.le_of_ble_eq_true rfl⟩ rfl rfl (Nat.le_of_ble_eq_true rfl) (fun v9 w9 hR => ?_)
  obtain ⟨rfl, ha, hk, hf9⟩ := hR
  have hf0 := hf0.tr hf9
  simp only [Option.toList_some, Option.toList_none, List.cons_append, List.nil_append]
  refine x_aload_n Z dX4_letters_40 rfl rfl ?_
  refine x_iconst Z dX4_letters_41 ?_
  refine x_sipush Z dX4_letters_42 (by decide +kernel) ?_
  refine x_sipush Z dX4_letters_45 (by decide +kernel) ?_
  refine x_callV (ci := 5) (C := RX4) (T := TX4) (N := 7) Z okX4_told q1029 q1031 q8 rfl dX4_letters_48 (c_X4_told h0 htr ha hk (by decide) (by decide) (by decide)) ha ⟨Nat.le_of_ble_eq_true rfl, Nat.le_of_ble_eq_true rfl, Nat.le_of_ble_eq_true rfl, Nat.le_of_ble_eq_true rfl⟩ rfl rfl (Nat.le_of_ble_eq_true rfl) (fun v9 w9 hR => ?_)
  obtain ⟨rfl, ha, hk, hf9⟩ := hR
  have hf0 := hf0.tr hf9
  simp only [Option.toList_some, Option.toList_none, List.cons_append, List.nil_append]
  refine x_aload_n Z dX4_letters_51 rfl rfl ?_
  refine x_iconst Z dX4_letters_52 ?_
  refine x_sipush Z dX4_letters_53 (by decide +kernel) ?_
  refine x_sipush Z dX4_letters_56 (by decide +kernel) ?_
  refine x_callV (ci := 5) (C := RX4) (T := TX4) (N := 7) Z okX4_told q1029 q1031 q8 rfl dX4_letters_59 (c_X4_told h0 htr ha hk (by decide) (by decide) (by decide)) ha ⟨Nat.le_of_ble_eq_true rfl, Nat.le_of_ble_eq_true rfl, Nat.le_of_ble_eq_true rfl, Nat.le_of_ble_eq_true rfl⟩ rfl rfl (Nat.le_of_ble_eq_true rfl) (fun v9 w9 hR => ?_)
  obtain ⟨rfl, ha, hk, hf9⟩ := hR
  have hf0 := hf0.tr hf9
  simp only [Option.toList_some, Option.toList_none, List.cons_append, List.nil_append]
  refine x_aload_n Z dX4_letters_62 rfl rfl ?_
  refine x_iconst Z dX4_letters_63 ?_
  refine x_sipush Z dX4_letters_64 (by decide +kernel) ?_
  refine x_sipush Z dX4_letters_67 (by decide +kernel) ?_
  refine x_callV (ci := 5) (C := RX4) (T := TX4) (N := 7) Z okX4_told q1029 q1031 q8 rfl dX4_letters_70 (c_X4_told h0 htr ha hk (by decide) (by decide) (by decide)) ha ⟨Nat.le_of_ble_eq_true rfl, Nat.le_of_ble_eq_true rfl, Nat.le_of_ble_eq_true rfl, Nat.le_of_ble_eq_true rfl⟩ rfl rfl (Nat.le_of_ble_eq_true rfl) (fun v9 w9 hR => ?_)
  obtain ⟨rfl, ha, hk, hf9⟩ := hR
  have hf0 := hf0.tr hf9
  simp only [Option.toList_some, Option.toList_none, List.cons_append, List.nil_append]
  refine x_aload_n Z dX4_letters_73 rfl rfl ?_
  refine x_iconst Z dX4_letters_74 ?_
  refine x_sipush Z dX4_letters_75 (by decide +kernel) ?_
  refine x_sipush Z dX4_letters_78 (by decide +kernel) ?_
  refine x_callV (ci := 5) (C := RX4) (T := TX4) (N := 7) Z okX4_told q1029 q1031 q8 rfl dX4_letters_81 (c_X4_told h0 htr ha hk (by decide) (by decide) (by decide)) ha ⟨Nat.le_of_ble_eq_true rfl, Nat.le_of_ble_eq_true rfl, Nat.le_of_ble_eq_true rfl, Nat.le_of_ble_eq_true rfl⟩ rfl rfl (Nat.le_of_ble_eq_true rfl) (fun v9 w9 hR => ?_)
  obtain ⟨rfl, ha, hk, hf9⟩ := hR
  have hf0 := hf0.tr hf9
  simp only [Option.toList_some, Option.toList_none, List.cons_append, List.nil_append]
  refine x_aload_n Z dX4_letters_84 rfl rfl ?_
  refine x_iconst Z dX4_letters_85 ?_
  refine x_sipush Z dX4_letters_86 (by decide +kernel) ?_
  refine x_sipush Z dX4_letters_89 (by decide +kernel) ?_
  refine x_callV (ci := 5) (C := RX4) (T := TX4) (N := 7) Z okX4_told q1029 q1031 q8 rfl dX4_letters_92 (c_X4_told h0 htr ha hk (by decide) (by decide) (by decide)) ha ⟨Nat.le_of_ble_eq_true rfl, Nat.le_of_ble_eq_true rfl, Nat.le_of_ble_eq_true rfl, Nat.le_of_ble_eq_true rfl⟩ rfl rfl (Nat.le_of_ble_eq_true rfl) (fun v9 w9 hR => ?_)
  obtain ⟨rfl, ha, hk, hf9⟩ := hR
  have hf0 := hf0.tr hf9
  simp only [Option.toList_some, Option.toList_none, List.cons_append, List.nil_append]
  refine x_aload_n Z dX4_letters_95 rfl rfl ?_
  refine x_bipush Z dX4_letters_96 (by decide +kernel) ?_
  refine x_bipush Z dX4_letters_98 (by decide +kernel) ?_
  refine x_bipush Z dX4_letters_100 (by decide +kernel) ?_
  refine x_callV (ci := 5) (C := RX4) (T := TX4) (N := 7) Z okX4_told q1029 q1031 q8 rfl dX4_letters_102 (c_X4_told h0 htr ha hk (by decide) (by decide) (by decide)) ha ⟨Nat.le_of_ble_eq_true rfl, Nat.le_of_ble_eq_true rfl, Nat.le_of_ble_eq_true rfl, Nat.le_of_ble_eq_true rfl⟩ rfl rfl (Nat.le_of_ble_eq_true rfl) (fun v9 w9 hR => ?_)
  obtain ⟨rfl, ha, hk, hf9⟩ := hR
  have hf0 := hf0.tr hf9
  simp only [Option.toList_some, Option.toList_none, List.cons_append, List.nil_append]
  refine x_aload_n Z dX4_letters_105 rfl rfl ?_
  refine x_bipush Z dX4_letters_106 (by decide +kernel) ?_
  refine x_sipush Z dX4_letters_108 (by decide +kernel) ?_
  refine x_sipush Z dX4_letters_111 (by decide +kernel) ?_
  refine x_callV (ci := 5) (C := RX4) (T := TX4) (N := 7) Z okX4_told q1029 q1031 q8 rfl dX4_letters_114 (c_X4_told h0 htr ha hk (by decide) (by decide) (by decide)) ha ⟨Nat.le_of_ble_eq_true rfl, Nat.le_of_ble_eq_true rfl, Nat.le_of_ble_eq_true rfl, Nat.le_of_ble_eq_true rfl⟩ rfl rfl (Nat.le_of_ble_eq_true rfl) (fun v9 w9 hR => ?_)
  obtain ⟨rfl, ha, hk, hf9⟩ := hR
  have hf0 := hf0.tr hf9
  simp only [Option.toList_some, Option.toList_none, List.cons_append, List.nil_append]
  refine x_aload_n Z dX4_letters_117 rfl rfl ?_
  refine x_bipush Z dX4_letters_118 (by decide +kernel) ?_
  refine x_sipush Z dX4_letters_120 (by decide +kernel) ?_
  refine x_sipush Z dX4_letters_123 (by decide +kernel) ?_
  refine x_callV (ci := 5) (C := RX4) (T := TX4) (N := 7) Z okX4_told q1029 q1031 q8 rfl dX4_letters_126 (c_X4_told h0 htr ha hk (by decide) (by decide) (by decide)) ha ⟨Nat.le_of_ble_eq_true rfl, Nat.le_of_ble_eq_true rfl, Nat.le_of_ble_eq_true rfl, Nat.le_of_ble_eq_true rfl⟩ rfl rfl (Nat.le_of_ble_eq_true rfl) (fun v9 w9 hR => ?_)
  obtain ⟨rfl, ha, hk, hf9⟩ := hR
  have hf0 := hf0.tr hf9
  simp only [Option.toList_some, Option.toList_none, List.cons_append, List.nil_append]
  refine x_aload_n Z dX4_letters_129 rfl rfl ?_
  refine x_bipush Z dX4_letters_130 (by decide +kernel) ?_
  refine x_sipush Z dX4_letters_132 (by decide +kernel) ?_
  refine x_sipush Z dX4_letters_135 (by decide +kernel) ?_
  refine x_callV (ci := 5) (C := RX4) (T := TX4) (N := 7) Z okX4_told q1029 q1031 q8 rfl dX4_letters_138 (c_X4_told h0 htr ha hk (by decide) (by decide) (by decide)) ha ⟨Nat.le_of_ble_eq_true rfl, Nat.le_of_ble_eq_true rfl, Nat.le_of_ble_eq_true rfl, Nat.le_of_ble_eq_true rfl⟩ rfl rfl (Nat.le_of_ble_eq_true rfl) (fun v9 w9 hR => ?_)
  obtain ⟨rfl, ha, hk, hf9⟩ := hR
  have hf0 := hf0.tr hf9
  simp only [Option.toList_some, Option.toList_none, List.cons_append, List.nil_append]
  refine x_aload_n Z dX4_letters_141 rfl rfl ?_
  refine x_bipush Z dX4_letters_142 (by decide +kernel) ?_
  refine x_bipush Z dX4_letters_144 (by decide +kernel) ?_
  refine x_bipush Z dX4_letters_146 (by decide +kernel) ?_
  refine x_callV (ci := 5) (C := RX4) (T := TX4) (N := 7) Z okX4_told q1029 q1031 q8 rfl dX4_letters_148 (c_X4_told h0 htr ha hk (by decide) (by decide) (by decide)) ha ⟨Nat.le_of_ble_eq_true rfl, Nat.le_of_ble_eq_true rfl, Nat.le_of_ble_eq_true rfl, Nat.le_of_ble_eq_true rfl⟩ rfl rfl (Nat.le_of_ble_eq_true rfl) (fun v9 w9 hR => ?_)
  obtain ⟨rfl, ha, hk, hf9⟩ := hR
  have hf0 := hf0.tr hf9
  simp only [Option.toList_some, Option.toList_none, List.cons_append, List.nil_append]
  refine x_aload_n Z dX4_letters_151 rfl rfl ?_
  refine x_bipush Z dX4_letters_152 (by decide +kernel) ?_
  refine x_sipush Z dX4_letters_154 (by decide +kernel) ?_
  refine x_sipush Z dX4_letters_157 (by decide +kernel) ?_
  refine x_callV (ci := 5) (C := RX4) (T := TX4) (N := 7) Z okX4_told q1029 q1031 q8 rfl dX4_letters_160 (c_X4_told h0 htr ha hk (by decide) (by decide) (by decide)) ha ⟨Nat.le_of_ble_eq_true rfl, Nat.le_of_ble_eq_true rfl, Nat.le_of_ble_eq_true rfl, Nat.le_of_ble_eq_true rfl⟩ rfl rfl (Nat.le_of_ble_eq_true rfl) (fun v9 w9 hR => ?_)
  obtain ⟨rfl, ha, hk, hf9⟩ := hR
  have hf0 := hf0.tr hf9
  simp only [Option.toList_some, Option.toList_none, List.cons_append, List.nil_append]
  refine x_aload_n Z dX4_letters_163 rfl rfl ?_
  refine x_bipush Z dX4_letters_164 (by decide +kernel) ?_
  refine x_iconst Z dX4_letters_166 ?_
  refine x_bipush Z dX4_letters_167 (by decide +kernel) ?_
  refine x_callV (ci := 5) (C := RX4) (T := TX4) (N := 7) Z okX4_told q1029 q1031 q8 rfl dX4_letters_169 (c_X4_told h0 htr ha hk (by decide) (by decide) (by decide)) ha ⟨Nat.le_of_ble_eq_true rfl, Nat.le_of_ble_eq_true rfl, Nat.le_of_ble_eq_true rfl, Nat.le_of_ble_eq_true rfl⟩ rfl rfl (Nat.le_of_ble_eq_true rfl) (fun v9 w9 hR => ?_)
  obtain ⟨rfl, ha, hk, hf9⟩ := hR
  have hf0 := hf0.tr hf9
  simp only [Option.toList_some, Option.toList_none, List.cons_append, List.nil_append]
  refine x_aload_n Z dX4_letters_172 rfl rfl ?_
  refine x_bipush Z dX4_letters_173 (by decide +kernel) ?_
  refine x_bipush Z dX4_letters_175 (by decide +kernel) ?_
  refine x_sipush Z dX4_letters_177 (by decide +kernel) ?_
  refine x_callV (ci := 5) (C := RX4) (T := TX4) (N := 7) Z okX4_told q1029 q1031 q8 rfl dX4_letters_180 (c_X4_told h0 htr ha hk (by decide) (by decide) (by decide)) ha ⟨Nat.le_of_ble_eq_true rfl, Nat.le_of_ble_eq_true rfl, Nat.le_of_ble_eq_true rfl, Nat.le_of_ble_eq_true rfl⟩ rfl rfl (Nat.le_of_ble_eq_true rfl) (fun v9 w9 hR => ?_)
  obtain ⟨rfl, ha, hk, hf9⟩ := hR
  have hf0 := hf0.tr hf9
  simp only [Option.toList_some, Option.toList_none, List.cons_append, List.nil_append]
  refine x_aload_n Z dX4_letters_183 rfl rfl ?_
  refine x_bipush Z dX4_letters_184 (by decide +kernel) ?_
  refine x_sipush Z dX4_letters_186 (by decide +kernel) ?_
  refine x_sipush Z dX4_letters_189 (by decide +kernel) ?_
  refine x_callV (ci := 5) (C := RX4) (T := TX4) (N := 7) Z okX4_told q1029 q1031 q8 rfl dX4_letters_192 (c_X4_told h0 htr ha hk (by decide) (by decide) (by decide)) ha ⟨Nat.le_of_ble_eq_true rfl, Nat.le_of_ble_eq_true rfl, Nat.le_of_ble_eq_true rfl, Nat.le_of_ble_eq_true rfl⟩ rfl rfl (Nat.le_of_ble_eq_true rfl) (fun v9 w9 hR => ?_)
  obtain ⟨rfl, ha, hk, hf9⟩ := hR
  have hf0 := hf0.tr hf9
  simp only [Option.toList_some, Option.toList_none, List.cons_append, List.nil_append]
  exact x_vret Z E (⟨rfl, ha, hk, hf0⟩) dX4_letters_195 (Nat.le_of_ble_eq_true rfl) (Nat.le_of_ble_eq_true rfl)
abbrev rmc_X4_points : Room := { frames := 1, cells := 3, slots := 26, locals := 24 }
set_option maxRecDepth 100000 in
theorem c_X4_points {l : Launch} {s0 : State} {G : gK} {w : wd} (h0 : gS0 s0) (htr : l.stackTraces = false) {a kd : Nat} {fs : List Value} {F : Int → Int} (ha : w a = some (eO 5 (rv kd :: fs))) (hk : w kd = some (eI G 256 F)) : gM l s0 G yX4_points [Cond.code yX4_points cX4_points 8 none] rmc_X4_points [rv a] w (fun v w' => v = none ∧ w' a = some (eO 5 (rv kd :: fs)) ∧ w' kd = some (eI G 256 (forI (fun j F => tld 24 ((uF (uF (uF (uF (uF (uF (uF (uF (uF (uF (uF (uF (uF (uF (uF (uF (uF (uF (uF (uF (fun _ => 0) 0 33) 1 34) 2 35) 3 37) 4 38) 5 39) 6 42) 7 44) 8 46) 9 47) 10 58) 11 59) 12 63) 13 64) 14 92) 15 161) 16 167) 17 182) 18 183) 19 191) j) ((uF (uF (uF (uF (uF (uF (uF (uF (uF (uF (uF (uF (uF (uF (uF (uF (uF (uF (uF (uF (fun _ => 0) 0 33) 1 34) 2 35) 3 37) 4 38) 5 39) 6 42) 7 44) 8 46) 9 47) 10 58) 11 59) 12 63) 13 64) 14 92) 15 161) 16 167) 17 182) 18 183) 19 191) j) F) 0 20 (tld 23 95 95 (forI (fun j F => tld 22 ((uF (uF (uF (fun _ => 0) 0 41) 1 93) 2 125) j) ((uF (uF (uF (fun _ => 0) 0 41) 1 93) 2 125) j) F) 0 3 (forI (fun j F => tld 21 ((uF (uF (uF (fun _ => 0) 0 40) 1 91) 2 123) j) ((uF (uF (uF (fun _ => 0) 0 40) 1 91) 2 123) j) F) 0 3 (tld 20 45 45 F)))))) ∧ fr (fun q => q = kd) w w') (noX) := by
  refine g_of h0 htr (by decide +kernel) (Nat.le_of_ble_eq_true rfl) ?_
  intro b Z0 E
  have Z : gAm b l s0 G cX4_points RX4 8 rmc_X4_points := Z0
  refine x_el (L' := [(0, rv a)]) rfl ?_
  have hf0 : fr (fun q => q = kd) w w := fr.rf
  refine x_aload_n Z dX4_points_0 rfl rfl ?_
  refine x_bipush Z dX4_points_1 (by decide +kernel) ?_
  refine x_bipush Z dX4_points_3 (by decide +kernel) ?_
  refine x_bipush Z dX4_points_5 (by decide +kernel) ?_
  refine x_callV (ci := 5) (C := RX4) (T := TX4) (N := 7) Z okX4_told q1029 q1031 q8 rfl dX4_points_7 (c_X4_told h0 htr ha hk (by decide) (by decide) (by decide)) ha ⟨Nat.le_of_ble_eq_true rfl, Nat.le_of_ble_eq_true rfl, Nat.le_of_ble_eq_true rfl, Nat.le_of_ble_eq_true rfl⟩ rfl rfl (Nat.le_of_ble_eq_true rfl) (fun v9 w9 hR => ?_)
  obtain ⟨rfl, ha, hk, hf9⟩ := hR
  have hf0 := hf0.tr hf9
  simp only [Option.toList_some, Option.toList_none, List.cons_append, List.nil_append]
  refine x_iconst Z dX4_points_10 ?_
  refine x_newI Z (3) q83 (by first | rfl | omega) (by omega) (Nat.le_of_ble_eq_true rfl) (Nat.le_of_ble_eq_true rfl) dX4_points_11 (fun n11 hn11 => ?_)
  refine x_dup Z dX4_points_13 rfl ?_
  refine x_iconst Z dX4_points_14 ?_
  refine x_bipush Z dX4_points_15 (by decide +kernel) ?_
  refine x_iast Z dX4_points_17 ws1_s (by decide) (by decide) (by decide) ?_
  refine x_ew ws1_2 ?_
  refine x_dup Z dX4_points_18 rfl ?_
  refine x_iconst Z dX4_points_19 ?_
  refine x_bipush Z dX4_points_20 (by decide +kernel) ?_
  refine x_iast Z dX4_points_22 ws1_s (by decide) (by decide) (by decide) ?_
  refine x_ew ws1_2 ?_
  refine x_dup Z dX4_points_23 rfl ?_
  refine x_iconst Z dX4_points_24 ?_
  refine x_bipush Z dX4_points_25 (by decide +kernel) ?_
  refine x_iast Z dX4_points_27 ws1_s (by decide) (by decide) (by decide) ?_
  refine x_ew ws1_2 ?_
  obtain ⟨w5, hw5⟩ : ∃ x, x = ws1 w9 n11 (eI G 3 (uF (uF (uF (fun _ => 0) 0 40) 1 91) 2 123)) := ⟨_, rfl⟩
  refine x_ew hw5.symm ?_
  have ha := (congrFun hw5 a).trans ((ws1_n (fun z => by { rw [z, hn11] at ha; cases ha })).trans ha)
  have hk := (congrFun hw5 kd).trans ((ws1_n (fun z => by { rw [z, hn11] at hk; cases hk })).trans hk)
  have hA11 : w5 n11 = some (eI G 3 (uF (uF (uF (fun _ => 0) 0 40) 1 91) 2 123)) := by { rw [hw5]; exact ws1_s }
  have hf0 : fr (fun q => q = kd) w w5 := by { rw [hw5]; exact hf0.new hn11 }
  refine x_astore_n (L' := [(1, _), (0, _)]) Z dX4_points_28 rfl (Nat.le_of_ble_eq_true rfl) rfl ?_
  refine x_iconst Z dX4_points_29 ?_
  refine x_newI Z (3) q83 (by first | rfl | omega) (by omega) (Nat.le_of_ble_eq_true rfl) (Nat.le_of_ble_eq_true rfl) dX4_points_30 (fun n30 hn30 => ?_)
  refine x_dup Z dX4_points_32 rfl ?_
  refine x_iconst Z dX4_points_33 ?_
  refine x_bipush Z dX4_points_34 (by decide +kernel) ?_
  refine x_iast Z dX4_points_36 ws1_s (by decide) (by decide) (by decide) ?_
  refine x_ew ws1_2 ?_
  refine x_dup Z dX4_points_37 rfl ?_
  refine x_iconst Z dX4_points_38 ?_
  refine x_bipush Z dX4_points_39 (by decide +kernel) ?_
  refine x_iast Z dX4_points_41 ws1_s (by decide) (by decide) (by decide) ?_
  refine x_ew ws1_2 ?_
  refine x_dup Z dX4_points_42 rfl ?_
  refine x_iconst Z dX4_points_43 ?_
  refine x_bipush Z dX4_points_44 (by decide +kernel) ?_
  refine x_iast Z dX4_points_46 ws1_s (by decide) (by decide) (by decide) ?_
  refine x_ew ws1_2 ?_
  obtain ⟨w6, hw5⟩ : ∃ x, x = ws1 w5 n30 (eI G 3 (uF (uF (uF (fun _ => 0) 0 41) 1 93) 2 125)) := ⟨_, rfl⟩
  refine x_ew hw5.symm ?_
  have ha := (congrFun hw5 a).trans ((ws1_n (fun z => by { rw [z, hn30] at ha; cases ha })).trans ha)
  have hk := (congrFun hw5 kd).trans ((ws1_n (fun z => by { rw [z, hn30] at hk; cases hk })).trans hk)
  have hA11 := (congrFun hw5 n11).trans ((ws1_n (fun z => by { rw [z, hn30] at hA11; cases hA11 })).trans hA11)
  have hA30 : w6 n30 = some (eI G 3 (uF (uF (uF (fun _ => 0) 0 41) 1 93) 2 125)) := by { rw [hw5]; exact ws1_s }
  have hf0 : fr (fun q => q = kd) w w6 := by { rw [hw5]; exact hf0.new hn30 }
  refine x_astore_n (L' := [(2, _), (1, _), (0, _)]) Z dX4_points_47 rfl (Nat.le_of_ble_eq_true rfl) rfl ?_
  refine x_aload_n Z dX4_points_48 rfl rfl ?_
  refine x_astore_n (L' := [(3, _), (2, _), (1, _), (0, _)]) Z dX4_points_49 rfl (Nat.le_of_ble_eq_true rfl) rfl ?_
  refine x_aload_n Z dX4_points_50 rfl rfl ?_
  refine x_alenI Z dX4_points_51 (by assumption) ?_
  refine x_istore (L' := [(4, _), (3, _), (2, _), (1, _), (0, _)]) Z dX4_points_52 (Nat.le_of_ble_eq_true rfl) rfl ?_
  refine x_iconst Z dX4_points_54 ?_
  refine x_istore (L' := [(5, _), (4, _), (3, _), (2, _), (1, _), (0, _)]) Z dX4_points_55 (Nat.le_of_ble_eq_true rfl) rfl ?_
  have loop57 : ∀ (fu : Nat) (i : Int) (F1 : Int → Int) (w1 : wd), 3 - i < (fu : Int) → (0 ≤ i ∧ i ≤ 3 ∧ w1 a = some (eO 5 (rv kd :: fs)) ∧ w1 kd = some (eI G 256 F1) ∧ fr (fun q => q = kd) w w1 ∧ w1 n11 = some (eI G 3 (uF (uF (uF (fun _ => 0) 0 40) 1 91) 2 123)) ∧ w1 n30 = some (eI G 3 (uF (uF (uF (fun _ => 0) 0 41) 1 93) 2 125)) ∧ forI (fun j F => tld 21 ((uF (uF (uF (fun _ => 0) 0 40) 1 91) 2 123) j) ((uF (uF (uF (fun _ => 0) 0 40) 1 91) 2 123) j) F) i 3 F1 = forI (fun j F => tld 21 ((uF (uF (uF (fun _ => 0) 0 40) 1 91) 2 123) j) ((uF (uF (uF (fun _ => 0) 0 40) 1 91) 2 123) j) F) 0 3 (tld 20 45 45 F)) → gX b s0 G (2) (6) 57 [(5, iv i), (4, iv ((3 : Nat) : Int)), (3, rv n11), (2, rv n30), (0, rv a)] [] (w1) := by
    intro fu; induction fu with
    | zero => intro i F1 w1 hm hv; exact absurd hm (by omega)
    | succ fu ih57 =>
      intro i F1 w1 hm hv
      obtain ⟨hi0, hin, ha, hk, hf0, hA11, hA30, hif⟩ := hv
      have hAi : 0 ≤ (uF (uF (uF (fun _ => 0) 0 40) 1 91) 2 123) i ∧ (uF (uF (uF (fun _ => 0) 0 40) 1 91) 2 123) i ≤ 255 := (uF_rng (i := 2) (x := 123) (uF_rng (i := 1) (x := 91) (uF_rng (i := 0) (x := 40) (F := fun _ => 0) (fun _ => ⟨Int.le_refl 0, by exact (by decide : (0 : Int) ≤ 255)⟩) (by decide) (by decide)) (by decide) (by decide)) (by decide) (by decide)) i
      refine x_iload Z dX4_points_57 rfl ?_
      refine x_iload Z dX4_points_59 rfl ?_
      refine x_icmp_ge Z 86 dX4_points_61 (by decide) ⟨by omega, by omega⟩ ⟨by omega, by omega⟩ (fun c61 => ?_) (fun c61 => ?_)
      ·
        rw [forI_e (by omega)] at hif; subst hif
        refine x_aload_n Z dX4_points_86 rfl rfl ?_
        refine x_astore_n (L' := [(3, _), (5, _), (4, _), (2, _), (0, _)]) Z dX4_points_87 rfl (Nat.le_of_ble_eq_true rfl) rfl ?_
        refine x_aload_n Z dX4_points_88 rfl rfl ?_
        refine x_alenI Z dX4_points_89 (by assumption) ?_
        refine x_istore (L' := [(4, _), (3, _), (5, _), (2, _), (0, _)]) Z dX4_points_90 (Nat.le_of_ble_eq_true rfl) rfl ?_
        refine x_iconst Z dX4_points_92 ?_
        refine x_istore (L' := [(5, _), (4, _), (3, _), (2, _), (0, _)]) Z dX4_points_93 (Nat.le_of_ble_eq_true rfl) rfl ?_
        have loop95 : ∀ (fu : Nat) (i : Int) (F1 : Int → Int) (w1 : wd), 3 - i < (fu : Int) → (0 ≤ i ∧ i ≤ 3 ∧ w1 a = some (eO 5 (rv kd :: fs)) ∧ w1 kd = some (eI G 256 F1) ∧ fr (fun q => q = kd) w w1 ∧ w1 n30 = some (eI G 3 (uF (uF (uF (fun _ => 0) 0 41) 1 93) 2 125)) ∧ forI (fun j F => tld 22 ((uF (uF (uF (fun _ => 0) 0 41) 1 93) 2 125) j) ((uF (uF (uF (fun _ => 0) 0 41) 1 93) 2 125) j) F) i 3 F1 = forI (fun j F => tld 22 ((uF (uF (uF (fun _ => 0) 0 41) 1 93) 2 125) j) ((uF (uF (uF (fun _ => 0) 0 41) 1 93) 2 125) j) F) 0 3 (forI (fun j F => tld 21 ((uF (uF (uF (fun _ => 0) 0 40) 1 91) 2 123) j) ((uF (uF (uF (fun _ => 0) 0 40) 1 91) 2 123) j) F) 0 3 (tld 20 45 45 F))) → gX b s0 G (2) (6) 95 [(5, iv i), (4, iv ((3 : Nat) : Int)), (3, rv n30), (0, rv a)] [] (w1) := by
          intro fu; induction fu with
          | zero => intro i F1 w1 hm hv; exact absurd hm (by omega)
          | succ fu ih95 =>
            intro i F1 w1 hm hv
            obtain ⟨hi0, hin, ha, hk, hf0, hA30, hif⟩ := hv
            have hAi : 0 ≤ (uF (uF (uF (fun _ => 0) 0 41) 1 93) 2 125) i ∧ (uF (uF (uF (fun _ => 0) 0 41) 1 93) 2 125) i ≤ 255 := (uF_rng (i := 2) (x := 125) (uF_rng (i := 1) (x := 93) (uF_rng (i := 0) (x := 41) (F := fun _ => 0) (fun _ => ⟨Int.le_refl 0, by exact (by decide : (0 : Int) ≤ 255)⟩) (by decide) (by decide)) (by decide) (by decide)) (by decide) (by decide)) i
            refine x_iload Z dX4_points_95 rfl ?_
            refine x_iload Z dX4_points_97 rfl ?_
            refine x_icmp_ge Z 124 dX4_points_99 (by decide) ⟨by omega, by omega⟩ ⟨by omega, by omega⟩ (fun c99 => ?_) (fun c99 => ?_)
            ·
              rw [forI_e (by omega)] at hif; subst hif
              refine x_aload_n Z dX4_points_124 rfl rfl ?_
              refine x_bipush Z dX4_points_125 (by decide +kernel) ?_
              refine x_bipush Z dX4_points_127 (by decide +kernel) ?_
              refine x_bipush Z dX4_points_129 (by decide +kernel) ?_
              refine x_callV (ci := 5) (C := RX4) (T := TX4) (N := 7) Z okX4_told q1029 q1031 q8 rfl dX4_points_131 (c_X4_told h0 htr ha hk (by decide) (by decide) (by decide)) ha ⟨Nat.le_of_ble_eq_true rfl, Nat.le_of_ble_eq_true rfl, Nat.le_of_ble_eq_true rfl, Nat.le_of_ble_eq_true rfl⟩ rfl rfl (Nat.le_of_ble_eq_true rfl) (fun v9 w9 hR => ?_)
              obtain ⟨rfl, ha, hk, hf9⟩ := hR
              have hf0 := hf0.tr hf9
              simp only [Option.toList_some, Option.toList_none, List.cons_append, List.nil_append]
              refine x_bipush Z dX4_points_134 (by decide +kernel) ?_
              refine x_newI Z (20) q83 (by first | rfl | omega) (by omega) (Nat.le_of_ble_eq_true rfl) (Nat.le_of_ble_eq_true rfl) dX4_points_136 (fun n136 hn136 => ?_)
              refine x_dup Z dX4_points_138 rfl ?_
              refine x_iconst Z dX4_points_139 ?_
              refine x_bipush Z dX4_points_140 (by decide +kernel) ?_
              refine x_iast Z dX4_points_142 ws1_s (by decide) (by decide) (by decide) ?_
              refine x_ew ws1_2 ?_
              refine x_dup Z dX4_points_143 rfl ?_
              refine x_iconst Z dX4_points_144 ?_
              refine x_bipush Z dX4_points_145 (by decide +kernel) ?_
              refine x_iast Z dX4_points_147 ws1_s (by decide) (by decide) (by decide) ?_
              refine x_ew ws1_2 ?_
              refine x_dup Z dX4_points_148 rfl ?_
              refine x_iconst Z dX4_points_149 ?_
              refine x_bipush Z dX4_points_150 (by decide +kernel) ?_
              refine x_iast Z dX4_points_152 ws1_s (by decide) (by decide) (by decide) ?_
              refine x_ew ws1_2 ?_
              refine x_dup Z dX4_points_153 rfl ?_
              refine x_iconst Z dX4_points_154 ?_
              refine x_bipush Z dX4_points_155 (by decide +kernel) ?_
              refine x_iast Z dX4_points_157 ws1_s (by decide) (by decide) (by decide) ?_
              refine x_ew ws1_2 ?_
              refine x_dup Z dX4_points_158 rfl ?_
              refine x_iconst Z dX4_points_159 ?_
              refine x_bipush Z dX4_points_160 (by decide +kernel) ?_
              refine x_iast Z dX4_points_162 ws1_s (by decide) (by decide) (by decide) ?_
              refine x_ew ws1_2 ?_
              refine x_dup Z dX4_points_163 rfl ?_
              refine x_iconst Z dX4_points_164 ?_
              refine x_bipush Z dX4_points_165 (by decide +kernel) ?_
              refine x_iast Z dX4_points_167 ws1_s (by decide) (by decide) (by decide) ?_
              refine x_ew ws1_2 ?_
              refine x_dup Z dX4_points_168 rfl ?_
              refine x_bipush Z dX4_points_169 (by decide +kernel) ?_
              refine x_bipush Z dX4_points_171 (by decide +kernel) ?_
              refine x_iast Z dX4_points_173 ws1_s (by decide) (by decide) (by decide) ?_
              refine x_ew ws1_2 ?_
              refine x_dup Z dX4_points_174 rfl ?_
              refine x_bipush Z dX4_points_175 (by decide +kernel) ?_
              refine x_bipush Z dX4_points_177 (by decide +kernel) ?_
              refine x_iast Z dX4_points_179 ws1_s (by decide) (by decide) (by decide) ?_
              refine x_ew ws1_2 ?_
              refine x_dup Z dX4_points_180 rfl ?_
              refine x_bipush Z dX4_points_181 (by decide +kernel) ?_
              refine x_bipush Z dX4_points_183 (by decide +kernel) ?_
              refine x_iast Z dX4_points_185 ws1_s (by decide) (by decide) (by decide) ?_
              refine x_ew ws1_2 ?_
              refine x_dup Z dX4_points_186 rfl ?_
              refine x_bipush Z dX4_points_187 (by decide +kernel) ?_
              refine x_bipush Z dX4_points_189 (by decide +kernel) ?_
              refine x_iast Z dX4_points_191 ws1_s (by decide) (by decide) (by decide) ?_
              refine x_ew ws1_2 ?_
              refine x_dup Z dX4_points_192 rfl ?_
              refine x_bipush Z dX4_points_193 (by decide +kernel) ?_
              refine x_bipush Z dX4_points_195 (by decide +kernel) ?_
              refine x_iast Z dX4_points_197 ws1_s (by decide) (by decide) (by decide) ?_
              refine x_ew ws1_2 ?_
              refine x_dup Z dX4_points_198 rfl ?_
              refine x_bipush Z dX4_points_199 (by decide +kernel) ?_
              refine x_bipush Z dX4_points_201 (by decide +kernel) ?_
              refine x_iast Z dX4_points_203 ws1_s (by decide) (by decide) (by decide) ?_
              refine x_ew ws1_2 ?_
              refine x_dup Z dX4_points_204 rfl ?_
              refine x_bipush Z dX4_points_205 (by decide +kernel) ?_
              refine x_bipush Z dX4_points_207 (by decide +kernel) ?_
              refine x_iast Z dX4_points_209 ws1_s (by decide) (by decide) (by decide) ?_
              refine x_ew ws1_2 ?_
              refine x_dup Z dX4_points_210 rfl ?_
              refine x_bipush Z dX4_points_211 (by decide +kernel) ?_
              refine x_bipush Z dX4_points_213 (by decide +kernel) ?_
              refine x_iast Z dX4_points_215 ws1_s (by decide) (by decide) (by decide) ?_
              refine x_ew ws1_2 ?_
              refine x_dup Z dX4_points_216 rfl ?_
              refine x_bipush Z dX4_points_217 (by decide +kernel) ?_
              refine x_bipush Z dX4_points_219 (by decide +kernel) ?_
              refine x_iast Z dX4_points_221 ws1_s (by decide) (by decide) (by decide) ?_
              refine x_ew ws1_2 ?_
              refine x_dup Z dX4_points_222 rfl ?_
              refine x_bipush Z dX4_points_223 (by decide +kernel) ?_
              refine x_sipush Z dX4_points_225 (by decide +kernel) ?_
              refine x_iast Z dX4_points_228 ws1_s (by decide) (by decide) (by decide) ?_
              refine x_ew ws1_2 ?_
              refine x_dup Z dX4_points_229 rfl ?_
              refine x_bipush Z dX4_points_230 (by decide +kernel) ?_
              refine x_sipush Z dX4_points_232 (by decide +kernel) ?_
              refine x_iast Z dX4_points_235 ws1_s (by decide) (by decide) (by decide) ?_
              refine x_ew ws1_2 ?_
              refine x_dup Z dX4_points_236 rfl ?_
              refine x_bipush Z dX4_points_237 (by decide +kernel) ?_
              refine x_sipush Z dX4_points_239 (by decide +kernel) ?_
              refine x_iast Z dX4_points_242 ws1_s (by decide) (by decide) (by decide) ?_
              refine x_ew ws1_2 ?_
              refine x_dup Z dX4_points_243 rfl ?_
              refine x_bipush Z dX4_points_244 (by decide +kernel) ?_
              refine x_sipush Z dX4_points_246 (by decide +kernel) ?_
              refine x_iast Z dX4_points_249 ws1_s (by decide) (by decide) (by decide) ?_
              refine x_ew ws1_2 ?_
              refine x_dup Z dX4_points_250 rfl ?_
              refine x_bipush Z dX4_points_251 (by decide +kernel) ?_
              refine x_sipush Z dX4_points_253 (by decide +kernel) ?_
              refine x_iast Z dX4_points_256 ws1_s (by decide) (by decide) (by decide) ?_
              refine x_ew ws1_2 ?_
              obtain ⟨w5, hw5⟩ : ∃ x, x = ws1 w9 n136 (eI G 20 (uF (uF (uF (uF (uF (uF (uF (uF (uF (uF (uF (uF (uF (uF (uF (uF (uF (uF (uF (uF (fun _ => 0) 0 33) 1 34) 2 35) 3 37) 4 38) 5 39) 6 42) 7 44) 8 46) 9 47) 10 58) 11 59) 12 63) 13 64) 14 92) 15 161) 16 167) 17 182) 18 183) 19 191)) := ⟨_, rfl⟩
              refine x_ew hw5.symm ?_
              have ha := (congrFun hw5 a).trans ((ws1_n (fun z => by { rw [z, hn136] at ha; cases ha })).trans ha)
              have hk := (congrFun hw5 kd).trans ((ws1_n (fun z => by { rw [z, hn136] at hk; cases hk })).trans hk)
              have hA136 : w5 n136 = some (eI G 20 (uF (uF (uF (uF (uF (uF (uF (uF (uF (uF (uF (uF (uF (uF (uF (uF (uF (uF (uF (uF (fun _ => 0) 0 33) 1 34) 2 35) 3 37) 4 38) 5 39) 6 42) 7 44) 8 46) 9 47) 10 58) 11 59) 12 63) 13 64) 14 92) 15 161) 16 167) 17 182) 18 183) 19 191)) := by { rw [hw5]; exact ws1_s }
              have hf0 : fr (fun q => q = kd) w w5 := by { rw [hw5]; exact hf0.new hn136 }
              refine x_astore_n (L' := [(3, _), (5, _), (4, _), (0, _)]) Z dX4_points_257 rfl (Nat.le_of_ble_eq_true rfl) rfl ?_
              refine x_aload_n Z dX4_points_258 rfl rfl ?_
              refine x_astore (L' := [(4, _), (3, _), (5, _), (0, _)]) Z dX4_points_259 (Nat.le_of_ble_eq_true rfl) rfl ?_
              refine x_aload Z dX4_points_261 rfl ?_
              refine x_alenI Z dX4_points_263 (by assumption) ?_
              refine x_istore (L' := [(5, _), (4, _), (3, _), (0, _)]) Z dX4_points_264 (Nat.le_of_ble_eq_true rfl) rfl ?_
              refine x_iconst Z dX4_points_266 ?_
              refine x_istore (L' := [(6, _), (5, _), (4, _), (3, _), (0, _)]) Z dX4_points_267 (Nat.le_of_ble_eq_true rfl) rfl ?_
              have loop269 : ∀ (fu : Nat) (i : Int) (F1 : Int → Int) (w1 : wd), 20 - i < (fu : Int) → (0 ≤ i ∧ i ≤ 20 ∧ w1 a = some (eO 5 (rv kd :: fs)) ∧ w1 kd = some (eI G 256 F1) ∧ fr (fun q => q = kd) w w1 ∧ w1 n136 = some (eI G 20 (uF (uF (uF (uF (uF (uF (uF (uF (uF (uF (uF (uF (uF (uF (uF (uF (uF (uF (uF (uF (fun _ => 0) 0 33) 1 34) 2 35) 3 37) 4 38) 5 39) 6 42) 7 44) 8 46) 9 47) 10 58) 11 59) 12 63) 13 64) 14 92) 15 161) 16 167) 17 182) 18 183) 19 191)) ∧ forI (fun j F => tld 24 ((uF (uF (uF (uF (uF (uF (uF (uF (uF (uF (uF (uF (uF (uF (uF (uF (uF (uF (uF (uF (fun _ => 0) 0 33) 1 34) 2 35) 3 37) 4 38) 5 39) 6 42) 7 44) 8 46) 9 47) 10 58) 11 59) 12 63) 13 64) 14 92) 15 161) 16 167) 17 182) 18 183) 19 191) j) ((uF (uF (uF (uF (uF (uF (uF (uF (uF (uF (uF (uF (uF (uF (uF (uF (uF (uF (uF (uF (fun _ => 0) 0 33) 1 34) 2 35) 3 37) 4 38) 5 39) 6 42) 7 44) 8 46) 9 47) 10 58) 11 59) 12 63) 13 64) 14 92) 15 161) 16 167) 17 182) 18 183) 19 191) j) F) i 20 F1 = forI (fun j F => tld 24 ((uF (uF (uF (uF (uF (uF (uF (uF (uF (uF (uF (uF (uF (uF (uF (uF (uF (uF (uF (uF (fun _ => 0) 0 33) 1 34) 2 35) 3 37) 4 38) 5 39) 6 42) 7 44) 8 46) 9 47) 10 58) 11 59) 12 63) 13 64) 14 92) 15 161) 16 167) 17 182) 18 183) 19 191) j) ((uF (uF (uF (uF (uF (uF (uF (uF (uF (uF (uF (uF (uF (uF (uF (uF (uF (uF (uF (uF (fun _ => 0) 0 33) 1 34) 2 35) 3 37) 4 38) 5 39) 6 42) 7 44) 8 46) 9 47) 10 58) 11 59) 12 63) 13 64) 14 92) 15 161) 16 167) 17 182) 18 183) 19 191) j) F) 0 20 (tld 23 95 95 (forI (fun j F => tld 22 ((uF (uF (uF (fun _ => 0) 0 41) 1 93) 2 125) j) ((uF (uF (uF (fun _ => 0) 0 41) 1 93) 2 125) j) F) 0 3 (forI (fun j F => tld 21 ((uF (uF (uF (fun _ => 0) 0 40) 1 91) 2 123) j) ((uF (uF (uF (fun _ => 0) 0 40) 1 91) 2 123) j) F) 0 3 (tld 20 45 45 F))))) → gX b s0 G (3) (26) 269 [(6, iv i), (5, iv ((20 : Nat) : Int)), (4, rv n136), (0, rv a)] [] (w1) := by
                intro fu; induction fu with
                | zero => intro i F1 w1 hm hv; exact absurd hm (by omega)
                | succ fu ih269 =>
                  intro i F1 w1 hm hv
                  obtain ⟨hi0, hin, ha, hk, hf0, hA136, hif⟩ := hv
                  have hAi : 0 ≤ (uF (uF (uF (uF (uF (uF (uF (uF (uF (uF (uF (uF (uF (uF (uF (uF (uF (uF (uF (uF (fun _ => 0) 0 33) 1 34) 2 35) 3 37) 4 38) 5 39) 6 42) 7 44) 8 46) 9 47) 10 58) 11 59) 12 63) 13 64) 14 92) 15 161) 16 167) 17 182) 18 183) 19 191) i ∧ (uF (uF (uF (uF (uF (uF (uF (uF (uF (uF (uF (uF (uF (uF (uF (uF (uF (uF (uF (uF (fun _ => 0) 0 33) 1 34) 2 35) 3 37) 4 38) 5 39) 6 42) 7 44) 8 46) 9 47) 10 58) 11 59) 12 63) 13 64) 14 92) 15 161) 16 167) 17 182) 18 183) 19 191) i ≤ 255 := (uF_rng (i := 19) (x := 191) (uF_rng (i := 18) (x := 183) (uF_rng (i := 17) (x := 182) (uF_rng (i := 16) (x := 167) (uF_rng (i := 15) (x := 161) (uF_rng (i := 14) (x := 92) (uF_rng (i := 13) (x := 64) (uF_rng (i := 12) (x := 63) (uF_rng (i := 11) (x := 59) (uF_rng (i := 10) (x := 58) (uF_rng (i := 9) (x := 47) (uF_rng (i := 8) (x := 46) (uF_rng (i := 7) (x := 44) (uF_rng (i := 6) (x := 42) (uF_rng (i := 5) (x := 39) (uF_rng (i := 4) (x := 38) (uF_rng (i := 3) (x := 37) (uF_rng (i := 2) (x := 35) (uF_rng (i := 1) (x := 34) (uF_rng (i := 0) (x := 33) (F := fun _ => 0) (fun _ => ⟨Int.le_refl 0, by exact (by decide : (0 : Int) ≤ 255)⟩) (by decide) (by decide)) (by decide) (by decide)) (by decide) (by decide)) (by decide) (by decide)) (by decide) (by decide)) (by decide) (by decide)) (by decide) (by decide)) (by decide) (by decide)) (by decide) (by decide)) (by decide) (by decide)) (by decide) (by decide)) (by decide) (by decide)) (by decide) (by decide)) (by decide) (by decide)) (by decide) (by decide)) (by decide) (by decide)) (by decide) (by decide)) (by decide) (by decide)) (by decide) (by decide)) (by decide) (by decide)) i
                  refine x_iload Z dX4_points_269 rfl ?_
                  refine x_iload Z dX4_points_271 rfl ?_
                  refine x_icmp_ge Z 299 dX4_points_273 (by decide) ⟨by omega, by omega⟩ ⟨by omega, by omega⟩ (fun c273 => ?_) (fun c273 => ?_)
                  ·
                    rw [forI_e (by omega)] at hif; subst hif
                    exact x_vret Z E (⟨rfl, ha, hk, hf0⟩) dX4_points_299 (Nat.le_of_ble_eq_true rfl) (Nat.le_of_ble_eq_true rfl)
                  ·
                    refine x_aload Z dX4_points_276 rfl ?_
                    refine x_iload Z dX4_points_278 rfl ?_
                    refine x_iald Z dX4_points_280 (by assumption) (by omega) (by omega) (by omega) ?_
                    refine x_istore (L' := [(7, _), (6, _), (5, _), (4, _), (0, _)]) Z dX4_points_281 (Nat.le_of_ble_eq_true rfl) rfl ?_
                    refine x_aload_n Z dX4_points_283 rfl rfl ?_
                    refine x_bipush Z dX4_points_284 (by decide +kernel) ?_
                    refine x_iload Z dX4_points_286 rfl ?_
                    refine x_iload Z dX4_points_288 rfl ?_
                    have hk0 := hk
                    refine x_callV (ci := 5) (C := RX4) (T := TX4) (N := 7) Z okX4_told q1029 q1031 q8 rfl dX4_points_290 (c_X4_told h0 htr ha hk hAi.1 (Int.le_refl _) hAi.2) ha ⟨Nat.le_of_ble_eq_true rfl, Nat.le_of_ble_eq_true rfl, Nat.le_of_ble_eq_true rfl, Nat.le_of_ble_eq_true rfl⟩ rfl rfl (Nat.le_of_ble_eq_true rfl) (fun v9 w9 hR => ?_)
                    obtain ⟨rfl, ha, hk, hf9⟩ := hR
                    have hf0 := hf0.tr hf9
                    simp only [Option.toList_some, Option.toList_none, List.cons_append, List.nil_append]
                    have hA136 := hf9.at (fun z => tne 40 512 hA136 hk0 rfl rfl (by decide) z) hA136
                    refine x_iinc (L' := [(6, _), (7, _), (5, _), (4, _), (0, _)]) Z dX4_points_293 rfl (Nat.le_of_ble_eq_true rfl) rfl ?_
                    refine x_goto Z 269 dX4_points_296 (by decide) ?_
                    refine x_sub [0, 2, 3, 4] rfl ?_
                    exact ih269 (i + 1) _ _ (by omega) ⟨by omega, by omega, ha, hk, hf0, hA136, by rw [← hif, forI_s (i := i) (by omega)]⟩
              refine x_sub [0, 1, 2, 4] rfl ?_
              exact loop269 50 0 _ _ (by omega) ⟨by omega, by omega, ha, hk, hf0, hA136, rfl⟩
            ·
              refine x_aload_n Z dX4_points_102 rfl rfl ?_
              refine x_iload Z dX4_points_103 rfl ?_
              refine x_iald Z dX4_points_105 (by assumption) (by omega) (by omega) (by omega) ?_
              refine x_istore (L' := [(6, _), (5, _), (4, _), (3, _), (0, _)]) Z dX4_points_106 (Nat.le_of_ble_eq_true rfl) rfl ?_
              refine x_aload_n Z dX4_points_108 rfl rfl ?_
              refine x_bipush Z dX4_points_109 (by decide +kernel) ?_
              refine x_iload Z dX4_points_111 rfl ?_
              refine x_iload Z dX4_points_113 rfl ?_
              have hk0 := hk
              refine x_callV (ci := 5) (C := RX4) (T := TX4) (N := 7) Z okX4_told q1029 q1031 q8 rfl dX4_points_115 (c_X4_told h0 htr ha hk hAi.1 (Int.le_refl _) hAi.2) ha ⟨Nat.le_of_ble_eq_true rfl, Nat.le_of_ble_eq_true rfl, Nat.le_of_ble_eq_true rfl, Nat.le_of_ble_eq_true rfl⟩ rfl rfl (Nat.le_of_ble_eq_true rfl) (fun v9 w9 hR => ?_)
              obtain ⟨rfl, ha, hk, hf9⟩ := hR
              have hf0 := hf0.tr hf9
              simp only [Option.toList_some, Option.toList_none, List.cons_append, List.nil_append]
              have hA30 := hf9.at (fun z => tne 6 512 hA30 hk0 rfl rfl (by decide) z) hA30
              refine x_iinc (L' := [(5, _), (6, _), (4, _), (3, _), (0, _)]) Z dX4_points_118 rfl (Nat.le_of_ble_eq_true rfl) rfl ?_
              refine x_goto Z 95 dX4_points_121 (by decide) ?_
              refine x_sub [0, 2, 3, 4] rfl ?_
              exact ih95 (i + 1) _ _ (by omega) ⟨by omega, by omega, ha, hk, hf0, hA30, by rw [← hif, forI_s (i := i) (by omega)]⟩
        refine x_sub [0, 1, 2, 4] rfl ?_
        exact loop95 50 0 _ _ (by omega) ⟨by omega, by omega, ha, hk, hf0, hA30, rfl⟩
      ·
        refine x_aload_n Z dX4_points_64 rfl rfl ?_
        refine x_iload Z dX4_points_65 rfl ?_
        refine x_iald Z dX4_points_67 (by assumption) (by omega) (by omega) (by omega) ?_
        refine x_istore (L' := [(6, _), (5, _), (4, _), (3, _), (2, _), (0, _)]) Z dX4_points_68 (Nat.le_of_ble_eq_true rfl) rfl ?_
        refine x_aload_n Z dX4_points_70 rfl rfl ?_
        refine x_bipush Z dX4_points_71 (by decide +kernel) ?_
        refine x_iload Z dX4_points_73 rfl ?_
        refine x_iload Z dX4_points_75 rfl ?_
        have hk0 := hk
        refine x_callV (ci := 5) (C := RX4) (T := TX4) (N := 7) Z okX4_told q1029 q1031 q8 rfl dX4_points_77 (c_X4_told h0 htr ha hk hAi.1 (Int.le_refl _) hAi.2) ha ⟨Nat.le_of_ble_eq_true rfl, Nat.le_of_ble_eq_true rfl, Nat.le_of_ble_eq_true rfl, Nat.le_of_ble_eq_true rfl⟩ rfl rfl (Nat.le_of_ble_eq_true rfl) (fun v9 w9 hR => ?_)
        obtain ⟨rfl, ha, hk, hf9⟩ := hR
        have hf0 := hf0.tr hf9
        simp only [Option.toList_some, Option.toList_none, List.cons_append, List.nil_append]
        have hA11 := hf9.at (fun z => tne 6 512 hA11 hk0 rfl rfl (by decide) z) hA11
        have hA30 := hf9.at (fun z => tne 6 512 hA30 hk0 rfl rfl (by decide) z) hA30
        refine x_iinc (L' := [(5, _), (6, _), (4, _), (3, _), (2, _), (0, _)]) Z dX4_points_80 rfl (Nat.le_of_ble_eq_true rfl) rfl ?_
        refine x_goto Z 57 dX4_points_83 (by decide) ?_
        refine x_sub [0, 2, 3, 4, 5] rfl ?_
        exact ih57 (i + 1) _ _ (by omega) ⟨by omega, by omega, ha, hk, hf0, hA11, hA30, by rw [← hif, forI_s (i := i) (by omega)]⟩
  refine x_sub [0, 1, 2, 3, 5] rfl ?_
  exact loop57 50 0 _ _ (by omega) ⟨by omega, by omega, ha, hk, hf0, hA11, hA30, rfl⟩
abbrev rmc_X4_others : Room := { frames := 1, cells := 3, slots := 20, locals := 24 }
set_option maxRecDepth 100000 in
theorem c_X4_others {l : Launch} {s0 : State} {G : gK} {w : wd} (h0 : gS0 s0) (htr : l.stackTraces = false) {a kd : Nat} {fs : List Value} {F : Int → Int} (ha : w a = some (eO 5 (rv kd :: fs))) (hk : w kd = some (eI G 256 F)) : gM l s0 G yX4_others [Cond.code yX4_others cX4_others 8 none] rmc_X4_others [rv a] w (fun v w' => v = none ∧ w' a = some (eO 5 (rv kd :: fs)) ∧ w' kd = some (eI G 256 (tld 30 187 187 (tld 29 171 171 (forI (fun j F => tld 28 ((uF (uF (uF (uF (fun _ => 0) 0 166) 1 169) 2 174) 3 176) j) ((uF (uF (uF (uF (fun _ => 0) 0 166) 1 169) 2 174) 3 176) j) F) 0 4 (forI (fun j F => tld 27 ((uF (uF (uF (uF (uF (uF (fun _ => 0) 0 94) 1 96) 2 168) 3 175) 4 180) 5 184) j) ((uF (uF (uF (uF (uF (uF (fun _ => 0) 0 94) 1 96) 2 168) 3 175) 4 180) 5 184) j) F) 0 6 (tld 26 162 165 (tld 26 36 36 (forI (fun j F => tld 25 ((uF (uF (uF (uF (uF (uF (uF (uF (uF (uF (fun _ => 0) 0 43) 1 60) 2 61) 3 62) 4 124) 5 126) 6 172) 7 177) 8 215) 9 247) j) ((uF (uF (uF (uF (uF (uF (uF (uF (uF (uF (fun _ => 0) 0 43) 1 60) 2 61) 3 62) 4 124) 5 126) 6 172) 7 177) 8 215) 9 247) j) F) 0 10 F)))))))) ∧ fr (fun q => q = kd) w w') (noX) := by
  refine g_of h0 htr (by decide +kernel) (Nat.le_of_ble_eq_true rfl) ?_
  intro b Z0 E
  have Z : gAm b l s0 G cX4_others RX4 8 rmc_X4_others := Z0
  refine x_el (L' := [(0, rv a)]) rfl ?_
  have hf0 : fr (fun q => q = kd) w w := fr.rf
  refine x_bipush Z dX4_others_0 (by decide +kernel) ?_
  refine x_newI Z (10) q83 (by first | rfl | omega) (by omega) (Nat.le_of_ble_eq_true rfl) (Nat.le_of_ble_eq_true rfl) dX4_others_2 (fun n2 hn2 => ?_)
  refine x_dup Z dX4_others_4 rfl ?_
  refine x_iconst Z dX4_others_5 ?_
  refine x_bipush Z dX4_others_6 (by decide +kernel) ?_
  refine x_iast Z dX4_others_8 ws1_s (by decide) (by decide) (by decide) ?_
  refine x_ew ws1_2 ?_
  refine x_dup Z dX4_others_9 rfl ?_
  refine x_iconst Z dX4_others_10 ?_
  refine x_bipush Z dX4_others_11 (by decide +kernel) ?_
  refine x_iast Z dX4_others_13 ws1_s (by decide) (by decide) (by decide) ?_
  refine x_ew ws1_2 ?_
  refine x_dup Z dX4_others_14 rfl ?_
  refine x_iconst Z dX4_others_15 ?_
  refine x_bipush Z dX4_others_16 (by decide +kernel) ?_
  refine x_iast Z dX4_others_18 ws1_s (by decide) (by decide) (by decide) ?_
  refine x_ew ws1_2 ?_
  refine x_dup Z dX4_others_19 rfl ?_
  refine x_iconst Z dX4_others_20 ?_
  refine x_bipush Z dX4_others_21 (by decide +kernel) ?_
  refine x_iast Z dX4_others_23 ws1_s (by decide) (by decide) (by decide) ?_
  refine x_ew ws1_2 ?_
  refine x_dup Z dX4_others_24 rfl ?_
  refine x_iconst Z dX4_others_25 ?_
  refine x_bipush Z dX4_others_26 (by decide +kernel) ?_
  refine x_iast Z dX4_others_28 ws1_s (by decide) (by decide) (by decide) ?_
  refine x_ew ws1_2 ?_
  refine x_dup Z dX4_others_29 rfl ?_
  refine x_iconst Z dX4_others_30 ?_
  refine x_bipush Z dX4_others_31 (by decide +kernel) ?_
  refine x_iast Z dX4_others_33 ws1_s (by decide) (by decide) (by decide) ?_
  refine x_ew ws1_2 ?_
  refine x_dup Z dX4_others_34 rfl ?_
  refine x_bipush Z dX4_others_35 (by decide +kernel) ?_
  refine x_sipush Z dX4_others_37 (by decide +kernel) ?_
  refine x_iast Z dX4_others_40 ws1_s (by decide) (by decide) (by decide) ?_
  refine x_ew ws1_2 ?_
  refine x_dup Z dX4_others_41 rfl ?_
  refine x_bipush Z dX4_others_42 (by decide +kernel) ?_
  refine x_sipush Z dX4_others_44 (by decide +kernel) ?_
  refine x_iast Z dX4_others_47 ws1_s (by decide) (by decide) (by decide) ?_
  refine x_ew ws1_2 ?_
  refine x_dup Z dX4_others_48 rfl ?_
  refine x_bipush Z dX4_others_49 (by decide +kernel) ?_
  refine x_sipush Z dX4_others_51 (by decide +kernel) ?_
  refine x_iast Z dX4_others_54 ws1_s (by decide) (by decide) (by decide) ?_
  refine x_ew ws1_2 ?_
  refine x_dup Z dX4_others_55 rfl ?_
  refine x_bipush Z dX4_others_56 (by decide +kernel) ?_
  refine x_sipush Z dX4_others_58 (by decide +kernel) ?_
  refine x_iast Z dX4_others_61 ws1_s (by decide) (by decide) (by decide) ?_
  refine x_ew ws1_2 ?_
  obtain ⟨w5, hw5⟩ : ∃ x, x = ws1 w n2 (eI G 10 (uF (uF (uF (uF (uF (uF (uF (uF (uF (uF (fun _ => 0) 0 43) 1 60) 2 61) 3 62) 4 124) 5 126) 6 172) 7 177) 8 215) 9 247)) := ⟨_, rfl⟩
  refine x_ew hw5.symm ?_
  have ha := (congrFun hw5 a).trans ((ws1_n (fun z => by { rw [z, hn2] at ha; cases ha })).trans ha)
  have hk := (congrFun hw5 kd).trans ((ws1_n (fun z => by { rw [z, hn2] at hk; cases hk })).trans hk)
  have hA2 : w5 n2 = some (eI G 10 (uF (uF (uF (uF (uF (uF (uF (uF (uF (uF (fun _ => 0) 0 43) 1 60) 2 61) 3 62) 4 124) 5 126) 6 172) 7 177) 8 215) 9 247)) := by { rw [hw5]; exact ws1_s }
  have hf0 : fr (fun q => q = kd) w w5 := by { rw [hw5]; exact hf0.new hn2 }
  refine x_astore_n (L' := [(1, _), (0, _)]) Z dX4_others_62 rfl (Nat.le_of_ble_eq_true rfl) rfl ?_
  refine x_aload_n Z dX4_others_63 rfl rfl ?_
  refine x_astore_n (L' := [(2, _), (1, _), (0, _)]) Z dX4_others_64 rfl (Nat.le_of_ble_eq_true rfl) rfl ?_
  refine x_aload_n Z dX4_others_65 rfl rfl ?_
  refine x_alenI Z dX4_others_66 (by assumption) ?_
  refine x_istore_n (L' := [(3, _), (2, _), (1, _), (0, _)]) Z dX4_others_67 rfl (Nat.le_of_ble_eq_true rfl) rfl ?_
  refine x_iconst Z dX4_others_68 ?_
  refine x_istore (L' := [(4, _), (3, _), (2, _), (1, _), (0, _)]) Z dX4_others_69 (Nat.le_of_ble_eq_true rfl) rfl ?_
  have loop71 : ∀ (fu : Nat) (i : Int) (F1 : Int → Int) (w1 : wd), 10 - i < (fu : Int) → (0 ≤ i ∧ i ≤ 10 ∧ w1 a = some (eO 5 (rv kd :: fs)) ∧ w1 kd = some (eI G 256 F1) ∧ fr (fun q => q = kd) w w1 ∧ w1 n2 = some (eI G 10 (uF (uF (uF (uF (uF (uF (uF (uF (uF (uF (fun _ => 0) 0 43) 1 60) 2 61) 3 62) 4 124) 5 126) 6 172) 7 177) 8 215) 9 247)) ∧ forI (fun j F => tld 25 ((uF (uF (uF (uF (uF (uF (uF (uF (uF (uF (fun _ => 0) 0 43) 1 60) 2 61) 3 62) 4 124) 5 126) 6 172) 7 177) 8 215) 9 247) j) ((uF (uF (uF (uF (uF (uF (uF (uF (uF (uF (fun _ => 0) 0 43) 1 60) 2 61) 3 62) 4 124) 5 126) 6 172) 7 177) 8 215) 9 247) j) F) i 10 F1 = forI (fun j F => tld 25 ((uF (uF (uF (uF (uF (uF (uF (uF (uF (uF (fun _ => 0) 0 43) 1 60) 2 61) 3 62) 4 124) 5 126) 6 172) 7 177) 8 215) 9 247) j) ((uF (uF (uF (uF (uF (uF (uF (uF (uF (uF (fun _ => 0) 0 43) 1 60) 2 61) 3 62) 4 124) 5 126) 6 172) 7 177) 8 215) 9 247) j) F) 0 10 F) → gX b s0 G (1) (10) 71 [(4, iv i), (3, iv ((10 : Nat) : Int)), (2, rv n2), (0, rv a)] [] (w1) := by
    intro fu; induction fu with
    | zero => intro i F1 w1 hm hv; exact absurd hm (by omega)
    | succ fu ih71 =>
      intro i F1 w1 hm hv
      obtain ⟨hi0, hin, ha, hk, hf0, hA2, hif⟩ := hv
      have hAi : 0 ≤ (uF (uF (uF (uF (uF (uF (uF (uF (uF (uF (fun _ => 0) 0 43) 1 60) 2 61) 3 62) 4 124) 5 126) 6 172) 7 177) 8 215) 9 247) i ∧ (uF (uF (uF (uF (uF (uF (uF (uF (uF (uF (fun _ => 0) 0 43) 1 60) 2 61) 3 62) 4 124) 5 126) 6 172) 7 177) 8 215) 9 247) i ≤ 255 := (uF_rng (i := 9) (x := 247) (uF_rng (i := 8) (x := 215) (uF_rng (i := 7) (x := 177) (uF_rng (i := 6) (x := 172) (uF_rng (i := 5) (x := 126) (uF_rng (i := 4) (x := 124) (uF_rng (i := 3) (x := 62) (uF_rng (i := 2) (x := 61) (uF_rng (i := 1) (x := 60) (uF_rng (i := 0) (x := 43) (F := fun _ => 0) (fun _ => ⟨Int.le_refl 0, by exact (by decide : (0 : Int) ≤ 255)⟩) (by decide) (by decide)) (by decide) (by decide)) (by decide) (by decide)) (by decide) (by decide)) (by decide) (by decide)) (by decide) (by decide)) (by decide) (by decide)) (by decide) (by decide)) (by decide) (by decide)) (by decide) (by decide)) i
      refine x_iload Z dX4_others_71 rfl ?_
      refine x_iload_n Z dX4_others_73 rfl rfl ?_
      refine x_icmp_ge Z 99 dX4_others_74 (by decide) ⟨by omega, by omega⟩ ⟨by omega, by omega⟩ (fun c74 => ?_) (fun c74 => ?_)
      ·
        rw [forI_e (by omega)] at hif; subst hif
        refine x_aload_n Z dX4_others_99 rfl rfl ?_
        refine x_bipush Z dX4_others_100 (by decide +kernel) ?_
        refine x_bipush Z dX4_others_102 (by decide +kernel) ?_
        refine x_bipush Z dX4_others_104 (by decide +kernel) ?_
        refine x_callV (ci := 5) (C := RX4) (T := TX4) (N := 7) Z okX4_told q1029 q1031 q8 rfl dX4_others_106 (c_X4_told h0 htr ha hk (by decide) (by decide) (by decide)) ha ⟨Nat.le_of_ble_eq_true rfl, Nat.le_of_ble_eq_true rfl, Nat.le_of_ble_eq_true rfl, Nat.le_of_ble_eq_true rfl⟩ rfl rfl (Nat.le_of_ble_eq_true rfl) (fun v9 w9 hR => ?_)
        obtain ⟨rfl, ha, hk, hf9⟩ := hR
        have hf0 := hf0.tr hf9
        simp only [Option.toList_some, Option.toList_none, List.cons_append, List.nil_append]
        refine x_aload_n Z dX4_others_109 rfl rfl ?_
        refine x_bipush Z dX4_others_110 (by decide +kernel) ?_
        refine x_sipush Z dX4_others_112 (by decide +kernel) ?_
        refine x_sipush Z dX4_others_115 (by decide +kernel) ?_
        refine x_callV (ci := 5) (C := RX4) (T := TX4) (N := 7) Z okX4_told q1029 q1031 q8 rfl dX4_others_118 (c_X4_told h0 htr ha hk (by decide) (by decide) (by decide)) ha ⟨Nat.le_of_ble_eq_true rfl, Nat.le_of_ble_eq_true rfl, Nat.le_of_ble_eq_true rfl, Nat.le_of_ble_eq_true rfl⟩ rfl rfl (Nat.le_of_ble_eq_true rfl) (fun v9 w9 hR => ?_)
        obtain ⟨rfl, ha, hk, hf9⟩ := hR
        have hf0 := hf0.tr hf9
        simp only [Option.toList_some, Option.toList_none, List.cons_append, List.nil_append]
        refine x_bipush Z dX4_others_121 (by decide +kernel) ?_
        refine x_newI Z (6) q83 (by first | rfl | omega) (by omega) (Nat.le_of_ble_eq_true rfl) (Nat.le_of_ble_eq_true rfl) dX4_others_123 (fun n123 hn123 => ?_)
        refine x_dup Z dX4_others_125 rfl ?_
        refine x_iconst Z dX4_others_126 ?_
        refine x_bipush Z dX4_others_127 (by decide +kernel) ?_
        refine x_iast Z dX4_others_129 ws1_s (by decide) (by decide) (by decide) ?_
        refine x_ew ws1_2 ?_
        refine x_dup Z dX4_others_130 rfl ?_
        refine x_iconst Z dX4_others_131 ?_
        refine x_bipush Z dX4_others_132 (by decide +kernel) ?_
        refine x_iast Z dX4_others_134 ws1_s (by decide) (by decide) (by decide) ?_
        refine x_ew ws1_2 ?_
        refine x_dup Z dX4_others_135 rfl ?_
        refine x_iconst Z dX4_others_136 ?_
        refine x_sipush Z dX4_others_137 (by decide +kernel) ?_
        refine x_iast Z dX4_others_140 ws1_s (by decide) (by decide) (by decide) ?_
        refine x_ew ws1_2 ?_
        refine x_dup Z dX4_others_141 rfl ?_
        refine x_iconst Z dX4_others_142 ?_
        refine x_sipush Z dX4_others_143 (by decide +kernel) ?_
        refine x_iast Z dX4_others_146 ws1_s (by decide) (by decide) (by decide) ?_
        refine x_ew ws1_2 ?_
        refine x_dup Z dX4_others_147 rfl ?_
        refine x_iconst Z dX4_others_148 ?_
        refine x_sipush Z dX4_others_149 (by decide +kernel) ?_
        refine x_iast Z dX4_others_152 ws1_s (by decide) (by decide) (by decide) ?_
        refine x_ew ws1_2 ?_
        refine x_dup Z dX4_others_153 rfl ?_
        refine x_iconst Z dX4_others_154 ?_
        refine x_sipush Z dX4_others_155 (by decide +kernel) ?_
        refine x_iast Z dX4_others_158 ws1_s (by decide) (by decide) (by decide) ?_
        refine x_ew ws1_2 ?_
        obtain ⟨w5, hw5⟩ : ∃ x, x = ws1 w9 n123 (eI G 6 (uF (uF (uF (uF (uF (uF (fun _ => 0) 0 94) 1 96) 2 168) 3 175) 4 180) 5 184)) := ⟨_, rfl⟩
        refine x_ew hw5.symm ?_
        have ha := (congrFun hw5 a).trans ((ws1_n (fun z => by { rw [z, hn123] at ha; cases ha })).trans ha)
        have hk := (congrFun hw5 kd).trans ((ws1_n (fun z => by { rw [z, hn123] at hk; cases hk })).trans hk)
        have hA123 : w5 n123 = some (eI G 6 (uF (uF (uF (uF (uF (uF (fun _ => 0) 0 94) 1 96) 2 168) 3 175) 4 180) 5 184)) := by { rw [hw5]; exact ws1_s }
        have hf0 : fr (fun q => q = kd) w w5 := by { rw [hw5]; exact hf0.new hn123 }
        refine x_astore_n (L' := [(2, _), (4, _), (3, _), (0, _)]) Z dX4_others_159 rfl (Nat.le_of_ble_eq_true rfl) rfl ?_
        refine x_aload_n Z dX4_others_160 rfl rfl ?_
        refine x_astore_n (L' := [(3, _), (2, _), (4, _), (0, _)]) Z dX4_others_161 rfl (Nat.le_of_ble_eq_true rfl) rfl ?_
        refine x_aload_n Z dX4_others_162 rfl rfl ?_
        refine x_alenI Z dX4_others_163 (by assumption) ?_
        refine x_istore (L' := [(4, _), (3, _), (2, _), (0, _)]) Z dX4_others_164 (Nat.le_of_ble_eq_true rfl) rfl ?_
        refine x_iconst Z dX4_others_166 ?_
        refine x_istore (L' := [(5, _), (4, _), (3, _), (2, _), (0, _)]) Z dX4_others_167 (Nat.le_of_ble_eq_true rfl) rfl ?_
        have loop169 : ∀ (fu : Nat) (i : Int) (F1 : Int → Int) (w1 : wd), 6 - i < (fu : Int) → (0 ≤ i ∧ i ≤ 6 ∧ w1 a = some (eO 5 (rv kd :: fs)) ∧ w1 kd = some (eI G 256 F1) ∧ fr (fun q => q = kd) w w1 ∧ w1 n123 = some (eI G 6 (uF (uF (uF (uF (uF (uF (fun _ => 0) 0 94) 1 96) 2 168) 3 175) 4 180) 5 184)) ∧ forI (fun j F => tld 27 ((uF (uF (uF (uF (uF (uF (fun _ => 0) 0 94) 1 96) 2 168) 3 175) 4 180) 5 184) j) ((uF (uF (uF (uF (uF (uF (fun _ => 0) 0 94) 1 96) 2 168) 3 175) 4 180) 5 184) j) F) i 6 F1 = forI (fun j F => tld 27 ((uF (uF (uF (uF (uF (uF (fun _ => 0) 0 94) 1 96) 2 168) 3 175) 4 180) 5 184) j) ((uF (uF (uF (uF (uF (uF (fun _ => 0) 0 94) 1 96) 2 168) 3 175) 4 180) 5 184) j) F) 0 6 (tld 26 162 165 (tld 26 36 36 (forI (fun j F => tld 25 ((uF (uF (uF (uF (uF (uF (uF (uF (uF (uF (fun _ => 0) 0 43) 1 60) 2 61) 3 62) 4 124) 5 126) 6 172) 7 177) 8 215) 9 247) j) ((uF (uF (uF (uF (uF (uF (uF (uF (uF (uF (fun _ => 0) 0 43) 1 60) 2 61) 3 62) 4 124) 5 126) 6 172) 7 177) 8 215) 9 247) j) F) 0 10 F)))) → gX b s0 G (2) (16) 169 [(5, iv i), (4, iv ((6 : Nat) : Int)), (3, rv n123), (0, rv a)] [] (w1) := by
          intro fu; induction fu with
          | zero => intro i F1 w1 hm hv; exact absurd hm (by omega)
          | succ fu ih169 =>
            intro i F1 w1 hm hv
            obtain ⟨hi0, hin, ha, hk, hf0, hA123, hif⟩ := hv
            have hAi : 0 ≤ (uF (uF (uF (uF (uF (uF (fun _ => 0) 0 94) 1 96) 2 168) 3 175) 4 180) 5 184) i ∧ (uF (uF (uF (uF (uF (uF (fun _ => 0) 0 94) 1 96) 2 168) 3 175) 4 180) 5 184) i ≤ 255 := (uF_rng (i := 5) (x := 184) (uF_rng (i := 4) (x := 180) (uF_rng (i := 3) (x := 175) (uF_rng (i := 2) (x := 168) (uF_rng (i := 1) (x := 96) (uF_rng (i := 0) (x := 94) (F := fun _ => 0) (fun _ => ⟨Int.le_refl 0, by exact (by decide : (0 : Int) ≤ 255)⟩) (by decide) (by decide)) (by decide) (by decide)) (by decide) (by decide)) (by decide) (by decide)) (by decide) (by decide)) (by decide) (by decide)) i
            refine x_iload Z dX4_others_169 rfl ?_
            refine x_iload Z dX4_others_171 rfl ?_
            refine x_icmp_ge Z 198 dX4_others_173 (by decide) ⟨by omega, by omega⟩ ⟨by omega, by omega⟩ (fun c173 => ?_) (fun c173 => ?_)
            ·
              rw [forI_e (by omega)] at hif; subst hif
              refine x_iconst Z dX4_others_198 ?_
              refine x_newI Z (4) q83 (by first | rfl | omega) (by omega) (Nat.le_of_ble_eq_true rfl) (Nat.le_of_ble_eq_true rfl) dX4_others_199 (fun n199 hn199 => ?_)
              refine x_dup Z dX4_others_201 rfl ?_
              refine x_iconst Z dX4_others_202 ?_
              refine x_sipush Z dX4_others_203 (by decide +kernel) ?_
              refine x_iast Z dX4_others_206 ws1_s (by decide) (by decide) (by decide) ?_
              refine x_ew ws1_2 ?_
              refine x_dup Z dX4_others_207 rfl ?_
              refine x_iconst Z dX4_others_208 ?_
              refine x_sipush Z dX4_others_209 (by decide +kernel) ?_
              refine x_iast Z dX4_others_212 ws1_s (by decide) (by decide) (by decide) ?_
              refine x_ew ws1_2 ?_
              refine x_dup Z dX4_others_213 rfl ?_
              refine x_iconst Z dX4_others_214 ?_
              refine x_sipush Z dX4_others_215 (by decide +kernel) ?_
              refine x_iast Z dX4_others_218 ws1_s (by decide) (by decide) (by decide) ?_
              refine x_ew ws1_2 ?_
              refine x_dup Z dX4_others_219 rfl ?_
              refine x_iconst Z dX4_others_220 ?_
              refine x_sipush Z dX4_others_221 (by decide +kernel) ?_
              refine x_iast Z dX4_others_224 ws1_s (by decide) (by decide) (by decide) ?_
              refine x_ew ws1_2 ?_
              obtain ⟨w6, hw5⟩ : ∃ x, x = ws1 w1 n199 (eI G 4 (uF (uF (uF (uF (fun _ => 0) 0 166) 1 169) 2 174) 3 176)) := ⟨_, rfl⟩
              refine x_ew hw5.symm ?_
              have ha := (congrFun hw5 a).trans ((ws1_n (fun z => by { rw [z, hn199] at ha; cases ha })).trans ha)
              have hk := (congrFun hw5 kd).trans ((ws1_n (fun z => by { rw [z, hn199] at hk; cases hk })).trans hk)
              have hA199 : w6 n199 = some (eI G 4 (uF (uF (uF (uF (fun _ => 0) 0 166) 1 169) 2 174) 3 176)) := by { rw [hw5]; exact ws1_s }
              have hf0 : fr (fun q => q = kd) w w6 := by { rw [hw5]; exact hf0.new hn199 }
              refine x_astore_n (L' := [(3, _), (5, _), (4, _), (0, _)]) Z dX4_others_225 rfl (Nat.le_of_ble_eq_true rfl) rfl ?_
              refine x_aload_n Z dX4_others_226 rfl rfl ?_
              refine x_astore (L' := [(4, _), (3, _), (5, _), (0, _)]) Z dX4_others_227 (Nat.le_of_ble_eq_true rfl) rfl ?_
              refine x_aload Z dX4_others_229 rfl ?_
              refine x_alenI Z dX4_others_231 (by assumption) ?_
              refine x_istore (L' := [(5, _), (4, _), (3, _), (0, _)]) Z dX4_others_232 (Nat.le_of_ble_eq_true rfl) rfl ?_
              refine x_iconst Z dX4_others_234 ?_
              refine x_istore (L' := [(6, _), (5, _), (4, _), (3, _), (0, _)]) Z dX4_others_235 (Nat.le_of_ble_eq_true rfl) rfl ?_
              have loop237 : ∀ (fu : Nat) (i : Int) (F1 : Int → Int) (w1 : wd), 4 - i < (fu : Int) → (0 ≤ i ∧ i ≤ 4 ∧ w1 a = some (eO 5 (rv kd :: fs)) ∧ w1 kd = some (eI G 256 F1) ∧ fr (fun q => q = kd) w w1 ∧ w1 n199 = some (eI G 4 (uF (uF (uF (uF (fun _ => 0) 0 166) 1 169) 2 174) 3 176)) ∧ forI (fun j F => tld 28 ((uF (uF (uF (uF (fun _ => 0) 0 166) 1 169) 2 174) 3 176) j) ((uF (uF (uF (uF (fun _ => 0) 0 166) 1 169) 2 174) 3 176) j) F) i 4 F1 = forI (fun j F => tld 28 ((uF (uF (uF (uF (fun _ => 0) 0 166) 1 169) 2 174) 3 176) j) ((uF (uF (uF (uF (fun _ => 0) 0 166) 1 169) 2 174) 3 176) j) F) 0 4 (forI (fun j F => tld 27 ((uF (uF (uF (uF (uF (uF (fun _ => 0) 0 94) 1 96) 2 168) 3 175) 4 180) 5 184) j) ((uF (uF (uF (uF (uF (uF (fun _ => 0) 0 94) 1 96) 2 168) 3 175) 4 180) 5 184) j) F) 0 6 (tld 26 162 165 (tld 26 36 36 (forI (fun j F => tld 25 ((uF (uF (uF (uF (uF (uF (uF (uF (uF (uF (fun _ => 0) 0 43) 1 60) 2 61) 3 62) 4 124) 5 126) 6 172) 7 177) 8 215) 9 247) j) ((uF (uF (uF (uF (uF (uF (uF (uF (uF (uF (fun _ => 0) 0 43) 1 60) 2 61) 3 62) 4 124) 5 126) 6 172) 7 177) 8 215) 9 247) j) F) 0 10 F))))) → gX b s0 G (3) (20) 237 [(6, iv i), (5, iv ((4 : Nat) : Int)), (4, rv n199), (0, rv a)] [] (w1) := by
                intro fu; induction fu with
                | zero => intro i F1 w1 hm hv; exact absurd hm (by omega)
                | succ fu ih237 =>
                  intro i F1 w1 hm hv
                  obtain ⟨hi0, hin, ha, hk, hf0, hA199, hif⟩ := hv
                  have hAi : 0 ≤ (uF (uF (uF (uF (fun _ => 0) 0 166) 1 169) 2 174) 3 176) i ∧ (uF (uF (uF (uF (fun _ => 0) 0 166) 1 169) 2 174) 3 176) i ≤ 255 := (uF_rng (i := 3) (x := 176) (uF_rng (i := 2) (x := 174) (uF_rng (i := 1) (x := 169) (uF_rng (i := 0) (x := 166) (F := fun _ => 0) (fun _ => ⟨Int.le_refl 0, by exact (by decide : (0 : Int) ≤ 255)⟩) (by decide) (by decide)) (by decide) (by decide)) (by decide) (by decide)) (by decide) (by decide)) i
                  refine x_iload Z dX4_others_237 rfl ?_
                  refine x_iload Z dX4_others_239 rfl ?_
                  refine x_icmp_ge Z 267 dX4_others_241 (by decide) ⟨by omega, by omega⟩ ⟨by omega, by omega⟩ (fun c241 => ?_) (fun c241 => ?_)
                  ·
                    rw [forI_e (by omega)] at hif; subst hif
                    refine x_aload_n Z dX4_others_267 rfl rfl ?_
                    refine x_bipush Z dX4_others_268 (by decide +kernel) ?_
                    refine x_sipush Z dX4_others_270 (by decide +kernel) ?_
                    refine x_sipush Z dX4_others_273 (by decide +kernel) ?_
                    refine x_callV (ci := 5) (C := RX4) (T := TX4) (N := 7) Z okX4_told q1029 q1031 q8 rfl dX4_others_276 (c_X4_told h0 htr ha hk (by decide) (by decide) (by decide)) ha ⟨Nat.le_of_ble_eq_true rfl, Nat.le_of_ble_eq_true rfl, Nat.le_of_ble_eq_true rfl, Nat.le_of_ble_eq_true rfl⟩ rfl rfl (Nat.le_of_ble_eq_true rfl) (fun v9 w9 hR => ?_)
                    obtain ⟨rfl, ha, hk, hf9⟩ := hR
                    have hf0 := hf0.tr hf9
                    simp only [Option.toList_some, Option.toList_none, List.cons_append, List.nil_append]
                    refine x_aload_n Z dX4_others_279 rfl rfl ?_
                    refine x_bipush Z dX4_others_280 (by decide +kernel) ?_
                    refine x_sipush Z dX4_others_282 (by decide +kernel) ?_
                    refine x_sipush Z dX4_others_285 (by decide +kernel) ?_
                    refine x_callV (ci := 5) (C := RX4) (T := TX4) (N := 7) Z okX4_told q1029 q1031 q8 rfl dX4_others_288 (c_X4_told h0 htr ha hk (by decide) (by decide) (by decide)) ha ⟨Nat.le_of_ble_eq_true rfl, Nat.le_of_ble_eq_true rfl, Nat.le_of_ble_eq_true rfl, Nat.le_of_ble_eq_true rfl⟩ rfl rfl (Nat.le_of_ble_eq_true rfl) (fun v9 w9 hR => ?_)
                    obtain ⟨rfl, ha, hk, hf9⟩ := hR
                    have hf0 := hf0.tr hf9
                    simp only [Option.toList_some, Option.toList_none, List.cons_append, List.nil_append]
                    exact x_vret Z E (⟨rfl, ha, hk, hf0⟩) dX4_others_291 (Nat.le_of_ble_eq_true rfl) (Nat.le_of_ble_eq_true rfl)
                  ·
                    refine x_aload Z dX4_others_244 rfl ?_
                    refine x_iload Z dX4_others_246 rfl ?_
                    refine x_iald Z dX4_others_248 (by assumption) (by omega) (by omega) (by omega) ?_
                    refine x_istore (L' := [(7, _), (6, _), (5, _), (4, _), (0, _)]) Z dX4_others_249 (Nat.le_of_ble_eq_true rfl) rfl ?_
                    refine x_aload_n Z dX4_others_251 rfl rfl ?_
                    refine x_bipush Z dX4_others_252 (by decide +kernel) ?_
                    refine x_iload Z dX4_others_254 rfl ?_
                    refine x_iload Z dX4_others_256 rfl ?_
                    have hk0 := hk
                    refine x_callV (ci := 5) (C := RX4) (T := TX4) (N := 7) Z okX4_told q1029 q1031 q8 rfl dX4_others_258 (c_X4_told h0 htr ha hk hAi.1 (Int.le_refl _) hAi.2) ha ⟨Nat.le_of_ble_eq_true rfl, Nat.le_of_ble_eq_true rfl, Nat.le_of_ble_eq_true rfl, Nat.le_of_ble_eq_true rfl⟩ rfl rfl (Nat.le_of_ble_eq_true rfl) (fun v9 w9 hR => ?_)
                    obtain ⟨rfl, ha, hk, hf9⟩ := hR
                    have hf0 := hf0.tr hf9
                    simp only [Option.toList_some, Option.toList_none, List.cons_append, List.nil_append]
                    have hA199 := hf9.at (fun z => tne 8 512 hA199 hk0 rfl rfl (by decide) z) hA199
                    refine x_iinc (L' := [(6, _), (7, _), (5, _), (4, _), (0, _)]) Z dX4_others_261 rfl (Nat.le_of_ble_eq_true rfl) rfl ?_
                    refine x_goto Z 237 dX4_others_264 (by decide) ?_
                    refine x_sub [0, 2, 3, 4] rfl ?_
                    exact ih237 (i + 1) _ _ (by omega) ⟨by omega, by omega, ha, hk, hf0, hA199, by rw [← hif, forI_s (i := i) (by omega)]⟩
              refine x_sub [0, 1, 2, 4] rfl ?_
              exact loop237 50 0 _ _ (by omega) ⟨by omega, by omega, ha, hk, hf0, hA199, rfl⟩
            ·
              refine x_aload_n Z dX4_others_176 rfl rfl ?_
              refine x_iload Z dX4_others_177 rfl ?_
              refine x_iald Z dX4_others_179 (by assumption) (by omega) (by omega) (by omega) ?_
              refine x_istore (L' := [(6, _), (5, _), (4, _), (3, _), (0, _)]) Z dX4_others_180 (Nat.le_of_ble_eq_true rfl) rfl ?_
              refine x_aload_n Z dX4_others_182 rfl rfl ?_
              refine x_bipush Z dX4_others_183 (by decide +kernel) ?_
              refine x_iload Z dX4_others_185 rfl ?_
              refine x_iload Z dX4_others_187 rfl ?_
              have hk0 := hk
              refine x_callV (ci := 5) (C := RX4) (T := TX4) (N := 7) Z okX4_told q1029 q1031 q8 rfl dX4_others_189 (c_X4_told h0 htr ha hk hAi.1 (Int.le_refl _) hAi.2) ha ⟨Nat.le_of_ble_eq_true rfl, Nat.le_of_ble_eq_true rfl, Nat.le_of_ble_eq_true rfl, Nat.le_of_ble_eq_true rfl⟩ rfl rfl (Nat.le_of_ble_eq_true rfl) (fun v9 w9 hR => ?_)
              obtain ⟨rfl, ha, hk, hf9⟩ := hR
              have hf0 := hf0.tr hf9
              simp only [Option.toList_some, Option.toList_none, List.cons_append, List.nil_append]
              have hA123 := hf9.at (fun z => tne 12 512 hA123 hk0 rfl rfl (by decide) z) hA123
              refine x_iinc (L' := [(5, _), (6, _), (4, _), (3, _), (0, _)]) Z dX4_others_192 rfl (Nat.le_of_ble_eq_true rfl) rfl ?_
              refine x_goto Z 169 dX4_others_195 (by decide) ?_
              refine x_sub [0, 2, 3, 4] rfl ?_
              exact ih169 (i + 1) _ _ (by omega) ⟨by omega, by omega, ha, hk, hf0, hA123, by rw [← hif, forI_s (i := i) (by omega)]⟩
        refine x_sub [0, 1, 2, 4] rfl ?_
        exact loop169 50 0 _ _ (by omega) ⟨by omega, by omega, ha, hk, hf0, hA123, rfl⟩
      ·
        refine x_aload_n Z dX4_others_77 rfl rfl ?_
        refine x_iload Z dX4_others_78 rfl ?_
        refine x_iald Z dX4_others_80 (by assumption) (by omega) (by omega) (by omega) ?_
        refine x_istore (L' := [(5, _), (4, _), (3, _), (2, _), (0, _)]) Z dX4_others_81 (Nat.le_of_ble_eq_true rfl) rfl ?_
        refine x_aload_n Z dX4_others_83 rfl rfl ?_
        refine x_bipush Z dX4_others_84 (by decide +kernel) ?_
        refine x_iload Z dX4_others_86 rfl ?_
        refine x_iload Z dX4_others_88 rfl ?_
        have hk0 := hk
        refine x_callV (ci := 5) (C := RX4) (T := TX4) (N := 7) Z okX4_told q1029 q1031 q8 rfl dX4_others_90 (c_X4_told h0 htr ha hk hAi.1 (Int.le_refl _) hAi.2) ha ⟨Nat.le_of_ble_eq_true rfl, Nat.le_of_ble_eq_true rfl, Nat.le_of_ble_eq_true rfl, Nat.le_of_ble_eq_true rfl⟩ rfl rfl (Nat.le_of_ble_eq_true rfl) (fun v9 w9 hR => ?_)
        obtain ⟨rfl, ha, hk, hf9⟩ := hR
        have hf0 := hf0.tr hf9
        simp only [Option.toList_some, Option.toList_none, List.cons_append, List.nil_append]
        have hA2 := hf9.at (fun z => tne 20 512 hA2 hk0 rfl rfl (by decide) z) hA2
        refine x_iinc (L' := [(4, _), (5, _), (3, _), (2, _), (0, _)]) Z dX4_others_93 rfl (Nat.le_of_ble_eq_true rfl) rfl ?_
        refine x_goto Z 71 dX4_others_96 (by decide) ?_
        refine x_sub [0, 2, 3, 4] rfl ?_
        exact ih71 (i + 1) _ _ (by omega) ⟨by omega, by omega, ha, hk, hf0, hA2, by rw [← hif, forI_s (i := i) (by omega)]⟩
  refine x_sub [0, 1, 2, 4] rfl ?_
  exact loop71 50 0 _ _ (by omega) ⟨by omega, by omega, ha, hk, hf0, hA2, rfl⟩
abbrev rmc_X4_init : Room := { frames := 2, cells := 12, slots := 398, locals := 51 }
set_option maxRecDepth 100000 in
theorem c_X4_init {l : Launch} {s0 : State} {G : gK} {w : wd} (h0 : gS0 s0) (htr : l.stackTraces = false) {a : Nat} (ha : w a = some (eO 5 [.null, .null, .null, iv 0, iv 0, iv 0, iv 0])) : gM l s0 G yX4_init [Cond.code yX4_init cX4_init 1 none] rmc_X4_init [rv a] w (fun v w' => v = none ∧ ∃ (R : rA) (S : rM), R.1 = a ∧ rS G w' R S ∧ S.2.1 = (fun _ => 0) ∧ S.2.2.2 = (0, 0, 0, 0) ∧ fr (fun q => q = a) w w' ∧ ∀ x, rP R S.1 x → x = a ∨ w x = none) (noX) := by
  refine g_of h0 htr (by decide +kernel) (Nat.le_of_ble_eq_true rfl) ?_
  intro b Z0 E
  have Z : gAm b l s0 G cX4_init RX4 1 rmc_X4_init := Z0
  refine x_el (L' := [(0, rv a)]) rfl ?_
  refine x_aload_n Z dX4_init_0 rfl rfl ?_
  refine x_objI Z q1022 dX4_init_1 (Nat.le_of_ble_eq_true rfl) (Nat.le_of_ble_eq_true rfl) (Nat.le_of_ble_eq_true rfl) ?_
  refine x_aload_n Z dX4_init_4 rfl rfl ?_
  refine x_sipush Z dX4_init_5 (by decide +kernel) ?_
  refine x_newI Z (256) q83 (by first | rfl | omega) (by omega) (Nat.le_of_ble_eq_true rfl) (Nat.le_of_ble_eq_true rfl) dX4_init_8 (fun n8 hn8 => ?_)
  obtain ⟨w1, hw5⟩ : ∃ x, x = ws1 w n8 (eI G 256 (fun _ => 0)) := ⟨_, rfl⟩
  refine x_ew hw5.symm ?_
  have ha := (congrFun hw5 a).trans ((ws1_n (fun z => by { rw [z, hn8] at ha; cases ha })).trans ha)
  have hk : w1 n8 = some (eI G 256 (fun _ => 0)) := by { rw [hw5]; exact ws1_s }
  have hf0 : fr (fun q => q = a) w w1 := by { rw [hw5]; exact fr.rf.new hn8 }
  refine x_putfF (ci := 5) (j := 0) (C := RX4) (T := TX4) (N := 7) (fs' := [_, _, _, _, _, _, _]) Z tyX4 tyX4_ok nmX4 inX4g rfl (by decide) q1041 rfl rfl E.2.2.2 rfl rfl rfl rfl dX4_init_10 (by assumption) (by exact Nat.le_of_ble_eq_true rfl) rfl ?_
  obtain ⟨w2, hw5⟩ : ∃ x, x = ws1 w1 a (eO 5 [rv n8, .null, .null, iv 0, iv 0, iv 0, iv 0]) := ⟨_, rfl⟩
  refine x_ew hw5.symm ?_
  have hk := (congrFun hw5 n8).trans ((ws1_n (tne 512 1000005 hk ha rfl rfl (by decide))).trans hk)
  have ha : w2 a = some (eO 5 [rv n8, .null, .null, iv 0, iv 0, iv 0, iv 0]) := by { rw [hw5]; exact ws1_s }
  have hf0 : fr (fun q => q = a) w w2 := by { rw [hw5]; exact hf0.set rfl }
  refine x_aload_n Z dX4_init_13 rfl rfl ?_
  refine x_iconst Z dX4_init_14 ?_
  refine x_bipush Z dX4_init_15 (by decide +kernel) ?_
  refine x_mna Z q_mna q83 dX4_init_17 (Nat.le_of_ble_eq_true rfl) (Nat.le_of_ble_eq_true rfl) (fun q r0 r1 r2 f3 hq hr0 hr1 hr2 d1 d2 d3 d4 d5 d6 e0 e1 e2 => ?_)
  have hq0 : w q = none := fr.none hf0 hq (fun z => by { rw [z, ha] at hq; cases hq })
  have hr00 : w r0 = none := fr.none hf0 hr0 (fun z => by { rw [z, ha] at hr0; cases hr0 })
  have hr10 : w r1 = none := fr.none hf0 hr1 (fun z => by { rw [z, ha] at hr1; cases hr1 })
  have hr20 : w r2 = none := fr.none hf0 hr2 (fun z => by { rw [z, ha] at hr2; cases hr2 })
  obtain ⟨w3, hw5⟩ : ∃ x, x = ws1 (ws1 (ws1 (ws1 w2 r0 (eI G 30 (fun _ => 0))) r1 (eI G 30 (fun _ => 0))) r2 (eI G 30 (fun _ => 0))) q (eR G 3 f3) := ⟨_, rfl⟩
  refine x_ew hw5.symm ?_
  have ha : w3 a = _ := (congrFun hw5 a).trans ((ws1_n (fun z => by { rw [z, hq] at ha; cases ha })).trans ((ws1_n (fun z => by { rw [z, hr2] at ha; cases ha })).trans ((ws1_n (fun z => by { rw [z, hr1] at ha; cases ha })).trans ((ws1_n (fun z => by { rw [z, hr0] at ha; cases ha })).trans ha))))
  have hk : w3 n8 = _ := (congrFun hw5 n8).trans ((ws1_n (fun z => by { rw [z, hq] at hk; cases hk })).trans ((ws1_n (fun z => by { rw [z, hr2] at hk; cases hk })).trans ((ws1_n (fun z => by { rw [z, hr1] at hk; cases hk })).trans ((ws1_n (fun z => by { rw [z, hr0] at hk; cases hk })).trans hk))))
  have hR0 : w3 r0 = some (eI G 30 (fun _ => 0)) := (congrFun hw5 r0).trans ((ws1_n d1.symm).trans ((ws1_n d5).trans ((ws1_n d4).trans ws1_s)))
  have hR1 : w3 r1 = some (eI G 30 (fun _ => 0)) := (congrFun hw5 r1).trans ((ws1_n d2.symm).trans ((ws1_n d6).trans ws1_s))
  have hR2 : w3 r2 = some (eI G 30 (fun _ => 0)) := (congrFun hw5 r2).trans ((ws1_n d3.symm).trans ws1_s)
  have hQ : w3 q = some (eR G 3 f3) := (congrFun hw5 q).trans ws1_s
  have hf0 : fr (fun q => q = a) w w3 := by { rw [hw5]; exact (((hf0.set0 hr00).set0 hr10).set0 hr20).set0 hq0 }
  refine x_putfF (ci := 5) (j := 1) (C := RX4) (T := TX4) (N := 7) (fs' := [_, _, _, _, _, _, _]) Z tyX4 tyX4_ok nmX4 inX4g rfl (by decide) q1042 rfl rfl E.2.2.2 rfl rfl rfl rfl dX4_init_21 (by assumption) (by exact Nat.le_of_ble_eq_true rfl) rfl ?_
  obtain ⟨w4, hw5⟩ : ∃ x, x = ws1 w3 a (eO 5 [rv n8, rv q, .null, iv 0, iv 0, iv 0, iv 0]) := ⟨_, rfl⟩
  refine x_ew hw5.symm ?_
  have hk := (congrFun hw5 n8).trans ((ws1_n (tne 512 1000005 hk ha rfl rfl (by decide))).trans hk)
  have hR0 := (congrFun hw5 r0).trans ((ws1_n (tne 60 1000005 hR0 ha rfl rfl (by decide))).trans hR0)
  have hR1 := (congrFun hw5 r1).trans ((ws1_n (tne 60 1000005 hR1 ha rfl rfl (by decide))).trans hR1)
  have hR2 := (congrFun hw5 r2).trans ((ws1_n (tne 60 1000005 hR2 ha rfl rfl (by decide))).trans hR2)
  have hQ := (congrFun hw5 q).trans ((ws1_n (tne 7 1000005 hQ ha rfl rfl (by decide))).trans hQ)
  have ha : w4 a = some (eO 5 [rv n8, rv q, .null, iv 0, iv 0, iv 0, iv 0]) := by { rw [hw5]; exact ws1_s }
  have hf0 : fr (fun q => q = a) w w4 := by { rw [hw5]; exact hf0.set rfl }
  refine x_aload_n Z dX4_init_24 rfl rfl ?_
  refine x_iconst Z dX4_init_25 ?_
  refine x_newI Z (3) q83 (by first | rfl | omega) (by omega) (Nat.le_of_ble_eq_true rfl) (Nat.le_of_ble_eq_true rfl) dX4_init_26 (fun n26 hn26 => ?_)
  have hn26w : w n26 = none := fr.none hf0 hn26 (fun z => by { rw [z, ha] at hn26; cases hn26 })
  obtain ⟨w5, hw5⟩ : ∃ x, x = ws1 w4 n26 (eI G 3 (fun _ => 0)) := ⟨_, rfl⟩
  refine x_ew hw5.symm ?_
  have ha := (congrFun hw5 a).trans ((ws1_n (fun z => by { rw [z, hn26] at ha; cases ha })).trans ha)
  have hk := (congrFun hw5 n8).trans ((ws1_n (fun z => by { rw [z, hn26] at hk; cases hk })).trans hk)
  have hR0 := (congrFun hw5 r0).trans ((ws1_n (fun z => by { rw [z, hn26] at hR0; cases hR0 })).trans hR0)
  have hR1 := (congrFun hw5 r1).trans ((ws1_n (fun z => by { rw [z, hn26] at hR1; cases hR1 })).trans hR1)
  have hR2 := (congrFun hw5 r2).trans ((ws1_n (fun z => by { rw [z, hn26] at hR2; cases hR2 })).trans hR2)
  have hQ := (congrFun hw5 q).trans ((ws1_n (fun z => by { rw [z, hn26] at hQ; cases hQ })).trans hQ)
  have hZ : w5 n26 = some (eI G 3 (fun _ => 0)) := by { rw [hw5]; exact ws1_s }
  have hf0 : fr (fun q => q = a) w w5 := by { rw [hw5]; exact hf0.set0 hn26w }
  refine x_putfF (ci := 5) (j := 2) (C := RX4) (T := TX4) (N := 7) (fs' := [_, _, _, _, _, _, _]) Z tyX4 tyX4_ok nmX4 inX4g rfl (by decide) q1043 rfl rfl E.2.2.2 rfl rfl rfl rfl dX4_init_28 (by assumption) (by exact Nat.le_of_ble_eq_true rfl) rfl ?_
  obtain ⟨w6, hw5⟩ : ∃ x, x = ws1 w5 a (eO 5 [rv n8, rv q, rv n26, iv 0, iv 0, iv 0, iv 0]) := ⟨_, rfl⟩
  refine x_ew hw5.symm ?_
  have hk := (congrFun hw5 n8).trans ((ws1_n (tne 512 1000005 hk ha rfl rfl (by decide))).trans hk)
  have hR0 := (congrFun hw5 r0).trans ((ws1_n (tne 60 1000005 hR0 ha rfl rfl (by decide))).trans hR0)
  have hR1 := (congrFun hw5 r1).trans ((ws1_n (tne 60 1000005 hR1 ha rfl rfl (by decide))).trans hR1)
  have hR2 := (congrFun hw5 r2).trans ((ws1_n (tne 60 1000005 hR2 ha rfl rfl (by decide))).trans hR2)
  have hQ := (congrFun hw5 q).trans ((ws1_n (tne 7 1000005 hQ ha rfl rfl (by decide))).trans hQ)
  have hZ := (congrFun hw5 n26).trans ((ws1_n (tne 6 1000005 hZ ha rfl rfl (by decide))).trans hZ)
  have ha : w6 a = some (eO 5 [rv n8, rv q, rv n26, iv 0, iv 0, iv 0, iv 0]) := by { rw [hw5]; exact ws1_s }
  have hf0 : fr (fun q => q = a) w w6 := by { rw [hw5]; exact hf0.set rfl }
  refine x_aload_n Z dX4_init_31 rfl rfl ?_
  have hk0 := hk
  refine x_callV (ci := 5) (C := RX4) (T := TX4) (N := 7) Z okX4_letters q1025 q1027 q7 rfl dX4_init_32 (c_X4_letters h0 htr ha hk) ha ⟨Nat.le_of_ble_eq_true rfl, Nat.le_of_ble_eq_true rfl, Nat.le_of_ble_eq_true rfl, Nat.le_of_ble_eq_true rfl⟩ rfl rfl (Nat.le_of_ble_eq_true rfl) (fun v9 w9 hR => ?_)
  obtain ⟨rfl, ha, hk, hf9⟩ := hR
  simp only [Option.toList_some, Option.toList_none, List.cons_append, List.nil_append]
  have hR0 := hf9.at (fun z => tne 60 512 hR0 hk0 rfl rfl (by decide) z) hR0
  have hR1 := hf9.at (fun z => tne 60 512 hR1 hk0 rfl rfl (by decide) z) hR1
  have hR2 := hf9.at (fun z => tne 60 512 hR2 hk0 rfl rfl (by decide) z) hR2
  have hQ := hf9.at (fun z => tne 7 512 hQ hk0 rfl rfl (by decide) z) hQ
  have hZ := hf9.at (fun z => tne 6 512 hZ hk0 rfl rfl (by decide) z) hZ
  have hf0 := hf0.tr0 hf9 (fun q hq => hq.trans rfl) hn8
  refine x_aload_n Z dX4_init_35 rfl rfl ?_
  have hk0 := hk
  refine x_callV (ci := 5) (C := RX4) (T := TX4) (N := 7) Z okX4_points q1033 q1035 q9 rfl dX4_init_36 (c_X4_points h0 htr ha hk) ha ⟨Nat.le_of_ble_eq_true rfl, Nat.le_of_ble_eq_true rfl, Nat.le_of_ble_eq_true rfl, Nat.le_of_ble_eq_true rfl⟩ rfl rfl (Nat.le_of_ble_eq_true rfl) (fun v9 w9 hR => ?_)
  obtain ⟨rfl, ha, hk, hf9⟩ := hR
  simp only [Option.toList_some, Option.toList_none, List.cons_append, List.nil_append]
  have hR0 := hf9.at (fun z => tne 60 512 hR0 hk0 rfl rfl (by decide) z) hR0
  have hR1 := hf9.at (fun z => tne 60 512 hR1 hk0 rfl rfl (by decide) z) hR1
  have hR2 := hf9.at (fun z => tne 60 512 hR2 hk0 rfl rfl (by decide) z) hR2
  have hQ := hf9.at (fun z => tne 7 512 hQ hk0 rfl rfl (by decide) z) hQ
  have hZ := hf9.at (fun z => tne 6 512 hZ hk0 rfl rfl (by decide) z) hZ
  have hf0 := hf0.tr0 hf9 (fun q hq => hq.trans rfl) hn8
  refine x_aload_n Z dX4_init_39 rfl rfl ?_
  have hk0 := hk
  refine x_callV (ci := 5) (C := RX4) (T := TX4) (N := 7) Z okX4_others q1037 q1039 q10 rfl dX4_init_40 (c_X4_others h0 htr ha hk) ha ⟨Nat.le_of_ble_eq_true rfl, Nat.le_of_ble_eq_true rfl, Nat.le_of_ble_eq_true rfl, Nat.le_of_ble_eq_true rfl⟩ rfl rfl (Nat.le_of_ble_eq_true rfl) (fun v9 w9 hR => ?_)
  obtain ⟨rfl, ha, hk, hf9⟩ := hR
  simp only [Option.toList_some, Option.toList_none, List.cons_append, List.nil_append]
  have hR0 := hf9.at (fun z => tne 60 512 hR0 hk0 rfl rfl (by decide) z) hR0
  have hR1 := hf9.at (fun z => tne 60 512 hR1 hk0 rfl rfl (by decide) z) hR1
  have hR2 := hf9.at (fun z => tne 60 512 hR2 hk0 rfl rfl (by decide) z) hR2
  have hQ := hf9.at (fun z => tne 7 512 hQ hk0 rfl rfl (by decide) z) hQ
  have hZ := hf9.at (fun z => tne 6 512 hZ hk0 rfl rfl (by decide) z) hZ
  have hf0 := hf0.tr0 hf9 (fun q hq => hq.trans rfl) hn8
  refine x_ev (F' := kin) hk kfin_ok ?_
  obtain ⟨w7, hw5⟩ : ∃ x, x = ws1 w9 n8 (eI G 256 kin) := ⟨_, rfl⟩
  refine x_ew hw5.symm ?_
  have ha := (congrFun hw5 a).trans ((ws1_n (tne 1000005 512 ha hk rfl rfl (by decide))).trans ha)
  have hR0 := (congrFun hw5 r0).trans ((ws1_n (tne 60 512 hR0 hk rfl rfl (by decide))).trans hR0)
  have hR1 := (congrFun hw5 r1).trans ((ws1_n (tne 60 512 hR1 hk rfl rfl (by decide))).trans hR1)
  have hR2 := (congrFun hw5 r2).trans ((ws1_n (tne 60 512 hR2 hk rfl rfl (by decide))).trans hR2)
  have hQ := (congrFun hw5 q).trans ((ws1_n (tne 7 512 hQ hk rfl rfl (by decide))).trans hQ)
  have hZ := (congrFun hw5 n26).trans ((ws1_n (tne 6 512 hZ hk rfl rfl (by decide))).trans hZ)
  have hk : w7 n8 = some (eI G 256 kin) := by { rw [hw5]; exact ws1_s }
  have hf0 : fr (fun q => q = a) w w7 := by { rw [hw5]; exact hf0.set0 hn8 }
  have z5 : ∀ i : Int, 0 ≤ i → i < 3 → f3 i = some (if i = 0 then r0 else if i = 1 then r1 else r2) := by
    intro i i0 i3
    rcases (by omega : i = 0 ∨ i = 1 ∨ i = 2) with h | h | h <;> subst h <;> assumption
  have z6 : ∀ i : Int, 0 ≤ i → i < 3 → w7 (if i = 0 then r0 else if i = 1 then r1 else r2) = some (eI G 30 (fun _ => 0)) := by
    intro i i0 i3
    rcases (by omega : i = 0 ∨ i = 1 ∨ i = 2) with h | h | h <;> subst h <;> assumption
  have z7 : ∀ i j : Int, 0 ≤ i → i < 3 → 0 ≤ j → j < 3 → i ≠ j → (if i = 0 then r0 else if i = 1 then r1 else r2) ≠ (if j = 0 then r0 else if j = 1 then r1 else r2) := by
    intro i j i0 i3 j0 j3 hij
    rcases (by omega : (i = 0 ∧ j = 1) ∨ (i = 0 ∧ j = 2) ∨ (i = 1 ∧ j = 0) ∨ (i = 1 ∧ j = 2) ∨ (i = 2 ∧ j = 0) ∨ (i = 2 ∧ j = 1)) with ⟨h, h2⟩ | ⟨h, h2⟩ | ⟨h, h2⟩ | ⟨h, h2⟩ | ⟨h, h2⟩ | ⟨h, h2⟩ <;> subst h <;> subst h2
    · exact d4
    · exact d5
    · exact d4.symm
    · exact d6
    · exact d5.symm
    · exact d6.symm
  have z8 : ∀ i : Int, 0 ≤ i → i < 3 → w (if i = 0 then r0 else if i = 1 then r1 else r2) = none := by
    intro i i0 i3
    rcases (by omega : i = 0 ∨ i = 1 ∨ i = 2) with h | h | h <;> subst h <;> assumption
  have z9 : ∀ x, rP (a, n8, q, n26) (fun i : Int => if i = 0 then r0 else if i = 1 then r1 else r2) x → x = a ∨ w x = none := by
    rintro x (h | h | h | h | ⟨i, i0, i3, h⟩)
    · exact Or.inl h
    · right; rw [h]; exact hn8
    · right; rw [h]; exact hq0
    · right; rw [h]; exact hn26w
    · right; rw [h]; exact z8 i i0 i3
  exact x_vret Z E (⟨rfl, (a, n8, q, n26), (fun i => if i = 0 then r0 else if i = 1 then r1 else r2, fun _ => 0, fun _ _ => 0, 0, 0, 0, 0), rfl, ⟨ha, hk, ⟨f3, hQ, z5⟩, hZ, (fun i i0 i3 => ⟨z6 i i0 i3, Int.le_refl 0, (by exact (by decide : (0 : Int) ≤ 30)), (fun j => ⟨Int.le_refl 0, (by exact (by decide : (0 : Int) ≤ 255))⟩)⟩), z7⟩, rfl, rfl, hf0, z9⟩) dX4_init_43 (Nat.le_of_ble_eq_true rfl) (Nat.le_of_ble_eq_true rfl)
