/-! the clock is led, on both sides -/
theorem rdII {M : Mem} {k q : KK} {j i : Nat} {x : Int32} : (sI M k j x).1 q i = if q = k ∧ i = j then x else M.1 q i := rfl
theorem rdLL {M : Mem} {k q : KK} {j i : Nat} {x : Int64} : (sL M k j x).2.1 q i = if q = k ∧ i = j then x else M.2.1 q i := rfl
theorem rdIL {M : Mem} {k q : KK} {j i : Nat} {x : Int32} : (sI M k j x).2.1 q i = M.2.1 q i := rfl
theorem rdLI {M : Mem} {k q : KK} {j i : Nat} {x : Int64} : (sL M k j x).1 q i = M.1 q i := rfl
def ab (x : Int64) : Int64 := if x < 0 then -x else x
def snc (M : Mem) : Int32 := if M.1 TPK 7 = -1 then 0 else M.1 TPK 1 - M.1 TPK 7
def mkL (M : Mem) : Mem := sI (sI M TPK 7 (M.1 TPK 1)) TPK 8 (M.1 TPK 8 + 1)
def stC (M : Mem) (off : Int64) : Mem := mkL (sI (sL (sL (sL M TPK 0 (M.2.1 TPK 0 + off)) TPK 4 0) TPK 3 0) TPK 9 (M.1 TPK 9 + 1))
def jc2 (c p b : Int32) : Int32 := c + (if b = 0 then -2 * p else p)
def jgC (M : Mem) (b : Int32) : Mem :=
  if jc2 (M.1 TPK 6) (M.1 TPK 5) b ≤ 30 then
    (if -30 ≤ jc2 (M.1 TPK 6) (M.1 TPK 5) b then sI M TPK 6 (jc2 (M.1 TPK 6) (M.1 TPK 5) b)
     else sI (sI (sI M TPK 6 (jc2 (M.1 TPK 6) (M.1 TPK 5) b)) TPK 6 0) TPK 5 (if 4 < M.1 TPK 5 - 1 then M.1 TPK 5 - 1 else 4))
  else sI (sI (sI M TPK 6 (jc2 (M.1 TPK 6) (M.1 TPK 5) b)) TPK 6 0) TPK 5 (if M.1 TPK 5 + 1 < 10 then M.1 TPK 5 + 1 else 10)
def mn24 (s : Int32) : Int32 := if s < 1024 then s else 1024
def rtC (r off : Int64) (s p : Int32) : Int64 := r + (off * (mn24 s).toInt64) >>> ((2 * p + 4).toInt64 &&& 63)
def cl2 (g : Int64) : Int64 := if (-2000000) < (if g < 2000000 then g else 2000000) then (if g < 2000000 then g else 2000000) else -2000000
def slC (M : Mem) (off jit : Int64) : Mem := jgC (mkL (sL (sL M TPK 3 (cl2 (rtC (M.2.1 TPK 3) off (snc M) (M.1 TPK 5)))) TPK 4 off)) (if ab off < 4 * jit then 1 else 0)
section LD
variable {G : GG} {l : Launch} {M : Mem}
theorem pm_since : PM G l m_TP_secondsSinceLed [vR (some TPK)] M (rI (snc M)) M 0 0 := by
  refine pm_in [some (vR (some TPK))] rfl ?_
  unfold snc
  refine pw_aload_n d_TP_secondsSinceLed_0 rfl ?_
  refine pw_getI d_TP_secondsSinceLed_1 f_TP_15 rfl rfl ?_
  refine pw_iconst (-1) d_TP_secondsSinceLed_4 (by decide) ?_
  refine pw_icmp_ne (tgt := 12) d_TP_secondsSinceLed_5 (by decide) (fun h5 => ?_) (fun h5 => ?_)
  · refine pw_aload_n d_TP_secondsSinceLed_12 rfl ?_
    refine pw_getI d_TP_secondsSinceLed_13 f_TP_35 rfl rfl ?_
    refine pw_aload_n d_TP_secondsSinceLed_16 rfl ?_
    refine pw_getI d_TP_secondsSinceLed_17 f_TP_15 rfl rfl ?_
    refine pw_isub d_TP_secondsSinceLed_20 ?_
    refine pw_ireturn d_TP_secondsSinceLed_21 rfl ?_ ?_
    · (try simp only [lg_lt, lg_gt, lg_ge, lg_le, lg_eq, Classical.not_not] at h5) <;> simp only [h5, if_true, if_false]
    · rfl
  · refine pw_iconst 0 d_TP_secondsSinceLed_8 (by decide) ?_
    refine pw_goto (tgt := 21) d_TP_secondsSinceLed_9 (by decide) ?_
    refine pw_ireturn d_TP_secondsSinceLed_21 rfl ?_ ?_
    · (try simp only [lg_lt, lg_gt, lg_ge, lg_le, lg_eq, Classical.not_not] at h5) <;> simp only [h5, if_true, if_false]
    · rfl
theorem pm_markLed : PM G l m_TP_markLed [vR (some TPK)] M rV (mkL M) 0 0 := by
  refine pm_in [some (vR (some TPK))] rfl ?_
  refine pw_aload_n d_TP_markLed_0 rfl ?_
  refine pw_aload_n d_TP_markLed_1 rfl ?_
  refine pw_getI d_TP_markLed_2 f_TP_35 rfl rfl ?_
  refine pw_putI d_TP_markLed_5 f_TP_15 rfl rfl rfl ?_
  refine pw_aload_n d_TP_markLed_8 rfl ?_
  refine pw_dup d_TP_markLed_9 rfl ?_
  refine pw_getI d_TP_markLed_10 f_TP_80 rfl rfl ?_
  try simp (config := {decide := true}) only [rdII, rdLL, rdIL, rdLI, false_and, true_and, and_false, if_true, if_false]
  refine pw_iconst 1 d_TP_markLed_13 (by decide) ?_
  refine pw_iadd d_TP_markLed_14 ?_
  refine pw_putI d_TP_markLed_15 f_TP_80 rfl rfl rfl ?_
  refine pw_return d_TP_markLed_18 rfl ?_ ?_
  · rfl
  · rfl
theorem pm_step (off : Int64) : PM G l m_TP_step [vR (some TPK), vL off] M (if M.1 TPK 7 = -1 ∨ 300 ≤ snc M then rI 1 else rI 0) (if M.1 TPK 7 = -1 ∨ 300 ≤ snc M then stC M off else M) 0 0 := by
  refine pm_in [some (vR (some TPK)), some (vL off), none] rfl ?_
  refine pw_aload_n d_TP_step_0 rfl ?_
  refine pw_getI d_TP_step_1 f_TP_15 rfl rfl ?_
  refine pw_iconst (-1) d_TP_step_4 (by decide) ?_
  refine pw_icmp_eq (tgt := 20) d_TP_step_5 (by decide) (fun h5 => ?_) (fun h5 => ?_)
  · refine pw_aload_n d_TP_step_20 rfl ?_
    refine pw_dup d_TP_step_21 rfl ?_
    refine pw_getL d_TP_step_22 f_TP_32 rfl rfl ?_
    refine pw_lload_n d_TP_step_25 rfl ?_
    refine pw_ladd d_TP_step_26 ?_
    refine pw_putL d_TP_step_27 f_TP_32 rfl rfl rfl ?_
    refine pw_aload_n d_TP_step_30 rfl ?_
    refine pw_lconst 0 d_TP_step_31 (by decide) ?_
    refine pw_putL d_TP_step_32 f_TP_27 rfl rfl rfl ?_
    refine pw_aload_n d_TP_step_35 rfl ?_
    refine pw_lconst 0 d_TP_step_36 (by decide) ?_
    refine pw_putL d_TP_step_37 f_TP_23 rfl rfl rfl ?_
    refine pw_aload_n d_TP_step_40 rfl ?_
    refine pw_dup d_TP_step_41 rfl ?_
    refine pw_getI d_TP_step_42 f_TP_77 rfl rfl ?_
    try simp (config := {decide := true}) only [rdII, rdLL, rdIL, rdLI, false_and, true_and, and_false, if_true, if_false]
    refine pw_iconst 1 d_TP_step_45 (by decide) ?_
    refine pw_iadd d_TP_step_46 ?_
    refine pw_putI d_TP_step_47 f_TP_77 rfl rfl rfl ?_
    refine pw_aload_n d_TP_step_50 rfl ?_
    refine c_TP_step_51 rfl (Nat.le_of_ble_eq_true rfl) pm_markLed ?_
    refine pw_iconst 1 d_TP_step_54 (by decide) ?_
    refine pw_zreturn d_TP_step_55 rfl ?_ ?_ ?_
    · first | exact Or.inl rfl | exact Or.inr rfl
    · ((first | have kh5 := eq_false h5 | have kh5 := eq_true h5); simp only [kh5, and_true, true_and, and_false, false_and, not_true_eq_false, not_false_eq_true, or_true, true_or, or_false, false_or, if_true, if_false, and_self, or_self])
    · ((first | have kh5 := eq_false h5 | have kh5 := eq_true h5); simp only [kh5, and_true, true_and, and_false, false_and, not_true_eq_false, not_false_eq_true, or_true, true_or, or_false, false_or, if_true, if_false, and_self, or_self]) <;> rfl
  · refine pw_aload_n d_TP_step_8 rfl ?_
    refine c_TP_step_9 rfl (Nat.le_of_ble_eq_true rfl) pm_since ?_
    refine pw_sipush (300) d_TP_step_12 (by decide) ?_
    refine pw_icmp_ge (tgt := 20) d_TP_step_15 (by decide) (fun h15 => ?_) (fun h15 => ?_)
    · refine pw_aload_n d_TP_step_20 rfl ?_
      refine pw_dup d_TP_step_21 rfl ?_
      refine pw_getL d_TP_step_22 f_TP_32 rfl rfl ?_
      refine pw_lload_n d_TP_step_25 rfl ?_
      refine pw_ladd d_TP_step_26 ?_
      refine pw_putL d_TP_step_27 f_TP_32 rfl rfl rfl ?_
      refine pw_aload_n d_TP_step_30 rfl ?_
      refine pw_lconst 0 d_TP_step_31 (by decide) ?_
      refine pw_putL d_TP_step_32 f_TP_27 rfl rfl rfl ?_
      refine pw_aload_n d_TP_step_35 rfl ?_
      refine pw_lconst 0 d_TP_step_36 (by decide) ?_
      refine pw_putL d_TP_step_37 f_TP_23 rfl rfl rfl ?_
      refine pw_aload_n d_TP_step_40 rfl ?_
      refine pw_dup d_TP_step_41 rfl ?_
      refine pw_getI d_TP_step_42 f_TP_77 rfl rfl ?_
      try simp (config := {decide := true}) only [rdII, rdLL, rdIL, rdLI, false_and, true_and, and_false, if_true, if_false]
      refine pw_iconst 1 d_TP_step_45 (by decide) ?_
      refine pw_iadd d_TP_step_46 ?_
      refine pw_putI d_TP_step_47 f_TP_77 rfl rfl rfl ?_
      refine pw_aload_n d_TP_step_50 rfl ?_
      refine c_TP_step_51 rfl (Nat.le_of_ble_eq_true rfl) pm_markLed ?_
      refine pw_iconst 1 d_TP_step_54 (by decide) ?_
      refine pw_zreturn d_TP_step_55 rfl ?_ ?_ ?_
      · first | exact Or.inl rfl | exact Or.inr rfl
      · ((first | have kh5 := eq_false h5 | have kh5 := eq_true h5); (first | have kh15 := eq_false h15 | have kh15 := eq_true h15); simp only [kh5, kh15, and_true, true_and, and_false, false_and, not_true_eq_false, not_false_eq_true, or_true, true_or, or_false, false_or, if_true, if_false, and_self, or_self])
      · ((first | have kh5 := eq_false h5 | have kh5 := eq_true h5); (first | have kh15 := eq_false h15 | have kh15 := eq_true h15); simp only [kh5, kh15, and_true, true_and, and_false, false_and, not_true_eq_false, not_false_eq_true, or_true, true_or, or_false, false_or, if_true, if_false, and_self, or_self]) <;> rfl
    · refine pw_iconst 0 d_TP_step_18 (by decide) ?_
      refine pw_zreturn d_TP_step_19 rfl ?_ ?_ ?_
      · first | exact Or.inl rfl | exact Or.inr rfl
      · ((first | have kh5 := eq_false h5 | have kh5 := eq_true h5); (first | have kh15 := eq_false h15 | have kh15 := eq_true h15); simp only [kh5, kh15, and_true, true_and, and_false, false_and, not_true_eq_false, not_false_eq_true, or_true, true_or, or_false, false_or, if_true, if_false, and_self, or_self])
      · ((first | have kh5 := eq_false h5 | have kh5 := eq_true h5); (first | have kh15 := eq_false h15 | have kh15 := eq_true h15); simp only [kh5, kh15, and_true, true_and, and_false, false_and, not_true_eq_false, not_false_eq_true, or_true, true_or, or_false, false_or, if_true, if_false, and_self, or_self]) <;> rfl
theorem pm_judge (b : Int32) : PM G l m_TP_judge [vR (some TPK), vI b] M rV (jgC M b) 0 0 := by
  refine pm_in [some (vR (some TPK)), some (vI b)] rfl ?_
  unfold jgC jc2
  refine pw_aload_n d_TP_judge_0 rfl ?_
  refine pw_dup d_TP_judge_1 rfl ?_
  refine pw_getI d_TP_judge_2 f_TP_83 rfl rfl ?_
  refine pw_iload_n d_TP_judge_5 rfl ?_
  refine pw_if_eq (tgt := 16) d_TP_judge_6 (by decide) (fun h6 => ?_) (fun h6 => ?_)
  · refine pw_bipush (-2) d_TP_judge_16 (by decide) ?_
    refine pw_aload_n d_TP_judge_18 rfl ?_
    refine pw_getI d_TP_judge_19 f_TP_9 rfl rfl ?_
    refine pw_imul d_TP_judge_22 ?_
    refine pw_iadd d_TP_judge_23 ?_
    refine pw_putI d_TP_judge_24 f_TP_83 rfl rfl rfl ?_
    refine pw_aload_n d_TP_judge_27 rfl ?_
    refine pw_getI d_TP_judge_28 f_TP_83 rfl rfl ?_
    try simp (config := {decide := true}) only [rdII, rdLL, rdIL, rdLI, false_and, true_and, and_false, if_true, if_false]
    refine pw_bipush (30) d_TP_judge_31 (by decide) ?_
    refine pw_icmp_le (tgt := 59) d_TP_judge_33 (by decide) (fun h33 => ?_) (fun h33 => ?_)
    · refine pw_aload_n d_TP_judge_59 rfl ?_
      refine pw_getI d_TP_judge_60 f_TP_83 rfl rfl ?_
      try simp (config := {decide := true}) only [rdII, rdLL, rdIL, rdLI, false_and, true_and, and_false, if_true, if_false]
      refine pw_bipush (-30) d_TP_judge_63 (by decide) ?_
      refine pw_icmp_ge (tgt := 87) d_TP_judge_65 (by decide) (fun h65 => ?_) (fun h65 => ?_)
      · refine pw_return d_TP_judge_87 rfl ?_ ?_
        · rfl
        · ((first | have kh6 := eq_false h6 | have kh6 := eq_true h6); (first | have kh33 := eq_false h33 | have kh33 := eq_true h33); (first | have kh65 := eq_false h65 | have kh65 := eq_true h65); simp only [kh6, kh33, kh65, and_true, true_and, and_false, false_and, not_true_eq_false, not_false_eq_true, or_true, true_or, or_false, false_or, if_true, if_false, and_self, or_self])
      · refine pw_aload_n d_TP_judge_68 rfl ?_
        refine pw_iconst 0 d_TP_judge_69 (by decide) ?_
        refine pw_putI d_TP_judge_70 f_TP_83 rfl rfl rfl ?_
        refine pw_aload_n d_TP_judge_73 rfl ?_
        refine pw_iconst 4 d_TP_judge_74 (by decide) ?_
        refine pw_aload_n d_TP_judge_75 rfl ?_
        refine pw_getI d_TP_judge_76 f_TP_9 rfl rfl ?_
        try simp (config := {decide := true}) only [rdII, rdLL, rdIL, rdLI, false_and, true_and, and_false, if_true, if_false]
        refine pw_iconst 1 d_TP_judge_79 (by decide) ?_
        refine pw_isub d_TP_judge_80 ?_
        refine c_TP_judge_81 (Nat.le_of_ble_eq_true rfl) (pm_max_II _ _) ?_
        refine pw_putI d_TP_judge_84 f_TP_9 rfl rfl rfl ?_
        refine pw_return d_TP_judge_87 rfl ?_ ?_
        · rfl
        · ((first | have kh6 := eq_false h6 | have kh6 := eq_true h6); (first | have kh33 := eq_false h33 | have kh33 := eq_true h33); (first | have kh65 := eq_false h65 | have kh65 := eq_true h65); simp only [kh6, kh33, kh65, and_true, true_and, and_false, false_and, not_true_eq_false, not_false_eq_true, or_true, true_or, or_false, false_or, if_true, if_false, and_self, or_self])
    · refine pw_aload_n d_TP_judge_36 rfl ?_
      refine pw_iconst 0 d_TP_judge_37 (by decide) ?_
      refine pw_putI d_TP_judge_38 f_TP_83 rfl rfl rfl ?_
      refine pw_aload_n d_TP_judge_41 rfl ?_
      refine pw_bipush (10) d_TP_judge_42 (by decide) ?_
      refine pw_aload_n d_TP_judge_44 rfl ?_
      refine pw_getI d_TP_judge_45 f_TP_9 rfl rfl ?_
      try simp (config := {decide := true}) only [rdII, rdLL, rdIL, rdLI, false_and, true_and, and_false, if_true, if_false]
      refine pw_iconst 1 d_TP_judge_48 (by decide) ?_
      refine pw_iadd d_TP_judge_49 ?_
      refine c_TP_judge_50 (Nat.le_of_ble_eq_true rfl) (pm_min_II _ _) ?_
      refine pw_putI d_TP_judge_53 f_TP_9 rfl rfl rfl ?_
      refine pw_goto (tgt := 87) d_TP_judge_56 (by decide) ?_
      refine pw_return d_TP_judge_87 rfl ?_ ?_
      · rfl
      · ((first | have kh6 := eq_false h6 | have kh6 := eq_true h6); (first | have kh33 := eq_false h33 | have kh33 := eq_true h33); simp only [kh6, kh33, and_true, true_and, and_false, false_and, not_true_eq_false, not_false_eq_true, or_true, true_or, or_false, false_or, if_true, if_false, and_self, or_self])
  · refine pw_aload_n d_TP_judge_9 rfl ?_
    refine pw_getI d_TP_judge_10 f_TP_9 rfl rfl ?_
    refine pw_goto (tgt := 23) d_TP_judge_13 (by decide) ?_
    refine pw_iadd d_TP_judge_23 ?_
    refine pw_putI d_TP_judge_24 f_TP_83 rfl rfl rfl ?_
    refine pw_aload_n d_TP_judge_27 rfl ?_
    refine pw_getI d_TP_judge_28 f_TP_83 rfl rfl ?_
    try simp (config := {decide := true}) only [rdII, rdLL, rdIL, rdLI, false_and, true_and, and_false, if_true, if_false]
    refine pw_bipush (30) d_TP_judge_31 (by decide) ?_
    refine pw_icmp_le (tgt := 59) d_TP_judge_33 (by decide) (fun h33 => ?_) (fun h33 => ?_)
    · refine pw_aload_n d_TP_judge_59 rfl ?_
      refine pw_getI d_TP_judge_60 f_TP_83 rfl rfl ?_
      try simp (config := {decide := true}) only [rdII, rdLL, rdIL, rdLI, false_and, true_and, and_false, if_true, if_false]
      refine pw_bipush (-30) d_TP_judge_63 (by decide) ?_
      refine pw_icmp_ge (tgt := 87) d_TP_judge_65 (by decide) (fun h65 => ?_) (fun h65 => ?_)
      · refine pw_return d_TP_judge_87 rfl ?_ ?_
        · rfl
        · ((first | have kh6 := eq_false h6 | have kh6 := eq_true h6); (first | have kh33 := eq_false h33 | have kh33 := eq_true h33); (first | have kh65 := eq_false h65 | have kh65 := eq_true h65); simp only [kh6, kh33, kh65, and_true, true_and, and_false, false_and, not_true_eq_false, not_false_eq_true, or_true, true_or, or_false, false_or, if_true, if_false, and_self, or_self])
      · refine pw_aload_n d_TP_judge_68 rfl ?_
        refine pw_iconst 0 d_TP_judge_69 (by decide) ?_
        refine pw_putI d_TP_judge_70 f_TP_83 rfl rfl rfl ?_
        refine pw_aload_n d_TP_judge_73 rfl ?_
        refine pw_iconst 4 d_TP_judge_74 (by decide) ?_
        refine pw_aload_n d_TP_judge_75 rfl ?_
        refine pw_getI d_TP_judge_76 f_TP_9 rfl rfl ?_
        try simp (config := {decide := true}) only [rdII, rdLL, rdIL, rdLI, false_and, true_and, and_false, if_true, if_false]
        refine pw_iconst 1 d_TP_judge_79 (by decide) ?_
        refine pw_isub d_TP_judge_80 ?_
        refine c_TP_judge_81 (Nat.le_of_ble_eq_true rfl) (pm_max_II _ _) ?_
        refine pw_putI d_TP_judge_84 f_TP_9 rfl rfl rfl ?_
        refine pw_return d_TP_judge_87 rfl ?_ ?_
        · rfl
        · ((first | have kh6 := eq_false h6 | have kh6 := eq_true h6); (first | have kh33 := eq_false h33 | have kh33 := eq_true h33); (first | have kh65 := eq_false h65 | have kh65 := eq_true h65); simp only [kh6, kh33, kh65, and_true, true_and, and_false, false_and, not_true_eq_false, not_false_eq_true, or_true, true_or, or_false, false_or, if_true, if_false, and_self, or_self])
    · refine pw_aload_n d_TP_judge_36 rfl ?_
      refine pw_iconst 0 d_TP_judge_37 (by decide) ?_
      refine pw_putI d_TP_judge_38 f_TP_83 rfl rfl rfl ?_
      refine pw_aload_n d_TP_judge_41 rfl ?_
      refine pw_bipush (10) d_TP_judge_42 (by decide) ?_
      refine pw_aload_n d_TP_judge_44 rfl ?_
      refine pw_getI d_TP_judge_45 f_TP_9 rfl rfl ?_
      try simp (config := {decide := true}) only [rdII, rdLL, rdIL, rdLI, false_and, true_and, and_false, if_true, if_false]
      refine pw_iconst 1 d_TP_judge_48 (by decide) ?_
      refine pw_iadd d_TP_judge_49 ?_
      refine c_TP_judge_50 (Nat.le_of_ble_eq_true rfl) (pm_min_II _ _) ?_
      refine pw_putI d_TP_judge_53 f_TP_9 rfl rfl rfl ?_
      refine pw_goto (tgt := 87) d_TP_judge_56 (by decide) ?_
      refine pw_return d_TP_judge_87 rfl ?_ ?_
      · rfl
      · ((first | have kh6 := eq_false h6 | have kh6 := eq_true h6); (first | have kh33 := eq_false h33 | have kh33 := eq_true h33); simp only [kh6, kh33, and_true, true_and, and_false, false_and, not_true_eq_false, not_false_eq_true, or_true, true_or, or_false, false_or, if_true, if_false, and_self, or_self])
theorem pm_lead_s (off jit : Int64) (h : 549755813 < ab off) : PM G l m_TP_lead [vR (some TPK), vL off, vL jit] M (if M.1 TPK 7 = -1 ∨ 300 ≤ snc M then rI 1 else rI 0) (if M.1 TPK 7 = -1 ∨ 300 ≤ snc M then stC M off else M) 0 0 := by
  refine pm_in [some (vR (some TPK)), some (vL off), none, some (vL jit), none, none, none, none, none] rfl ?_
  refine pw_lload_n d_TP_lead_0 rfl ?_
  refine c_TP_lead_1 (Nat.le_of_ble_eq_true rfl) (pm_abs _) ?_
  refine pw_ldc2 (549755813) d_TP_lead_4 g663 ?_
  refine pw_lcmp d_TP_lead_7 ?_
  refine pw_if_le (tgt := 17) d_TP_lead_8 (by decide) (fun hQ => absurd hQ ((fun z => (lg_le _ _).mp z h))) (fun _ => ?_)
  have q := pm_step (G := G) (l := l) (M := M) off
  by_cases hs : M.1 TPK 7 = -1 ∨ 300 ≤ snc M
  · rw [if_pos hs, if_pos hs] at *
    refine pw_aload_n d_TP_lead_11 rfl ?_
    refine pw_lload_n d_TP_lead_12 rfl ?_
    refine c_TP_lead_13 rfl (Nat.le_of_ble_eq_true rfl) q ?_
    refine pw_zreturn d_TP_lead_16 rfl ?_ ?_ ?_
    · exact Or.inr rfl
    · rfl
    · rfl
  · rw [if_neg hs, if_neg hs] at *
    refine pw_aload_n d_TP_lead_11 rfl ?_
    refine pw_lload_n d_TP_lead_12 rfl ?_
    refine c_TP_lead_13 rfl (Nat.le_of_ble_eq_true rfl) q ?_
    refine pw_zreturn d_TP_lead_16 rfl ?_ ?_ ?_
    · exact Or.inl rfl
    · rfl
    · rfl
theorem pm_lead_w (off jit : Int64) (h : ¬ 549755813 < ab off) : PM G l m_TP_lead [vR (some TPK), vL off, vL jit] M (rI 0) (slC M off jit) 0 0 := by
  refine pm_in [some (vR (some TPK)), some (vL off), none, some (vL jit), none, none, none, none, none] rfl ?_
  refine pw_lload_n d_TP_lead_0 rfl ?_
  refine c_TP_lead_1 (Nat.le_of_ble_eq_true rfl) (pm_abs _) ?_
  refine pw_ldc2 (549755813) d_TP_lead_4 g663 ?_
  refine pw_lcmp d_TP_lead_7 ?_
  refine pw_if_le (tgt := 17) d_TP_lead_8 (by decide) (fun _ => ?_) (fun hQ => absurd (((lg_le _ _).mpr h)) hQ)
  refine pw_lload_n d_TP_lead_17 rfl ?_
  refine pw_sipush (1024) d_TP_lead_18 (by decide) ?_
  refine pw_aload_n d_TP_lead_21 rfl ?_
  refine c_TP_lead_22 rfl (Nat.le_of_ble_eq_true rfl) pm_since ?_
  refine c_TP_lead_25 (Nat.le_of_ble_eq_true rfl) (pm_min_II _ _) ?_
  refine pw_i2l d_TP_lead_28 ?_
  refine pw_lmul d_TP_lead_29 ?_
  refine pw_lstore d_TP_lead_30 (by decide) ?_
  dsimp only [stL, kil, isL, cat]
  refine pw_aload_n d_TP_lead_32 rfl ?_
  refine pw_getL d_TP_lead_33 f_TP_23 rfl rfl ?_
  refine pw_lload d_TP_lead_36 rfl ?_
  refine pw_iconst 2 d_TP_lead_38 (by decide) ?_
  refine pw_aload_n d_TP_lead_39 rfl ?_
  refine pw_getI d_TP_lead_40 f_TP_9 rfl rfl ?_
  refine pw_imul d_TP_lead_43 ?_
  refine pw_iconst 4 d_TP_lead_44 (by decide) ?_
  refine pw_iadd d_TP_lead_45 ?_
  refine pw_lshr d_TP_lead_46 ?_
  refine pw_ladd d_TP_lead_47 ?_
  refine pw_lstore d_TP_lead_48 (by decide) ?_
  dsimp only [stL, kil, isL, cat]
  refine pw_aload_n d_TP_lead_50 rfl ?_
  refine pw_ldc2 (-2000000) d_TP_lead_51 g677 ?_
  refine pw_ldc2 (2000000) d_TP_lead_54 g678 ?_
  refine pw_lload d_TP_lead_57 rfl ?_
  refine c_TP_lead_59 (Nat.le_of_ble_eq_true rfl) (pm_min_JJ _ _) ?_
  refine c_TP_lead_62 (Nat.le_of_ble_eq_true rfl) (pm_max_JJ _ _) ?_
  refine pw_putL d_TP_lead_65 f_TP_23 rfl rfl rfl ?_
  refine pw_aload_n d_TP_lead_68 rfl ?_
  refine pw_lload_n d_TP_lead_69 rfl ?_
  refine pw_putL d_TP_lead_70 f_TP_27 rfl rfl rfl ?_
  refine pw_aload_n d_TP_lead_73 rfl ?_
  refine c_TP_lead_74 rfl (Nat.le_of_ble_eq_true rfl) pm_markLed ?_
  refine pw_aload_n d_TP_lead_77 rfl ?_
  refine pw_lload_n d_TP_lead_78 rfl ?_
  refine c_TP_lead_79 (Nat.le_of_ble_eq_true rfl) (pm_abs _) ?_
  refine pw_ldc2 (4) d_TP_lead_82 g681 ?_
  refine pw_lload_n d_TP_lead_85 rfl ?_
  refine pw_lmul d_TP_lead_86 ?_
  refine pw_lcmp d_TP_lead_87 ?_
  refine pw_if_ge (tgt := 95) d_TP_lead_88 (by decide) (fun h2 => ?_) (fun h2 => ?_)
  · rw [lg_ge] at h2
    refine pw_iconst 0 d_TP_lead_95 (by decide) ?_
    refine c_TP_lead_96 rfl (Nat.le_of_ble_eq_true rfl) (pm_judge _) ?_
    refine pw_iconst 0 d_TP_lead_99 (by decide) ?_
    refine pw_zreturn d_TP_lead_100 rfl ?_ ?_ ?_
    · exact Or.inl rfl
    · rfl
    · unfold slC
      rw [if_neg (show ¬ ab off < 4 * jit from h2)]
      rfl
  · rw [lg_ge, Classical.not_not] at h2
    refine pw_iconst 1 d_TP_lead_91 (by decide) ?_
    refine pw_goto (tgt := 96) d_TP_lead_92 (by decide) ?_
    refine c_TP_lead_96 rfl (Nat.le_of_ble_eq_true rfl) (pm_judge _) ?_
    refine pw_iconst 0 d_TP_lead_99 (by decide) ?_
    refine pw_zreturn d_TP_lead_100 rfl ?_ ?_ ?_
    · exact Or.inl rfl
    · rfl
    · unfold slC
      rw [if_pos (show ab off < 4 * jit from h2)]
      rfl
/-! the reference -/
def mkM (M : Mem) : Mem := sI (sI M MK 37 (M.1 MK 6)) MK 36 (M.1 MK 36 + 1)
def fgM (M : Mem) (n : Nat) : Mem := (fun q j => if q = (0, 29) ∧ j < n then 0 else M.1 q j, fun q j => if q = (0, 23) ∧ j < n then 0 else M.2.1 q j, M.2.2)
def stM (M : Mem) (o : Int64) : Mem := mkM (sI (fgM (sL (sL (sL M MK 5 (M.2.1 MK 5 + o)) MK 9 0) MK 8 0) 8) MK 35 (M.1 MK 35 + 1))
def trM (M : Mem) (b : Int32) : Mem :=
  if jc2 (M.1 MK 34) (M.1 MK 33) b ≤ 30 then
    (if -30 ≤ jc2 (M.1 MK 34) (M.1 MK 33) b then sI M MK 34 (jc2 (M.1 MK 34) (M.1 MK 33) b)
     else sI (sI (sI M MK 34 (jc2 (M.1 MK 34) (M.1 MK 33) b)) MK 34 0) MK 33 (if M.1 MK 33 ≤ 4 then 4 else M.1 MK 33 - 1))
  else sI (sI (sI M MK 34 (jc2 (M.1 MK 34) (M.1 MK 33) b)) MK 34 0) MK 33 (if 10 ≤ M.1 MK 33 then 10 else M.1 MK 33 + 1)
def uM (leads since : Int32) : Int64 := if leads = 0 then 0 else if since ≤ 1024 then since.toInt64 else 1024
def rtM (r off : Int64) (u : Int64) (p : Int32) : Int64 := r + flr (off * u) (1 <<< ((2 * p + 4).toInt64 &&& 63))
def cl3 (g : Int64) : Int64 := if 2000000 < g then 2000000 else if g < -2000000 then -2000000 else g
def slM (M : Mem) : Mem := mkM (trM (sL (sL (sL M MK 8 (rtM (M.2.1 MK 8) (M.2.1 MK 26) (uM (M.1 MK 36) (M.1 MK 6 - M.1 MK 37)) (M.1 MK 33))) MK 8 (cl3 (rtM (M.2.1 MK 8) (M.2.1 MK 26) (uM (M.1 MK 36) (M.1 MK 6 - M.1 MK 37)) (M.1 MK 33)))) MK 9 (M.2.1 MK 26)) (if ab (M.2.1 MK 26) < 4 * M.2.1 MK 27 then 1 else 0))
theorem mo_trust (b : Int32) : PM G l m_MO_trust [vR (some MK), vI b] M rV (trM M b) 0 0 := by
  refine pm_in [some (vR (some MK)), some (vI b)] rfl ?_
  unfold trM jc2
  refine pw_aload_n d_MO_trust_0 rfl ?_
  refine pw_dup d_MO_trust_1 rfl ?_
  refine pw_getI d_MO_trust_2 f_MO_287 rfl rfl ?_
  refine pw_iload_n d_MO_trust_5 rfl ?_
  refine pw_if_eq (tgt := 16) d_MO_trust_6 (by decide) (fun h6 => ?_) (fun h6 => ?_)
  · refine pw_bipush (-2) d_MO_trust_16 (by decide) ?_
    refine pw_aload_n d_MO_trust_18 rfl ?_
    refine pw_getI d_MO_trust_19 f_MO_56 rfl rfl ?_
    refine pw_imul d_MO_trust_22 ?_
    refine pw_iadd d_MO_trust_23 ?_
    refine pw_putI d_MO_trust_24 f_MO_287 rfl rfl rfl ?_
    refine pw_aload_n d_MO_trust_27 rfl ?_
    refine pw_getI d_MO_trust_28 f_MO_287 rfl rfl ?_
    try simp (config := {decide := true}) only [rdII, rdLL, rdIL, rdLI, false_and, true_and, and_false, if_true, if_false]
    refine pw_bipush (30) d_MO_trust_31 (by decide) ?_
    refine pw_icmp_le (tgt := 68) d_MO_trust_33 (by decide) (fun h33 => ?_) (fun h33 => ?_)
    · refine pw_aload_n d_MO_trust_68 rfl ?_
      refine pw_getI d_MO_trust_69 f_MO_287 rfl rfl ?_
      try simp (config := {decide := true}) only [rdII, rdLL, rdIL, rdLI, false_and, true_and, and_false, if_true, if_false]
      refine pw_bipush (-30) d_MO_trust_72 (by decide) ?_
      refine pw_icmp_ge (tgt := 104) d_MO_trust_74 (by decide) (fun h74 => ?_) (fun h74 => ?_)
      · refine pw_return d_MO_trust_104 rfl ?_ ?_
        · rfl
        · ((first | have kh6 := eq_false h6 | have kh6 := eq_true h6); (first | have kh33 := eq_false h33 | have kh33 := eq_true h33); (first | have kh74 := eq_false h74 | have kh74 := eq_true h74); simp only [kh6, kh33, kh74, and_true, true_and, and_false, false_and, not_true_eq_false, not_false_eq_true, or_true, true_or, or_false, false_or, if_true, if_false, and_self, or_self])
      · refine pw_aload_n d_MO_trust_77 rfl ?_
        refine pw_iconst 0 d_MO_trust_78 (by decide) ?_
        refine pw_putI d_MO_trust_79 f_MO_287 rfl rfl rfl ?_
        refine pw_aload_n d_MO_trust_82 rfl ?_
        refine pw_aload_n d_MO_trust_83 rfl ?_
        refine pw_getI d_MO_trust_84 f_MO_56 rfl rfl ?_
        try simp (config := {decide := true}) only [rdII, rdLL, rdIL, rdLI, false_and, true_and, and_false, if_true, if_false]
        refine pw_iconst 4 d_MO_trust_87 (by decide) ?_
        refine pw_icmp_le (tgt := 100) d_MO_trust_88 (by decide) (fun h88 => ?_) (fun h88 => ?_)
        · refine pw_iconst 4 d_MO_trust_100 (by decide) ?_
          refine pw_putI d_MO_trust_101 f_MO_56 rfl rfl rfl ?_
          refine pw_return d_MO_trust_104 rfl ?_ ?_
          · rfl
          · ((first | have kh6 := eq_false h6 | have kh6 := eq_true h6); (first | have kh33 := eq_false h33 | have kh33 := eq_true h33); (first | have kh74 := eq_false h74 | have kh74 := eq_true h74); (first | have kh88 := eq_false h88 | have kh88 := eq_true h88); simp only [kh6, kh33, kh74, kh88, and_true, true_and, and_false, false_and, not_true_eq_false, not_false_eq_true, or_true, true_or, or_false, false_or, if_true, if_false, and_self, or_self])
        · refine pw_aload_n d_MO_trust_91 rfl ?_
          refine pw_getI d_MO_trust_92 f_MO_56 rfl rfl ?_
          try simp (config := {decide := true}) only [rdII, rdLL, rdIL, rdLI, false_and, true_and, and_false, if_true, if_false]
          refine pw_iconst 1 d_MO_trust_95 (by decide) ?_
          refine pw_isub d_MO_trust_96 ?_
          refine pw_goto (tgt := 101) d_MO_trust_97 (by decide) ?_
          refine pw_putI d_MO_trust_101 f_MO_56 rfl rfl rfl ?_
          refine pw_return d_MO_trust_104 rfl ?_ ?_
          · rfl
          · ((first | have kh6 := eq_false h6 | have kh6 := eq_true h6); (first | have kh33 := eq_false h33 | have kh33 := eq_true h33); (first | have kh74 := eq_false h74 | have kh74 := eq_true h74); (first | have kh88 := eq_false h88 | have kh88 := eq_true h88); simp only [kh6, kh33, kh74, kh88, and_true, true_and, and_false, false_and, not_true_eq_false, not_false_eq_true, or_true, true_or, or_false, false_or, if_true, if_false, and_self, or_self])
    · refine pw_aload_n d_MO_trust_36 rfl ?_
      refine pw_iconst 0 d_MO_trust_37 (by decide) ?_
      refine pw_putI d_MO_trust_38 f_MO_287 rfl rfl rfl ?_
      refine pw_aload_n d_MO_trust_41 rfl ?_
      refine pw_aload_n d_MO_trust_42 rfl ?_
      refine pw_getI d_MO_trust_43 f_MO_56 rfl rfl ?_
      try simp (config := {decide := true}) only [rdII, rdLL, rdIL, rdLI, false_and, true_and, and_false, if_true, if_false]
      refine pw_bipush (10) d_MO_trust_46 (by decide) ?_
      refine pw_icmp_ge (tgt := 60) d_MO_trust_48 (by decide) (fun h48 => ?_) (fun h48 => ?_)
      · refine pw_bipush (10) d_MO_trust_60 (by decide) ?_
        refine pw_putI d_MO_trust_62 f_MO_56 rfl rfl rfl ?_
        refine pw_goto (tgt := 104) d_MO_trust_65 (by decide) ?_
        refine pw_return d_MO_trust_104 rfl ?_ ?_
        · rfl
        · ((first | have kh6 := eq_false h6 | have kh6 := eq_true h6); (first | have kh33 := eq_false h33 | have kh33 := eq_true h33); (first | have kh48 := eq_false h48 | have kh48 := eq_true h48); simp only [kh6, kh33, kh48, and_true, true_and, and_false, false_and, not_true_eq_false, not_false_eq_true, or_true, true_or, or_false, false_or, if_true, if_false, and_self, or_self])
      · refine pw_aload_n d_MO_trust_51 rfl ?_
        refine pw_getI d_MO_trust_52 f_MO_56 rfl rfl ?_
        try simp (config := {decide := true}) only [rdII, rdLL, rdIL, rdLI, false_and, true_and, and_false, if_true, if_false]
        refine pw_iconst 1 d_MO_trust_55 (by decide) ?_
        refine pw_iadd d_MO_trust_56 ?_
        refine pw_goto (tgt := 62) d_MO_trust_57 (by decide) ?_
        refine pw_putI d_MO_trust_62 f_MO_56 rfl rfl rfl ?_
        refine pw_goto (tgt := 104) d_MO_trust_65 (by decide) ?_
        refine pw_return d_MO_trust_104 rfl ?_ ?_
        · rfl
        · ((first | have kh6 := eq_false h6 | have kh6 := eq_true h6); (first | have kh33 := eq_false h33 | have kh33 := eq_true h33); (first | have kh48 := eq_false h48 | have kh48 := eq_true h48); simp only [kh6, kh33, kh48, and_true, true_and, and_false, false_and, not_true_eq_false, not_false_eq_true, or_true, true_or, or_false, false_or, if_true, if_false, and_self, or_self])
  · refine pw_aload_n d_MO_trust_9 rfl ?_
    refine pw_getI d_MO_trust_10 f_MO_56 rfl rfl ?_
    refine pw_goto (tgt := 23) d_MO_trust_13 (by decide) ?_
    refine pw_iadd d_MO_trust_23 ?_
    refine pw_putI d_MO_trust_24 f_MO_287 rfl rfl rfl ?_
    refine pw_aload_n d_MO_trust_27 rfl ?_
    refine pw_getI d_MO_trust_28 f_MO_287 rfl rfl ?_
    try simp (config := {decide := true}) only [rdII, rdLL, rdIL, rdLI, false_and, true_and, and_false, if_true, if_false]
    refine pw_bipush (30) d_MO_trust_31 (by decide) ?_
    refine pw_icmp_le (tgt := 68) d_MO_trust_33 (by decide) (fun h33 => ?_) (fun h33 => ?_)
    · refine pw_aload_n d_MO_trust_68 rfl ?_
      refine pw_getI d_MO_trust_69 f_MO_287 rfl rfl ?_
      try simp (config := {decide := true}) only [rdII, rdLL, rdIL, rdLI, false_and, true_and, and_false, if_true, if_false]
      refine pw_bipush (-30) d_MO_trust_72 (by decide) ?_
      refine pw_icmp_ge (tgt := 104) d_MO_trust_74 (by decide) (fun h74 => ?_) (fun h74 => ?_)
      · refine pw_return d_MO_trust_104 rfl ?_ ?_
        · rfl
        · ((first | have kh6 := eq_false h6 | have kh6 := eq_true h6); (first | have kh33 := eq_false h33 | have kh33 := eq_true h33); (first | have kh74 := eq_false h74 | have kh74 := eq_true h74); simp only [kh6, kh33, kh74, and_true, true_and, and_false, false_and, not_true_eq_false, not_false_eq_true, or_true, true_or, or_false, false_or, if_true, if_false, and_self, or_self])
      · refine pw_aload_n d_MO_trust_77 rfl ?_
        refine pw_iconst 0 d_MO_trust_78 (by decide) ?_
        refine pw_putI d_MO_trust_79 f_MO_287 rfl rfl rfl ?_
        refine pw_aload_n d_MO_trust_82 rfl ?_
        refine pw_aload_n d_MO_trust_83 rfl ?_
        refine pw_getI d_MO_trust_84 f_MO_56 rfl rfl ?_
        try simp (config := {decide := true}) only [rdII, rdLL, rdIL, rdLI, false_and, true_and, and_false, if_true, if_false]
        refine pw_iconst 4 d_MO_trust_87 (by decide) ?_
        refine pw_icmp_le (tgt := 100) d_MO_trust_88 (by decide) (fun h88 => ?_) (fun h88 => ?_)
        · refine pw_iconst 4 d_MO_trust_100 (by decide) ?_
          refine pw_putI d_MO_trust_101 f_MO_56 rfl rfl rfl ?_
          refine pw_return d_MO_trust_104 rfl ?_ ?_
          · rfl
          · ((first | have kh6 := eq_false h6 | have kh6 := eq_true h6); (first | have kh33 := eq_false h33 | have kh33 := eq_true h33); (first | have kh74 := eq_false h74 | have kh74 := eq_true h74); (first | have kh88 := eq_false h88 | have kh88 := eq_true h88); simp only [kh6, kh33, kh74, kh88, and_true, true_and, and_false, false_and, not_true_eq_false, not_false_eq_true, or_true, true_or, or_false, false_or, if_true, if_false, and_self, or_self])
        · refine pw_aload_n d_MO_trust_91 rfl ?_
          refine pw_getI d_MO_trust_92 f_MO_56 rfl rfl ?_
          try simp (config := {decide := true}) only [rdII, rdLL, rdIL, rdLI, false_and, true_and, and_false, if_true, if_false]
          refine pw_iconst 1 d_MO_trust_95 (by decide) ?_
          refine pw_isub d_MO_trust_96 ?_
          refine pw_goto (tgt := 101) d_MO_trust_97 (by decide) ?_
          refine pw_putI d_MO_trust_101 f_MO_56 rfl rfl rfl ?_
          refine pw_return d_MO_trust_104 rfl ?_ ?_
          · rfl
          · ((first | have kh6 := eq_false h6 | have kh6 := eq_true h6); (first | have kh33 := eq_false h33 | have kh33 := eq_true h33); (first | have kh74 := eq_false h74 | have kh74 := eq_true h74); (first | have kh88 := eq_false h88 | have kh88 := eq_true h88); simp only [kh6, kh33, kh74, kh88, and_true, true_and, and_false, false_and, not_true_eq_false, not_false_eq_true, or_true, true_or, or_false, false_or, if_true, if_false, and_self, or_self])
    · refine pw_aload_n d_MO_trust_36 rfl ?_
      refine pw_iconst 0 d_MO_trust_37 (by decide) ?_
      refine pw_putI d_MO_trust_38 f_MO_287 rfl rfl rfl ?_
      refine pw_aload_n d_MO_trust_41 rfl ?_
      refine pw_aload_n d_MO_trust_42 rfl ?_
      refine pw_getI d_MO_trust_43 f_MO_56 rfl rfl ?_
      try simp (config := {decide := true}) only [rdII, rdLL, rdIL, rdLI, false_and, true_and, and_false, if_true, if_false]
      refine pw_bipush (10) d_MO_trust_46 (by decide) ?_
      refine pw_icmp_ge (tgt := 60) d_MO_trust_48 (by decide) (fun h48 => ?_) (fun h48 => ?_)
      · refine pw_bipush (10) d_MO_trust_60 (by decide) ?_
        refine pw_putI d_MO_trust_62 f_MO_56 rfl rfl rfl ?_
        refine pw_goto (tgt := 104) d_MO_trust_65 (by decide) ?_
        refine pw_return d_MO_trust_104 rfl ?_ ?_
        · rfl
        · ((first | have kh6 := eq_false h6 | have kh6 := eq_true h6); (first | have kh33 := eq_false h33 | have kh33 := eq_true h33); (first | have kh48 := eq_false h48 | have kh48 := eq_true h48); simp only [kh6, kh33, kh48, and_true, true_and, and_false, false_and, not_true_eq_false, not_false_eq_true, or_true, true_or, or_false, false_or, if_true, if_false, and_self, or_self])
      · refine pw_aload_n d_MO_trust_51 rfl ?_
        refine pw_getI d_MO_trust_52 f_MO_56 rfl rfl ?_
        try simp (config := {decide := true}) only [rdII, rdLL, rdIL, rdLI, false_and, true_and, and_false, if_true, if_false]
        refine pw_iconst 1 d_MO_trust_55 (by decide) ?_
        refine pw_iadd d_MO_trust_56 ?_
        refine pw_goto (tgt := 62) d_MO_trust_57 (by decide) ?_
        refine pw_putI d_MO_trust_62 f_MO_56 rfl rfl rfl ?_
        refine pw_goto (tgt := 104) d_MO_trust_65 (by decide) ?_
        refine pw_return d_MO_trust_104 rfl ?_ ?_
        · rfl
        · ((first | have kh6 := eq_false h6 | have kh6 := eq_true h6); (first | have kh33 := eq_false h33 | have kh33 := eq_true h33); (first | have kh48 := eq_false h48 | have kh48 := eq_true h48); simp only [kh6, kh33, kh48, and_true, true_and, and_false, false_and, not_true_eq_false, not_false_eq_true, or_true, true_or, or_false, false_or, if_true, if_false, and_self, or_self])
theorem lp_mforget (hM : M.2.2.1 = rf) (o : Int64) (s : Int32) (M' : Mem) (hend : ∀ x, isL x = false → PW G l m_MO_lead 93 [some (vR (some MK)), some (vI s), some (vL o), none, x, none] [] (fgM M 8) rV M' 0 0) : ∀ i, i ≤ 8 → PW G l m_MO_lead 64 [some (vR (some MK)), some (vI s), some (vL o), none, some (vI (nI i)), none] [] (fgM M i) rV M' 0 0 := by
  refine lpU ?_ ?_
  · refine pw_iload d_MO_lead_64 rfl ?_
    refine pw_bipush (8) d_MO_lead_66 (by decide) ?_
    refine pw_icmp_ge (tgt := 93) d_MO_lead_68 (by decide) (fun _ => ?_) (fun hQ => absurd (nI_le (a := 8) (b := 8) (by omega) (by omega)) hQ)
    exact hend _ rfl
  · intro i hi ih
    have hr : (fgM M i).2.2.1 = rf := hM
    have hr2 : ∀ k j x, (sI (fgM M i) k j x).2.2.1 = rf := fun _ _ _ => hM
    refine pw_iload d_MO_lead_64 rfl ?_
    refine pw_bipush (8) d_MO_lead_66 (by decide) ?_
    refine pw_icmp_ge (tgt := 93) d_MO_lead_68 (by decide) (fun hQ => absurd hQ (nI_ge (b := 8) hi (by omega))) (fun _ => ?_)
    refine pw_aload_n d_MO_lead_71 rfl ?_
    refine pw_getR d_MO_lead_72 f_MO_35 rfl rfl (rfO hr rfl) ?_
    refine pw_iload d_MO_lead_75 rfl ?_
    refine pw_iconst 0 d_MO_lead_77 (by decide) ?_
    refine pw_isN (n := i) d_MO_lead_78 rfl (by omega) (by decide) ?_
    refine pw_aload_n d_MO_lead_79 rfl ?_
    refine pw_getR d_MO_lead_80 f_MO_16 rfl rfl (rfO (hr2 _ _ _) rfl) ?_
    refine pw_iload d_MO_lead_83 rfl ?_
    refine pw_lconst 0 d_MO_lead_85 (by decide) ?_
    refine pw_lsN (n := i) d_MO_lead_86 rfl (by omega) (by decide) ?_
    refine pw_iinc (1) d_MO_lead_87 rfl (by decide) (by decide) ?_
    dsimp only [stL, kil, isL, cat]
    refine pw_goto (tgt := 64) d_MO_lead_90 (by decide) ?_
    rw [nI_1]
    have e : sL (sI (fgM M i) (0, 29) i 0) (0, 23) i 0 = fgM M (i + 1) := by
      unfold sL sI fgM
      refine Prod.ext ?_ (Prod.ext ?_ rfl)
      · funext q j
        show ite _ _ (ite _ _ _) = ite _ _ _
        by_cases h : q = (0, 29)
        · subst h
          by_cases h2 : j = i
          · subst h2; simp
          · by_cases h3 : j < i
            · simp [h2, h3, show j < i + 1 by omega]
            · simp [h2, h3, show ¬ j < i + 1 by omega]
        · simp [h]
      · funext q j
        show ite _ _ (ite _ _ _) = ite _ _ _
        by_cases h : q = (0, 23)
        · subst h
          by_cases h2 : j = i
          · subst h2; simp
          · by_cases h3 : j < i
            · simp [h2, h3, show j < i + 1 by omega]
            · simp [h2, h3, show ¬ j < i + 1 by omega]
        · simp [h]
    rw [e]
    exact ih
theorem fgM_0 : fgM M 0 = M := by
  unfold fgM
  refine Prod.ext ?_ (Prod.ext ?_ rfl)
  · funext q j
    show ite _ _ _ = _
    rw [if_neg (by omega)]
  · funext q j
    show ite _ _ _ = _
    rw [if_neg (by omega)]
theorem mo_lead_n (h : 549755813 < ab (M.2.1 MK 26)) (h1 : 0 < M.1 MK 36) (h2 : ¬ 300 ≤ M.1 MK 6 - M.1 MK 37) : PM G l m_MO_lead [vR (some MK)] M rV M 0 0 := by
  refine pm_in [some (vR (some MK)), none, none, none, none, none] rfl ?_
  refine pw_aload_n d_MO_lead_0 rfl ?_
  refine pw_getI d_MO_lead_1 f_MO_90 rfl rfl ?_
  refine pw_aload_n d_MO_lead_4 rfl ?_
  refine pw_getI d_MO_lead_5 f_MO_261 rfl rfl ?_
  refine pw_isub d_MO_lead_8 ?_
  refine pw_istore_n d_MO_lead_9 (by decide) ?_
  dsimp only [stL, kil, isL, cat]
  refine pw_aload_n d_MO_lead_10 rfl ?_
  refine pw_getL d_MO_lead_11 f_MO_230 rfl rfl ?_
  refine pw_lstore_n d_MO_lead_14 (by decide) ?_
  dsimp only [stL, kil, isL, cat]
  refine pw_lload_n d_MO_lead_15 rfl ?_
  refine c_MO_lead_16 (Nat.le_of_ble_eq_true rfl) (mo_sizeL _) ?_
  refine pw_ldc2 (549755813) d_MO_lead_19 g1067 ?_
  refine pw_lcmp d_MO_lead_22 ?_
  refine pw_if_le (tgt := 106) d_MO_lead_23 (by decide) (fun hQ => absurd hQ ((fun z => (lg_le _ _).mp z h))) (fun _ => ?_)
  refine pw_aload_n d_MO_lead_26 rfl ?_
  refine pw_getI d_MO_lead_27 f_MO_269 rfl rfl ?_
  refine pw_if_le (tgt := 41) d_MO_lead_30 (by decide) (fun hQ => absurd hQ ((fun z => by rw [Int32.lt_iff_toInt_lt] at h1; rw [Int32.le_iff_toInt_le] at z; omega))) (fun _ => ?_)
  refine pw_iload_n d_MO_lead_33 rfl ?_
  refine pw_sipush (300) d_MO_lead_34 (by decide) ?_
  refine pw_icmp_ge (tgt := 41) d_MO_lead_37 (by decide) (fun hQ => absurd hQ (h2)) (fun _ => ?_)
  refine pw_return d_MO_lead_40 rfl ?_ ?_
  · rfl
  · rfl
theorem mo_lead_s (hM : M.2.2.1 = rf) (h : 549755813 < ab (M.2.1 MK 26)) (h1 : M.1 MK 36 ≤ 0 ∨ 300 ≤ M.1 MK 6 - M.1 MK 37) : PM G l m_MO_lead [vR (some MK)] M rV (stM M (M.2.1 MK 26)) 0 0 := by
  refine pm_in [some (vR (some MK)), none, none, none, none, none] rfl ?_
  have ht : PW G l m_MO_lead 41 [some (vR (some MK)), some (vI (M.1 MK 6 - M.1 MK 37)), some (vL (M.2.1 MK 26)), none, none, none] [] M rV (stM M (M.2.1 MK 26)) 0 0 := by
    refine pw_aload_n d_MO_lead_41 rfl ?_
    refine pw_dup d_MO_lead_42 rfl ?_
    refine pw_getL d_MO_lead_43 f_MO_79 rfl rfl ?_
    refine pw_lload_n d_MO_lead_46 rfl ?_
    refine pw_ladd d_MO_lead_47 ?_
    refine pw_putL d_MO_lead_48 f_MO_79 rfl rfl rfl ?_
    refine pw_aload_n d_MO_lead_51 rfl ?_
    refine pw_lconst 0 d_MO_lead_52 (by decide) ?_
    refine pw_putL d_MO_lead_53 f_MO_73 rfl rfl rfl ?_
    refine pw_aload_n d_MO_lead_56 rfl ?_
    refine pw_lconst 0 d_MO_lead_57 (by decide) ?_
    refine pw_putL d_MO_lead_58 f_MO_87 rfl rfl rfl ?_
    refine pw_iconst 0 d_MO_lead_61 (by decide) ?_
    refine pw_istore d_MO_lead_62 (by decide) ?_
    dsimp only [stL, kil, isL, cat]
    have q := lp_mforget (G := G) (l := l) (M := sL (sL (sL M MK 5 (M.2.1 MK 5 + M.2.1 MK 26)) MK 9 0) MK 8 0) hM (M.2.1 MK 26) (M.1 MK 6 - M.1 MK 37) (stM M (M.2.1 MK 26)) ?_ 0 (by omega)
    · rw [fgM_0] at q
      exact q
    · intro x hx
      refine pw_aload_n d_MO_lead_93 rfl ?_
      refine pw_dup d_MO_lead_94 rfl ?_
      refine pw_getI d_MO_lead_95 f_MO_272 rfl rfl ?_
      refine pw_iconst 1 d_MO_lead_98 (by decide) ?_
      refine pw_iadd d_MO_lead_99 ?_
      refine pw_putI d_MO_lead_100 f_MO_272 rfl rfl rfl ?_
      refine pw_goto (tgt := 232) d_MO_lead_103 (by decide) ?_
      refine pw_aload_n d_MO_lead_232 rfl ?_
      refine pw_aload_n d_MO_lead_233 rfl ?_
      refine pw_getI d_MO_lead_234 f_MO_90 rfl rfl ?_
      refine pw_putI d_MO_lead_237 f_MO_261 rfl rfl rfl ?_
      refine pw_aload_n d_MO_lead_240 rfl ?_
      refine pw_dup d_MO_lead_241 rfl ?_
      refine pw_getI d_MO_lead_242 f_MO_269 rfl rfl ?_
      refine pw_iconst 1 d_MO_lead_245 (by decide) ?_
      refine pw_iadd d_MO_lead_246 ?_
      refine pw_putI d_MO_lead_247 f_MO_269 rfl rfl rfl ?_
      refine pw_return d_MO_lead_250 rfl ?_ ?_
      · rfl
      · rfl
  refine pw_aload_n d_MO_lead_0 rfl ?_
  refine pw_getI d_MO_lead_1 f_MO_90 rfl rfl ?_
  refine pw_aload_n d_MO_lead_4 rfl ?_
  refine pw_getI d_MO_lead_5 f_MO_261 rfl rfl ?_
  refine pw_isub d_MO_lead_8 ?_
  refine pw_istore_n d_MO_lead_9 (by decide) ?_
  dsimp only [stL, kil, isL, cat]
  refine pw_aload_n d_MO_lead_10 rfl ?_
  refine pw_getL d_MO_lead_11 f_MO_230 rfl rfl ?_
  refine pw_lstore_n d_MO_lead_14 (by decide) ?_
  dsimp only [stL, kil, isL, cat]
  refine pw_lload_n d_MO_lead_15 rfl ?_
  refine c_MO_lead_16 (Nat.le_of_ble_eq_true rfl) (mo_sizeL _) ?_
  refine pw_ldc2 (549755813) d_MO_lead_19 g1067 ?_
  refine pw_lcmp d_MO_lead_22 ?_
  refine pw_if_le (tgt := 106) d_MO_lead_23 (by decide) (fun hQ => absurd hQ ((fun z => (lg_le _ _).mp z h))) (fun _ => ?_)
  refine pw_aload_n d_MO_lead_26 rfl ?_
  refine pw_getI d_MO_lead_27 f_MO_269 rfl rfl ?_
  refine pw_if_le (tgt := 41) d_MO_lead_30 (by decide) (fun h3 => ?_) (fun h3 => ?_)
  · exact ht
  · refine pw_iload_n d_MO_lead_33 rfl ?_
    refine pw_sipush (300) d_MO_lead_34 (by decide) ?_
    refine pw_icmp_ge (tgt := 41) d_MO_lead_37 (by decide) (fun _ => ?_) (fun hQ => absurd ((h1.resolve_left h3)) hQ)
    exact ht
theorem mo_lead_w (h : ¬ 549755813 < ab (M.2.1 MK 26)) (hz : ¬ (1 : Int64) <<< ((2 * M.1 MK 33 + 4).toInt64 &&& 63) = 0) : PM G l m_MO_lead [vR (some MK)] M rV (slM M) 0 0 := by
  refine pm_in [some (vR (some MK)), none, none, none, none, none] rfl ?_
  have ht : ∀ u, u = uM (M.1 MK 36) (M.1 MK 6 - M.1 MK 37) → PW G l m_MO_lead 132 [some (vR (some MK)), some (vI (M.1 MK 6 - M.1 MK 37)), some (vL (M.2.1 MK 26)), none, none, none] [vL u] M rV (slM M) 0 0 := by
    intro u hu
    refine pw_lstore d_MO_lead_132 (by decide) ?_
    dsimp only [stL, kil, isL, cat]
    refine pw_aload_n d_MO_lead_134 rfl ?_
    refine pw_dup d_MO_lead_135 rfl ?_
    refine pw_getL d_MO_lead_136 f_MO_87 rfl rfl ?_
    refine pw_lload_n d_MO_lead_139 rfl ?_
    refine pw_lload d_MO_lead_140 rfl ?_
    refine pw_lmul d_MO_lead_142 ?_
    refine pw_lconst 1 d_MO_lead_143 (by decide) ?_
    refine pw_iconst 2 d_MO_lead_144 (by decide) ?_
    refine pw_aload_n d_MO_lead_145 rfl ?_
    refine pw_getI d_MO_lead_146 f_MO_56 rfl rfl ?_
    refine pw_imul d_MO_lead_149 ?_
    refine pw_iconst 4 d_MO_lead_150 (by decide) ?_
    refine pw_iadd d_MO_lead_151 ?_
    refine pw_lshl d_MO_lead_152 ?_
    refine c_MO_lead_153 (Nat.le_of_ble_eq_true rfl) (mo_floor _ _ hz) ?_
    refine pw_ladd d_MO_lead_156 ?_
    refine pw_putL d_MO_lead_157 f_MO_87 rfl rfl rfl ?_
    unfold slM
    rw [← hu]
    unfold cl3 rtM
    refine pw_aload_n d_MO_lead_160 rfl ?_
    refine pw_aload_n d_MO_lead_161 rfl ?_
    refine pw_getL d_MO_lead_162 f_MO_87 rfl rfl ?_
    try simp (config := {decide := true}) only [rdII, rdLL, rdIL, rdLI, false_and, true_and, and_false, if_true, if_false]
    refine pw_ldc2 (2000000) d_MO_lead_165 g1069 ?_
    refine pw_lcmp d_MO_lead_168 ?_
    refine pw_if_le (tgt := 178) d_MO_lead_169 (by decide) (fun h169 => ?_) (fun h169 => ?_)
    · refine pw_aload_n d_MO_lead_178 rfl ?_
      refine pw_getL d_MO_lead_179 f_MO_87 rfl rfl ?_
      try simp (config := {decide := true}) only [rdII, rdLL, rdIL, rdLI, false_and, true_and, and_false, if_true, if_false]
      refine pw_ldc2 (-2000000) d_MO_lead_182 g1070 ?_
      refine pw_lcmp d_MO_lead_185 ?_
      refine pw_if_ge (tgt := 195) d_MO_lead_186 (by decide) (fun h186 => ?_) (fun h186 => ?_)
      · refine pw_aload_n d_MO_lead_195 rfl ?_
        refine pw_getL d_MO_lead_196 f_MO_87 rfl rfl ?_
        try simp (config := {decide := true}) only [rdII, rdLL, rdIL, rdLI, false_and, true_and, and_false, if_true, if_false]
        refine pw_putL d_MO_lead_199 f_MO_87 rfl rfl rfl ?_
        refine pw_aload_n d_MO_lead_202 rfl ?_
        refine pw_lload_n d_MO_lead_203 rfl ?_
        refine pw_putL d_MO_lead_204 f_MO_73 rfl rfl rfl ?_
        refine pw_aload_n d_MO_lead_207 rfl ?_
        refine pw_lload_n d_MO_lead_208 rfl ?_
        refine c_MO_lead_209 (Nat.le_of_ble_eq_true rfl) (mo_sizeL _) ?_
        refine pw_ldc2 (4) d_MO_lead_212 g1071 ?_
        refine pw_aload_n d_MO_lead_215 rfl ?_
        refine pw_getL d_MO_lead_216 f_MO_233 rfl rfl ?_
        try simp (config := {decide := true}) only [rdII, rdLL, rdIL, rdLI, false_and, true_and, and_false, if_true, if_false]
        refine pw_lmul d_MO_lead_219 ?_
        refine pw_lcmp d_MO_lead_220 ?_
        refine pw_if_ge (tgt := 228) d_MO_lead_221 (by decide) (fun h221 => ?_) (fun h221 => ?_)
        · refine pw_iconst 0 d_MO_lead_228 (by decide) ?_
          refine c_MO_lead_229 rfl (Nat.le_of_ble_eq_true rfl) (mo_trust _) ?_
          refine pw_aload_n d_MO_lead_232 rfl ?_
          refine pw_aload_n d_MO_lead_233 rfl ?_
          refine pw_getI d_MO_lead_234 f_MO_90 rfl rfl ?_
          try simp (config := {decide := true}) only [rdII, rdLL, rdIL, rdLI, false_and, true_and, and_false, if_true, if_false]
          refine pw_putI d_MO_lead_237 f_MO_261 rfl rfl rfl ?_
          refine pw_aload_n d_MO_lead_240 rfl ?_
          refine pw_dup d_MO_lead_241 rfl ?_
          refine pw_getI d_MO_lead_242 f_MO_269 rfl rfl ?_
          try simp (config := {decide := true}) only [rdII, rdLL, rdIL, rdLI, false_and, true_and, and_false, if_true, if_false]
          refine pw_iconst 1 d_MO_lead_245 (by decide) ?_
          refine pw_iadd d_MO_lead_246 ?_
          refine pw_putI d_MO_lead_247 f_MO_269 rfl rfl rfl ?_
          refine pw_return d_MO_lead_250 rfl ?_ ?_
          · rfl
          · (try simp only [lg_lt, lg_gt, lg_ge, lg_le, lg_eq, Classical.not_not] at h169 h186 h221); (try unfold ab); ((first | have kh169 := eq_false h169 | have kh169 := eq_true h169); (first | have kh186 := eq_false h186 | have kh186 := eq_true h186); (first | have kh221 := eq_false h221 | have kh221 := eq_true h221); simp only [kh169, kh186, kh221, and_true, true_and, and_false, false_and, not_true_eq_false, not_false_eq_true, or_true, true_or, or_false, false_or, if_true, if_false, and_self, or_self]) <;> rfl
        · refine pw_iconst 1 d_MO_lead_224 (by decide) ?_
          refine pw_goto (tgt := 229) d_MO_lead_225 (by decide) ?_
          refine c_MO_lead_229 rfl (Nat.le_of_ble_eq_true rfl) (mo_trust _) ?_
          refine pw_aload_n d_MO_lead_232 rfl ?_
          refine pw_aload_n d_MO_lead_233 rfl ?_
          refine pw_getI d_MO_lead_234 f_MO_90 rfl rfl ?_
          try simp (config := {decide := true}) only [rdII, rdLL, rdIL, rdLI, false_and, true_and, and_false, if_true, if_false]
          refine pw_putI d_MO_lead_237 f_MO_261 rfl rfl rfl ?_
          refine pw_aload_n d_MO_lead_240 rfl ?_
          refine pw_dup d_MO_lead_241 rfl ?_
          refine pw_getI d_MO_lead_242 f_MO_269 rfl rfl ?_
          try simp (config := {decide := true}) only [rdII, rdLL, rdIL, rdLI, false_and, true_and, and_false, if_true, if_false]
          refine pw_iconst 1 d_MO_lead_245 (by decide) ?_
          refine pw_iadd d_MO_lead_246 ?_
          refine pw_putI d_MO_lead_247 f_MO_269 rfl rfl rfl ?_
          refine pw_return d_MO_lead_250 rfl ?_ ?_
          · rfl
          · (try simp only [lg_lt, lg_gt, lg_ge, lg_le, lg_eq, Classical.not_not] at h169 h186 h221); (try unfold ab); ((first | have kh169 := eq_false h169 | have kh169 := eq_true h169); (first | have kh186 := eq_false h186 | have kh186 := eq_true h186); (first | have kh221 := eq_false h221 | have kh221 := eq_true h221); simp only [kh169, kh186, kh221, and_true, true_and, and_false, false_and, not_true_eq_false, not_false_eq_true, or_true, true_or, or_false, false_or, if_true, if_false, and_self, or_self]) <;> rfl
      · refine pw_ldc2 (-2000000) d_MO_lead_189 g1070 ?_
        refine pw_goto (tgt := 199) d_MO_lead_192 (by decide) ?_
        refine pw_putL d_MO_lead_199 f_MO_87 rfl rfl rfl ?_
        refine pw_aload_n d_MO_lead_202 rfl ?_
        refine pw_lload_n d_MO_lead_203 rfl ?_
        refine pw_putL d_MO_lead_204 f_MO_73 rfl rfl rfl ?_
        refine pw_aload_n d_MO_lead_207 rfl ?_
        refine pw_lload_n d_MO_lead_208 rfl ?_
        refine c_MO_lead_209 (Nat.le_of_ble_eq_true rfl) (mo_sizeL _) ?_
        refine pw_ldc2 (4) d_MO_lead_212 g1071 ?_
        refine pw_aload_n d_MO_lead_215 rfl ?_
        refine pw_getL d_MO_lead_216 f_MO_233 rfl rfl ?_
        try simp (config := {decide := true}) only [rdII, rdLL, rdIL, rdLI, false_and, true_and, and_false, if_true, if_false]
        refine pw_lmul d_MO_lead_219 ?_
        refine pw_lcmp d_MO_lead_220 ?_
        refine pw_if_ge (tgt := 228) d_MO_lead_221 (by decide) (fun h221 => ?_) (fun h221 => ?_)
        · refine pw_iconst 0 d_MO_lead_228 (by decide) ?_
          refine c_MO_lead_229 rfl (Nat.le_of_ble_eq_true rfl) (mo_trust _) ?_
          refine pw_aload_n d_MO_lead_232 rfl ?_
          refine pw_aload_n d_MO_lead_233 rfl ?_
          refine pw_getI d_MO_lead_234 f_MO_90 rfl rfl ?_
          try simp (config := {decide := true}) only [rdII, rdLL, rdIL, rdLI, false_and, true_and, and_false, if_true, if_false]
          refine pw_putI d_MO_lead_237 f_MO_261 rfl rfl rfl ?_
          refine pw_aload_n d_MO_lead_240 rfl ?_
          refine pw_dup d_MO_lead_241 rfl ?_
          refine pw_getI d_MO_lead_242 f_MO_269 rfl rfl ?_
          try simp (config := {decide := true}) only [rdII, rdLL, rdIL, rdLI, false_and, true_and, and_false, if_true, if_false]
          refine pw_iconst 1 d_MO_lead_245 (by decide) ?_
          refine pw_iadd d_MO_lead_246 ?_
          refine pw_putI d_MO_lead_247 f_MO_269 rfl rfl rfl ?_
          refine pw_return d_MO_lead_250 rfl ?_ ?_
          · rfl
          · (try simp only [lg_lt, lg_gt, lg_ge, lg_le, lg_eq, Classical.not_not] at h169 h186 h221); (try unfold ab); ((first | have kh169 := eq_false h169 | have kh169 := eq_true h169); (first | have kh186 := eq_false h186 | have kh186 := eq_true h186); (first | have kh221 := eq_false h221 | have kh221 := eq_true h221); simp only [kh169, kh186, kh221, and_true, true_and, and_false, false_and, not_true_eq_false, not_false_eq_true, or_true, true_or, or_false, false_or, if_true, if_false, and_self, or_self]) <;> rfl
        · refine pw_iconst 1 d_MO_lead_224 (by decide) ?_
          refine pw_goto (tgt := 229) d_MO_lead_225 (by decide) ?_
          refine c_MO_lead_229 rfl (Nat.le_of_ble_eq_true rfl) (mo_trust _) ?_
          refine pw_aload_n d_MO_lead_232 rfl ?_
          refine pw_aload_n d_MO_lead_233 rfl ?_
          refine pw_getI d_MO_lead_234 f_MO_90 rfl rfl ?_
          try simp (config := {decide := true}) only [rdII, rdLL, rdIL, rdLI, false_and, true_and, and_false, if_true, if_false]
          refine pw_putI d_MO_lead_237 f_MO_261 rfl rfl rfl ?_
          refine pw_aload_n d_MO_lead_240 rfl ?_
          refine pw_dup d_MO_lead_241 rfl ?_
          refine pw_getI d_MO_lead_242 f_MO_269 rfl rfl ?_
          try simp (config := {decide := true}) only [rdII, rdLL, rdIL, rdLI, false_and, true_and, and_false, if_true, if_false]
          refine pw_iconst 1 d_MO_lead_245 (by decide) ?_
          refine pw_iadd d_MO_lead_246 ?_
          refine pw_putI d_MO_lead_247 f_MO_269 rfl rfl rfl ?_
          refine pw_return d_MO_lead_250 rfl ?_ ?_
          · rfl
          · (try simp only [lg_lt, lg_gt, lg_ge, lg_le, lg_eq, Classical.not_not] at h169 h186 h221); (try unfold ab); ((first | have kh169 := eq_false h169 | have kh169 := eq_true h169); (first | have kh186 := eq_false h186 | have kh186 := eq_true h186); (first | have kh221 := eq_false h221 | have kh221 := eq_true h221); simp only [kh169, kh186, kh221, and_true, true_and, and_false, false_and, not_true_eq_false, not_false_eq_true, or_true, true_or, or_false, false_or, if_true, if_false, and_self, or_self]) <;> rfl
    · refine pw_ldc2 (2000000) d_MO_lead_172 g1069 ?_
      refine pw_goto (tgt := 199) d_MO_lead_175 (by decide) ?_
      refine pw_putL d_MO_lead_199 f_MO_87 rfl rfl rfl ?_
      refine pw_aload_n d_MO_lead_202 rfl ?_
      refine pw_lload_n d_MO_lead_203 rfl ?_
      refine pw_putL d_MO_lead_204 f_MO_73 rfl rfl rfl ?_
      refine pw_aload_n d_MO_lead_207 rfl ?_
      refine pw_lload_n d_MO_lead_208 rfl ?_
      refine c_MO_lead_209 (Nat.le_of_ble_eq_true rfl) (mo_sizeL _) ?_
      refine pw_ldc2 (4) d_MO_lead_212 g1071 ?_
      refine pw_aload_n d_MO_lead_215 rfl ?_
      refine pw_getL d_MO_lead_216 f_MO_233 rfl rfl ?_
      try simp (config := {decide := true}) only [rdII, rdLL, rdIL, rdLI, false_and, true_and, and_false, if_true, if_false]
      refine pw_lmul d_MO_lead_219 ?_
      refine pw_lcmp d_MO_lead_220 ?_
      refine pw_if_ge (tgt := 228) d_MO_lead_221 (by decide) (fun h221 => ?_) (fun h221 => ?_)
      · refine pw_iconst 0 d_MO_lead_228 (by decide) ?_
        refine c_MO_lead_229 rfl (Nat.le_of_ble_eq_true rfl) (mo_trust _) ?_
        refine pw_aload_n d_MO_lead_232 rfl ?_
        refine pw_aload_n d_MO_lead_233 rfl ?_
        refine pw_getI d_MO_lead_234 f_MO_90 rfl rfl ?_
        try simp (config := {decide := true}) only [rdII, rdLL, rdIL, rdLI, false_and, true_and, and_false, if_true, if_false]
        refine pw_putI d_MO_lead_237 f_MO_261 rfl rfl rfl ?_
        refine pw_aload_n d_MO_lead_240 rfl ?_
        refine pw_dup d_MO_lead_241 rfl ?_
        refine pw_getI d_MO_lead_242 f_MO_269 rfl rfl ?_
        try simp (config := {decide := true}) only [rdII, rdLL, rdIL, rdLI, false_and, true_and, and_false, if_true, if_false]
        refine pw_iconst 1 d_MO_lead_245 (by decide) ?_
        refine pw_iadd d_MO_lead_246 ?_
        refine pw_putI d_MO_lead_247 f_MO_269 rfl rfl rfl ?_
        refine pw_return d_MO_lead_250 rfl ?_ ?_
        · rfl
        · (try simp only [lg_lt, lg_gt, lg_ge, lg_le, lg_eq, Classical.not_not] at h169 h221); (try unfold ab); ((first | have kh169 := eq_false h169 | have kh169 := eq_true h169); (first | have kh221 := eq_false h221 | have kh221 := eq_true h221); simp only [kh169, kh221, and_true, true_and, and_false, false_and, not_true_eq_false, not_false_eq_true, or_true, true_or, or_false, false_or, if_true, if_false, and_self, or_self]) <;> rfl
      · refine pw_iconst 1 d_MO_lead_224 (by decide) ?_
        refine pw_goto (tgt := 229) d_MO_lead_225 (by decide) ?_
        refine c_MO_lead_229 rfl (Nat.le_of_ble_eq_true rfl) (mo_trust _) ?_
        refine pw_aload_n d_MO_lead_232 rfl ?_
        refine pw_aload_n d_MO_lead_233 rfl ?_
        refine pw_getI d_MO_lead_234 f_MO_90 rfl rfl ?_
        try simp (config := {decide := true}) only [rdII, rdLL, rdIL, rdLI, false_and, true_and, and_false, if_true, if_false]
        refine pw_putI d_MO_lead_237 f_MO_261 rfl rfl rfl ?_
        refine pw_aload_n d_MO_lead_240 rfl ?_
        refine pw_dup d_MO_lead_241 rfl ?_
        refine pw_getI d_MO_lead_242 f_MO_269 rfl rfl ?_
        try simp (config := {decide := true}) only [rdII, rdLL, rdIL, rdLI, false_and, true_and, and_false, if_true, if_false]
        refine pw_iconst 1 d_MO_lead_245 (by decide) ?_
        refine pw_iadd d_MO_lead_246 ?_
        refine pw_putI d_MO_lead_247 f_MO_269 rfl rfl rfl ?_
        refine pw_return d_MO_lead_250 rfl ?_ ?_
        · rfl
        · (try simp only [lg_lt, lg_gt, lg_ge, lg_le, lg_eq, Classical.not_not] at h169 h221); (try unfold ab); ((first | have kh169 := eq_false h169 | have kh169 := eq_true h169); (first | have kh221 := eq_false h221 | have kh221 := eq_true h221); simp only [kh169, kh221, and_true, true_and, and_false, false_and, not_true_eq_false, not_false_eq_true, or_true, true_or, or_false, false_or, if_true, if_false, and_self, or_self]) <;> rfl
  refine pw_aload_n d_MO_lead_0 rfl ?_
  refine pw_getI d_MO_lead_1 f_MO_90 rfl rfl ?_
  refine pw_aload_n d_MO_lead_4 rfl ?_
  refine pw_getI d_MO_lead_5 f_MO_261 rfl rfl ?_
  refine pw_isub d_MO_lead_8 ?_
  refine pw_istore_n d_MO_lead_9 (by decide) ?_
  dsimp only [stL, kil, isL, cat]
  refine pw_aload_n d_MO_lead_10 rfl ?_
  refine pw_getL d_MO_lead_11 f_MO_230 rfl rfl ?_
  refine pw_lstore_n d_MO_lead_14 (by decide) ?_
  dsimp only [stL, kil, isL, cat]
  refine pw_lload_n d_MO_lead_15 rfl ?_
  refine c_MO_lead_16 (Nat.le_of_ble_eq_true rfl) (mo_sizeL _) ?_
  refine pw_ldc2 (549755813) d_MO_lead_19 g1067 ?_
  refine pw_lcmp d_MO_lead_22 ?_
  refine pw_if_le (tgt := 106) d_MO_lead_23 (by decide) (fun _ => ?_) (fun hQ => absurd (((lg_le _ _).mpr h)) hQ)
  refine pw_aload_n d_MO_lead_106 rfl ?_
  refine pw_getI d_MO_lead_107 f_MO_269 rfl rfl ?_
  unfold uM at ht
  refine pw_if_ne (tgt := 117) d_MO_lead_110 (by decide) (fun h110 => ?_) (fun h110 => ?_)
  · refine pw_iload_n d_MO_lead_117 rfl ?_
    refine pw_sipush (1024) d_MO_lead_118 (by decide) ?_
    refine pw_icmp_le (tgt := 130) d_MO_lead_121 (by decide) (fun h121 => ?_) (fun h121 => ?_)
    · refine pw_iload_n d_MO_lead_130 rfl ?_
      refine pw_i2l d_MO_lead_131 ?_
      exact ht _ (by ((first | have kh110 := eq_false h110 | have kh110 := eq_true h110); (first | have kh121 := eq_false h121 | have kh121 := eq_true h121); simp only [kh110, kh121, and_true, true_and, and_false, false_and, not_true_eq_false, not_false_eq_true, or_true, true_or, or_false, false_or, if_true, if_false, and_self, or_self]))
    · refine pw_ldc2 (1024) d_MO_lead_124 g1068 ?_
      refine pw_goto (tgt := 132) d_MO_lead_127 (by decide) ?_
      exact ht _ (by ((first | have kh110 := eq_false h110 | have kh110 := eq_true h110); (first | have kh121 := eq_false h121 | have kh121 := eq_true h121); simp only [kh110, kh121, and_true, true_and, and_false, false_and, not_true_eq_false, not_false_eq_true, or_true, true_or, or_false, false_or, if_true, if_false, and_self, or_self]))
  · refine pw_lconst 0 d_MO_lead_113 (by decide) ?_
    refine pw_goto (tgt := 132) d_MO_lead_114 (by decide) ?_
    exact ht _ (by ((first | have kh110 := eq_false h110 | have kh110 := eq_true h110); simp only [kh110, and_true, true_and, and_false, false_and, not_true_eq_false, not_false_eq_true, or_true, true_or, or_false, false_or, if_true, if_false, and_self, or_self]))
end LD
