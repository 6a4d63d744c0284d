/-! CONSTRUCTORS, and the store that they leave -/
def jourS (S : Sto) (i : Nat) : Sto := setS (newA (setS (newA (setS (newA S 12) 3 i 0 (vR 12 (S.2 12))) 13) 3 i 1 (vR 13 (S.2 13))) 14) 3 i 2 (vR 14 (S.2 14))
theorem e_X2_init (S : Sto) (i : Nat) : Ev M_X2_init 0 (ent M_X2_init [vR 3 i]) [] S (0, none, jourS S i) := by
  show Ev M_X2_init 0 [vR 3 i] [] S _
  refine ev_aload_n dX2_init_0 rfl rfl ?_
  refine ev_objinit dX2_init_1 ml_2_3 (Nat.le_of_ble_eq_true rfl) rfl ?_
  refine ev_aload_n dX2_init_4 rfl rfl ?_
  refine ev_bipush (v := 40) dX2_init_5 rfl ?_
  refine ev_newa (t := 12) dX2_init_7 rfl (by decide) rfl ?_
  refine ev_putf dX2_init_9 fl_2_9 rfl rfl ?_
  refine ev_aload_n dX2_init_12 rfl rfl ?_
  refine ev_bipush (v := 40) dX2_init_13 rfl ?_
  refine ev_newa (t := 13) dX2_init_15 rfl (by decide) rfl ?_
  refine ev_putf dX2_init_17 fl_2_15 rfl rfl ?_
  refine ev_aload_n dX2_init_20 rfl rfl ?_
  refine ev_bipush (v := 40) dX2_init_21 rfl ?_
  refine ev_newa (t := 14) dX2_init_23 rfl (by decide) rfl ?_
  refine ev_putf dX2_init_25 fl_2_18 rfl rfl ?_
  exact ev_vret dX2_init_28 rfl
def kerS1 (S : Sto) (i : Nat) : Sto := setS (newA (setS (newA S 15) 7 i 1 (vR 15 (S.2 15))) 16) 7 i 2 (vR 16 (S.2 16))
def kerS (S : Sto) (i : Nat) (d : Int32) : Sto := setS (setS (jourS (newO (kerS1 S i) 3) (S.2 3)) 7 i 3 (vR 3 (S.2 3))) 7 i 0 (vI d)
def dlB (x : Int32) : Int32 := if x = 0 then 0 else 1
theorem e_X6_init (S : Sto) (i : Nat) (x : Int32) : Ev M_X6_init 0 (ent M_X6_init [vR 7 i, vI x]) [] S (0, none, kerS S i (dlB x)) := by
  show Ev M_X6_init 0 [vR 7 i, vI x] [] S _
  refine ev_aload_n dX6_init_0 rfl rfl ?_
  refine ev_objinit dX6_init_1 ml_6_1 (Nat.le_of_ble_eq_true rfl) rfl ?_
  refine ev_aload_n dX6_init_4 rfl rfl ?_
  refine ev_bipush (v := 8) dX6_init_5 rfl ?_
  refine ev_anew dX6_init_7 ao_6_9 rfl ?_
  refine ev_putf dX6_init_10 fl_6_11 rfl rfl ?_
  refine ev_aload_n dX6_init_13 rfl rfl ?_
  refine ev_iconst (v := 4) dX6_init_14 rfl ?_
  refine ev_anew dX6_init_15 ao_6_15 rfl ?_
  refine ev_putf dX6_init_18 fl_6_17 rfl rfl ?_
  refine ev_aload_n dX6_init_21 rfl rfl ?_
  refine ev_new dX6_init_22 no_6_21 ?_
  refine ev_dup dX6_init_25 rfl ?_
  refine evI1 dX6_init_26 cl_X6_init_23 ⟨rfl, rfl, fun _ => ⟨_, rfl⟩⟩ (Nat.le_of_ble_eq_true rfl) (e_X2_init _ _) ?_
  refine ev_putf dX6_init_29 fl_6_24 rfl rfl ?_
  refine ev_aload_n dX6_init_32 rfl rfl ?_
  refine ev_iload_n dX6_init_33 rfl ?_
  refine ev_if_eq (tgt := 41) dX6_init_34 rfl (fun c34 => ?_) (fun c34 => ?_)
  · rw [show dlB x = 0 from if_pos c34]
    refine ev_iconst (v := 0) dX6_init_41 rfl ?_
    refine ev_putf dX6_init_42 fl_6_28 rfl rfl ?_
    exact ev_vret dX6_init_45 rfl
  · rw [show dlB x = 1 from if_neg c34]
    refine ev_iconst (v := 1) dX6_init_37 rfl ?_
    refine ev_goto (tgt := 42) dX6_init_38 rfl ?_
    refine ev_putf dX6_init_42 fl_6_28 rfl rfl ?_
    exact ev_vret dX6_init_45 rfl
def mA1 (S : Sto) (i t : Nat) : Sto := setS (newA S t) 8 i (t - 20) (vR t (S.2 t))
def modS (S : Sto) (i : Nat) (d : Int32) : Sto := setS (mA1 (mA1 (mA1 (mA1 (mA1 (mA1 (mA1 (mA1 (mA1 (mA1 (mA1 (mA1 (mA1 (mA1 (mA1 (mA1 (mA1 (mA1 (mA1 (mA1 (mA1 (mA1 (mA1 (mA1 (mA1 (mA1 (mA1 (mA1 (mA1 (mA1 (setS S 8 i 4 (vI (-1))) i 27) i 28) i 29) i 30) i 31) i 32) i 33) i 34) i 35) i 36) i 37) i 38) i 39) i 40) i 41) i 42) i 43) i 44) i 45) i 46) i 47) i 48) i 49) i 50) i 52) i 53) i 54) i 56) i 57) i 58) 8 i 1 (vI d)
theorem e_X7_init (S : Sto) (i : Nat) (x : Int32) : Ev M_X7_init 0 (ent M_X7_init [vR 8 i, vI x]) [] S (0, none, modS S i (dlB x)) := by
  show Ev M_X7_init 0 [vR 8 i, vI x] [] S _
  refine ev_aload_n dX7_init_0 rfl rfl ?_
  refine ev_objinit dX7_init_1 ml_7_1 (Nat.le_of_ble_eq_true rfl) rfl ?_
  refine ev_aload_n dX7_init_4 rfl rfl ?_
  refine ev_iconst (v := (-1)) dX7_init_5 rfl ?_
  refine ev_putf dX7_init_6 fl_7_7 rfl rfl ?_
  refine ev_aload_n dX7_init_9 rfl rfl ?_
  refine ev_bipush (v := 8) dX7_init_10 rfl ?_
  refine ev_newa (t := 27) dX7_init_12 rfl (by decide) rfl ?_
  refine ev_putfS dX7_init_14 fl_7_13 rfl rfl (rfl : _ = mA1 _ i 27) ?_
  refine ev_aload_n dX7_init_17 rfl rfl ?_
  refine ev_bipush (v := 8) dX7_init_18 rfl ?_
  refine ev_newa (t := 28) dX7_init_20 rfl (by decide) rfl ?_
  refine ev_putfS dX7_init_22 fl_7_17 rfl rfl (rfl : _ = mA1 _ i 28) ?_
  refine ev_aload_n dX7_init_25 rfl rfl ?_
  refine ev_bipush (v := 8) dX7_init_26 rfl ?_
  refine ev_newa (t := 29) dX7_init_28 rfl (by decide) rfl ?_
  refine ev_putfS dX7_init_30 fl_7_20 rfl rfl (rfl : _ = mA1 _ i 29) ?_
  refine ev_aload_n dX7_init_33 rfl rfl ?_
  refine ev_bipush (v := 8) dX7_init_34 rfl ?_
  refine ev_newa (t := 30) dX7_init_36 rfl (by decide) rfl ?_
  refine ev_putfS dX7_init_38 fl_7_23 rfl rfl (rfl : _ = mA1 _ i 30) ?_
  refine ev_aload_n dX7_init_41 rfl rfl ?_
  refine ev_bipush (v := 8) dX7_init_42 rfl ?_
  refine ev_newa (t := 31) dX7_init_44 rfl (by decide) rfl ?_
  refine ev_putfS dX7_init_46 fl_7_26 rfl rfl (rfl : _ = mA1 _ i 31) ?_
  refine ev_aload_n dX7_init_49 rfl rfl ?_
  refine ev_bipush (v := 8) dX7_init_50 rfl ?_
  refine ev_newa (t := 32) dX7_init_52 rfl (by decide) rfl ?_
  refine ev_putfS dX7_init_54 fl_7_29 rfl rfl (rfl : _ = mA1 _ i 32) ?_
  refine ev_aload_n dX7_init_57 rfl rfl ?_
  refine ev_bipush (v := 8) dX7_init_58 rfl ?_
  refine ev_newa (t := 33) dX7_init_60 rfl (by decide) rfl ?_
  refine ev_putfS dX7_init_62 fl_7_33 rfl rfl (rfl : _ = mA1 _ i 33) ?_
  refine ev_aload_n dX7_init_65 rfl rfl ?_
  refine ev_bipush (v := 80) dX7_init_66 rfl ?_
  refine ev_newa (t := 34) dX7_init_68 rfl (by decide) rfl ?_
  refine ev_putfS dX7_init_70 fl_7_36 rfl rfl (rfl : _ = mA1 _ i 34) ?_
  refine ev_aload_n dX7_init_73 rfl rfl ?_
  refine ev_bipush (v := 80) dX7_init_74 rfl ?_
  refine ev_newa (t := 35) dX7_init_76 rfl (by decide) rfl ?_
  refine ev_putfS dX7_init_78 fl_7_39 rfl rfl (rfl : _ = mA1 _ i 35) ?_
  refine ev_aload_n dX7_init_81 rfl rfl ?_
  refine ev_bipush (v := 8) dX7_init_82 rfl ?_
  refine ev_newa (t := 36) dX7_init_84 rfl (by decide) rfl ?_
  refine ev_putfS dX7_init_86 fl_7_42 rfl rfl (rfl : _ = mA1 _ i 36) ?_
  refine ev_aload_n dX7_init_89 rfl rfl ?_
  refine ev_bipush (v := 8) dX7_init_90 rfl ?_
  refine ev_newa (t := 37) dX7_init_92 rfl (by decide) rfl ?_
  refine ev_putfS dX7_init_94 fl_7_45 rfl rfl (rfl : _ = mA1 _ i 37) ?_
  refine ev_aload_n dX7_init_97 rfl rfl ?_
  refine ev_bipush (v := 8) dX7_init_98 rfl ?_
  refine ev_newa (t := 38) dX7_init_100 rfl (by decide) rfl ?_
  refine ev_putfS dX7_init_102 fl_7_48 rfl rfl (rfl : _ = mA1 _ i 38) ?_
  refine ev_aload_n dX7_init_105 rfl rfl ?_
  refine ev_bipush (v := 8) dX7_init_106 rfl ?_
  refine ev_newa (t := 39) dX7_init_108 rfl (by decide) rfl ?_
  refine ev_putfS dX7_init_110 fl_7_51 rfl rfl (rfl : _ = mA1 _ i 39) ?_
  refine ev_aload_n dX7_init_113 rfl rfl ?_
  refine ev_bipush (v := 8) dX7_init_114 rfl ?_
  refine ev_newa (t := 40) dX7_init_116 rfl (by decide) rfl ?_
  refine ev_putfS dX7_init_118 fl_7_54 rfl rfl (rfl : _ = mA1 _ i 40) ?_
  refine ev_aload_n dX7_init_121 rfl rfl ?_
  refine ev_bipush (v := 8) dX7_init_122 rfl ?_
  refine ev_newa (t := 41) dX7_init_124 rfl (by decide) rfl ?_
  refine ev_putfS dX7_init_126 fl_7_57 rfl rfl (rfl : _ = mA1 _ i 41) ?_
  refine ev_aload_n dX7_init_129 rfl rfl ?_
  refine ev_bipush (v := 8) dX7_init_130 rfl ?_
  refine ev_newa (t := 42) dX7_init_132 rfl (by decide) rfl ?_
  refine ev_putfS dX7_init_134 fl_7_60 rfl rfl (rfl : _ = mA1 _ i 42) ?_
  refine ev_aload_n dX7_init_137 rfl rfl ?_
  refine ev_bipush (v := 8) dX7_init_138 rfl ?_
  refine ev_newa (t := 43) dX7_init_140 rfl (by decide) rfl ?_
  refine ev_putfS dX7_init_142 fl_7_63 rfl rfl (rfl : _ = mA1 _ i 43) ?_
  refine ev_aload_n dX7_init_145 rfl rfl ?_
  refine ev_bipush (v := 8) dX7_init_146 rfl ?_
  refine ev_newa (t := 44) dX7_init_148 rfl (by decide) rfl ?_
  refine ev_putfS dX7_init_150 fl_7_66 rfl rfl (rfl : _ = mA1 _ i 44) ?_
  refine ev_aload_n dX7_init_153 rfl rfl ?_
  refine ev_bipush (v := 8) dX7_init_154 rfl ?_
  refine ev_newa (t := 45) dX7_init_156 rfl (by decide) rfl ?_
  refine ev_putfS dX7_init_158 fl_7_69 rfl rfl (rfl : _ = mA1 _ i 45) ?_
  refine ev_aload_n dX7_init_161 rfl rfl ?_
  refine ev_bipush (v := 8) dX7_init_162 rfl ?_
  refine ev_newa (t := 46) dX7_init_164 rfl (by decide) rfl ?_
  refine ev_putfS dX7_init_166 fl_7_72 rfl rfl (rfl : _ = mA1 _ i 46) ?_
  refine ev_aload_n dX7_init_169 rfl rfl ?_
  refine ev_bipush (v := 8) dX7_init_170 rfl ?_
  refine ev_newa (t := 47) dX7_init_172 rfl (by decide) rfl ?_
  refine ev_putfS dX7_init_174 fl_7_75 rfl rfl (rfl : _ = mA1 _ i 47) ?_
  refine ev_aload_n dX7_init_177 rfl rfl ?_
  refine ev_bipush (v := 8) dX7_init_178 rfl ?_
  refine ev_newa (t := 48) dX7_init_180 rfl (by decide) rfl ?_
  refine ev_putfS dX7_init_182 fl_7_78 rfl rfl (rfl : _ = mA1 _ i 48) ?_
  refine ev_aload_n dX7_init_185 rfl rfl ?_
  refine ev_bipush (v := 8) dX7_init_186 rfl ?_
  refine ev_newa (t := 49) dX7_init_188 rfl (by decide) rfl ?_
  refine ev_putfS dX7_init_190 fl_7_81 rfl rfl (rfl : _ = mA1 _ i 49) ?_
  refine ev_aload_n dX7_init_193 rfl rfl ?_
  refine ev_bipush (v := 8) dX7_init_194 rfl ?_
  refine ev_newa (t := 50) dX7_init_196 rfl (by decide) rfl ?_
  refine ev_putfS dX7_init_198 fl_7_84 rfl rfl (rfl : _ = mA1 _ i 50) ?_
  refine ev_aload_n dX7_init_201 rfl rfl ?_
  refine ev_iconst (v := 4) dX7_init_202 rfl ?_
  refine ev_newa (t := 52) dX7_init_203 rfl (by decide) rfl ?_
  refine ev_putfS dX7_init_205 fl_7_87 rfl rfl (rfl : _ = mA1 _ i 52) ?_
  refine ev_aload_n dX7_init_208 rfl rfl ?_
  refine ev_iconst (v := 4) dX7_init_209 rfl ?_
  refine ev_newa (t := 53) dX7_init_210 rfl (by decide) rfl ?_
  refine ev_putfS dX7_init_212 fl_7_90 rfl rfl (rfl : _ = mA1 _ i 53) ?_
  refine ev_aload_n dX7_init_215 rfl rfl ?_
  refine ev_iconst (v := 4) dX7_init_216 rfl ?_
  refine ev_newa (t := 54) dX7_init_217 rfl (by decide) rfl ?_
  refine ev_putfS dX7_init_219 fl_7_93 rfl rfl (rfl : _ = mA1 _ i 54) ?_
  refine ev_aload_n dX7_init_222 rfl rfl ?_
  refine ev_bipush (v := 40) dX7_init_223 rfl ?_
  refine ev_newa (t := 56) dX7_init_225 rfl (by decide) rfl ?_
  refine ev_putfS dX7_init_227 fl_7_96 rfl rfl (rfl : _ = mA1 _ i 56) ?_
  refine ev_aload_n dX7_init_230 rfl rfl ?_
  refine ev_bipush (v := 40) dX7_init_231 rfl ?_
  refine ev_newa (t := 57) dX7_init_233 rfl (by decide) rfl ?_
  refine ev_putfS dX7_init_235 fl_7_99 rfl rfl (rfl : _ = mA1 _ i 57) ?_
  refine ev_aload_n dX7_init_238 rfl rfl ?_
  refine ev_bipush (v := 40) dX7_init_239 rfl ?_
  refine ev_newa (t := 58) dX7_init_241 rfl (by decide) rfl ?_
  refine ev_putfS dX7_init_243 fl_7_102 rfl rfl (rfl : _ = mA1 _ i 58) ?_
  refine ev_aload_n dX7_init_246 rfl rfl ?_
  refine ev_iload_n dX7_init_247 rfl ?_
  refine ev_if_eq (tgt := 255) dX7_init_248 rfl (fun c248 => ?_) (fun c248 => ?_)
  · rw [show dlB x = 0 from if_pos c248]
    refine ev_iconst (v := 0) dX7_init_255 rfl ?_
    refine ev_putf dX7_init_256 fl_7_105 rfl rfl ?_
    exact ev_vret dX7_init_259 rfl
  · rw [show dlB x = 1 from if_neg c248]
    refine ev_iconst (v := 1) dX7_init_251 rfl ?_
    refine ev_goto (tgt := 256) dX7_init_252 rfl ?_
    refine ev_putf dX7_init_256 fl_7_105 rfl rfl ?_
    exact ev_vret dX7_init_259 rfl
def S0 (xs : Nat → Int32) (L : Nat) : Sto := (fun t _ k => if t = 18 then vI (xs k) else vN, fun t => if t = 18 then 1 else if t = 102 then L else 0)
def Sf (xs : Nat → Int32) (L : Nat) (d : Int32) : Sto := newA (modS (newO (kerS (newO (S0 xs L) 7) 0 d) 8) 0 d) 17
def K0 (d : Int32) : KT := (fun f i => if f = 28 then (if i = 0 then d else 0) else 0, fun f _ => if f = 3 then 1 else if f = 4 then 1 else 0)
def G0 (xs : Nat → Int32) (L : Nat) : GT := (0, xs, fun j => if j = 0 then L else if j = 1 then 39 else if j = 2 then 655 else 0)
theorem bump_ne {c : Nat → Nat} {t w j : Nat} (h : ¬ j = t) (h1 : ¬ j = 100) (h2 : ¬ j = 101) : bump c t w j = c j := by unfold bump; rw [if_neg h, if_neg h1, if_neg h2]
theorem bump_eq {c : Nat → Nat} {t w : Nat} : bump c t w t = c t + 1 := if_pos rfl
theorem bump_c {c : Nat → Nat} {t w : Nat} (h : ¬ 100 = t) : bump c t w 100 = c 100 + 1 := by unfold bump; rw [if_neg h, if_pos rfl]
theorem bump_w {c : Nat → Nat} {t w : Nat} (h : ¬ 101 = t) : bump c t w 101 = c 101 + w := by unfold bump; rw [if_neg h, if_neg (by decide), if_pos rfl]
def cnB (xs : Nat → Int32) (L : Nat) : Nat → Nat := bump (bump (bump (bump (bump (bump (bump (bump (bump (bump (bump (bump (bump (bump (bump (bump (bump (bump (bump (bump (bump (bump (bump (bump (bump (bump (bump (bump (bump (bump (bump (bump (bump (bump (bump (bump (bump (bump (bump ((S0 xs L).2) 7 10) 15 8) 16 4) 3 5) 12 40) 13 40) 14 40) 8 39) 27 8) 28 8) 29 8) 30 8) 31 8) 32 8) 33 8) 34 80) 35 80) 36 8) 37 8) 38 8) 39 8) 40 8) 41 8) 42 8) 43 8) 44 8) 45 8) 46 8) 47 8) 48 8) 49 8) 50 8) 52 4) 53 4) 54 4) 56 40) 57 40) 58 40) 17 1
set_option maxRecDepth 20000 in
theorem Sf_2 (xs : Nat → Int32) (L : Nat) (d : Int32) : (Sf xs L d).2 = cnB xs L := rfl
theorem cn_ne (xs : Nat → Int32) (L t : Nat) (h3 : ¬ t = 3) (h7 : ¬ t = 7) (h8 : ¬ t = 8) (h12 : ¬ t = 12) (h13 : ¬ t = 13) (h14 : ¬ t = 14) (h15 : ¬ t = 15) (h16 : ¬ t = 16) (h17 : ¬ t = 17) (h27 : ¬ t = 27) (h28 : ¬ t = 28) (h29 : ¬ t = 29) (h30 : ¬ t = 30) (h31 : ¬ t = 31) (h32 : ¬ t = 32) (h33 : ¬ t = 33) (h34 : ¬ t = 34) (h35 : ¬ t = 35) (h36 : ¬ t = 36) (h37 : ¬ t = 37) (h38 : ¬ t = 38) (h39 : ¬ t = 39) (h40 : ¬ t = 40) (h41 : ¬ t = 41) (h42 : ¬ t = 42) (h43 : ¬ t = 43) (h44 : ¬ t = 44) (h45 : ¬ t = 45) (h46 : ¬ t = 46) (h47 : ¬ t = 47) (h48 : ¬ t = 48) (h49 : ¬ t = 49) (h50 : ¬ t = 50) (h52 : ¬ t = 52) (h53 : ¬ t = 53) (h54 : ¬ t = 54) (h56 : ¬ t = 56) (h57 : ¬ t = 57) (h58 : ¬ t = 58) (h100 : ¬ t = 100) (h101 : ¬ t = 101) : cnB xs L t = (S0 xs L).2 t := by
  unfold cnB
  rw [bump_ne h17 h100 h101, bump_ne h58 h100 h101, bump_ne h57 h100 h101, bump_ne h56 h100 h101, bump_ne h54 h100 h101, bump_ne h53 h100 h101, bump_ne h52 h100 h101, bump_ne h50 h100 h101, bump_ne h49 h100 h101, bump_ne h48 h100 h101, bump_ne h47 h100 h101, bump_ne h46 h100 h101, bump_ne h45 h100 h101, bump_ne h44 h100 h101, bump_ne h43 h100 h101, bump_ne h42 h100 h101, bump_ne h41 h100 h101, bump_ne h40 h100 h101, bump_ne h39 h100 h101, bump_ne h38 h100 h101, bump_ne h37 h100 h101, bump_ne h36 h100 h101, bump_ne h35 h100 h101, bump_ne h34 h100 h101, bump_ne h33 h100 h101, bump_ne h32 h100 h101, bump_ne h31 h100 h101, bump_ne h30 h100 h101, bump_ne h29 h100 h101, bump_ne h28 h100 h101, bump_ne h27 h100 h101, bump_ne h8 h100 h101, bump_ne h14 h100 h101, bump_ne h13 h100 h101, bump_ne h12 h100 h101, bump_ne h3 h100 h101, bump_ne h16 h100 h101, bump_ne h15 h100 h101, bump_ne h7 h100 h101]
theorem cn_7 (xs : Nat → Int32) (L : Nat) : cnB xs L 7 = 1 := by
  unfold cnB
  rw [bump_ne (by decide) (by decide) (by decide), bump_ne (by decide) (by decide) (by decide), bump_ne (by decide) (by decide) (by decide), bump_ne (by decide) (by decide) (by decide), bump_ne (by decide) (by decide) (by decide), bump_ne (by decide) (by decide) (by decide), bump_ne (by decide) (by decide) (by decide), bump_ne (by decide) (by decide) (by decide), bump_ne (by decide) (by decide) (by decide), bump_ne (by decide) (by decide) (by decide), bump_ne (by decide) (by decide) (by decide), bump_ne (by decide) (by decide) (by decide), bump_ne (by decide) (by decide) (by decide), bump_ne (by decide) (by decide) (by decide), bump_ne (by decide) (by decide) (by decide), bump_ne (by decide) (by decide) (by decide), bump_ne (by decide) (by decide) (by decide), bump_ne (by decide) (by decide) (by decide), bump_ne (by decide) (by decide) (by decide), bump_ne (by decide) (by decide) (by decide), bump_ne (by decide) (by decide) (by decide), bump_ne (by decide) (by decide) (by decide), bump_ne (by decide) (by decide) (by decide), bump_ne (by decide) (by decide) (by decide), bump_ne (by decide) (by decide) (by decide), bump_ne (by decide) (by decide) (by decide), bump_ne (by decide) (by decide) (by decide), bump_ne (by decide) (by decide) (by decide), bump_ne (by decide) (by decide) (by decide), bump_ne (by decide) (by decide) (by decide), bump_ne (by decide) (by decide) (by decide), bump_ne (by decide) (by decide) (by decide), bump_ne (by decide) (by decide) (by decide), bump_ne (by decide) (by decide) (by decide), bump_ne (by decide) (by decide) (by decide), bump_ne (by decide) (by decide) (by decide), bump_ne (by decide) (by decide) (by decide), bump_ne (by decide) (by decide) (by decide), bump_eq]
  rfl
theorem cn_15 (xs : Nat → Int32) (L : Nat) : cnB xs L 15 = 1 := by
  unfold cnB
  rw [bump_ne (by decide) (by decide) (by decide), bump_ne (by decide) (by decide) (by decide), bump_ne (by decide) (by decide) (by decide), bump_ne (by decide) (by decide) (by decide), bump_ne (by decide) (by decide) (by decide), bump_ne (by decide) (by decide) (by decide), bump_ne (by decide) (by decide) (by decide), bump_ne (by decide) (by decide) (by decide), bump_ne (by decide) (by decide) (by decide), bump_ne (by decide) (by decide) (by decide), bump_ne (by decide) (by decide) (by decide), bump_ne (by decide) (by decide) (by decide), bump_ne (by decide) (by decide) (by decide), bump_ne (by decide) (by decide) (by decide), bump_ne (by decide) (by decide) (by decide), bump_ne (by decide) (by decide) (by decide), bump_ne (by decide) (by decide) (by decide), bump_ne (by decide) (by decide) (by decide), bump_ne (by decide) (by decide) (by decide), bump_ne (by decide) (by decide) (by decide), bump_ne (by decide) (by decide) (by decide), bump_ne (by decide) (by decide) (by decide), bump_ne (by decide) (by decide) (by decide), bump_ne (by decide) (by decide) (by decide), bump_ne (by decide) (by decide) (by decide), bump_ne (by decide) (by decide) (by decide), bump_ne (by decide) (by decide) (by decide), bump_ne (by decide) (by decide) (by decide), bump_ne (by decide) (by decide) (by decide), bump_ne (by decide) (by decide) (by decide), bump_ne (by decide) (by decide) (by decide), bump_ne (by decide) (by decide) (by decide), bump_ne (by decide) (by decide) (by decide), bump_ne (by decide) (by decide) (by decide), bump_ne (by decide) (by decide) (by decide), bump_ne (by decide) (by decide) (by decide), bump_ne (by decide) (by decide) (by decide), bump_eq, bump_ne (by decide) (by decide) (by decide)]
  rfl
theorem cn_16 (xs : Nat → Int32) (L : Nat) : cnB xs L 16 = 1 := by
  unfold cnB
  rw [bump_ne (by decide) (by decide) (by decide), bump_ne (by decide) (by decide) (by decide), bump_ne (by decide) (by decide) (by decide), bump_ne (by decide) (by decide) (by decide), bump_ne (by decide) (by decide) (by decide), bump_ne (by decide) (by decide) (by decide), bump_ne (by decide) (by decide) (by decide), bump_ne (by decide) (by decide) (by decide), bump_ne (by decide) (by decide) (by decide), bump_ne (by decide) (by decide) (by decide), bump_ne (by decide) (by decide) (by decide), bump_ne (by decide) (by decide) (by decide), bump_ne (by decide) (by decide) (by decide), bump_ne (by decide) (by decide) (by decide), bump_ne (by decide) (by decide) (by decide), bump_ne (by decide) (by decide) (by decide), bump_ne (by decide) (by decide) (by decide), bump_ne (by decide) (by decide) (by decide), bump_ne (by decide) (by decide) (by decide), bump_ne (by decide) (by decide) (by decide), bump_ne (by decide) (by decide) (by decide), bump_ne (by decide) (by decide) (by decide), bump_ne (by decide) (by decide) (by decide), bump_ne (by decide) (by decide) (by decide), bump_ne (by decide) (by decide) (by decide), bump_ne (by decide) (by decide) (by decide), bump_ne (by decide) (by decide) (by decide), bump_ne (by decide) (by decide) (by decide), bump_ne (by decide) (by decide) (by decide), bump_ne (by decide) (by decide) (by decide), bump_ne (by decide) (by decide) (by decide), bump_ne (by decide) (by decide) (by decide), bump_ne (by decide) (by decide) (by decide), bump_ne (by decide) (by decide) (by decide), bump_ne (by decide) (by decide) (by decide), bump_ne (by decide) (by decide) (by decide), bump_eq, bump_ne (by decide) (by decide) (by decide), bump_ne (by decide) (by decide) (by decide)]
  rfl
theorem cn_3 (xs : Nat → Int32) (L : Nat) : cnB xs L 3 = 1 := by
  unfold cnB
  rw [bump_ne (by decide) (by decide) (by decide), bump_ne (by decide) (by decide) (by decide), bump_ne (by decide) (by decide) (by decide), bump_ne (by decide) (by decide) (by decide), bump_ne (by decide) (by decide) (by decide), bump_ne (by decide) (by decide) (by decide), bump_ne (by decide) (by decide) (by decide), bump_ne (by decide) (by decide) (by decide), bump_ne (by decide) (by decide) (by decide), bump_ne (by decide) (by decide) (by decide), bump_ne (by decide) (by decide) (by decide), bump_ne (by decide) (by decide) (by decide), bump_ne (by decide) (by decide) (by decide), bump_ne (by decide) (by decide) (by decide), bump_ne (by decide) (by decide) (by decide), bump_ne (by decide) (by decide) (by decide), bump_ne (by decide) (by decide) (by decide), bump_ne (by decide) (by decide) (by decide), bump_ne (by decide) (by decide) (by decide), bump_ne (by decide) (by decide) (by decide), bump_ne (by decide) (by decide) (by decide), bump_ne (by decide) (by decide) (by decide), bump_ne (by decide) (by decide) (by decide), bump_ne (by decide) (by decide) (by decide), bump_ne (by decide) (by decide) (by decide), bump_ne (by decide) (by decide) (by decide), bump_ne (by decide) (by decide) (by decide), bump_ne (by decide) (by decide) (by decide), bump_ne (by decide) (by decide) (by decide), bump_ne (by decide) (by decide) (by decide), bump_ne (by decide) (by decide) (by decide), bump_ne (by decide) (by decide) (by decide), bump_ne (by decide) (by decide) (by decide), bump_ne (by decide) (by decide) (by decide), bump_ne (by decide) (by decide) (by decide), bump_eq, bump_ne (by decide) (by decide) (by decide), bump_ne (by decide) (by decide) (by decide), bump_ne (by decide) (by decide) (by decide)]
  rfl
theorem cn_12 (xs : Nat → Int32) (L : Nat) : cnB xs L 12 = 1 := by
  unfold cnB
  rw [bump_ne (by decide) (by decide) (by decide), bump_ne (by decide) (by decide) (by decide), bump_ne (by decide) (by decide) (by decide), bump_ne (by decide) (by decide) (by decide), bump_ne (by decide) (by decide) (by decide), bump_ne (by decide) (by decide) (by decide), bump_ne (by decide) (by decide) (by decide), bump_ne (by decide) (by decide) (by decide), bump_ne (by decide) (by decide) (by decide), bump_ne (by decide) (by decide) (by decide), bump_ne (by decide) (by decide) (by decide), bump_ne (by decide) (by decide) (by decide), bump_ne (by decide) (by decide) (by decide), bump_ne (by decide) (by decide) (by decide), bump_ne (by decide) (by decide) (by decide), bump_ne (by decide) (by decide) (by decide), bump_ne (by decide) (by decide) (by decide), bump_ne (by decide) (by decide) (by decide), bump_ne (by decide) (by decide) (by decide), bump_ne (by decide) (by decide) (by decide), bump_ne (by decide) (by decide) (by decide), bump_ne (by decide) (by decide) (by decide), bump_ne (by decide) (by decide) (by decide), bump_ne (by decide) (by decide) (by decide), bump_ne (by decide) (by decide) (by decide), bump_ne (by decide) (by decide) (by decide), bump_ne (by decide) (by decide) (by decide), bump_ne (by decide) (by decide) (by decide), bump_ne (by decide) (by decide) (by decide), bump_ne (by decide) (by decide) (by decide), bump_ne (by decide) (by decide) (by decide), bump_ne (by decide) (by decide) (by decide), bump_ne (by decide) (by decide) (by decide), bump_ne (by decide) (by decide) (by decide), bump_eq, bump_ne (by decide) (by decide) (by decide), bump_ne (by decide) (by decide) (by decide), bump_ne (by decide) (by decide) (by decide), bump_ne (by decide) (by decide) (by decide)]
  rfl
theorem cn_13 (xs : Nat → Int32) (L : Nat) : cnB xs L 13 = 1 := by
  unfold cnB
  rw [bump_ne (by decide) (by decide) (by decide), bump_ne (by decide) (by decide) (by decide), bump_ne (by decide) (by decide) (by decide), bump_ne (by decide) (by decide) (by decide), bump_ne (by decide) (by decide) (by decide), bump_ne (by decide) (by decide) (by decide), bump_ne (by decide) (by decide) (by decide), bump_ne (by decide) (by decide) (by decide), bump_ne (by decide) (by decide) (by decide), bump_ne (by decide) (by decide) (by decide), bump_ne (by decide) (by decide) (by decide), bump_ne (by decide) (by decide) (by decide), bump_ne (by decide) (by decide) (by decide), bump_ne (by decide) (by decide) (by decide), bump_ne (by decide) (by decide) (by decide), bump_ne (by decide) (by decide) (by decide), bump_ne (by decide) (by decide) (by decide), bump_ne (by decide) (by decide) (by decide), bump_ne (by decide) (by decide) (by decide), bump_ne (by decide) (by decide) (by decide), bump_ne (by decide) (by decide) (by decide), bump_ne (by decide) (by decide) (by decide), bump_ne (by decide) (by decide) (by decide), bump_ne (by decide) (by decide) (by decide), bump_ne (by decide) (by decide) (by decide), bump_ne (by decide) (by decide) (by decide), bump_ne (by decide) (by decide) (by decide), bump_ne (by decide) (by decide) (by decide), bump_ne (by decide) (by decide) (by decide), bump_ne (by decide) (by decide) (by decide), bump_ne (by decide) (by decide) (by decide), bump_ne (by decide) (by decide) (by decide), bump_ne (by decide) (by decide) (by decide), bump_eq, bump_ne (by decide) (by decide) (by decide), bump_ne (by decide) (by decide) (by decide), bump_ne (by decide) (by decide) (by decide), bump_ne (by decide) (by decide) (by decide), bump_ne (by decide) (by decide) (by decide)]
  rfl
theorem cn_14 (xs : Nat → Int32) (L : Nat) : cnB xs L 14 = 1 := by
  unfold cnB
  rw [bump_ne (by decide) (by decide) (by decide), bump_ne (by decide) (by decide) (by decide), bump_ne (by decide) (by decide) (by decide), bump_ne (by decide) (by decide) (by decide), bump_ne (by decide) (by decide) (by decide), bump_ne (by decide) (by decide) (by decide), bump_ne (by decide) (by decide) (by decide), bump_ne (by decide) (by decide) (by decide), bump_ne (by decide) (by decide) (by decide), bump_ne (by decide) (by decide) (by decide), bump_ne (by decide) (by decide) (by decide), bump_ne (by decide) (by decide) (by decide), bump_ne (by decide) (by decide) (by decide), bump_ne (by decide) (by decide) (by decide), bump_ne (by decide) (by decide) (by decide), bump_ne (by decide) (by decide) (by decide), bump_ne (by decide) (by decide) (by decide), bump_ne (by decide) (by decide) (by decide), bump_ne (by decide) (by decide) (by decide), bump_ne (by decide) (by decide) (by decide), bump_ne (by decide) (by decide) (by decide), bump_ne (by decide) (by decide) (by decide), bump_ne (by decide) (by decide) (by decide), bump_ne (by decide) (by decide) (by decide), bump_ne (by decide) (by decide) (by decide), bump_ne (by decide) (by decide) (by decide), bump_ne (by decide) (by decide) (by decide), bump_ne (by decide) (by decide) (by decide), bump_ne (by decide) (by decide) (by decide), bump_ne (by decide) (by decide) (by decide), bump_ne (by decide) (by decide) (by decide), bump_ne (by decide) (by decide) (by decide), bump_eq, bump_ne (by decide) (by decide) (by decide), bump_ne (by decide) (by decide) (by decide), bump_ne (by decide) (by decide) (by decide), bump_ne (by decide) (by decide) (by decide), bump_ne (by decide) (by decide) (by decide), bump_ne (by decide) (by decide) (by decide)]
  rfl
theorem cn_8 (xs : Nat → Int32) (L : Nat) : cnB xs L 8 = 1 := by
  unfold cnB
  rw [bump_ne (by decide) (by decide) (by decide), bump_ne (by decide) (by decide) (by decide), bump_ne (by decide) (by decide) (by decide), bump_ne (by decide) (by decide) (by decide), bump_ne (by decide) (by decide) (by decide), bump_ne (by decide) (by decide) (by decide), bump_ne (by decide) (by decide) (by decide), bump_ne (by decide) (by decide) (by decide), bump_ne (by decide) (by decide) (by decide), bump_ne (by decide) (by decide) (by decide), bump_ne (by decide) (by decide) (by decide), bump_ne (by decide) (by decide) (by decide), bump_ne (by decide) (by decide) (by decide), bump_ne (by decide) (by decide) (by decide), bump_ne (by decide) (by decide) (by decide), bump_ne (by decide) (by decide) (by decide), bump_ne (by decide) (by decide) (by decide), bump_ne (by decide) (by decide) (by decide), bump_ne (by decide) (by decide) (by decide), bump_ne (by decide) (by decide) (by decide), bump_ne (by decide) (by decide) (by decide), bump_ne (by decide) (by decide) (by decide), bump_ne (by decide) (by decide) (by decide), bump_ne (by decide) (by decide) (by decide), bump_ne (by decide) (by decide) (by decide), bump_ne (by decide) (by decide) (by decide), bump_ne (by decide) (by decide) (by decide), bump_ne (by decide) (by decide) (by decide), bump_ne (by decide) (by decide) (by decide), bump_ne (by decide) (by decide) (by decide), bump_ne (by decide) (by decide) (by decide), bump_eq, bump_ne (by decide) (by decide) (by decide), bump_ne (by decide) (by decide) (by decide), bump_ne (by decide) (by decide) (by decide), bump_ne (by decide) (by decide) (by decide), bump_ne (by decide) (by decide) (by decide), bump_ne (by decide) (by decide) (by decide), bump_ne (by decide) (by decide) (by decide)]
  rfl
theorem cn_27 (xs : Nat → Int32) (L : Nat) : cnB xs L 27 = 1 := by
  unfold cnB
  rw [bump_ne (by decide) (by decide) (by decide), bump_ne (by decide) (by decide) (by decide), bump_ne (by decide) (by decide) (by decide), bump_ne (by decide) (by decide) (by decide), bump_ne (by decide) (by decide) (by decide), bump_ne (by decide) (by decide) (by decide), bump_ne (by decide) (by decide) (by decide), bump_ne (by decide) (by decide) (by decide), bump_ne (by decide) (by decide) (by decide), bump_ne (by decide) (by decide) (by decide), bump_ne (by decide) (by decide) (by decide), bump_ne (by decide) (by decide) (by decide), bump_ne (by decide) (by decide) (by decide), bump_ne (by decide) (by decide) (by decide), bump_ne (by decide) (by decide) (by decide), bump_ne (by decide) (by decide) (by decide), bump_ne (by decide) (by decide) (by decide), bump_ne (by decide) (by decide) (by decide), bump_ne (by decide) (by decide) (by decide), bump_ne (by decide) (by decide) (by decide), bump_ne (by decide) (by decide) (by decide), bump_ne (by decide) (by decide) (by decide), bump_ne (by decide) (by decide) (by decide), bump_ne (by decide) (by decide) (by decide), bump_ne (by decide) (by decide) (by decide), bump_ne (by decide) (by decide) (by decide), bump_ne (by decide) (by decide) (by decide), bump_ne (by decide) (by decide) (by decide), bump_ne (by decide) (by decide) (by decide), bump_ne (by decide) (by decide) (by decide), bump_eq, bump_ne (by decide) (by decide) (by decide), bump_ne (by decide) (by decide) (by decide), bump_ne (by decide) (by decide) (by decide), bump_ne (by decide) (by decide) (by decide), bump_ne (by decide) (by decide) (by decide), bump_ne (by decide) (by decide) (by decide), bump_ne (by decide) (by decide) (by decide), bump_ne (by decide) (by decide) (by decide)]
  rfl
theorem cn_28 (xs : Nat → Int32) (L : Nat) : cnB xs L 28 = 1 := by
  unfold cnB
  rw [bump_ne (by decide) (by decide) (by decide), bump_ne (by decide) (by decide) (by decide), bump_ne (by decide) (by decide) (by decide), bump_ne (by decide) (by decide) (by decide), bump_ne (by decide) (by decide) (by decide), bump_ne (by decide) (by decide) (by decide), bump_ne (by decide) (by decide) (by decide), bump_ne (by decide) (by decide) (by decide), bump_ne (by decide) (by decide) (by decide), bump_ne (by decide) (by decide) (by decide), bump_ne (by decide) (by decide) (by decide), bump_ne (by decide) (by decide) (by decide), bump_ne (by decide) (by decide) (by decide), bump_ne (by decide) (by decide) (by decide), bump_ne (by decide) (by decide) (by decide), bump_ne (by decide) (by decide) (by decide), bump_ne (by decide) (by decide) (by decide), bump_ne (by decide) (by decide) (by decide), bump_ne (by decide) (by decide) (by decide), bump_ne (by decide) (by decide) (by decide), bump_ne (by decide) (by decide) (by decide), bump_ne (by decide) (by decide) (by decide), bump_ne (by decide) (by decide) (by decide), bump_ne (by decide) (by decide) (by decide), bump_ne (by decide) (by decide) (by decide), bump_ne (by decide) (by decide) (by decide), bump_ne (by decide) (by decide) (by decide), bump_ne (by decide) (by decide) (by decide), bump_ne (by decide) (by decide) (by decide), bump_eq, bump_ne (by decide) (by decide) (by decide), bump_ne (by decide) (by decide) (by decide), bump_ne (by decide) (by decide) (by decide), bump_ne (by decide) (by decide) (by decide), bump_ne (by decide) (by decide) (by decide), bump_ne (by decide) (by decide) (by decide), bump_ne (by decide) (by decide) (by decide), bump_ne (by decide) (by decide) (by decide), bump_ne (by decide) (by decide) (by decide)]
  rfl
theorem cn_29 (xs : Nat → Int32) (L : Nat) : cnB xs L 29 = 1 := by
  unfold cnB
  rw [bump_ne (by decide) (by decide) (by decide), bump_ne (by decide) (by decide) (by decide), bump_ne (by decide) (by decide) (by decide), bump_ne (by decide) (by decide) (by decide), bump_ne (by decide) (by decide) (by decide), bump_ne (by decide) (by decide) (by decide), bump_ne (by decide) (by decide) (by decide), bump_ne (by decide) (by decide) (by decide), bump_ne (by decide) (by decide) (by decide), bump_ne (by decide) (by decide) (by decide), bump_ne (by decide) (by decide) (by decide), bump_ne (by decide) (by decide) (by decide), bump_ne (by decide) (by decide) (by decide), bump_ne (by decide) (by decide) (by decide), bump_ne (by decide) (by decide) (by decide), bump_ne (by decide) (by decide) (by decide), bump_ne (by decide) (by decide) (by decide), bump_ne (by decide) (by decide) (by decide), bump_ne (by decide) (by decide) (by decide), bump_ne (by decide) (by decide) (by decide), bump_ne (by decide) (by decide) (by decide), bump_ne (by decide) (by decide) (by decide), bump_ne (by decide) (by decide) (by decide), bump_ne (by decide) (by decide) (by decide), bump_ne (by decide) (by decide) (by decide), bump_ne (by decide) (by decide) (by decide), bump_ne (by decide) (by decide) (by decide), bump_ne (by decide) (by decide) (by decide), bump_eq, bump_ne (by decide) (by decide) (by decide), bump_ne (by decide) (by decide) (by decide), bump_ne (by decide) (by decide) (by decide), bump_ne (by decide) (by decide) (by decide), bump_ne (by decide) (by decide) (by decide), bump_ne (by decide) (by decide) (by decide), bump_ne (by decide) (by decide) (by decide), bump_ne (by decide) (by decide) (by decide), bump_ne (by decide) (by decide) (by decide), bump_ne (by decide) (by decide) (by decide)]
  rfl
theorem cn_30 (xs : Nat → Int32) (L : Nat) : cnB xs L 30 = 1 := by
  unfold cnB
  rw [bump_ne (by decide) (by decide) (by decide), bump_ne (by decide) (by decide) (by decide), bump_ne (by decide) (by decide) (by decide), bump_ne (by decide) (by decide) (by decide), bump_ne (by decide) (by decide) (by decide), bump_ne (by decide) (by decide) (by decide), bump_ne (by decide) (by decide) (by decide), bump_ne (by decide) (by decide) (by decide), bump_ne (by decide) (by decide) (by decide), bump_ne (by decide) (by decide) (by decide), bump_ne (by decide) (by decide) (by decide), bump_ne (by decide) (by decide) (by decide), bump_ne (by decide) (by decide) (by decide), bump_ne (by decide) (by decide) (by decide), bump_ne (by decide) (by decide) (by decide), bump_ne (by decide) (by decide) (by decide), bump_ne (by decide) (by decide) (by decide), bump_ne (by decide) (by decide) (by decide), bump_ne (by decide) (by decide) (by decide), bump_ne (by decide) (by decide) (by decide), bump_ne (by decide) (by decide) (by decide), bump_ne (by decide) (by decide) (by decide), bump_ne (by decide) (by decide) (by decide), bump_ne (by decide) (by decide) (by decide), bump_ne (by decide) (by decide) (by decide), bump_ne (by decide) (by decide) (by decide), bump_ne (by decide) (by decide) (by decide), bump_eq, bump_ne (by decide) (by decide) (by decide), bump_ne (by decide) (by decide) (by decide), bump_ne (by decide) (by decide) (by decide), bump_ne (by decide) (by decide) (by decide), bump_ne (by decide) (by decide) (by decide), bump_ne (by decide) (by decide) (by decide), bump_ne (by decide) (by decide) (by decide), bump_ne (by decide) (by decide) (by decide), bump_ne (by decide) (by decide) (by decide), bump_ne (by decide) (by decide) (by decide), bump_ne (by decide) (by decide) (by decide)]
  rfl
theorem cn_31 (xs : Nat → Int32) (L : Nat) : cnB xs L 31 = 1 := by
  unfold cnB
  rw [bump_ne (by decide) (by decide) (by decide), bump_ne (by decide) (by decide) (by decide), bump_ne (by decide) (by decide) (by decide), bump_ne (by decide) (by decide) (by decide), bump_ne (by decide) (by decide) (by decide), bump_ne (by decide) (by decide) (by decide), bump_ne (by decide) (by decide) (by decide), bump_ne (by decide) (by decide) (by decide), bump_ne (by decide) (by decide) (by decide), bump_ne (by decide) (by decide) (by decide), bump_ne (by decide) (by decide) (by decide), bump_ne (by decide) (by decide) (by decide), bump_ne (by decide) (by decide) (by decide), bump_ne (by decide) (by decide) (by decide), bump_ne (by decide) (by decide) (by decide), bump_ne (by decide) (by decide) (by decide), bump_ne (by decide) (by decide) (by decide), bump_ne (by decide) (by decide) (by decide), bump_ne (by decide) (by decide) (by decide), bump_ne (by decide) (by decide) (by decide), bump_ne (by decide) (by decide) (by decide), bump_ne (by decide) (by decide) (by decide), bump_ne (by decide) (by decide) (by decide), bump_ne (by decide) (by decide) (by decide), bump_ne (by decide) (by decide) (by decide), bump_ne (by decide) (by decide) (by decide), bump_eq, bump_ne (by decide) (by decide) (by decide), bump_ne (by decide) (by decide) (by decide), bump_ne (by decide) (by decide) (by decide), bump_ne (by decide) (by decide) (by decide), bump_ne (by decide) (by decide) (by decide), bump_ne (by decide) (by decide) (by decide), bump_ne (by decide) (by decide) (by decide), bump_ne (by decide) (by decide) (by decide), bump_ne (by decide) (by decide) (by decide), bump_ne (by decide) (by decide) (by decide), bump_ne (by decide) (by decide) (by decide), bump_ne (by decide) (by decide) (by decide)]
  rfl
theorem cn_32 (xs : Nat → Int32) (L : Nat) : cnB xs L 32 = 1 := by
  unfold cnB
  rw [bump_ne (by decide) (by decide) (by decide), bump_ne (by decide) (by decide) (by decide), bump_ne (by decide) (by decide) (by decide), bump_ne (by decide) (by decide) (by decide), bump_ne (by decide) (by decide) (by decide), bump_ne (by decide) (by decide) (by decide), bump_ne (by decide) (by decide) (by decide), bump_ne (by decide) (by decide) (by decide), bump_ne (by decide) (by decide) (by decide), bump_ne (by decide) (by decide) (by decide), bump_ne (by decide) (by decide) (by decide), bump_ne (by decide) (by decide) (by decide), bump_ne (by decide) (by decide) (by decide), bump_ne (by decide) (by decide) (by decide), bump_ne (by decide) (by decide) (by decide), bump_ne (by decide) (by decide) (by decide), bump_ne (by decide) (by decide) (by decide), bump_ne (by decide) (by decide) (by decide), bump_ne (by decide) (by decide) (by decide), bump_ne (by decide) (by decide) (by decide), bump_ne (by decide) (by decide) (by decide), bump_ne (by decide) (by decide) (by decide), bump_ne (by decide) (by decide) (by decide), bump_ne (by decide) (by decide) (by decide), bump_ne (by decide) (by decide) (by decide), bump_eq, bump_ne (by decide) (by decide) (by decide), bump_ne (by decide) (by decide) (by decide), bump_ne (by decide) (by decide) (by decide), bump_ne (by decide) (by decide) (by decide), bump_ne (by decide) (by decide) (by decide), bump_ne (by decide) (by decide) (by decide), bump_ne (by decide) (by decide) (by decide), bump_ne (by decide) (by decide) (by decide), bump_ne (by decide) (by decide) (by decide), bump_ne (by decide) (by decide) (by decide), bump_ne (by decide) (by decide) (by decide), bump_ne (by decide) (by decide) (by decide), bump_ne (by decide) (by decide) (by decide)]
  rfl
theorem cn_33 (xs : Nat → Int32) (L : Nat) : cnB xs L 33 = 1 := by
  unfold cnB
  rw [bump_ne (by decide) (by decide) (by decide), bump_ne (by decide) (by decide) (by decide), bump_ne (by decide) (by decide) (by decide), bump_ne (by decide) (by decide) (by decide), bump_ne (by decide) (by decide) (by decide), bump_ne (by decide) (by decide) (by decide), bump_ne (by decide) (by decide) (by decide), bump_ne (by decide) (by decide) (by decide), bump_ne (by decide) (by decide) (by decide), bump_ne (by decide) (by decide) (by decide), bump_ne (by decide) (by decide) (by decide), bump_ne (by decide) (by decide) (by decide), bump_ne (by decide) (by decide) (by decide), bump_ne (by decide) (by decide) (by decide), bump_ne (by decide) (by decide) (by decide), bump_ne (by decide) (by decide) (by decide), bump_ne (by decide) (by decide) (by decide), bump_ne (by decide) (by decide) (by decide), bump_ne (by decide) (by decide) (by decide), bump_ne (by decide) (by decide) (by decide), bump_ne (by decide) (by decide) (by decide), bump_ne (by decide) (by decide) (by decide), bump_ne (by decide) (by decide) (by decide), bump_ne (by decide) (by decide) (by decide), bump_eq, bump_ne (by decide) (by decide) (by decide), bump_ne (by decide) (by decide) (by decide), bump_ne (by decide) (by decide) (by decide), bump_ne (by decide) (by decide) (by decide), bump_ne (by decide) (by decide) (by decide), bump_ne (by decide) (by decide) (by decide), bump_ne (by decide) (by decide) (by decide), bump_ne (by decide) (by decide) (by decide), bump_ne (by decide) (by decide) (by decide), bump_ne (by decide) (by decide) (by decide), bump_ne (by decide) (by decide) (by decide), bump_ne (by decide) (by decide) (by decide), bump_ne (by decide) (by decide) (by decide), bump_ne (by decide) (by decide) (by decide)]
  rfl
theorem cn_34 (xs : Nat → Int32) (L : Nat) : cnB xs L 34 = 1 := by
  unfold cnB
  rw [bump_ne (by decide) (by decide) (by decide), bump_ne (by decide) (by decide) (by decide), bump_ne (by decide) (by decide) (by decide), bump_ne (by decide) (by decide) (by decide), bump_ne (by decide) (by decide) (by decide), bump_ne (by decide) (by decide) (by decide), bump_ne (by decide) (by decide) (by decide), bump_ne (by decide) (by decide) (by decide), bump_ne (by decide) (by decide) (by decide), bump_ne (by decide) (by decide) (by decide), bump_ne (by decide) (by decide) (by decide), bump_ne (by decide) (by decide) (by decide), bump_ne (by decide) (by decide) (by decide), bump_ne (by decide) (by decide) (by decide), bump_ne (by decide) (by decide) (by decide), bump_ne (by decide) (by decide) (by decide), bump_ne (by decide) (by decide) (by decide), bump_ne (by decide) (by decide) (by decide), bump_ne (by decide) (by decide) (by decide), bump_ne (by decide) (by decide) (by decide), bump_ne (by decide) (by decide) (by decide), bump_ne (by decide) (by decide) (by decide), bump_ne (by decide) (by decide) (by decide), bump_eq, bump_ne (by decide) (by decide) (by decide), bump_ne (by decide) (by decide) (by decide), bump_ne (by decide) (by decide) (by decide), bump_ne (by decide) (by decide) (by decide), bump_ne (by decide) (by decide) (by decide), bump_ne (by decide) (by decide) (by decide), bump_ne (by decide) (by decide) (by decide), bump_ne (by decide) (by decide) (by decide), bump_ne (by decide) (by decide) (by decide), bump_ne (by decide) (by decide) (by decide), bump_ne (by decide) (by decide) (by decide), bump_ne (by decide) (by decide) (by decide), bump_ne (by decide) (by decide) (by decide), bump_ne (by decide) (by decide) (by decide), bump_ne (by decide) (by decide) (by decide)]
  rfl
theorem cn_35 (xs : Nat → Int32) (L : Nat) : cnB xs L 35 = 1 := by
  unfold cnB
  rw [bump_ne (by decide) (by decide) (by decide), bump_ne (by decide) (by decide) (by decide), bump_ne (by decide) (by decide) (by decide), bump_ne (by decide) (by decide) (by decide), bump_ne (by decide) (by decide) (by decide), bump_ne (by decide) (by decide) (by decide), bump_ne (by decide) (by decide) (by decide), bump_ne (by decide) (by decide) (by decide), bump_ne (by decide) (by decide) (by decide), bump_ne (by decide) (by decide) (by decide), bump_ne (by decide) (by decide) (by decide), bump_ne (by decide) (by decide) (by decide), bump_ne (by decide) (by decide) (by decide), bump_ne (by decide) (by decide) (by decide), bump_ne (by decide) (by decide) (by decide), bump_ne (by decide) (by decide) (by decide), bump_ne (by decide) (by decide) (by decide), bump_ne (by decide) (by decide) (by decide), bump_ne (by decide) (by decide) (by decide), bump_ne (by decide) (by decide) (by decide), bump_ne (by decide) (by decide) (by decide), bump_ne (by decide) (by decide) (by decide), bump_eq, bump_ne (by decide) (by decide) (by decide), bump_ne (by decide) (by decide) (by decide), bump_ne (by decide) (by decide) (by decide), bump_ne (by decide) (by decide) (by decide), bump_ne (by decide) (by decide) (by decide), bump_ne (by decide) (by decide) (by decide), bump_ne (by decide) (by decide) (by decide), bump_ne (by decide) (by decide) (by decide), bump_ne (by decide) (by decide) (by decide), bump_ne (by decide) (by decide) (by decide), bump_ne (by decide) (by decide) (by decide), bump_ne (by decide) (by decide) (by decide), bump_ne (by decide) (by decide) (by decide), bump_ne (by decide) (by decide) (by decide), bump_ne (by decide) (by decide) (by decide), bump_ne (by decide) (by decide) (by decide)]
  rfl
theorem cn_36 (xs : Nat → Int32) (L : Nat) : cnB xs L 36 = 1 := by
  unfold cnB
  rw [bump_ne (by decide) (by decide) (by decide), bump_ne (by decide) (by decide) (by decide), bump_ne (by decide) (by decide) (by decide), bump_ne (by decide) (by decide) (by decide), bump_ne (by decide) (by decide) (by decide), bump_ne (by decide) (by decide) (by decide), bump_ne (by decide) (by decide) (by decide), bump_ne (by decide) (by decide) (by decide), bump_ne (by decide) (by decide) (by decide), bump_ne (by decide) (by decide) (by decide), bump_ne (by decide) (by decide) (by decide), bump_ne (by decide) (by decide) (by decide), bump_ne (by decide) (by decide) (by decide), bump_ne (by decide) (by decide) (by decide), bump_ne (by decide) (by decide) (by decide), bump_ne (by decide) (by decide) (by decide), bump_ne (by decide) (by decide) (by decide), bump_ne (by decide) (by decide) (by decide), bump_ne (by decide) (by decide) (by decide), bump_ne (by decide) (by decide) (by decide), bump_ne (by decide) (by decide) (by decide), bump_eq, bump_ne (by decide) (by decide) (by decide), bump_ne (by decide) (by decide) (by decide), bump_ne (by decide) (by decide) (by decide), bump_ne (by decide) (by decide) (by decide), bump_ne (by decide) (by decide) (by decide), bump_ne (by decide) (by decide) (by decide), bump_ne (by decide) (by decide) (by decide), bump_ne (by decide) (by decide) (by decide), bump_ne (by decide) (by decide) (by decide), bump_ne (by decide) (by decide) (by decide), bump_ne (by decide) (by decide) (by decide), bump_ne (by decide) (by decide) (by decide), bump_ne (by decide) (by decide) (by decide), bump_ne (by decide) (by decide) (by decide), bump_ne (by decide) (by decide) (by decide), bump_ne (by decide) (by decide) (by decide), bump_ne (by decide) (by decide) (by decide)]
  rfl
theorem cn_37 (xs : Nat → Int32) (L : Nat) : cnB xs L 37 = 1 := by
  unfold cnB
  rw [bump_ne (by decide) (by decide) (by decide), bump_ne (by decide) (by decide) (by decide), bump_ne (by decide) (by decide) (by decide), bump_ne (by decide) (by decide) (by decide), bump_ne (by decide) (by decide) (by decide), bump_ne (by decide) (by decide) (by decide), bump_ne (by decide) (by decide) (by decide), bump_ne (by decide) (by decide) (by decide), bump_ne (by decide) (by decide) (by decide), bump_ne (by decide) (by decide) (by decide), bump_ne (by decide) (by decide) (by decide), bump_ne (by decide) (by decide) (by decide), bump_ne (by decide) (by decide) (by decide), bump_ne (by decide) (by decide) (by decide), bump_ne (by decide) (by decide) (by decide), bump_ne (by decide) (by decide) (by decide), bump_ne (by decide) (by decide) (by decide), bump_ne (by decide) (by decide) (by decide), bump_ne (by decide) (by decide) (by decide), bump_ne (by decide) (by decide) (by decide), bump_eq, bump_ne (by decide) (by decide) (by decide), bump_ne (by decide) (by decide) (by decide), bump_ne (by decide) (by decide) (by decide), bump_ne (by decide) (by decide) (by decide), bump_ne (by decide) (by decide) (by decide), bump_ne (by decide) (by decide) (by decide), bump_ne (by decide) (by decide) (by decide), bump_ne (by decide) (by decide) (by decide), bump_ne (by decide) (by decide) (by decide), bump_ne (by decide) (by decide) (by decide), bump_ne (by decide) (by decide) (by decide), bump_ne (by decide) (by decide) (by decide), bump_ne (by decide) (by decide) (by decide), bump_ne (by decide) (by decide) (by decide), bump_ne (by decide) (by decide) (by decide), bump_ne (by decide) (by decide) (by decide), bump_ne (by decide) (by decide) (by decide), bump_ne (by decide) (by decide) (by decide)]
  rfl
theorem cn_38 (xs : Nat → Int32) (L : Nat) : cnB xs L 38 = 1 := by
  unfold cnB
  rw [bump_ne (by decide) (by decide) (by decide), bump_ne (by decide) (by decide) (by decide), bump_ne (by decide) (by decide) (by decide), bump_ne (by decide) (by decide) (by decide), bump_ne (by decide) (by decide) (by decide), bump_ne (by decide) (by decide) (by decide), bump_ne (by decide) (by decide) (by decide), bump_ne (by decide) (by decide) (by decide), bump_ne (by decide) (by decide) (by decide), bump_ne (by decide) (by decide) (by decide), bump_ne (by decide) (by decide) (by decide), bump_ne (by decide) (by decide) (by decide), bump_ne (by decide) (by decide) (by decide), bump_ne (by decide) (by decide) (by decide), bump_ne (by decide) (by decide) (by decide), bump_ne (by decide) (by decide) (by decide), bump_ne (by decide) (by decide) (by decide), bump_ne (by decide) (by decide) (by decide), bump_ne (by decide) (by decide) (by decide), bump_eq, bump_ne (by decide) (by decide) (by decide), bump_ne (by decide) (by decide) (by decide), bump_ne (by decide) (by decide) (by decide), bump_ne (by decide) (by decide) (by decide), bump_ne (by decide) (by decide) (by decide), bump_ne (by decide) (by decide) (by decide), bump_ne (by decide) (by decide) (by decide), bump_ne (by decide) (by decide) (by decide), bump_ne (by decide) (by decide) (by decide), bump_ne (by decide) (by decide) (by decide), bump_ne (by decide) (by decide) (by decide), bump_ne (by decide) (by decide) (by decide), bump_ne (by decide) (by decide) (by decide), bump_ne (by decide) (by decide) (by decide), bump_ne (by decide) (by decide) (by decide), bump_ne (by decide) (by decide) (by decide), bump_ne (by decide) (by decide) (by decide), bump_ne (by decide) (by decide) (by decide), bump_ne (by decide) (by decide) (by decide)]
  rfl
theorem cn_39 (xs : Nat → Int32) (L : Nat) : cnB xs L 39 = 1 := by
  unfold cnB
  rw [bump_ne (by decide) (by decide) (by decide), bump_ne (by decide) (by decide) (by decide), bump_ne (by decide) (by decide) (by decide), bump_ne (by decide) (by decide) (by decide), bump_ne (by decide) (by decide) (by decide), bump_ne (by decide) (by decide) (by decide), bump_ne (by decide) (by decide) (by decide), bump_ne (by decide) (by decide) (by decide), bump_ne (by decide) (by decide) (by decide), bump_ne (by decide) (by decide) (by decide), bump_ne (by decide) (by decide) (by decide), bump_ne (by decide) (by decide) (by decide), bump_ne (by decide) (by decide) (by decide), bump_ne (by decide) (by decide) (by decide), bump_ne (by decide) (by decide) (by decide), bump_ne (by decide) (by decide) (by decide), bump_ne (by decide) (by decide) (by decide), bump_ne (by decide) (by decide) (by decide), bump_eq, bump_ne (by decide) (by decide) (by decide), bump_ne (by decide) (by decide) (by decide), bump_ne (by decide) (by decide) (by decide), bump_ne (by decide) (by decide) (by decide), bump_ne (by decide) (by decide) (by decide), bump_ne (by decide) (by decide) (by decide), bump_ne (by decide) (by decide) (by decide), bump_ne (by decide) (by decide) (by decide), bump_ne (by decide) (by decide) (by decide), bump_ne (by decide) (by decide) (by decide), bump_ne (by decide) (by decide) (by decide), bump_ne (by decide) (by decide) (by decide), bump_ne (by decide) (by decide) (by decide), bump_ne (by decide) (by decide) (by decide), bump_ne (by decide) (by decide) (by decide), bump_ne (by decide) (by decide) (by decide), bump_ne (by decide) (by decide) (by decide), bump_ne (by decide) (by decide) (by decide), bump_ne (by decide) (by decide) (by decide), bump_ne (by decide) (by decide) (by decide)]
  rfl
theorem cn_40 (xs : Nat → Int32) (L : Nat) : cnB xs L 40 = 1 := by
  unfold cnB
  rw [bump_ne (by decide) (by decide) (by decide), bump_ne (by decide) (by decide) (by decide), bump_ne (by decide) (by decide) (by decide), bump_ne (by decide) (by decide) (by decide), bump_ne (by decide) (by decide) (by decide), bump_ne (by decide) (by decide) (by decide), bump_ne (by decide) (by decide) (by decide), bump_ne (by decide) (by decide) (by decide), bump_ne (by decide) (by decide) (by decide), bump_ne (by decide) (by decide) (by decide), bump_ne (by decide) (by decide) (by decide), bump_ne (by decide) (by decide) (by decide), bump_ne (by decide) (by decide) (by decide), bump_ne (by decide) (by decide) (by decide), bump_ne (by decide) (by decide) (by decide), bump_ne (by decide) (by decide) (by decide), bump_ne (by decide) (by decide) (by decide), bump_eq, bump_ne (by decide) (by decide) (by decide), bump_ne (by decide) (by decide) (by decide), bump_ne (by decide) (by decide) (by decide), bump_ne (by decide) (by decide) (by decide), bump_ne (by decide) (by decide) (by decide), bump_ne (by decide) (by decide) (by decide), bump_ne (by decide) (by decide) (by decide), bump_ne (by decide) (by decide) (by decide), bump_ne (by decide) (by decide) (by decide), bump_ne (by decide) (by decide) (by decide), bump_ne (by decide) (by decide) (by decide), bump_ne (by decide) (by decide) (by decide), bump_ne (by decide) (by decide) (by decide), bump_ne (by decide) (by decide) (by decide), bump_ne (by decide) (by decide) (by decide), bump_ne (by decide) (by decide) (by decide), bump_ne (by decide) (by decide) (by decide), bump_ne (by decide) (by decide) (by decide), bump_ne (by decide) (by decide) (by decide), bump_ne (by decide) (by decide) (by decide), bump_ne (by decide) (by decide) (by decide)]
  rfl
theorem cn_41 (xs : Nat → Int32) (L : Nat) : cnB xs L 41 = 1 := by
  unfold cnB
  rw [bump_ne (by decide) (by decide) (by decide), bump_ne (by decide) (by decide) (by decide), bump_ne (by decide) (by decide) (by decide), bump_ne (by decide) (by decide) (by decide), bump_ne (by decide) (by decide) (by decide), bump_ne (by decide) (by decide) (by decide), bump_ne (by decide) (by decide) (by decide), bump_ne (by decide) (by decide) (by decide), bump_ne (by decide) (by decide) (by decide), bump_ne (by decide) (by decide) (by decide), bump_ne (by decide) (by decide) (by decide), bump_ne (by decide) (by decide) (by decide), bump_ne (by decide) (by decide) (by decide), bump_ne (by decide) (by decide) (by decide), bump_ne (by decide) (by decide) (by decide), bump_ne (by decide) (by decide) (by decide), bump_eq, bump_ne (by decide) (by decide) (by decide), bump_ne (by decide) (by decide) (by decide), bump_ne (by decide) (by decide) (by decide), bump_ne (by decide) (by decide) (by decide), bump_ne (by decide) (by decide) (by decide), bump_ne (by decide) (by decide) (by decide), bump_ne (by decide) (by decide) (by decide), bump_ne (by decide) (by decide) (by decide), bump_ne (by decide) (by decide) (by decide), bump_ne (by decide) (by decide) (by decide), bump_ne (by decide) (by decide) (by decide), bump_ne (by decide) (by decide) (by decide), bump_ne (by decide) (by decide) (by decide), bump_ne (by decide) (by decide) (by decide), bump_ne (by decide) (by decide) (by decide), bump_ne (by decide) (by decide) (by decide), bump_ne (by decide) (by decide) (by decide), bump_ne (by decide) (by decide) (by decide), bump_ne (by decide) (by decide) (by decide), bump_ne (by decide) (by decide) (by decide), bump_ne (by decide) (by decide) (by decide), bump_ne (by decide) (by decide) (by decide)]
  rfl
theorem cn_42 (xs : Nat → Int32) (L : Nat) : cnB xs L 42 = 1 := by
  unfold cnB
  rw [bump_ne (by decide) (by decide) (by decide), bump_ne (by decide) (by decide) (by decide), bump_ne (by decide) (by decide) (by decide), bump_ne (by decide) (by decide) (by decide), bump_ne (by decide) (by decide) (by decide), bump_ne (by decide) (by decide) (by decide), bump_ne (by decide) (by decide) (by decide), bump_ne (by decide) (by decide) (by decide), bump_ne (by decide) (by decide) (by decide), bump_ne (by decide) (by decide) (by decide), bump_ne (by decide) (by decide) (by decide), bump_ne (by decide) (by decide) (by decide), bump_ne (by decide) (by decide) (by decide), bump_ne (by decide) (by decide) (by decide), bump_ne (by decide) (by decide) (by decide), bump_eq, bump_ne (by decide) (by decide) (by decide), bump_ne (by decide) (by decide) (by decide), bump_ne (by decide) (by decide) (by decide), bump_ne (by decide) (by decide) (by decide), bump_ne (by decide) (by decide) (by decide), bump_ne (by decide) (by decide) (by decide), bump_ne (by decide) (by decide) (by decide), bump_ne (by decide) (by decide) (by decide), bump_ne (by decide) (by decide) (by decide), bump_ne (by decide) (by decide) (by decide), bump_ne (by decide) (by decide) (by decide), bump_ne (by decide) (by decide) (by decide), bump_ne (by decide) (by decide) (by decide), bump_ne (by decide) (by decide) (by decide), bump_ne (by decide) (by decide) (by decide), bump_ne (by decide) (by decide) (by decide), bump_ne (by decide) (by decide) (by decide), bump_ne (by decide) (by decide) (by decide), bump_ne (by decide) (by decide) (by decide), bump_ne (by decide) (by decide) (by decide), bump_ne (by decide) (by decide) (by decide), bump_ne (by decide) (by decide) (by decide), bump_ne (by decide) (by decide) (by decide)]
  rfl
theorem cn_43 (xs : Nat → Int32) (L : Nat) : cnB xs L 43 = 1 := by
  unfold cnB
  rw [bump_ne (by decide) (by decide) (by decide), bump_ne (by decide) (by decide) (by decide), bump_ne (by decide) (by decide) (by decide), bump_ne (by decide) (by decide) (by decide), bump_ne (by decide) (by decide) (by decide), bump_ne (by decide) (by decide) (by decide), bump_ne (by decide) (by decide) (by decide), bump_ne (by decide) (by decide) (by decide), bump_ne (by decide) (by decide) (by decide), bump_ne (by decide) (by decide) (by decide), bump_ne (by decide) (by decide) (by decide), bump_ne (by decide) (by decide) (by decide), bump_ne (by decide) (by decide) (by decide), bump_ne (by decide) (by decide) (by decide), bump_eq, bump_ne (by decide) (by decide) (by decide), bump_ne (by decide) (by decide) (by decide), bump_ne (by decide) (by decide) (by decide), bump_ne (by decide) (by decide) (by decide), bump_ne (by decide) (by decide) (by decide), bump_ne (by decide) (by decide) (by decide), bump_ne (by decide) (by decide) (by decide), bump_ne (by decide) (by decide) (by decide), bump_ne (by decide) (by decide) (by decide), bump_ne (by decide) (by decide) (by decide), bump_ne (by decide) (by decide) (by decide), bump_ne (by decide) (by decide) (by decide), bump_ne (by decide) (by decide) (by decide), bump_ne (by decide) (by decide) (by decide), bump_ne (by decide) (by decide) (by decide), bump_ne (by decide) (by decide) (by decide), bump_ne (by decide) (by decide) (by decide), bump_ne (by decide) (by decide) (by decide), bump_ne (by decide) (by decide) (by decide), bump_ne (by decide) (by decide) (by decide), bump_ne (by decide) (by decide) (by decide), bump_ne (by decide) (by decide) (by decide), bump_ne (by decide) (by decide) (by decide), bump_ne (by decide) (by decide) (by decide)]
  rfl
theorem cn_44 (xs : Nat → Int32) (L : Nat) : cnB xs L 44 = 1 := by
  unfold cnB
  rw [bump_ne (by decide) (by decide) (by decide), bump_ne (by decide) (by decide) (by decide), bump_ne (by decide) (by decide) (by decide), bump_ne (by decide) (by decide) (by decide), bump_ne (by decide) (by decide) (by decide), bump_ne (by decide) (by decide) (by decide), bump_ne (by decide) (by decide) (by decide), bump_ne (by decide) (by decide) (by decide), bump_ne (by decide) (by decide) (by decide), bump_ne (by decide) (by decide) (by decide), bump_ne (by decide) (by decide) (by decide), bump_ne (by decide) (by decide) (by decide), bump_ne (by decide) (by decide) (by decide), bump_eq, bump_ne (by decide) (by decide) (by decide), bump_ne (by decide) (by decide) (by decide), bump_ne (by decide) (by decide) (by decide), bump_ne (by decide) (by decide) (by decide), bump_ne (by decide) (by decide) (by decide), bump_ne (by decide) (by decide) (by decide), bump_ne (by decide) (by decide) (by decide), bump_ne (by decide) (by decide) (by decide), bump_ne (by decide) (by decide) (by decide), bump_ne (by decide) (by decide) (by decide), bump_ne (by decide) (by decide) (by decide), bump_ne (by decide) (by decide) (by decide), bump_ne (by decide) (by decide) (by decide), bump_ne (by decide) (by decide) (by decide), bump_ne (by decide) (by decide) (by decide), bump_ne (by decide) (by decide) (by decide), bump_ne (by decide) (by decide) (by decide), bump_ne (by decide) (by decide) (by decide), bump_ne (by decide) (by decide) (by decide), bump_ne (by decide) (by decide) (by decide), bump_ne (by decide) (by decide) (by decide), bump_ne (by decide) (by decide) (by decide), bump_ne (by decide) (by decide) (by decide), bump_ne (by decide) (by decide) (by decide), bump_ne (by decide) (by decide) (by decide)]
  rfl
theorem cn_45 (xs : Nat → Int32) (L : Nat) : cnB xs L 45 = 1 := by
  unfold cnB
  rw [bump_ne (by decide) (by decide) (by decide), bump_ne (by decide) (by decide) (by decide), bump_ne (by decide) (by decide) (by decide), bump_ne (by decide) (by decide) (by decide), bump_ne (by decide) (by decide) (by decide), bump_ne (by decide) (by decide) (by decide), bump_ne (by decide) (by decide) (by decide), bump_ne (by decide) (by decide) (by decide), bump_ne (by decide) (by decide) (by decide), bump_ne (by decide) (by decide) (by decide), bump_ne (by decide) (by decide) (by decide), bump_ne (by decide) (by decide) (by decide), bump_eq, bump_ne (by decide) (by decide) (by decide), bump_ne (by decide) (by decide) (by decide), bump_ne (by decide) (by decide) (by decide), bump_ne (by decide) (by decide) (by decide), bump_ne (by decide) (by decide) (by decide), bump_ne (by decide) (by decide) (by decide), bump_ne (by decide) (by decide) (by decide), bump_ne (by decide) (by decide) (by decide), bump_ne (by decide) (by decide) (by decide), bump_ne (by decide) (by decide) (by decide), bump_ne (by decide) (by decide) (by decide), bump_ne (by decide) (by decide) (by decide), bump_ne (by decide) (by decide) (by decide), bump_ne (by decide) (by decide) (by decide), bump_ne (by decide) (by decide) (by decide), bump_ne (by decide) (by decide) (by decide), bump_ne (by decide) (by decide) (by decide), bump_ne (by decide) (by decide) (by decide), bump_ne (by decide) (by decide) (by decide), bump_ne (by decide) (by decide) (by decide), bump_ne (by decide) (by decide) (by decide), bump_ne (by decide) (by decide) (by decide), bump_ne (by decide) (by decide) (by decide), bump_ne (by decide) (by decide) (by decide), bump_ne (by decide) (by decide) (by decide), bump_ne (by decide) (by decide) (by decide)]
  rfl
theorem cn_46 (xs : Nat → Int32) (L : Nat) : cnB xs L 46 = 1 := by
  unfold cnB
  rw [bump_ne (by decide) (by decide) (by decide), bump_ne (by decide) (by decide) (by decide), bump_ne (by decide) (by decide) (by decide), bump_ne (by decide) (by decide) (by decide), bump_ne (by decide) (by decide) (by decide), bump_ne (by decide) (by decide) (by decide), bump_ne (by decide) (by decide) (by decide), bump_ne (by decide) (by decide) (by decide), bump_ne (by decide) (by decide) (by decide), bump_ne (by decide) (by decide) (by decide), bump_ne (by decide) (by decide) (by decide), bump_eq, bump_ne (by decide) (by decide) (by decide), bump_ne (by decide) (by decide) (by decide), bump_ne (by decide) (by decide) (by decide), bump_ne (by decide) (by decide) (by decide), bump_ne (by decide) (by decide) (by decide), bump_ne (by decide) (by decide) (by decide), bump_ne (by decide) (by decide) (by decide), bump_ne (by decide) (by decide) (by decide), bump_ne (by decide) (by decide) (by decide), bump_ne (by decide) (by decide) (by decide), bump_ne (by decide) (by decide) (by decide), bump_ne (by decide) (by decide) (by decide), bump_ne (by decide) (by decide) (by decide), bump_ne (by decide) (by decide) (by decide), bump_ne (by decide) (by decide) (by decide), bump_ne (by decide) (by decide) (by decide), bump_ne (by decide) (by decide) (by decide), bump_ne (by decide) (by decide) (by decide), bump_ne (by decide) (by decide) (by decide), bump_ne (by decide) (by decide) (by decide), bump_ne (by decide) (by decide) (by decide), bump_ne (by decide) (by decide) (by decide), bump_ne (by decide) (by decide) (by decide), bump_ne (by decide) (by decide) (by decide), bump_ne (by decide) (by decide) (by decide), bump_ne (by decide) (by decide) (by decide), bump_ne (by decide) (by decide) (by decide)]
  rfl
theorem cn_47 (xs : Nat → Int32) (L : Nat) : cnB xs L 47 = 1 := by
  unfold cnB
  rw [bump_ne (by decide) (by decide) (by decide), bump_ne (by decide) (by decide) (by decide), bump_ne (by decide) (by decide) (by decide), bump_ne (by decide) (by decide) (by decide), bump_ne (by decide) (by decide) (by decide), bump_ne (by decide) (by decide) (by decide), bump_ne (by decide) (by decide) (by decide), bump_ne (by decide) (by decide) (by decide), bump_ne (by decide) (by decide) (by decide), bump_ne (by decide) (by decide) (by decide), bump_eq, bump_ne (by decide) (by decide) (by decide), bump_ne (by decide) (by decide) (by decide), bump_ne (by decide) (by decide) (by decide), bump_ne (by decide) (by decide) (by decide), bump_ne (by decide) (by decide) (by decide), bump_ne (by decide) (by decide) (by decide), bump_ne (by decide) (by decide) (by decide), bump_ne (by decide) (by decide) (by decide), bump_ne (by decide) (by decide) (by decide), bump_ne (by decide) (by decide) (by decide), bump_ne (by decide) (by decide) (by decide), bump_ne (by decide) (by decide) (by decide), bump_ne (by decide) (by decide) (by decide), bump_ne (by decide) (by decide) (by decide), bump_ne (by decide) (by decide) (by decide), bump_ne (by decide) (by decide) (by decide), bump_ne (by decide) (by decide) (by decide), bump_ne (by decide) (by decide) (by decide), bump_ne (by decide) (by decide) (by decide), bump_ne (by decide) (by decide) (by decide), bump_ne (by decide) (by decide) (by decide), bump_ne (by decide) (by decide) (by decide), bump_ne (by decide) (by decide) (by decide), bump_ne (by decide) (by decide) (by decide), bump_ne (by decide) (by decide) (by decide), bump_ne (by decide) (by decide) (by decide), bump_ne (by decide) (by decide) (by decide), bump_ne (by decide) (by decide) (by decide)]
  rfl
theorem cn_48 (xs : Nat → Int32) (L : Nat) : cnB xs L 48 = 1 := by
  unfold cnB
  rw [bump_ne (by decide) (by decide) (by decide), bump_ne (by decide) (by decide) (by decide), bump_ne (by decide) (by decide) (by decide), bump_ne (by decide) (by decide) (by decide), bump_ne (by decide) (by decide) (by decide), bump_ne (by decide) (by decide) (by decide), bump_ne (by decide) (by decide) (by decide), bump_ne (by decide) (by decide) (by decide), bump_ne (by decide) (by decide) (by decide), bump_eq, bump_ne (by decide) (by decide) (by decide), bump_ne (by decide) (by decide) (by decide), bump_ne (by decide) (by decide) (by decide), bump_ne (by decide) (by decide) (by decide), bump_ne (by decide) (by decide) (by decide), bump_ne (by decide) (by decide) (by decide), bump_ne (by decide) (by decide) (by decide), bump_ne (by decide) (by decide) (by decide), bump_ne (by decide) (by decide) (by decide), bump_ne (by decide) (by decide) (by decide), bump_ne (by decide) (by decide) (by decide), bump_ne (by decide) (by decide) (by decide), bump_ne (by decide) (by decide) (by decide), bump_ne (by decide) (by decide) (by decide), bump_ne (by decide) (by decide) (by decide), bump_ne (by decide) (by decide) (by decide), bump_ne (by decide) (by decide) (by decide), bump_ne (by decide) (by decide) (by decide), bump_ne (by decide) (by decide) (by decide), bump_ne (by decide) (by decide) (by decide), bump_ne (by decide) (by decide) (by decide), bump_ne (by decide) (by decide) (by decide), bump_ne (by decide) (by decide) (by decide), bump_ne (by decide) (by decide) (by decide), bump_ne (by decide) (by decide) (by decide), bump_ne (by decide) (by decide) (by decide), bump_ne (by decide) (by decide) (by decide), bump_ne (by decide) (by decide) (by decide), bump_ne (by decide) (by decide) (by decide)]
  rfl
theorem cn_49 (xs : Nat → Int32) (L : Nat) : cnB xs L 49 = 1 := by
  unfold cnB
  rw [bump_ne (by decide) (by decide) (by decide), bump_ne (by decide) (by decide) (by decide), bump_ne (by decide) (by decide) (by decide), bump_ne (by decide) (by decide) (by decide), bump_ne (by decide) (by decide) (by decide), bump_ne (by decide) (by decide) (by decide), bump_ne (by decide) (by decide) (by decide), bump_ne (by decide) (by decide) (by decide), bump_eq, bump_ne (by decide) (by decide) (by decide), bump_ne (by decide) (by decide) (by decide), bump_ne (by decide) (by decide) (by decide), bump_ne (by decide) (by decide) (by decide), bump_ne (by decide) (by decide) (by decide), bump_ne (by decide) (by decide) (by decide), bump_ne (by decide) (by decide) (by decide), bump_ne (by decide) (by decide) (by decide), bump_ne (by decide) (by decide) (by decide), bump_ne (by decide) (by decide) (by decide), bump_ne (by decide) (by decide) (by decide), bump_ne (by decide) (by decide) (by decide), bump_ne (by decide) (by decide) (by decide), bump_ne (by decide) (by decide) (by decide), bump_ne (by decide) (by decide) (by decide), bump_ne (by decide) (by decide) (by decide), bump_ne (by decide) (by decide) (by decide), bump_ne (by decide) (by decide) (by decide), bump_ne (by decide) (by decide) (by decide), bump_ne (by decide) (by decide) (by decide), bump_ne (by decide) (by decide) (by decide), bump_ne (by decide) (by decide) (by decide), bump_ne (by decide) (by decide) (by decide), bump_ne (by decide) (by decide) (by decide), bump_ne (by decide) (by decide) (by decide), bump_ne (by decide) (by decide) (by decide), bump_ne (by decide) (by decide) (by decide), bump_ne (by decide) (by decide) (by decide), bump_ne (by decide) (by decide) (by decide), bump_ne (by decide) (by decide) (by decide)]
  rfl
theorem cn_50 (xs : Nat → Int32) (L : Nat) : cnB xs L 50 = 1 := by
  unfold cnB
  rw [bump_ne (by decide) (by decide) (by decide), bump_ne (by decide) (by decide) (by decide), bump_ne (by decide) (by decide) (by decide), bump_ne (by decide) (by decide) (by decide), bump_ne (by decide) (by decide) (by decide), bump_ne (by decide) (by decide) (by decide), bump_ne (by decide) (by decide) (by decide), bump_eq, bump_ne (by decide) (by decide) (by decide), bump_ne (by decide) (by decide) (by decide), bump_ne (by decide) (by decide) (by decide), bump_ne (by decide) (by decide) (by decide), bump_ne (by decide) (by decide) (by decide), bump_ne (by decide) (by decide) (by decide), bump_ne (by decide) (by decide) (by decide), bump_ne (by decide) (by decide) (by decide), bump_ne (by decide) (by decide) (by decide), bump_ne (by decide) (by decide) (by decide), bump_ne (by decide) (by decide) (by decide), bump_ne (by decide) (by decide) (by decide), bump_ne (by decide) (by decide) (by decide), bump_ne (by decide) (by decide) (by decide), bump_ne (by decide) (by decide) (by decide), bump_ne (by decide) (by decide) (by decide), bump_ne (by decide) (by decide) (by decide), bump_ne (by decide) (by decide) (by decide), bump_ne (by decide) (by decide) (by decide), bump_ne (by decide) (by decide) (by decide), bump_ne (by decide) (by decide) (by decide), bump_ne (by decide) (by decide) (by decide), bump_ne (by decide) (by decide) (by decide), bump_ne (by decide) (by decide) (by decide), bump_ne (by decide) (by decide) (by decide), bump_ne (by decide) (by decide) (by decide), bump_ne (by decide) (by decide) (by decide), bump_ne (by decide) (by decide) (by decide), bump_ne (by decide) (by decide) (by decide), bump_ne (by decide) (by decide) (by decide), bump_ne (by decide) (by decide) (by decide)]
  rfl
theorem cn_52 (xs : Nat → Int32) (L : Nat) : cnB xs L 52 = 1 := by
  unfold cnB
  rw [bump_ne (by decide) (by decide) (by decide), bump_ne (by decide) (by decide) (by decide), bump_ne (by decide) (by decide) (by decide), bump_ne (by decide) (by decide) (by decide), bump_ne (by decide) (by decide) (by decide), bump_ne (by decide) (by decide) (by decide), bump_eq, bump_ne (by decide) (by decide) (by decide), bump_ne (by decide) (by decide) (by decide), bump_ne (by decide) (by decide) (by decide), bump_ne (by decide) (by decide) (by decide), bump_ne (by decide) (by decide) (by decide), bump_ne (by decide) (by decide) (by decide), bump_ne (by decide) (by decide) (by decide), bump_ne (by decide) (by decide) (by decide), bump_ne (by decide) (by decide) (by decide), bump_ne (by decide) (by decide) (by decide), bump_ne (by decide) (by decide) (by decide), bump_ne (by decide) (by decide) (by decide), bump_ne (by decide) (by decide) (by decide), bump_ne (by decide) (by decide) (by decide), bump_ne (by decide) (by decide) (by decide), bump_ne (by decide) (by decide) (by decide), bump_ne (by decide) (by decide) (by decide), bump_ne (by decide) (by decide) (by decide), bump_ne (by decide) (by decide) (by decide), bump_ne (by decide) (by decide) (by decide), bump_ne (by decide) (by decide) (by decide), bump_ne (by decide) (by decide) (by decide), bump_ne (by decide) (by decide) (by decide), bump_ne (by decide) (by decide) (by decide), bump_ne (by decide) (by decide) (by decide), bump_ne (by decide) (by decide) (by decide), bump_ne (by decide) (by decide) (by decide), bump_ne (by decide) (by decide) (by decide), bump_ne (by decide) (by decide) (by decide), bump_ne (by decide) (by decide) (by decide), bump_ne (by decide) (by decide) (by decide), bump_ne (by decide) (by decide) (by decide)]
  rfl
theorem cn_53 (xs : Nat → Int32) (L : Nat) : cnB xs L 53 = 1 := by
  unfold cnB
  rw [bump_ne (by decide) (by decide) (by decide), bump_ne (by decide) (by decide) (by decide), bump_ne (by decide) (by decide) (by decide), bump_ne (by decide) (by decide) (by decide), bump_ne (by decide) (by decide) (by decide), bump_eq, bump_ne (by decide) (by decide) (by decide), bump_ne (by decide) (by decide) (by decide), bump_ne (by decide) (by decide) (by decide), bump_ne (by decide) (by decide) (by decide), bump_ne (by decide) (by decide) (by decide), bump_ne (by decide) (by decide) (by decide), bump_ne (by decide) (by decide) (by decide), bump_ne (by decide) (by decide) (by decide), bump_ne (by decide) (by decide) (by decide), bump_ne (by decide) (by decide) (by decide), bump_ne (by decide) (by decide) (by decide), bump_ne (by decide) (by decide) (by decide), bump_ne (by decide) (by decide) (by decide), bump_ne (by decide) (by decide) (by decide), bump_ne (by decide) (by decide) (by decide), bump_ne (by decide) (by decide) (by decide), bump_ne (by decide) (by decide) (by decide), bump_ne (by decide) (by decide) (by decide), bump_ne (by decide) (by decide) (by decide), bump_ne (by decide) (by decide) (by decide), bump_ne (by decide) (by decide) (by decide), bump_ne (by decide) (by decide) (by decide), bump_ne (by decide) (by decide) (by decide), bump_ne (by decide) (by decide) (by decide), bump_ne (by decide) (by decide) (by decide), bump_ne (by decide) (by decide) (by decide), bump_ne (by decide) (by decide) (by decide), bump_ne (by decide) (by decide) (by decide), bump_ne (by decide) (by decide) (by decide), bump_ne (by decide) (by decide) (by decide), bump_ne (by decide) (by decide) (by decide), bump_ne (by decide) (by decide) (by decide), bump_ne (by decide) (by decide) (by decide)]
  rfl
theorem cn_54 (xs : Nat → Int32) (L : Nat) : cnB xs L 54 = 1 := by
  unfold cnB
  rw [bump_ne (by decide) (by decide) (by decide), bump_ne (by decide) (by decide) (by decide), bump_ne (by decide) (by decide) (by decide), bump_ne (by decide) (by decide) (by decide), bump_eq, bump_ne (by decide) (by decide) (by decide), bump_ne (by decide) (by decide) (by decide), bump_ne (by decide) (by decide) (by decide), bump_ne (by decide) (by decide) (by decide), bump_ne (by decide) (by decide) (by decide), bump_ne (by decide) (by decide) (by decide), bump_ne (by decide) (by decide) (by decide), bump_ne (by decide) (by decide) (by decide), bump_ne (by decide) (by decide) (by decide), bump_ne (by decide) (by decide) (by decide), bump_ne (by decide) (by decide) (by decide), bump_ne (by decide) (by decide) (by decide), bump_ne (by decide) (by decide) (by decide), bump_ne (by decide) (by decide) (by decide), bump_ne (by decide) (by decide) (by decide), bump_ne (by decide) (by decide) (by decide), bump_ne (by decide) (by decide) (by decide), bump_ne (by decide) (by decide) (by decide), bump_ne (by decide) (by decide) (by decide), bump_ne (by decide) (by decide) (by decide), bump_ne (by decide) (by decide) (by decide), bump_ne (by decide) (by decide) (by decide), bump_ne (by decide) (by decide) (by decide), bump_ne (by decide) (by decide) (by decide), bump_ne (by decide) (by decide) (by decide), bump_ne (by decide) (by decide) (by decide), bump_ne (by decide) (by decide) (by decide), bump_ne (by decide) (by decide) (by decide), bump_ne (by decide) (by decide) (by decide), bump_ne (by decide) (by decide) (by decide), bump_ne (by decide) (by decide) (by decide), bump_ne (by decide) (by decide) (by decide), bump_ne (by decide) (by decide) (by decide), bump_ne (by decide) (by decide) (by decide)]
  rfl
theorem cn_56 (xs : Nat → Int32) (L : Nat) : cnB xs L 56 = 1 := by
  unfold cnB
  rw [bump_ne (by decide) (by decide) (by decide), bump_ne (by decide) (by decide) (by decide), bump_ne (by decide) (by decide) (by decide), bump_eq, bump_ne (by decide) (by decide) (by decide), bump_ne (by decide) (by decide) (by decide), bump_ne (by decide) (by decide) (by decide), bump_ne (by decide) (by decide) (by decide), bump_ne (by decide) (by decide) (by decide), bump_ne (by decide) (by decide) (by decide), bump_ne (by decide) (by decide) (by decide), bump_ne (by decide) (by decide) (by decide), bump_ne (by decide) (by decide) (by decide), bump_ne (by decide) (by decide) (by decide), bump_ne (by decide) (by decide) (by decide), bump_ne (by decide) (by decide) (by decide), bump_ne (by decide) (by decide) (by decide), bump_ne (by decide) (by decide) (by decide), bump_ne (by decide) (by decide) (by decide), bump_ne (by decide) (by decide) (by decide), bump_ne (by decide) (by decide) (by decide), bump_ne (by decide) (by decide) (by decide), bump_ne (by decide) (by decide) (by decide), bump_ne (by decide) (by decide) (by decide), bump_ne (by decide) (by decide) (by decide), bump_ne (by decide) (by decide) (by decide), bump_ne (by decide) (by decide) (by decide), bump_ne (by decide) (by decide) (by decide), bump_ne (by decide) (by decide) (by decide), bump_ne (by decide) (by decide) (by decide), bump_ne (by decide) (by decide) (by decide), bump_ne (by decide) (by decide) (by decide), bump_ne (by decide) (by decide) (by decide), bump_ne (by decide) (by decide) (by decide), bump_ne (by decide) (by decide) (by decide), bump_ne (by decide) (by decide) (by decide), bump_ne (by decide) (by decide) (by decide), bump_ne (by decide) (by decide) (by decide), bump_ne (by decide) (by decide) (by decide)]
  rfl
theorem cn_57 (xs : Nat → Int32) (L : Nat) : cnB xs L 57 = 1 := by
  unfold cnB
  rw [bump_ne (by decide) (by decide) (by decide), bump_ne (by decide) (by decide) (by decide), bump_eq, bump_ne (by decide) (by decide) (by decide), bump_ne (by decide) (by decide) (by decide), bump_ne (by decide) (by decide) (by decide), bump_ne (by decide) (by decide) (by decide), bump_ne (by decide) (by decide) (by decide), bump_ne (by decide) (by decide) (by decide), bump_ne (by decide) (by decide) (by decide), bump_ne (by decide) (by decide) (by decide), bump_ne (by decide) (by decide) (by decide), bump_ne (by decide) (by decide) (by decide), bump_ne (by decide) (by decide) (by decide), bump_ne (by decide) (by decide) (by decide), bump_ne (by decide) (by decide) (by decide), bump_ne (by decide) (by decide) (by decide), bump_ne (by decide) (by decide) (by decide), bump_ne (by decide) (by decide) (by decide), bump_ne (by decide) (by decide) (by decide), bump_ne (by decide) (by decide) (by decide), bump_ne (by decide) (by decide) (by decide), bump_ne (by decide) (by decide) (by decide), bump_ne (by decide) (by decide) (by decide), bump_ne (by decide) (by decide) (by decide), bump_ne (by decide) (by decide) (by decide), bump_ne (by decide) (by decide) (by decide), bump_ne (by decide) (by decide) (by decide), bump_ne (by decide) (by decide) (by decide), bump_ne (by decide) (by decide) (by decide), bump_ne (by decide) (by decide) (by decide), bump_ne (by decide) (by decide) (by decide), bump_ne (by decide) (by decide) (by decide), bump_ne (by decide) (by decide) (by decide), bump_ne (by decide) (by decide) (by decide), bump_ne (by decide) (by decide) (by decide), bump_ne (by decide) (by decide) (by decide), bump_ne (by decide) (by decide) (by decide), bump_ne (by decide) (by decide) (by decide)]
  rfl
theorem cn_58 (xs : Nat → Int32) (L : Nat) : cnB xs L 58 = 1 := by
  unfold cnB
  rw [bump_ne (by decide) (by decide) (by decide), bump_eq, bump_ne (by decide) (by decide) (by decide), bump_ne (by decide) (by decide) (by decide), bump_ne (by decide) (by decide) (by decide), bump_ne (by decide) (by decide) (by decide), bump_ne (by decide) (by decide) (by decide), bump_ne (by decide) (by decide) (by decide), bump_ne (by decide) (by decide) (by decide), bump_ne (by decide) (by decide) (by decide), bump_ne (by decide) (by decide) (by decide), bump_ne (by decide) (by decide) (by decide), bump_ne (by decide) (by decide) (by decide), bump_ne (by decide) (by decide) (by decide), bump_ne (by decide) (by decide) (by decide), bump_ne (by decide) (by decide) (by decide), bump_ne (by decide) (by decide) (by decide), bump_ne (by decide) (by decide) (by decide), bump_ne (by decide) (by decide) (by decide), bump_ne (by decide) (by decide) (by decide), bump_ne (by decide) (by decide) (by decide), bump_ne (by decide) (by decide) (by decide), bump_ne (by decide) (by decide) (by decide), bump_ne (by decide) (by decide) (by decide), bump_ne (by decide) (by decide) (by decide), bump_ne (by decide) (by decide) (by decide), bump_ne (by decide) (by decide) (by decide), bump_ne (by decide) (by decide) (by decide), bump_ne (by decide) (by decide) (by decide), bump_ne (by decide) (by decide) (by decide), bump_ne (by decide) (by decide) (by decide), bump_ne (by decide) (by decide) (by decide), bump_ne (by decide) (by decide) (by decide), bump_ne (by decide) (by decide) (by decide), bump_ne (by decide) (by decide) (by decide), bump_ne (by decide) (by decide) (by decide), bump_ne (by decide) (by decide) (by decide), bump_ne (by decide) (by decide) (by decide), bump_ne (by decide) (by decide) (by decide)]
  rfl
theorem cn_17 (xs : Nat → Int32) (L : Nat) : cnB xs L 17 = 1 := by
  unfold cnB
  rw [bump_eq, bump_ne (by decide) (by decide) (by decide), bump_ne (by decide) (by decide) (by decide), bump_ne (by decide) (by decide) (by decide), bump_ne (by decide) (by decide) (by decide), bump_ne (by decide) (by decide) (by decide), bump_ne (by decide) (by decide) (by decide), bump_ne (by decide) (by decide) (by decide), bump_ne (by decide) (by decide) (by decide), bump_ne (by decide) (by decide) (by decide), bump_ne (by decide) (by decide) (by decide), bump_ne (by decide) (by decide) (by decide), bump_ne (by decide) (by decide) (by decide), bump_ne (by decide) (by decide) (by decide), bump_ne (by decide) (by decide) (by decide), bump_ne (by decide) (by decide) (by decide), bump_ne (by decide) (by decide) (by decide), bump_ne (by decide) (by decide) (by decide), bump_ne (by decide) (by decide) (by decide), bump_ne (by decide) (by decide) (by decide), bump_ne (by decide) (by decide) (by decide), bump_ne (by decide) (by decide) (by decide), bump_ne (by decide) (by decide) (by decide), bump_ne (by decide) (by decide) (by decide), bump_ne (by decide) (by decide) (by decide), bump_ne (by decide) (by decide) (by decide), bump_ne (by decide) (by decide) (by decide), bump_ne (by decide) (by decide) (by decide), bump_ne (by decide) (by decide) (by decide), bump_ne (by decide) (by decide) (by decide), bump_ne (by decide) (by decide) (by decide), bump_ne (by decide) (by decide) (by decide), bump_ne (by decide) (by decide) (by decide), bump_ne (by decide) (by decide) (by decide), bump_ne (by decide) (by decide) (by decide), bump_ne (by decide) (by decide) (by decide), bump_ne (by decide) (by decide) (by decide), bump_ne (by decide) (by decide) (by decide), bump_ne (by decide) (by decide) (by decide)]
  rfl
theorem cn_100 (xs : Nat → Int32) (L : Nat) : cnB xs L 100 = 39 := by
  unfold cnB
  rw [bump_c (by decide), bump_c (by decide), bump_c (by decide), bump_c (by decide), bump_c (by decide), bump_c (by decide), bump_c (by decide), bump_c (by decide), bump_c (by decide), bump_c (by decide), bump_c (by decide), bump_c (by decide), bump_c (by decide), bump_c (by decide), bump_c (by decide), bump_c (by decide), bump_c (by decide), bump_c (by decide), bump_c (by decide), bump_c (by decide), bump_c (by decide), bump_c (by decide), bump_c (by decide), bump_c (by decide), bump_c (by decide), bump_c (by decide), bump_c (by decide), bump_c (by decide), bump_c (by decide), bump_c (by decide), bump_c (by decide), bump_c (by decide), bump_c (by decide), bump_c (by decide), bump_c (by decide), bump_c (by decide), bump_c (by decide), bump_c (by decide), bump_c (by decide)]
  rfl
theorem cn_101 (xs : Nat → Int32) (L : Nat) : cnB xs L 101 = 655 := by
  unfold cnB
  rw [bump_w (by decide), bump_w (by decide), bump_w (by decide), bump_w (by decide), bump_w (by decide), bump_w (by decide), bump_w (by decide), bump_w (by decide), bump_w (by decide), bump_w (by decide), bump_w (by decide), bump_w (by decide), bump_w (by decide), bump_w (by decide), bump_w (by decide), bump_w (by decide), bump_w (by decide), bump_w (by decide), bump_w (by decide), bump_w (by decide), bump_w (by decide), bump_w (by decide), bump_w (by decide), bump_w (by decide), bump_w (by decide), bump_w (by decide), bump_w (by decide), bump_w (by decide), bump_w (by decide), bump_w (by decide), bump_w (by decide), bump_w (by decide), bump_w (by decide), bump_w (by decide), bump_w (by decide), bump_w (by decide), bump_w (by decide), bump_w (by decide), bump_w (by decide)]
  rfl
theorem Sf_cnt (xs : Nat → Int32) (L : Nat) (d : Int32) : (Sf xs L d).2 = concC (K0 d) (G0 xs L) := by
  rw [Sf_2]
  funext t
  by_cases h3 : t = 3
  · subst h3; rw [cn_3]; rfl
  by_cases h7 : t = 7
  · subst h7; rw [cn_7]; rfl
  by_cases h8 : t = 8
  · subst h8; rw [cn_8]; rfl
  by_cases h12 : t = 12
  · subst h12; rw [cn_12]; rfl
  by_cases h13 : t = 13
  · subst h13; rw [cn_13]; rfl
  by_cases h14 : t = 14
  · subst h14; rw [cn_14]; rfl
  by_cases h15 : t = 15
  · subst h15; rw [cn_15]; rfl
  by_cases h16 : t = 16
  · subst h16; rw [cn_16]; rfl
  by_cases h17 : t = 17
  · subst h17; rw [cn_17]; rfl
  by_cases h27 : t = 27
  · subst h27; rw [cn_27]; rfl
  by_cases h28 : t = 28
  · subst h28; rw [cn_28]; rfl
  by_cases h29 : t = 29
  · subst h29; rw [cn_29]; rfl
  by_cases h30 : t = 30
  · subst h30; rw [cn_30]; rfl
  by_cases h31 : t = 31
  · subst h31; rw [cn_31]; rfl
  by_cases h32 : t = 32
  · subst h32; rw [cn_32]; rfl
  by_cases h33 : t = 33
  · subst h33; rw [cn_33]; rfl
  by_cases h34 : t = 34
  · subst h34; rw [cn_34]; rfl
  by_cases h35 : t = 35
  · subst h35; rw [cn_35]; rfl
  by_cases h36 : t = 36
  · subst h36; rw [cn_36]; rfl
  by_cases h37 : t = 37
  · subst h37; rw [cn_37]; rfl
  by_cases h38 : t = 38
  · subst h38; rw [cn_38]; rfl
  by_cases h39 : t = 39
  · subst h39; rw [cn_39]; rfl
  by_cases h40 : t = 40
  · subst h40; rw [cn_40]; rfl
  by_cases h41 : t = 41
  · subst h41; rw [cn_41]; rfl
  by_cases h42 : t = 42
  · subst h42; rw [cn_42]; rfl
  by_cases h43 : t = 43
  · subst h43; rw [cn_43]; rfl
  by_cases h44 : t = 44
  · subst h44; rw [cn_44]; rfl
  by_cases h45 : t = 45
  · subst h45; rw [cn_45]; rfl
  by_cases h46 : t = 46
  · subst h46; rw [cn_46]; rfl
  by_cases h47 : t = 47
  · subst h47; rw [cn_47]; rfl
  by_cases h48 : t = 48
  · subst h48; rw [cn_48]; rfl
  by_cases h49 : t = 49
  · subst h49; rw [cn_49]; rfl
  by_cases h50 : t = 50
  · subst h50; rw [cn_50]; rfl
  by_cases h52 : t = 52
  · subst h52; rw [cn_52]; rfl
  by_cases h53 : t = 53
  · subst h53; rw [cn_53]; rfl
  by_cases h54 : t = 54
  · subst h54; rw [cn_54]; rfl
  by_cases h56 : t = 56
  · subst h56; rw [cn_56]; rfl
  by_cases h57 : t = 57
  · subst h57; rw [cn_57]; rfl
  by_cases h58 : t = 58
  · subst h58; rw [cn_58]; rfl
  by_cases h100 : t = 100
  · subst h100; rw [cn_100]; rfl
  by_cases h101 : t = 101
  · subst h101; rw [cn_101]; rfl
  rw [cn_ne xs L t h3 h7 h8 h12 h13 h14 h15 h16 h17 h27 h28 h29 h30 h31 h32 h33 h34 h35 h36 h37 h38 h39 h40 h41 h42 h43 h44 h45 h46 h47 h48 h49 h50 h52 h53 h54 h56 h57 h58 h100 h101]
  by_cases h18 : t = 18
  · subst h18; rfl
  by_cases h102 : t = 102
  · subst h102; rfl
  rw [show (S0 xs L).2 t = 0 from (if_neg h18).trans (if_neg h102)]
  by_cases a1 : t = 1
  · subst a1; rfl
  by_cases a2 : t = 2
  · subst a2; rfl
  by_cases a4 : t = 4
  · subst a4; rfl
  by_cases a5 : t = 5
  · subst a5; rfl
  by_cases a6 : t = 6
  · subst a6; rfl
  by_cases a10 : t = 10
  · subst a10; rfl
  by_cases a11 : t = 11
  · subst a11; rfl
  by_cases a19 : t = 19
  · subst a19; rfl
  unfold concC
  rw [if_neg a1, if_neg a2, if_neg a4, if_neg a5, if_neg a6, if_neg a10, if_neg a11, if_neg a19, if_neg h100, if_neg h101, if_neg h102]
  by_cases q1 : t < 20
  · rw [if_pos q1, if_neg h3, if_neg h7, if_neg h8]
    by_cases q2 : t < 12
    · rw [if_pos q2]
    · omega
  · rw [if_neg q1]
    by_cases q2 : t < 27
    · rw [if_pos q2]
    · rw [if_neg q2, if_neg (by omega), if_neg h52, if_neg h53, if_neg h54, if_neg h56, if_neg h57, if_neg h58]
/-! what lies where -/
theorem nA_1 {S : Sto} {u t : Nat} (h : ¬ t = u) : (newA S u).1 t = S.1 t := by
  funext i k
  exact if_neg (fun q => h q.1)
theorem nA_e {S : Sto} {t j k : Nat} (h : j = S.2 t) : (newA S t).1 t j k = dflt ((aTy t).getD .int) := if_pos ⟨rfl, h⟩
theorem nO_1 {S : Sto} {u t : Nat} (h : ¬ t = u) : (newO S u).1 t = S.1 t := by
  funext i k
  exact if_neg (fun q => h q.1)
theorem sS_1 {S : Sto} {u t i k : Nat} {v : AV} (h : ¬ t = u) : (setS S u i k v).1 t = S.1 t := by
  funext i k
  exact if_neg (fun q => h q.1)
theorem sS_k {S : Sto} {t i k j : Nat} {v : AV} (h : ¬ k = j) : (setS S t i j v).1 t i k = S.1 t i k := if_neg (fun q => h q.2.2)
theorem mA_1 {S : Sto} {u t i : Nat} (h : ¬ t = u) (h8 : ¬ t = 8) : (mA1 S i u).1 t = S.1 t := (sS_1 h8).trans (nA_1 h)
theorem mA_e {S : Sto} {t i j k : Nat} (h8 : ¬ t = 8) (h : j = S.2 t) : (mA1 S i t).1 t j k = dflt ((aTy t).getD .int) := by
  unfold mA1
  rw [sS_1 h8]
  exact nA_e h
theorem mA_8n {S : Sto} {t i k : Nat} (h8 : ¬ 8 = t) (h : ¬ k = t - 20) : (mA1 S i t).1 8 i k = S.1 8 i k := by
  unfold mA1
  rw [sS_k h, nA_1 h8]
theorem mA_8e {S : Sto} {t i k : Nat} (h : k = t - 20) : (mA1 S i t).1 8 i k = vR t (S.2 t) := if_pos ⟨rfl, rfl, h⟩
theorem Sf_mid (xs : Nat → Int32) (L : Nat) (d : Int32) (t : Nat) (h8 : ¬ t = 8) (h17 : ¬ t = 17) (h27 : ¬ t = 27) (h28 : ¬ t = 28) (h29 : ¬ t = 29) (h30 : ¬ t = 30) (h31 : ¬ t = 31) (h32 : ¬ t = 32) (h33 : ¬ t = 33) (h34 : ¬ t = 34) (h35 : ¬ t = 35) (h36 : ¬ t = 36) (h37 : ¬ t = 37) (h38 : ¬ t = 38) (h39 : ¬ t = 39) (h40 : ¬ t = 40) (h41 : ¬ t = 41) (h42 : ¬ t = 42) (h43 : ¬ t = 43) (h44 : ¬ t = 44) (h45 : ¬ t = 45) (h46 : ¬ t = 46) (h47 : ¬ t = 47) (h48 : ¬ t = 48) (h49 : ¬ t = 49) (h50 : ¬ t = 50) (h52 : ¬ t = 52) (h53 : ¬ t = 53) (h54 : ¬ t = 54) (h56 : ¬ t = 56) (h57 : ¬ t = 57) (h58 : ¬ t = 58) : (Sf xs L d).1 t = (kerS (newO (S0 xs L) 7) 0 d).1 t := by
  unfold Sf
  rw [nA_1 h17]
  unfold modS
  rw [sS_1 h8, mA_1 h58 h8, mA_1 h57 h8, mA_1 h56 h8, mA_1 h54 h8, mA_1 h53 h8, mA_1 h52 h8, mA_1 h50 h8, mA_1 h49 h8, mA_1 h48 h8, mA_1 h47 h8, mA_1 h46 h8, mA_1 h45 h8, mA_1 h44 h8, mA_1 h43 h8, mA_1 h42 h8, mA_1 h41 h8, mA_1 h40 h8, mA_1 h39 h8, mA_1 h38 h8, mA_1 h37 h8, mA_1 h36 h8, mA_1 h35 h8, mA_1 h34 h8, mA_1 h33 h8, mA_1 h32 h8, mA_1 h31 h8, mA_1 h30 h8, mA_1 h29 h8, mA_1 h28 h8, mA_1 h27 h8, sS_1 h8, nO_1 h8]
theorem ct_27 (xs : Nat → Int32) (L : Nat) (d : Int32) (k : Nat) : (Sf xs L d).1 27 0 k = dflt ((aTy 27).getD .int) := by
  unfold Sf
  rw [nA_1 (by decide)]
  unfold modS
  rw [sS_1 (by decide), mA_1 (by decide) (by decide), mA_1 (by decide) (by decide), mA_1 (by decide) (by decide), mA_1 (by decide) (by decide), mA_1 (by decide) (by decide), mA_1 (by decide) (by decide), mA_1 (by decide) (by decide), mA_1 (by decide) (by decide), mA_1 (by decide) (by decide), mA_1 (by decide) (by decide), mA_1 (by decide) (by decide), mA_1 (by decide) (by decide), mA_1 (by decide) (by decide), mA_1 (by decide) (by decide), mA_1 (by decide) (by decide), mA_1 (by decide) (by decide), mA_1 (by decide) (by decide), mA_1 (by decide) (by decide), mA_1 (by decide) (by decide), mA_1 (by decide) (by decide), mA_1 (by decide) (by decide), mA_1 (by decide) (by decide), mA_1 (by decide) (by decide), mA_1 (by decide) (by decide), mA_1 (by decide) (by decide), mA_1 (by decide) (by decide), mA_1 (by decide) (by decide), mA_1 (by decide) (by decide), mA_1 (by decide) (by decide)]
  exact mA_e (by decide) rfl
theorem ct_28 (xs : Nat → Int32) (L : Nat) (d : Int32) (k : Nat) : (Sf xs L d).1 28 0 k = dflt ((aTy 28).getD .int) := by
  unfold Sf
  rw [nA_1 (by decide)]
  unfold modS
  rw [sS_1 (by decide), mA_1 (by decide) (by decide), mA_1 (by decide) (by decide), mA_1 (by decide) (by decide), mA_1 (by decide) (by decide), mA_1 (by decide) (by decide), mA_1 (by decide) (by decide), mA_1 (by decide) (by decide), mA_1 (by decide) (by decide), mA_1 (by decide) (by decide), mA_1 (by decide) (by decide), mA_1 (by decide) (by decide), mA_1 (by decide) (by decide), mA_1 (by decide) (by decide), mA_1 (by decide) (by decide), mA_1 (by decide) (by decide), mA_1 (by decide) (by decide), mA_1 (by decide) (by decide), mA_1 (by decide) (by decide), mA_1 (by decide) (by decide), mA_1 (by decide) (by decide), mA_1 (by decide) (by decide), mA_1 (by decide) (by decide), mA_1 (by decide) (by decide), mA_1 (by decide) (by decide), mA_1 (by decide) (by decide), mA_1 (by decide) (by decide), mA_1 (by decide) (by decide), mA_1 (by decide) (by decide)]
  exact mA_e (by decide) rfl
theorem ct_29 (xs : Nat → Int32) (L : Nat) (d : Int32) (k : Nat) : (Sf xs L d).1 29 0 k = dflt ((aTy 29).getD .int) := by
  unfold Sf
  rw [nA_1 (by decide)]
  unfold modS
  rw [sS_1 (by decide), mA_1 (by decide) (by decide), mA_1 (by decide) (by decide), mA_1 (by decide) (by decide), mA_1 (by decide) (by decide), mA_1 (by decide) (by decide), mA_1 (by decide) (by decide), mA_1 (by decide) (by decide), mA_1 (by decide) (by decide), mA_1 (by decide) (by decide), mA_1 (by decide) (by decide), mA_1 (by decide) (by decide), mA_1 (by decide) (by decide), mA_1 (by decide) (by decide), mA_1 (by decide) (by decide), mA_1 (by decide) (by decide), mA_1 (by decide) (by decide), mA_1 (by decide) (by decide), mA_1 (by decide) (by decide), mA_1 (by decide) (by decide), mA_1 (by decide) (by decide), mA_1 (by decide) (by decide), mA_1 (by decide) (by decide), mA_1 (by decide) (by decide), mA_1 (by decide) (by decide), mA_1 (by decide) (by decide), mA_1 (by decide) (by decide), mA_1 (by decide) (by decide)]
  exact mA_e (by decide) rfl
theorem ct_30 (xs : Nat → Int32) (L : Nat) (d : Int32) (k : Nat) : (Sf xs L d).1 30 0 k = dflt ((aTy 30).getD .int) := by
  unfold Sf
  rw [nA_1 (by decide)]
  unfold modS
  rw [sS_1 (by decide), mA_1 (by decide) (by decide), mA_1 (by decide) (by decide), mA_1 (by decide) (by decide), mA_1 (by decide) (by decide), mA_1 (by decide) (by decide), mA_1 (by decide) (by decide), mA_1 (by decide) (by decide), mA_1 (by decide) (by decide), mA_1 (by decide) (by decide), mA_1 (by decide) (by decide), mA_1 (by decide) (by decide), mA_1 (by decide) (by decide), mA_1 (by decide) (by decide), mA_1 (by decide) (by decide), mA_1 (by decide) (by decide), mA_1 (by decide) (by decide), mA_1 (by decide) (by decide), mA_1 (by decide) (by decide), mA_1 (by decide) (by decide), mA_1 (by decide) (by decide), mA_1 (by decide) (by decide), mA_1 (by decide) (by decide), mA_1 (by decide) (by decide), mA_1 (by decide) (by decide), mA_1 (by decide) (by decide), mA_1 (by decide) (by decide)]
  exact mA_e (by decide) rfl
theorem ct_31 (xs : Nat → Int32) (L : Nat) (d : Int32) (k : Nat) : (Sf xs L d).1 31 0 k = dflt ((aTy 31).getD .int) := by
  unfold Sf
  rw [nA_1 (by decide)]
  unfold modS
  rw [sS_1 (by decide), mA_1 (by decide) (by decide), mA_1 (by decide) (by decide), mA_1 (by decide) (by decide), mA_1 (by decide) (by decide), mA_1 (by decide) (by decide), mA_1 (by decide) (by decide), mA_1 (by decide) (by decide), mA_1 (by decide) (by decide), mA_1 (by decide) (by decide), mA_1 (by decide) (by decide), mA_1 (by decide) (by decide), mA_1 (by decide) (by decide), mA_1 (by decide) (by decide), mA_1 (by decide) (by decide), mA_1 (by decide) (by decide), mA_1 (by decide) (by decide), mA_1 (by decide) (by decide), mA_1 (by decide) (by decide), mA_1 (by decide) (by decide), mA_1 (by decide) (by decide), mA_1 (by decide) (by decide), mA_1 (by decide) (by decide), mA_1 (by decide) (by decide), mA_1 (by decide) (by decide), mA_1 (by decide) (by decide)]
  exact mA_e (by decide) rfl
theorem ct_32 (xs : Nat → Int32) (L : Nat) (d : Int32) (k : Nat) : (Sf xs L d).1 32 0 k = dflt ((aTy 32).getD .int) := by
  unfold Sf
  rw [nA_1 (by decide)]
  unfold modS
  rw [sS_1 (by decide), mA_1 (by decide) (by decide), mA_1 (by decide) (by decide), mA_1 (by decide) (by decide), mA_1 (by decide) (by decide), mA_1 (by decide) (by decide), mA_1 (by decide) (by decide), mA_1 (by decide) (by decide), mA_1 (by decide) (by decide), mA_1 (by decide) (by decide), mA_1 (by decide) (by decide), mA_1 (by decide) (by decide), mA_1 (by decide) (by decide), mA_1 (by decide) (by decide), mA_1 (by decide) (by decide), mA_1 (by decide) (by decide), mA_1 (by decide) (by decide), mA_1 (by decide) (by decide), mA_1 (by decide) (by decide), mA_1 (by decide) (by decide), mA_1 (by decide) (by decide), mA_1 (by decide) (by decide), mA_1 (by decide) (by decide), mA_1 (by decide) (by decide), mA_1 (by decide) (by decide)]
  exact mA_e (by decide) rfl
theorem ct_33 (xs : Nat → Int32) (L : Nat) (d : Int32) (k : Nat) : (Sf xs L d).1 33 0 k = dflt ((aTy 33).getD .int) := by
  unfold Sf
  rw [nA_1 (by decide)]
  unfold modS
  rw [sS_1 (by decide), mA_1 (by decide) (by decide), mA_1 (by decide) (by decide), mA_1 (by decide) (by decide), mA_1 (by decide) (by decide), mA_1 (by decide) (by decide), mA_1 (by decide) (by decide), mA_1 (by decide) (by decide), mA_1 (by decide) (by decide), mA_1 (by decide) (by decide), mA_1 (by decide) (by decide), mA_1 (by decide) (by decide), mA_1 (by decide) (by decide), mA_1 (by decide) (by decide), mA_1 (by decide) (by decide), mA_1 (by decide) (by decide), mA_1 (by decide) (by decide), mA_1 (by decide) (by decide), mA_1 (by decide) (by decide), mA_1 (by decide) (by decide), mA_1 (by decide) (by decide), mA_1 (by decide) (by decide), mA_1 (by decide) (by decide), mA_1 (by decide) (by decide)]
  exact mA_e (by decide) rfl
theorem ct_34 (xs : Nat → Int32) (L : Nat) (d : Int32) (k : Nat) : (Sf xs L d).1 34 0 k = dflt ((aTy 34).getD .int) := by
  unfold Sf
  rw [nA_1 (by decide)]
  unfold modS
  rw [sS_1 (by decide), mA_1 (by decide) (by decide), mA_1 (by decide) (by decide), mA_1 (by decide) (by decide), mA_1 (by decide) (by decide), mA_1 (by decide) (by decide), mA_1 (by decide) (by decide), mA_1 (by decide) (by decide), mA_1 (by decide) (by decide), mA_1 (by decide) (by decide), mA_1 (by decide) (by decide), mA_1 (by decide) (by decide), mA_1 (by decide) (by decide), mA_1 (by decide) (by decide), mA_1 (by decide) (by decide), mA_1 (by decide) (by decide), mA_1 (by decide) (by decide), mA_1 (by decide) (by decide), mA_1 (by decide) (by decide), mA_1 (by decide) (by decide), mA_1 (by decide) (by decide), mA_1 (by decide) (by decide), mA_1 (by decide) (by decide)]
  exact mA_e (by decide) rfl
theorem ct_35 (xs : Nat → Int32) (L : Nat) (d : Int32) (k : Nat) : (Sf xs L d).1 35 0 k = dflt ((aTy 35).getD .int) := by
  unfold Sf
  rw [nA_1 (by decide)]
  unfold modS
  rw [sS_1 (by decide), mA_1 (by decide) (by decide), mA_1 (by decide) (by decide), mA_1 (by decide) (by decide), mA_1 (by decide) (by decide), mA_1 (by decide) (by decide), mA_1 (by decide) (by decide), mA_1 (by decide) (by decide), mA_1 (by decide) (by decide), mA_1 (by decide) (by decide), mA_1 (by decide) (by decide), mA_1 (by decide) (by decide), mA_1 (by decide) (by decide), mA_1 (by decide) (by decide), mA_1 (by decide) (by decide), mA_1 (by decide) (by decide), mA_1 (by decide) (by decide), mA_1 (by decide) (by decide), mA_1 (by decide) (by decide), mA_1 (by decide) (by decide), mA_1 (by decide) (by decide), mA_1 (by decide) (by decide)]
  exact mA_e (by decide) rfl
theorem ct_36 (xs : Nat → Int32) (L : Nat) (d : Int32) (k : Nat) : (Sf xs L d).1 36 0 k = dflt ((aTy 36).getD .int) := by
  unfold Sf
  rw [nA_1 (by decide)]
  unfold modS
  rw [sS_1 (by decide), mA_1 (by decide) (by decide), mA_1 (by decide) (by decide), mA_1 (by decide) (by decide), mA_1 (by decide) (by decide), mA_1 (by decide) (by decide), mA_1 (by decide) (by decide), mA_1 (by decide) (by decide), mA_1 (by decide) (by decide), mA_1 (by decide) (by decide), mA_1 (by decide) (by decide), mA_1 (by decide) (by decide), mA_1 (by decide) (by decide), mA_1 (by decide) (by decide), mA_1 (by decide) (by decide), mA_1 (by decide) (by decide), mA_1 (by decide) (by decide), mA_1 (by decide) (by decide), mA_1 (by decide) (by decide), mA_1 (by decide) (by decide), mA_1 (by decide) (by decide)]
  exact mA_e (by decide) rfl
theorem ct_37 (xs : Nat → Int32) (L : Nat) (d : Int32) (k : Nat) : (Sf xs L d).1 37 0 k = dflt ((aTy 37).getD .int) := by
  unfold Sf
  rw [nA_1 (by decide)]
  unfold modS
  rw [sS_1 (by decide), mA_1 (by decide) (by decide), mA_1 (by decide) (by decide), mA_1 (by decide) (by decide), mA_1 (by decide) (by decide), mA_1 (by decide) (by decide), mA_1 (by decide) (by decide), mA_1 (by decide) (by decide), mA_1 (by decide) (by decide), mA_1 (by decide) (by decide), mA_1 (by decide) (by decide), mA_1 (by decide) (by decide), mA_1 (by decide) (by decide), mA_1 (by decide) (by decide), mA_1 (by decide) (by decide), mA_1 (by decide) (by decide), mA_1 (by decide) (by decide), mA_1 (by decide) (by decide), mA_1 (by decide) (by decide), mA_1 (by decide) (by decide)]
  exact mA_e (by decide) rfl
theorem ct_38 (xs : Nat → Int32) (L : Nat) (d : Int32) (k : Nat) : (Sf xs L d).1 38 0 k = dflt ((aTy 38).getD .int) := by
  unfold Sf
  rw [nA_1 (by decide)]
  unfold modS
  rw [sS_1 (by decide), mA_1 (by decide) (by decide), mA_1 (by decide) (by decide), mA_1 (by decide) (by decide), mA_1 (by decide) (by decide), mA_1 (by decide) (by decide), mA_1 (by decide) (by decide), mA_1 (by decide) (by decide), mA_1 (by decide) (by decide), mA_1 (by decide) (by decide), mA_1 (by decide) (by decide), mA_1 (by decide) (by decide), mA_1 (by decide) (by decide), mA_1 (by decide) (by decide), mA_1 (by decide) (by decide), mA_1 (by decide) (by decide), mA_1 (by decide) (by decide), mA_1 (by decide) (by decide), mA_1 (by decide) (by decide)]
  exact mA_e (by decide) rfl
theorem ct_39 (xs : Nat → Int32) (L : Nat) (d : Int32) (k : Nat) : (Sf xs L d).1 39 0 k = dflt ((aTy 39).getD .int) := by
  unfold Sf
  rw [nA_1 (by decide)]
  unfold modS
  rw [sS_1 (by decide), mA_1 (by decide) (by decide), mA_1 (by decide) (by decide), mA_1 (by decide) (by decide), mA_1 (by decide) (by decide), mA_1 (by decide) (by decide), mA_1 (by decide) (by decide), mA_1 (by decide) (by decide), mA_1 (by decide) (by decide), mA_1 (by decide) (by decide), mA_1 (by decide) (by decide), mA_1 (by decide) (by decide), mA_1 (by decide) (by decide), mA_1 (by decide) (by decide), mA_1 (by decide) (by decide), mA_1 (by decide) (by decide), mA_1 (by decide) (by decide), mA_1 (by decide) (by decide)]
  exact mA_e (by decide) rfl
theorem ct_40 (xs : Nat → Int32) (L : Nat) (d : Int32) (k : Nat) : (Sf xs L d).1 40 0 k = dflt ((aTy 40).getD .int) := by
  unfold Sf
  rw [nA_1 (by decide)]
  unfold modS
  rw [sS_1 (by decide), mA_1 (by decide) (by decide), mA_1 (by decide) (by decide), mA_1 (by decide) (by decide), mA_1 (by decide) (by decide), mA_1 (by decide) (by decide), mA_1 (by decide) (by decide), mA_1 (by decide) (by decide), mA_1 (by decide) (by decide), mA_1 (by decide) (by decide), mA_1 (by decide) (by decide), mA_1 (by decide) (by decide), mA_1 (by decide) (by decide), mA_1 (by decide) (by decide), mA_1 (by decide) (by decide), mA_1 (by decide) (by decide), mA_1 (by decide) (by decide)]
  exact mA_e (by decide) rfl
theorem ct_41 (xs : Nat → Int32) (L : Nat) (d : Int32) (k : Nat) : (Sf xs L d).1 41 0 k = dflt ((aTy 41).getD .int) := by
  unfold Sf
  rw [nA_1 (by decide)]
  unfold modS
  rw [sS_1 (by decide), mA_1 (by decide) (by decide), mA_1 (by decide) (by decide), mA_1 (by decide) (by decide), mA_1 (by decide) (by decide), mA_1 (by decide) (by decide), mA_1 (by decide) (by decide), mA_1 (by decide) (by decide), mA_1 (by decide) (by decide), mA_1 (by decide) (by decide), mA_1 (by decide) (by decide), mA_1 (by decide) (by decide), mA_1 (by decide) (by decide), mA_1 (by decide) (by decide), mA_1 (by decide) (by decide), mA_1 (by decide) (by decide)]
  exact mA_e (by decide) rfl
theorem ct_42 (xs : Nat → Int32) (L : Nat) (d : Int32) (k : Nat) : (Sf xs L d).1 42 0 k = dflt ((aTy 42).getD .int) := by
  unfold Sf
  rw [nA_1 (by decide)]
  unfold modS
  rw [sS_1 (by decide), mA_1 (by decide) (by decide), mA_1 (by decide) (by decide), mA_1 (by decide) (by decide), mA_1 (by decide) (by decide), mA_1 (by decide) (by decide), mA_1 (by decide) (by decide), mA_1 (by decide) (by decide), mA_1 (by decide) (by decide), mA_1 (by decide) (by decide), mA_1 (by decide) (by decide), mA_1 (by decide) (by decide), mA_1 (by decide) (by decide), mA_1 (by decide) (by decide), mA_1 (by decide) (by decide)]
  exact mA_e (by decide) rfl
theorem ct_43 (xs : Nat → Int32) (L : Nat) (d : Int32) (k : Nat) : (Sf xs L d).1 43 0 k = dflt ((aTy 43).getD .int) := by
  unfold Sf
  rw [nA_1 (by decide)]
  unfold modS
  rw [sS_1 (by decide), mA_1 (by decide) (by decide), mA_1 (by decide) (by decide), mA_1 (by decide) (by decide), mA_1 (by decide) (by decide), mA_1 (by decide) (by decide), mA_1 (by decide) (by decide), mA_1 (by decide) (by decide), mA_1 (by decide) (by decide), mA_1 (by decide) (by decide), mA_1 (by decide) (by decide), mA_1 (by decide) (by decide), mA_1 (by decide) (by decide), mA_1 (by decide) (by decide)]
  exact mA_e (by decide) rfl
theorem ct_44 (xs : Nat → Int32) (L : Nat) (d : Int32) (k : Nat) : (Sf xs L d).1 44 0 k = dflt ((aTy 44).getD .int) := by
  unfold Sf
  rw [nA_1 (by decide)]
  unfold modS
  rw [sS_1 (by decide), mA_1 (by decide) (by decide), mA_1 (by decide) (by decide), mA_1 (by decide) (by decide), mA_1 (by decide) (by decide), mA_1 (by decide) (by decide), mA_1 (by decide) (by decide), mA_1 (by decide) (by decide), mA_1 (by decide) (by decide), mA_1 (by decide) (by decide), mA_1 (by decide) (by decide), mA_1 (by decide) (by decide), mA_1 (by decide) (by decide)]
  exact mA_e (by decide) rfl
theorem ct_45 (xs : Nat → Int32) (L : Nat) (d : Int32) (k : Nat) : (Sf xs L d).1 45 0 k = dflt ((aTy 45).getD .int) := by
  unfold Sf
  rw [nA_1 (by decide)]
  unfold modS
  rw [sS_1 (by decide), mA_1 (by decide) (by decide), mA_1 (by decide) (by decide), mA_1 (by decide) (by decide), mA_1 (by decide) (by decide), mA_1 (by decide) (by decide), mA_1 (by decide) (by decide), mA_1 (by decide) (by decide), mA_1 (by decide) (by decide), mA_1 (by decide) (by decide), mA_1 (by decide) (by decide), mA_1 (by decide) (by decide)]
  exact mA_e (by decide) rfl
theorem ct_46 (xs : Nat → Int32) (L : Nat) (d : Int32) (k : Nat) : (Sf xs L d).1 46 0 k = dflt ((aTy 46).getD .int) := by
  unfold Sf
  rw [nA_1 (by decide)]
  unfold modS
  rw [sS_1 (by decide), mA_1 (by decide) (by decide), mA_1 (by decide) (by decide), mA_1 (by decide) (by decide), mA_1 (by decide) (by decide), mA_1 (by decide) (by decide), mA_1 (by decide) (by decide), mA_1 (by decide) (by decide), mA_1 (by decide) (by decide), mA_1 (by decide) (by decide), mA_1 (by decide) (by decide)]
  exact mA_e (by decide) rfl
theorem ct_47 (xs : Nat → Int32) (L : Nat) (d : Int32) (k : Nat) : (Sf xs L d).1 47 0 k = dflt ((aTy 47).getD .int) := by
  unfold Sf
  rw [nA_1 (by decide)]
  unfold modS
  rw [sS_1 (by decide), mA_1 (by decide) (by decide), mA_1 (by decide) (by decide), mA_1 (by decide) (by decide), mA_1 (by decide) (by decide), mA_1 (by decide) (by decide), mA_1 (by decide) (by decide), mA_1 (by decide) (by decide), mA_1 (by decide) (by decide), mA_1 (by decide) (by decide)]
  exact mA_e (by decide) rfl
theorem ct_48 (xs : Nat → Int32) (L : Nat) (d : Int32) (k : Nat) : (Sf xs L d).1 48 0 k = dflt ((aTy 48).getD .int) := by
  unfold Sf
  rw [nA_1 (by decide)]
  unfold modS
  rw [sS_1 (by decide), mA_1 (by decide) (by decide), mA_1 (by decide) (by decide), mA_1 (by decide) (by decide), mA_1 (by decide) (by decide), mA_1 (by decide) (by decide), mA_1 (by decide) (by decide), mA_1 (by decide) (by decide), mA_1 (by decide) (by decide)]
  exact mA_e (by decide) rfl
theorem ct_49 (xs : Nat → Int32) (L : Nat) (d : Int32) (k : Nat) : (Sf xs L d).1 49 0 k = dflt ((aTy 49).getD .int) := by
  unfold Sf
  rw [nA_1 (by decide)]
  unfold modS
  rw [sS_1 (by decide), mA_1 (by decide) (by decide), mA_1 (by decide) (by decide), mA_1 (by decide) (by decide), mA_1 (by decide) (by decide), mA_1 (by decide) (by decide), mA_1 (by decide) (by decide), mA_1 (by decide) (by decide)]
  exact mA_e (by decide) rfl
theorem ct_50 (xs : Nat → Int32) (L : Nat) (d : Int32) (k : Nat) : (Sf xs L d).1 50 0 k = dflt ((aTy 50).getD .int) := by
  unfold Sf
  rw [nA_1 (by decide)]
  unfold modS
  rw [sS_1 (by decide), mA_1 (by decide) (by decide), mA_1 (by decide) (by decide), mA_1 (by decide) (by decide), mA_1 (by decide) (by decide), mA_1 (by decide) (by decide), mA_1 (by decide) (by decide)]
  exact mA_e (by decide) rfl
theorem ct_52 (xs : Nat → Int32) (L : Nat) (d : Int32) (k : Nat) : (Sf xs L d).1 52 0 k = dflt ((aTy 52).getD .int) := by
  unfold Sf
  rw [nA_1 (by decide)]
  unfold modS
  rw [sS_1 (by decide), mA_1 (by decide) (by decide), mA_1 (by decide) (by decide), mA_1 (by decide) (by decide), mA_1 (by decide) (by decide), mA_1 (by decide) (by decide)]
  exact mA_e (by decide) rfl
theorem ct_53 (xs : Nat → Int32) (L : Nat) (d : Int32) (k : Nat) : (Sf xs L d).1 53 0 k = dflt ((aTy 53).getD .int) := by
  unfold Sf
  rw [nA_1 (by decide)]
  unfold modS
  rw [sS_1 (by decide), mA_1 (by decide) (by decide), mA_1 (by decide) (by decide), mA_1 (by decide) (by decide), mA_1 (by decide) (by decide)]
  exact mA_e (by decide) rfl
theorem ct_54 (xs : Nat → Int32) (L : Nat) (d : Int32) (k : Nat) : (Sf xs L d).1 54 0 k = dflt ((aTy 54).getD .int) := by
  unfold Sf
  rw [nA_1 (by decide)]
  unfold modS
  rw [sS_1 (by decide), mA_1 (by decide) (by decide), mA_1 (by decide) (by decide), mA_1 (by decide) (by decide)]
  exact mA_e (by decide) rfl
theorem ct_56 (xs : Nat → Int32) (L : Nat) (d : Int32) (k : Nat) : (Sf xs L d).1 56 0 k = dflt ((aTy 56).getD .int) := by
  unfold Sf
  rw [nA_1 (by decide)]
  unfold modS
  rw [sS_1 (by decide), mA_1 (by decide) (by decide), mA_1 (by decide) (by decide)]
  exact mA_e (by decide) rfl
theorem ct_57 (xs : Nat → Int32) (L : Nat) (d : Int32) (k : Nat) : (Sf xs L d).1 57 0 k = dflt ((aTy 57).getD .int) := by
  unfold Sf
  rw [nA_1 (by decide)]
  unfold modS
  rw [sS_1 (by decide), mA_1 (by decide) (by decide)]
  exact mA_e (by decide) rfl
theorem ct_58 (xs : Nat → Int32) (L : Nat) (d : Int32) (k : Nat) : (Sf xs L d).1 58 0 k = dflt ((aTy 58).getD .int) := by
  unfold Sf
  rw [nA_1 (by decide)]
  unfold modS
  rw [sS_1 (by decide)]
  exact mA_e (by decide) rfl
theorem cm_0 (xs : Nat → Int32) (L : Nat) (d : Int32) : (Sf xs L d).1 8 0 0 = vI 0 := by
  unfold Sf
  rw [nA_1 (by decide)]
  unfold modS
  rw [sS_k (by decide), mA_8n (by decide) (by decide), mA_8n (by decide) (by decide), mA_8n (by decide) (by decide), mA_8n (by decide) (by decide), mA_8n (by decide) (by decide), mA_8n (by decide) (by decide), mA_8n (by decide) (by decide), mA_8n (by decide) (by decide), mA_8n (by decide) (by decide), mA_8n (by decide) (by decide), mA_8n (by decide) (by decide), mA_8n (by decide) (by decide), mA_8n (by decide) (by decide), mA_8n (by decide) (by decide), mA_8n (by decide) (by decide), mA_8n (by decide) (by decide), mA_8n (by decide) (by decide), mA_8n (by decide) (by decide), mA_8n (by decide) (by decide), mA_8n (by decide) (by decide), mA_8n (by decide) (by decide), mA_8n (by decide) (by decide), mA_8n (by decide) (by decide), mA_8n (by decide) (by decide), mA_8n (by decide) (by decide), mA_8n (by decide) (by decide), mA_8n (by decide) (by decide), mA_8n (by decide) (by decide), mA_8n (by decide) (by decide), mA_8n (by decide) (by decide)]
  rfl
theorem cm_1 (xs : Nat → Int32) (L : Nat) (d : Int32) : (Sf xs L d).1 8 0 1 = vI d := by
  unfold Sf
  rw [nA_1 (by decide)]
  unfold modS
  rfl
theorem cm_2 (xs : Nat → Int32) (L : Nat) (d : Int32) : (Sf xs L d).1 8 0 2 = vI 0 := by
  unfold Sf
  rw [nA_1 (by decide)]
  unfold modS
  rw [sS_k (by decide), mA_8n (by decide) (by decide), mA_8n (by decide) (by decide), mA_8n (by decide) (by decide), mA_8n (by decide) (by decide), mA_8n (by decide) (by decide), mA_8n (by decide) (by decide), mA_8n (by decide) (by decide), mA_8n (by decide) (by decide), mA_8n (by decide) (by decide), mA_8n (by decide) (by decide), mA_8n (by decide) (by decide), mA_8n (by decide) (by decide), mA_8n (by decide) (by decide), mA_8n (by decide) (by decide), mA_8n (by decide) (by decide), mA_8n (by decide) (by decide), mA_8n (by decide) (by decide), mA_8n (by decide) (by decide), mA_8n (by decide) (by decide), mA_8n (by decide) (by decide), mA_8n (by decide) (by decide), mA_8n (by decide) (by decide), mA_8n (by decide) (by decide), mA_8n (by decide) (by decide), mA_8n (by decide) (by decide), mA_8n (by decide) (by decide), mA_8n (by decide) (by decide), mA_8n (by decide) (by decide), mA_8n (by decide) (by decide), mA_8n (by decide) (by decide)]
  rfl
theorem cm_3 (xs : Nat → Int32) (L : Nat) (d : Int32) : (Sf xs L d).1 8 0 3 = vI 0 := by
  unfold Sf
  rw [nA_1 (by decide)]
  unfold modS
  rw [sS_k (by decide), mA_8n (by decide) (by decide), mA_8n (by decide) (by decide), mA_8n (by decide) (by decide), mA_8n (by decide) (by decide), mA_8n (by decide) (by decide), mA_8n (by decide) (by decide), mA_8n (by decide) (by decide), mA_8n (by decide) (by decide), mA_8n (by decide) (by decide), mA_8n (by decide) (by decide), mA_8n (by decide) (by decide), mA_8n (by decide) (by decide), mA_8n (by decide) (by decide), mA_8n (by decide) (by decide), mA_8n (by decide) (by decide), mA_8n (by decide) (by decide), mA_8n (by decide) (by decide), mA_8n (by decide) (by decide), mA_8n (by decide) (by decide), mA_8n (by decide) (by decide), mA_8n (by decide) (by decide), mA_8n (by decide) (by decide), mA_8n (by decide) (by decide), mA_8n (by decide) (by decide), mA_8n (by decide) (by decide), mA_8n (by decide) (by decide), mA_8n (by decide) (by decide), mA_8n (by decide) (by decide), mA_8n (by decide) (by decide), mA_8n (by decide) (by decide)]
  rfl
theorem cm_4 (xs : Nat → Int32) (L : Nat) (d : Int32) : (Sf xs L d).1 8 0 4 = vI (-1) := by
  unfold Sf
  rw [nA_1 (by decide)]
  unfold modS
  rw [sS_k (by decide), mA_8n (by decide) (by decide), mA_8n (by decide) (by decide), mA_8n (by decide) (by decide), mA_8n (by decide) (by decide), mA_8n (by decide) (by decide), mA_8n (by decide) (by decide), mA_8n (by decide) (by decide), mA_8n (by decide) (by decide), mA_8n (by decide) (by decide), mA_8n (by decide) (by decide), mA_8n (by decide) (by decide), mA_8n (by decide) (by decide), mA_8n (by decide) (by decide), mA_8n (by decide) (by decide), mA_8n (by decide) (by decide), mA_8n (by decide) (by decide), mA_8n (by decide) (by decide), mA_8n (by decide) (by decide), mA_8n (by decide) (by decide), mA_8n (by decide) (by decide), mA_8n (by decide) (by decide), mA_8n (by decide) (by decide), mA_8n (by decide) (by decide), mA_8n (by decide) (by decide), mA_8n (by decide) (by decide), mA_8n (by decide) (by decide), mA_8n (by decide) (by decide), mA_8n (by decide) (by decide), mA_8n (by decide) (by decide), mA_8n (by decide) (by decide)]
  rfl
theorem cm_5 (xs : Nat → Int32) (L : Nat) (d : Int32) : (Sf xs L d).1 8 0 5 = vI 0 := by
  unfold Sf
  rw [nA_1 (by decide)]
  unfold modS
  rw [sS_k (by decide), mA_8n (by decide) (by decide), mA_8n (by decide) (by decide), mA_8n (by decide) (by decide), mA_8n (by decide) (by decide), mA_8n (by decide) (by decide), mA_8n (by decide) (by decide), mA_8n (by decide) (by decide), mA_8n (by decide) (by decide), mA_8n (by decide) (by decide), mA_8n (by decide) (by decide), mA_8n (by decide) (by decide), mA_8n (by decide) (by decide), mA_8n (by decide) (by decide), mA_8n (by decide) (by decide), mA_8n (by decide) (by decide), mA_8n (by decide) (by decide), mA_8n (by decide) (by decide), mA_8n (by decide) (by decide), mA_8n (by decide) (by decide), mA_8n (by decide) (by decide), mA_8n (by decide) (by decide), mA_8n (by decide) (by decide), mA_8n (by decide) (by decide), mA_8n (by decide) (by decide), mA_8n (by decide) (by decide), mA_8n (by decide) (by decide), mA_8n (by decide) (by decide), mA_8n (by decide) (by decide), mA_8n (by decide) (by decide), mA_8n (by decide) (by decide)]
  rfl
theorem cm_6 (xs : Nat → Int32) (L : Nat) (d : Int32) : (Sf xs L d).1 8 0 6 = vI 0 := by
  unfold Sf
  rw [nA_1 (by decide)]
  unfold modS
  rw [sS_k (by decide), mA_8n (by decide) (by decide), mA_8n (by decide) (by decide), mA_8n (by decide) (by decide), mA_8n (by decide) (by decide), mA_8n (by decide) (by decide), mA_8n (by decide) (by decide), mA_8n (by decide) (by decide), mA_8n (by decide) (by decide), mA_8n (by decide) (by decide), mA_8n (by decide) (by decide), mA_8n (by decide) (by decide), mA_8n (by decide) (by decide), mA_8n (by decide) (by decide), mA_8n (by decide) (by decide), mA_8n (by decide) (by decide), mA_8n (by decide) (by decide), mA_8n (by decide) (by decide), mA_8n (by decide) (by decide), mA_8n (by decide) (by decide), mA_8n (by decide) (by decide), mA_8n (by decide) (by decide), mA_8n (by decide) (by decide), mA_8n (by decide) (by decide), mA_8n (by decide) (by decide), mA_8n (by decide) (by decide), mA_8n (by decide) (by decide), mA_8n (by decide) (by decide), mA_8n (by decide) (by decide), mA_8n (by decide) (by decide), mA_8n (by decide) (by decide)]
  rfl
theorem cm_7 (xs : Nat → Int32) (L : Nat) (d : Int32) : (Sf xs L d).1 8 0 7 = vR 27 0 := by
  unfold Sf
  rw [nA_1 (by decide)]
  unfold modS
  rw [sS_k (by decide), mA_8n (by decide) (by decide), mA_8n (by decide) (by decide), mA_8n (by decide) (by decide), mA_8n (by decide) (by decide), mA_8n (by decide) (by decide), mA_8n (by decide) (by decide), mA_8n (by decide) (by decide), mA_8n (by decide) (by decide), mA_8n (by decide) (by decide), mA_8n (by decide) (by decide), mA_8n (by decide) (by decide), mA_8n (by decide) (by decide), mA_8n (by decide) (by decide), mA_8n (by decide) (by decide), mA_8n (by decide) (by decide), mA_8n (by decide) (by decide), mA_8n (by decide) (by decide), mA_8n (by decide) (by decide), mA_8n (by decide) (by decide), mA_8n (by decide) (by decide), mA_8n (by decide) (by decide), mA_8n (by decide) (by decide), mA_8n (by decide) (by decide), mA_8n (by decide) (by decide), mA_8n (by decide) (by decide), mA_8n (by decide) (by decide), mA_8n (by decide) (by decide), mA_8n (by decide) (by decide), mA_8n (by decide) (by decide), mA_8e (by decide)]
  rfl
theorem cm_8 (xs : Nat → Int32) (L : Nat) (d : Int32) : (Sf xs L d).1 8 0 8 = vR 28 0 := by
  unfold Sf
  rw [nA_1 (by decide)]
  unfold modS
  rw [sS_k (by decide), mA_8n (by decide) (by decide), mA_8n (by decide) (by decide), mA_8n (by decide) (by decide), mA_8n (by decide) (by decide), mA_8n (by decide) (by decide), mA_8n (by decide) (by decide), mA_8n (by decide) (by decide), mA_8n (by decide) (by decide), mA_8n (by decide) (by decide), mA_8n (by decide) (by decide), mA_8n (by decide) (by decide), mA_8n (by decide) (by decide), mA_8n (by decide) (by decide), mA_8n (by decide) (by decide), mA_8n (by decide) (by decide), mA_8n (by decide) (by decide), mA_8n (by decide) (by decide), mA_8n (by decide) (by decide), mA_8n (by decide) (by decide), mA_8n (by decide) (by decide), mA_8n (by decide) (by decide), mA_8n (by decide) (by decide), mA_8n (by decide) (by decide), mA_8n (by decide) (by decide), mA_8n (by decide) (by decide), mA_8n (by decide) (by decide), mA_8n (by decide) (by decide), mA_8n (by decide) (by decide), mA_8e (by decide)]
  rfl
theorem cm_9 (xs : Nat → Int32) (L : Nat) (d : Int32) : (Sf xs L d).1 8 0 9 = vR 29 0 := by
  unfold Sf
  rw [nA_1 (by decide)]
  unfold modS
  rw [sS_k (by decide), mA_8n (by decide) (by decide), mA_8n (by decide) (by decide), mA_8n (by decide) (by decide), mA_8n (by decide) (by decide), mA_8n (by decide) (by decide), mA_8n (by decide) (by decide), mA_8n (by decide) (by decide), mA_8n (by decide) (by decide), mA_8n (by decide) (by decide), mA_8n (by decide) (by decide), mA_8n (by decide) (by decide), mA_8n (by decide) (by decide), mA_8n (by decide) (by decide), mA_8n (by decide) (by decide), mA_8n (by decide) (by decide), mA_8n (by decide) (by decide), mA_8n (by decide) (by decide), mA_8n (by decide) (by decide), mA_8n (by decide) (by decide), mA_8n (by decide) (by decide), mA_8n (by decide) (by decide), mA_8n (by decide) (by decide), mA_8n (by decide) (by decide), mA_8n (by decide) (by decide), mA_8n (by decide) (by decide), mA_8n (by decide) (by decide), mA_8n (by decide) (by decide), mA_8e (by decide)]
  rfl
theorem cm_10 (xs : Nat → Int32) (L : Nat) (d : Int32) : (Sf xs L d).1 8 0 10 = vR 30 0 := by
  unfold Sf
  rw [nA_1 (by decide)]
  unfold modS
  rw [sS_k (by decide), mA_8n (by decide) (by decide), mA_8n (by decide) (by decide), mA_8n (by decide) (by decide), mA_8n (by decide) (by decide), mA_8n (by decide) (by decide), mA_8n (by decide) (by decide), mA_8n (by decide) (by decide), mA_8n (by decide) (by decide), mA_8n (by decide) (by decide), mA_8n (by decide) (by decide), mA_8n (by decide) (by decide), mA_8n (by decide) (by decide), mA_8n (by decide) (by decide), mA_8n (by decide) (by decide), mA_8n (by decide) (by decide), mA_8n (by decide) (by decide), mA_8n (by decide) (by decide), mA_8n (by decide) (by decide), mA_8n (by decide) (by decide), mA_8n (by decide) (by decide), mA_8n (by decide) (by decide), mA_8n (by decide) (by decide), mA_8n (by decide) (by decide), mA_8n (by decide) (by decide), mA_8n (by decide) (by decide), mA_8n (by decide) (by decide), mA_8e (by decide)]
  rfl
theorem cm_11 (xs : Nat → Int32) (L : Nat) (d : Int32) : (Sf xs L d).1 8 0 11 = vR 31 0 := by
  unfold Sf
  rw [nA_1 (by decide)]
  unfold modS
  rw [sS_k (by decide), mA_8n (by decide) (by decide), mA_8n (by decide) (by decide), mA_8n (by decide) (by decide), mA_8n (by decide) (by decide), mA_8n (by decide) (by decide), mA_8n (by decide) (by decide), mA_8n (by decide) (by decide), mA_8n (by decide) (by decide), mA_8n (by decide) (by decide), mA_8n (by decide) (by decide), mA_8n (by decide) (by decide), mA_8n (by decide) (by decide), mA_8n (by decide) (by decide), mA_8n (by decide) (by decide), mA_8n (by decide) (by decide), mA_8n (by decide) (by decide), mA_8n (by decide) (by decide), mA_8n (by decide) (by decide), mA_8n (by decide) (by decide), mA_8n (by decide) (by decide), mA_8n (by decide) (by decide), mA_8n (by decide) (by decide), mA_8n (by decide) (by decide), mA_8n (by decide) (by decide), mA_8n (by decide) (by decide), mA_8e (by decide)]
  rfl
theorem cm_12 (xs : Nat → Int32) (L : Nat) (d : Int32) : (Sf xs L d).1 8 0 12 = vR 32 0 := by
  unfold Sf
  rw [nA_1 (by decide)]
  unfold modS
  rw [sS_k (by decide), mA_8n (by decide) (by decide), mA_8n (by decide) (by decide), mA_8n (by decide) (by decide), mA_8n (by decide) (by decide), mA_8n (by decide) (by decide), mA_8n (by decide) (by decide), mA_8n (by decide) (by decide), mA_8n (by decide) (by decide), mA_8n (by decide) (by decide), mA_8n (by decide) (by decide), mA_8n (by decide) (by decide), mA_8n (by decide) (by decide), mA_8n (by decide) (by decide), mA_8n (by decide) (by decide), mA_8n (by decide) (by decide), mA_8n (by decide) (by decide), mA_8n (by decide) (by decide), mA_8n (by decide) (by decide), mA_8n (by decide) (by decide), mA_8n (by decide) (by decide), mA_8n (by decide) (by decide), mA_8n (by decide) (by decide), mA_8n (by decide) (by decide), mA_8n (by decide) (by decide), mA_8e (by decide)]
  rfl
theorem cm_13 (xs : Nat → Int32) (L : Nat) (d : Int32) : (Sf xs L d).1 8 0 13 = vR 33 0 := by
  unfold Sf
  rw [nA_1 (by decide)]
  unfold modS
  rw [sS_k (by decide), mA_8n (by decide) (by decide), mA_8n (by decide) (by decide), mA_8n (by decide) (by decide), mA_8n (by decide) (by decide), mA_8n (by decide) (by decide), mA_8n (by decide) (by decide), mA_8n (by decide) (by decide), mA_8n (by decide) (by decide), mA_8n (by decide) (by decide), mA_8n (by decide) (by decide), mA_8n (by decide) (by decide), mA_8n (by decide) (by decide), mA_8n (by decide) (by decide), mA_8n (by decide) (by decide), mA_8n (by decide) (by decide), mA_8n (by decide) (by decide), mA_8n (by decide) (by decide), mA_8n (by decide) (by decide), mA_8n (by decide) (by decide), mA_8n (by decide) (by decide), mA_8n (by decide) (by decide), mA_8n (by decide) (by decide), mA_8n (by decide) (by decide), mA_8e (by decide)]
  rfl
theorem cm_14 (xs : Nat → Int32) (L : Nat) (d : Int32) : (Sf xs L d).1 8 0 14 = vR 34 0 := by
  unfold Sf
  rw [nA_1 (by decide)]
  unfold modS
  rw [sS_k (by decide), mA_8n (by decide) (by decide), mA_8n (by decide) (by decide), mA_8n (by decide) (by decide), mA_8n (by decide) (by decide), mA_8n (by decide) (by decide), mA_8n (by decide) (by decide), mA_8n (by decide) (by decide), mA_8n (by decide) (by decide), mA_8n (by decide) (by decide), mA_8n (by decide) (by decide), mA_8n (by decide) (by decide), mA_8n (by decide) (by decide), mA_8n (by decide) (by decide), mA_8n (by decide) (by decide), mA_8n (by decide) (by decide), mA_8n (by decide) (by decide), mA_8n (by decide) (by decide), mA_8n (by decide) (by decide), mA_8n (by decide) (by decide), mA_8n (by decide) (by decide), mA_8n (by decide) (by decide), mA_8n (by decide) (by decide), mA_8e (by decide)]
  rfl
theorem cm_15 (xs : Nat → Int32) (L : Nat) (d : Int32) : (Sf xs L d).1 8 0 15 = vR 35 0 := by
  unfold Sf
  rw [nA_1 (by decide)]
  unfold modS
  rw [sS_k (by decide), mA_8n (by decide) (by decide), mA_8n (by decide) (by decide), mA_8n (by decide) (by decide), mA_8n (by decide) (by decide), mA_8n (by decide) (by decide), mA_8n (by decide) (by decide), mA_8n (by decide) (by decide), mA_8n (by decide) (by decide), mA_8n (by decide) (by decide), mA_8n (by decide) (by decide), mA_8n (by decide) (by decide), mA_8n (by decide) (by decide), mA_8n (by decide) (by decide), mA_8n (by decide) (by decide), mA_8n (by decide) (by decide), mA_8n (by decide) (by decide), mA_8n (by decide) (by decide), mA_8n (by decide) (by decide), mA_8n (by decide) (by decide), mA_8n (by decide) (by decide), mA_8n (by decide) (by decide), mA_8e (by decide)]
  rfl
theorem cm_16 (xs : Nat → Int32) (L : Nat) (d : Int32) : (Sf xs L d).1 8 0 16 = vR 36 0 := by
  unfold Sf
  rw [nA_1 (by decide)]
  unfold modS
  rw [sS_k (by decide), mA_8n (by decide) (by decide), mA_8n (by decide) (by decide), mA_8n (by decide) (by decide), mA_8n (by decide) (by decide), mA_8n (by decide) (by decide), mA_8n (by decide) (by decide), mA_8n (by decide) (by decide), mA_8n (by decide) (by decide), mA_8n (by decide) (by decide), mA_8n (by decide) (by decide), mA_8n (by decide) (by decide), mA_8n (by decide) (by decide), mA_8n (by decide) (by decide), mA_8n (by decide) (by decide), mA_8n (by decide) (by decide), mA_8n (by decide) (by decide), mA_8n (by decide) (by decide), mA_8n (by decide) (by decide), mA_8n (by decide) (by decide), mA_8n (by decide) (by decide), mA_8e (by decide)]
  rfl
theorem cm_17 (xs : Nat → Int32) (L : Nat) (d : Int32) : (Sf xs L d).1 8 0 17 = vR 37 0 := by
  unfold Sf
  rw [nA_1 (by decide)]
  unfold modS
  rw [sS_k (by decide), mA_8n (by decide) (by decide), mA_8n (by decide) (by decide), mA_8n (by decide) (by decide), mA_8n (by decide) (by decide), mA_8n (by decide) (by decide), mA_8n (by decide) (by decide), mA_8n (by decide) (by decide), mA_8n (by decide) (by decide), mA_8n (by decide) (by decide), mA_8n (by decide) (by decide), mA_8n (by decide) (by decide), mA_8n (by decide) (by decide), mA_8n (by decide) (by decide), mA_8n (by decide) (by decide), mA_8n (by decide) (by decide), mA_8n (by decide) (by decide), mA_8n (by decide) (by decide), mA_8n (by decide) (by decide), mA_8n (by decide) (by decide), mA_8e (by decide)]
  rfl
theorem cm_18 (xs : Nat → Int32) (L : Nat) (d : Int32) : (Sf xs L d).1 8 0 18 = vR 38 0 := by
  unfold Sf
  rw [nA_1 (by decide)]
  unfold modS
  rw [sS_k (by decide), mA_8n (by decide) (by decide), mA_8n (by decide) (by decide), mA_8n (by decide) (by decide), mA_8n (by decide) (by decide), mA_8n (by decide) (by decide), mA_8n (by decide) (by decide), mA_8n (by decide) (by decide), mA_8n (by decide) (by decide), mA_8n (by decide) (by decide), mA_8n (by decide) (by decide), mA_8n (by decide) (by decide), mA_8n (by decide) (by decide), mA_8n (by decide) (by decide), mA_8n (by decide) (by decide), mA_8n (by decide) (by decide), mA_8n (by decide) (by decide), mA_8n (by decide) (by decide), mA_8n (by decide) (by decide), mA_8e (by decide)]
  rfl
theorem cm_19 (xs : Nat → Int32) (L : Nat) (d : Int32) : (Sf xs L d).1 8 0 19 = vR 39 0 := by
  unfold Sf
  rw [nA_1 (by decide)]
  unfold modS
  rw [sS_k (by decide), mA_8n (by decide) (by decide), mA_8n (by decide) (by decide), mA_8n (by decide) (by decide), mA_8n (by decide) (by decide), mA_8n (by decide) (by decide), mA_8n (by decide) (by decide), mA_8n (by decide) (by decide), mA_8n (by decide) (by decide), mA_8n (by decide) (by decide), mA_8n (by decide) (by decide), mA_8n (by decide) (by decide), mA_8n (by decide) (by decide), mA_8n (by decide) (by decide), mA_8n (by decide) (by decide), mA_8n (by decide) (by decide), mA_8n (by decide) (by decide), mA_8n (by decide) (by decide), mA_8e (by decide)]
  rfl
theorem cm_20 (xs : Nat → Int32) (L : Nat) (d : Int32) : (Sf xs L d).1 8 0 20 = vR 40 0 := by
  unfold Sf
  rw [nA_1 (by decide)]
  unfold modS
  rw [sS_k (by decide), mA_8n (by decide) (by decide), mA_8n (by decide) (by decide), mA_8n (by decide) (by decide), mA_8n (by decide) (by decide), mA_8n (by decide) (by decide), mA_8n (by decide) (by decide), mA_8n (by decide) (by decide), mA_8n (by decide) (by decide), mA_8n (by decide) (by decide), mA_8n (by decide) (by decide), mA_8n (by decide) (by decide), mA_8n (by decide) (by decide), mA_8n (by decide) (by decide), mA_8n (by decide) (by decide), mA_8n (by decide) (by decide), mA_8n (by decide) (by decide), mA_8e (by decide)]
  rfl
theorem cm_21 (xs : Nat → Int32) (L : Nat) (d : Int32) : (Sf xs L d).1 8 0 21 = vR 41 0 := by
  unfold Sf
  rw [nA_1 (by decide)]
  unfold modS
  rw [sS_k (by decide), mA_8n (by decide) (by decide), mA_8n (by decide) (by decide), mA_8n (by decide) (by decide), mA_8n (by decide) (by decide), mA_8n (by decide) (by decide), mA_8n (by decide) (by decide), mA_8n (by decide) (by decide), mA_8n (by decide) (by decide), mA_8n (by decide) (by decide), mA_8n (by decide) (by decide), mA_8n (by decide) (by decide), mA_8n (by decide) (by decide), mA_8n (by decide) (by decide), mA_8n (by decide) (by decide), mA_8n (by decide) (by decide), mA_8e (by decide)]
  rfl
theorem cm_22 (xs : Nat → Int32) (L : Nat) (d : Int32) : (Sf xs L d).1 8 0 22 = vR 42 0 := by
  unfold Sf
  rw [nA_1 (by decide)]
  unfold modS
  rw [sS_k (by decide), mA_8n (by decide) (by decide), mA_8n (by decide) (by decide), mA_8n (by decide) (by decide), mA_8n (by decide) (by decide), mA_8n (by decide) (by decide), mA_8n (by decide) (by decide), mA_8n (by decide) (by decide), mA_8n (by decide) (by decide), mA_8n (by decide) (by decide), mA_8n (by decide) (by decide), mA_8n (by decide) (by decide), mA_8n (by decide) (by decide), mA_8n (by decide) (by decide), mA_8n (by decide) (by decide), mA_8e (by decide)]
  rfl
theorem cm_23 (xs : Nat → Int32) (L : Nat) (d : Int32) : (Sf xs L d).1 8 0 23 = vR 43 0 := by
  unfold Sf
  rw [nA_1 (by decide)]
  unfold modS
  rw [sS_k (by decide), mA_8n (by decide) (by decide), mA_8n (by decide) (by decide), mA_8n (by decide) (by decide), mA_8n (by decide) (by decide), mA_8n (by decide) (by decide), mA_8n (by decide) (by decide), mA_8n (by decide) (by decide), mA_8n (by decide) (by decide), mA_8n (by decide) (by decide), mA_8n (by decide) (by decide), mA_8n (by decide) (by decide), mA_8n (by decide) (by decide), mA_8n (by decide) (by decide), mA_8e (by decide)]
  rfl
theorem cm_24 (xs : Nat → Int32) (L : Nat) (d : Int32) : (Sf xs L d).1 8 0 24 = vR 44 0 := by
  unfold Sf
  rw [nA_1 (by decide)]
  unfold modS
  rw [sS_k (by decide), mA_8n (by decide) (by decide), mA_8n (by decide) (by decide), mA_8n (by decide) (by decide), mA_8n (by decide) (by decide), mA_8n (by decide) (by decide), mA_8n (by decide) (by decide), mA_8n (by decide) (by decide), mA_8n (by decide) (by decide), mA_8n (by decide) (by decide), mA_8n (by decide) (by decide), mA_8n (by decide) (by decide), mA_8n (by decide) (by decide), mA_8e (by decide)]
  rfl
theorem cm_25 (xs : Nat → Int32) (L : Nat) (d : Int32) : (Sf xs L d).1 8 0 25 = vR 45 0 := by
  unfold Sf
  rw [nA_1 (by decide)]
  unfold modS
  rw [sS_k (by decide), mA_8n (by decide) (by decide), mA_8n (by decide) (by decide), mA_8n (by decide) (by decide), mA_8n (by decide) (by decide), mA_8n (by decide) (by decide), mA_8n (by decide) (by decide), mA_8n (by decide) (by decide), mA_8n (by decide) (by decide), mA_8n (by decide) (by decide), mA_8n (by decide) (by decide), mA_8n (by decide) (by decide), mA_8e (by decide)]
  rfl
theorem cm_26 (xs : Nat → Int32) (L : Nat) (d : Int32) : (Sf xs L d).1 8 0 26 = vR 46 0 := by
  unfold Sf
  rw [nA_1 (by decide)]
  unfold modS
  rw [sS_k (by decide), mA_8n (by decide) (by decide), mA_8n (by decide) (by decide), mA_8n (by decide) (by decide), mA_8n (by decide) (by decide), mA_8n (by decide) (by decide), mA_8n (by decide) (by decide), mA_8n (by decide) (by decide), mA_8n (by decide) (by decide), mA_8n (by decide) (by decide), mA_8n (by decide) (by decide), mA_8e (by decide)]
  rfl
theorem cm_27 (xs : Nat → Int32) (L : Nat) (d : Int32) : (Sf xs L d).1 8 0 27 = vR 47 0 := by
  unfold Sf
  rw [nA_1 (by decide)]
  unfold modS
  rw [sS_k (by decide), mA_8n (by decide) (by decide), mA_8n (by decide) (by decide), mA_8n (by decide) (by decide), mA_8n (by decide) (by decide), mA_8n (by decide) (by decide), mA_8n (by decide) (by decide), mA_8n (by decide) (by decide), mA_8n (by decide) (by decide), mA_8n (by decide) (by decide), mA_8e (by decide)]
  rfl
theorem cm_28 (xs : Nat → Int32) (L : Nat) (d : Int32) : (Sf xs L d).1 8 0 28 = vR 48 0 := by
  unfold Sf
  rw [nA_1 (by decide)]
  unfold modS
  rw [sS_k (by decide), mA_8n (by decide) (by decide), mA_8n (by decide) (by decide), mA_8n (by decide) (by decide), mA_8n (by decide) (by decide), mA_8n (by decide) (by decide), mA_8n (by decide) (by decide), mA_8n (by decide) (by decide), mA_8n (by decide) (by decide), mA_8e (by decide)]
  rfl
theorem cm_29 (xs : Nat → Int32) (L : Nat) (d : Int32) : (Sf xs L d).1 8 0 29 = vR 49 0 := by
  unfold Sf
  rw [nA_1 (by decide)]
  unfold modS
  rw [sS_k (by decide), mA_8n (by decide) (by decide), mA_8n (by decide) (by decide), mA_8n (by decide) (by decide), mA_8n (by decide) (by decide), mA_8n (by decide) (by decide), mA_8n (by decide) (by decide), mA_8n (by decide) (by decide), mA_8e (by decide)]
  rfl
theorem cm_30 (xs : Nat → Int32) (L : Nat) (d : Int32) : (Sf xs L d).1 8 0 30 = vR 50 0 := by
  unfold Sf
  rw [nA_1 (by decide)]
  unfold modS
  rw [sS_k (by decide), mA_8n (by decide) (by decide), mA_8n (by decide) (by decide), mA_8n (by decide) (by decide), mA_8n (by decide) (by decide), mA_8n (by decide) (by decide), mA_8n (by decide) (by decide), mA_8e (by decide)]
  rfl
theorem cm_31 (xs : Nat → Int32) (L : Nat) (d : Int32) : (Sf xs L d).1 8 0 31 = vI 0 := by
  unfold Sf
  rw [nA_1 (by decide)]
  unfold modS
  rw [sS_k (by decide), mA_8n (by decide) (by decide), mA_8n (by decide) (by decide), mA_8n (by decide) (by decide), mA_8n (by decide) (by decide), mA_8n (by decide) (by decide), mA_8n (by decide) (by decide), mA_8n (by decide) (by decide), mA_8n (by decide) (by decide), mA_8n (by decide) (by decide), mA_8n (by decide) (by decide), mA_8n (by decide) (by decide), mA_8n (by decide) (by decide), mA_8n (by decide) (by decide), mA_8n (by decide) (by decide), mA_8n (by decide) (by decide), mA_8n (by decide) (by decide), mA_8n (by decide) (by decide), mA_8n (by decide) (by decide), mA_8n (by decide) (by decide), mA_8n (by decide) (by decide), mA_8n (by decide) (by decide), mA_8n (by decide) (by decide), mA_8n (by decide) (by decide), mA_8n (by decide) (by decide), mA_8n (by decide) (by decide), mA_8n (by decide) (by decide), mA_8n (by decide) (by decide), mA_8n (by decide) (by decide), mA_8n (by decide) (by decide), mA_8n (by decide) (by decide)]
  rfl
theorem cm_32 (xs : Nat → Int32) (L : Nat) (d : Int32) : (Sf xs L d).1 8 0 32 = vR 52 0 := by
  unfold Sf
  rw [nA_1 (by decide)]
  unfold modS
  rw [sS_k (by decide), mA_8n (by decide) (by decide), mA_8n (by decide) (by decide), mA_8n (by decide) (by decide), mA_8n (by decide) (by decide), mA_8n (by decide) (by decide), mA_8e (by decide)]
  rfl
theorem cm_33 (xs : Nat → Int32) (L : Nat) (d : Int32) : (Sf xs L d).1 8 0 33 = vR 53 0 := by
  unfold Sf
  rw [nA_1 (by decide)]
  unfold modS
  rw [sS_k (by decide), mA_8n (by decide) (by decide), mA_8n (by decide) (by decide), mA_8n (by decide) (by decide), mA_8n (by decide) (by decide), mA_8e (by decide)]
  rfl
theorem cm_34 (xs : Nat → Int32) (L : Nat) (d : Int32) : (Sf xs L d).1 8 0 34 = vR 54 0 := by
  unfold Sf
  rw [nA_1 (by decide)]
  unfold modS
  rw [sS_k (by decide), mA_8n (by decide) (by decide), mA_8n (by decide) (by decide), mA_8n (by decide) (by decide), mA_8e (by decide)]
  rfl
theorem cm_35 (xs : Nat → Int32) (L : Nat) (d : Int32) : (Sf xs L d).1 8 0 35 = vI 0 := by
  unfold Sf
  rw [nA_1 (by decide)]
  unfold modS
  rw [sS_k (by decide), mA_8n (by decide) (by decide), mA_8n (by decide) (by decide), mA_8n (by decide) (by decide), mA_8n (by decide) (by decide), mA_8n (by decide) (by decide), mA_8n (by decide) (by decide), mA_8n (by decide) (by decide), mA_8n (by decide) (by decide), mA_8n (by decide) (by decide), mA_8n (by decide) (by decide), mA_8n (by decide) (by decide), mA_8n (by decide) (by decide), mA_8n (by decide) (by decide), mA_8n (by decide) (by decide), mA_8n (by decide) (by decide), mA_8n (by decide) (by decide), mA_8n (by decide) (by decide), mA_8n (by decide) (by decide), mA_8n (by decide) (by decide), mA_8n (by decide) (by decide), mA_8n (by decide) (by decide), mA_8n (by decide) (by decide), mA_8n (by decide) (by decide), mA_8n (by decide) (by decide), mA_8n (by decide) (by decide), mA_8n (by decide) (by decide), mA_8n (by decide) (by decide), mA_8n (by decide) (by decide), mA_8n (by decide) (by decide), mA_8n (by decide) (by decide)]
  rfl
theorem cm_36 (xs : Nat → Int32) (L : Nat) (d : Int32) : (Sf xs L d).1 8 0 36 = vR 56 0 := by
  unfold Sf
  rw [nA_1 (by decide)]
  unfold modS
  rw [sS_k (by decide), mA_8n (by decide) (by decide), mA_8n (by decide) (by decide), mA_8e (by decide)]
  rfl
theorem cm_37 (xs : Nat → Int32) (L : Nat) (d : Int32) : (Sf xs L d).1 8 0 37 = vR 57 0 := by
  unfold Sf
  rw [nA_1 (by decide)]
  unfold modS
  rw [sS_k (by decide), mA_8n (by decide) (by decide), mA_8e (by decide)]
  rfl
theorem cm_38 (xs : Nat → Int32) (L : Nat) (d : Int32) : (Sf xs L d).1 8 0 38 = vR 58 0 := by
  unfold Sf
  rw [nA_1 (by decide)]
  unfold modS
  rw [sS_k (by decide), mA_8e (by decide)]
  rfl
theorem Sf_low (xs : Nat → Int32) (L : Nat) (d : Int32) : ∀ t i k, t < 59 → i < concC (K0 d) (G0 xs L) t → k < wid t (conc (K0 d) (K0 d) (G0 xs L)) → (Sf xs L d).1 t i k = (conc (K0 d) (K0 d) (G0 xs L)).1 t i k := by
  intro t i k ht hi hk
  exact match t, hi, hk, ht with
    | 0, hi, hk, _ => absurd (show i < 0 from hi) (Nat.not_lt_zero i)
    | 1, hi, hk, _ => absurd (show i < 0 from hi) (Nat.not_lt_zero i)
    | 2, hi, hk, _ => absurd (show i < 0 from hi) (Nat.not_lt_zero i)
    | 3, hi, hk, _ => by
      have hi0 : i = 0 := by have : i < 1 := hi; omega
      subst hi0
      have hk2 : k < 5 := hk
      rw [Sf_mid xs L d 3 (by decide) (by decide) (by decide) (by decide) (by decide) (by decide) (by decide) (by decide) (by decide) (by decide) (by decide) (by decide) (by decide) (by decide) (by decide) (by decide) (by decide) (by decide) (by decide) (by decide) (by decide) (by decide) (by decide) (by decide) (by decide) (by decide) (by decide) (by decide) (by decide) (by decide) (by decide) (by decide)]
      match k, hk2 with
      | 0, _ => rfl
      | 1, _ => rfl
      | 2, _ => rfl
      | 3, _ => rfl
      | 4, _ => rfl
      | k + 5, h => omega
    | 4, hi, hk, _ => absurd (show i < 0 from hi) (Nat.not_lt_zero i)
    | 5, hi, hk, _ => absurd (show i < 0 from hi) (Nat.not_lt_zero i)
    | 6, hi, hk, _ => absurd (show i < 0 from hi) (Nat.not_lt_zero i)
    | 7, hi, hk, _ => by
      have hi0 : i = 0 := by have : i < 1 := hi; omega
      subst hi0
      have hk2 : k < 10 := hk
      rw [Sf_mid xs L d 7 (by decide) (by decide) (by decide) (by decide) (by decide) (by decide) (by decide) (by decide) (by decide) (by decide) (by decide) (by decide) (by decide) (by decide) (by decide) (by decide) (by decide) (by decide) (by decide) (by decide) (by decide) (by decide) (by decide) (by decide) (by decide) (by decide) (by decide) (by decide) (by decide) (by decide) (by decide) (by decide)]
      match k, hk2 with
      | 0, _ => rfl
      | 1, _ => rfl
      | 2, _ => rfl
      | 3, _ => rfl
      | 4, _ => rfl
      | 5, _ => rfl
      | 6, _ => rfl
      | 7, _ => rfl
      | 8, _ => rfl
      | 9, _ => rfl
      | k + 10, h => omega
    | 8, hi, hk, _ => by
      have hi0 : i = 0 := by have : i < 1 := hi; omega
      subst hi0
      have hk2 : k < 39 := hk
      match k, hk2 with
      | 0, _ => exact cm_0 xs L d
      | 1, _ => exact cm_1 xs L d
      | 2, _ => exact cm_2 xs L d
      | 3, _ => exact cm_3 xs L d
      | 4, _ => exact cm_4 xs L d
      | 5, _ => exact cm_5 xs L d
      | 6, _ => exact cm_6 xs L d
      | 7, _ => exact cm_7 xs L d
      | 8, _ => exact cm_8 xs L d
      | 9, _ => exact cm_9 xs L d
      | 10, _ => exact cm_10 xs L d
      | 11, _ => exact cm_11 xs L d
      | 12, _ => exact cm_12 xs L d
      | 13, _ => exact cm_13 xs L d
      | 14, _ => exact cm_14 xs L d
      | 15, _ => exact cm_15 xs L d
      | 16, _ => exact cm_16 xs L d
      | 17, _ => exact cm_17 xs L d
      | 18, _ => exact cm_18 xs L d
      | 19, _ => exact cm_19 xs L d
      | 20, _ => exact cm_20 xs L d
      | 21, _ => exact cm_21 xs L d
      | 22, _ => exact cm_22 xs L d
      | 23, _ => exact cm_23 xs L d
      | 24, _ => exact cm_24 xs L d
      | 25, _ => exact cm_25 xs L d
      | 26, _ => exact cm_26 xs L d
      | 27, _ => exact cm_27 xs L d
      | 28, _ => exact cm_28 xs L d
      | 29, _ => exact cm_29 xs L d
      | 30, _ => exact cm_30 xs L d
      | 31, _ => exact cm_31 xs L d
      | 32, _ => exact cm_32 xs L d
      | 33, _ => exact cm_33 xs L d
      | 34, _ => exact cm_34 xs L d
      | 35, _ => exact cm_35 xs L d
      | 36, _ => exact cm_36 xs L d
      | 37, _ => exact cm_37 xs L d
      | 38, _ => exact cm_38 xs L d
      | k + 39, h => omega
    | 9, hi, hk, _ => absurd (show i < 0 from hi) (Nat.not_lt_zero i)
    | 10, hi, hk, _ => absurd (show i < 0 from hi) (Nat.not_lt_zero i)
    | 11, hi, hk, _ => absurd (show i < 0 from hi) (Nat.not_lt_zero i)
    | 12, hi, hk, _ => by
      have hi0 : i = 0 := by have : i < 1 := hi; omega
      subst hi0
      rw [Sf_mid xs L d 12 (by decide) (by decide) (by decide) (by decide) (by decide) (by decide) (by decide) (by decide) (by decide) (by decide) (by decide) (by decide) (by decide) (by decide) (by decide) (by decide) (by decide) (by decide) (by decide) (by decide) (by decide) (by decide) (by decide) (by decide) (by decide) (by decide) (by decide) (by decide) (by decide) (by decide) (by decide) (by decide)]
      rfl
    | 13, hi, hk, _ => by
      have hi0 : i = 0 := by have : i < 1 := hi; omega
      subst hi0
      rw [Sf_mid xs L d 13 (by decide) (by decide) (by decide) (by decide) (by decide) (by decide) (by decide) (by decide) (by decide) (by decide) (by decide) (by decide) (by decide) (by decide) (by decide) (by decide) (by decide) (by decide) (by decide) (by decide) (by decide) (by decide) (by decide) (by decide) (by decide) (by decide) (by decide) (by decide) (by decide) (by decide) (by decide) (by decide)]
      rfl
    | 14, hi, hk, _ => by
      have hi0 : i = 0 := by have : i < 1 := hi; omega
      subst hi0
      rw [Sf_mid xs L d 14 (by decide) (by decide) (by decide) (by decide) (by decide) (by decide) (by decide) (by decide) (by decide) (by decide) (by decide) (by decide) (by decide) (by decide) (by decide) (by decide) (by decide) (by decide) (by decide) (by decide) (by decide) (by decide) (by decide) (by decide) (by decide) (by decide) (by decide) (by decide) (by decide) (by decide) (by decide) (by decide)]
      rfl
    | 15, hi, hk, _ => by
      have hi0 : i = 0 := by have : i < 1 := hi; omega
      subst hi0
      rw [Sf_mid xs L d 15 (by decide) (by decide) (by decide) (by decide) (by decide) (by decide) (by decide) (by decide) (by decide) (by decide) (by decide) (by decide) (by decide) (by decide) (by decide) (by decide) (by decide) (by decide) (by decide) (by decide) (by decide) (by decide) (by decide) (by decide) (by decide) (by decide) (by decide) (by decide) (by decide) (by decide) (by decide) (by decide)]
      rfl
    | 16, hi, hk, _ => by
      have hi0 : i = 0 := by have : i < 1 := hi; omega
      subst hi0
      rw [Sf_mid xs L d 16 (by decide) (by decide) (by decide) (by decide) (by decide) (by decide) (by decide) (by decide) (by decide) (by decide) (by decide) (by decide) (by decide) (by decide) (by decide) (by decide) (by decide) (by decide) (by decide) (by decide) (by decide) (by decide) (by decide) (by decide) (by decide) (by decide) (by decide) (by decide) (by decide) (by decide) (by decide) (by decide)]
      rfl
    | 17, hi, hk, _ => by
      have hi0 : i = 0 := by have : i < 1 := hi; omega
      subst hi0
      have hk2 : k < 1 := hk
      have hk0 : k = 0 := by omega
      subst hk0
      exact nA_e rfl
    | 18, hi, hk, _ => by
      have hi0 : i = 0 := by have : i < 1 := hi; omega
      subst hi0
      rw [Sf_mid xs L d 18 (by decide) (by decide) (by decide) (by decide) (by decide) (by decide) (by decide) (by decide) (by decide) (by decide) (by decide) (by decide) (by decide) (by decide) (by decide) (by decide) (by decide) (by decide) (by decide) (by decide) (by decide) (by decide) (by decide) (by decide) (by decide) (by decide) (by decide) (by decide) (by decide) (by decide) (by decide) (by decide)]
      rfl
    | 19, hi, hk, _ => absurd (show i < 0 from hi) (Nat.not_lt_zero i)
    | 20, hi, hk, _ => absurd (show i < 0 from hi) (Nat.not_lt_zero i)
    | 21, hi, hk, _ => absurd (show i < 0 from hi) (Nat.not_lt_zero i)
    | 22, hi, hk, _ => absurd (show i < 0 from hi) (Nat.not_lt_zero i)
    | 23, hi, hk, _ => absurd (show i < 0 from hi) (Nat.not_lt_zero i)
    | 24, hi, hk, _ => absurd (show i < 0 from hi) (Nat.not_lt_zero i)
    | 25, hi, hk, _ => absurd (show i < 0 from hi) (Nat.not_lt_zero i)
    | 26, hi, hk, _ => absurd (show i < 0 from hi) (Nat.not_lt_zero i)
    | 27, hi, hk, _ => by
      have hi0 : i = 0 := by have : i < 1 := hi; omega
      subst hi0
      rw [ct_27]
      rfl
    | 28, hi, hk, _ => by
      have hi0 : i = 0 := by have : i < 1 := hi; omega
      subst hi0
      rw [ct_28]
      rfl
    | 29, hi, hk, _ => by
      have hi0 : i = 0 := by have : i < 1 := hi; omega
      subst hi0
      rw [ct_29]
      rfl
    | 30, hi, hk, _ => by
      have hi0 : i = 0 := by have : i < 1 := hi; omega
      subst hi0
      rw [ct_30]
      rfl
    | 31, hi, hk, _ => by
      have hi0 : i = 0 := by have : i < 1 := hi; omega
      subst hi0
      rw [ct_31]
      rfl
    | 32, hi, hk, _ => by
      have hi0 : i = 0 := by have : i < 1 := hi; omega
      subst hi0
      rw [ct_32]
      rfl
    | 33, hi, hk, _ => by
      have hi0 : i = 0 := by have : i < 1 := hi; omega
      subst hi0
      rw [ct_33]
      rfl
    | 34, hi, hk, _ => by
      have hi0 : i = 0 := by have : i < 1 := hi; omega
      subst hi0
      rw [ct_34]
      rfl
    | 35, hi, hk, _ => by
      have hi0 : i = 0 := by have : i < 1 := hi; omega
      subst hi0
      rw [ct_35]
      rfl
    | 36, hi, hk, _ => by
      have hi0 : i = 0 := by have : i < 1 := hi; omega
      subst hi0
      rw [ct_36]
      rfl
    | 37, hi, hk, _ => by
      have hi0 : i = 0 := by have : i < 1 := hi; omega
      subst hi0
      rw [ct_37]
      rfl
    | 38, hi, hk, _ => by
      have hi0 : i = 0 := by have : i < 1 := hi; omega
      subst hi0
      rw [ct_38]
      rfl
    | 39, hi, hk, _ => by
      have hi0 : i = 0 := by have : i < 1 := hi; omega
      subst hi0
      rw [ct_39]
      rfl
    | 40, hi, hk, _ => by
      have hi0 : i = 0 := by have : i < 1 := hi; omega
      subst hi0
      rw [ct_40]
      rfl
    | 41, hi, hk, _ => by
      have hi0 : i = 0 := by have : i < 1 := hi; omega
      subst hi0
      rw [ct_41]
      rfl
    | 42, hi, hk, _ => by
      have hi0 : i = 0 := by have : i < 1 := hi; omega
      subst hi0
      rw [ct_42]
      rfl
    | 43, hi, hk, _ => by
      have hi0 : i = 0 := by have : i < 1 := hi; omega
      subst hi0
      rw [ct_43]
      rfl
    | 44, hi, hk, _ => by
      have hi0 : i = 0 := by have : i < 1 := hi; omega
      subst hi0
      rw [ct_44]
      rfl
    | 45, hi, hk, _ => by
      have hi0 : i = 0 := by have : i < 1 := hi; omega
      subst hi0
      rw [ct_45]
      rfl
    | 46, hi, hk, _ => by
      have hi0 : i = 0 := by have : i < 1 := hi; omega
      subst hi0
      rw [ct_46]
      rfl
    | 47, hi, hk, _ => by
      have hi0 : i = 0 := by have : i < 1 := hi; omega
      subst hi0
      rw [ct_47]
      rfl
    | 48, hi, hk, _ => by
      have hi0 : i = 0 := by have : i < 1 := hi; omega
      subst hi0
      rw [ct_48]
      rfl
    | 49, hi, hk, _ => by
      have hi0 : i = 0 := by have : i < 1 := hi; omega
      subst hi0
      rw [ct_49]
      rfl
    | 50, hi, hk, _ => by
      have hi0 : i = 0 := by have : i < 1 := hi; omega
      subst hi0
      rw [ct_50]
      rfl
    | 51, hi, hk, _ => absurd (show i < 0 from hi) (Nat.not_lt_zero i)
    | 52, hi, hk, _ => by
      have hi0 : i = 0 := by have : i < 1 := hi; omega
      subst hi0
      rw [ct_52]
      rfl
    | 53, hi, hk, _ => by
      have hi0 : i = 0 := by have : i < 1 := hi; omega
      subst hi0
      rw [ct_53]
      rfl
    | 54, hi, hk, _ => by
      have hi0 : i = 0 := by have : i < 1 := hi; omega
      subst hi0
      rw [ct_54]
      rfl
    | 55, hi, hk, _ => absurd (show i < 0 from hi) (Nat.not_lt_zero i)
    | 56, hi, hk, _ => by
      have hi0 : i = 0 := by have : i < 1 := hi; omega
      subst hi0
      rw [ct_56]
      rfl
    | 57, hi, hk, _ => by
      have hi0 : i = 0 := by have : i < 1 := hi; omega
      subst hi0
      rw [ct_57]
      rfl
    | 58, hi, hk, _ => by
      have hi0 : i = 0 := by have : i < 1 := hi; omega
      subst hi0
      rw [ct_58]
      rfl
    | t + 59, _, _, h => absurd h (by omega)
theorem Sf_high (xs : Nat → Int32) (L : Nat) (d : Int32) (t i k : Nat) (ht : 59 ≤ t) : (Sf xs L d).1 t i k = vN ∧ (conc (K0 d) (K0 d) (G0 xs L)).1 t i k = vN := by
  have hn : ∀ c, c < 59 → ¬ t = c := fun c hc e => by omega
  constructor
  · rw [Sf_mid xs L d t (hn 8 (by omega)) (hn 17 (by omega)) (hn 27 (by omega)) (hn 28 (by omega)) (hn 29 (by omega)) (hn 30 (by omega)) (hn 31 (by omega)) (hn 32 (by omega)) (hn 33 (by omega)) (hn 34 (by omega)) (hn 35 (by omega)) (hn 36 (by omega)) (hn 37 (by omega)) (hn 38 (by omega)) (hn 39 (by omega)) (hn 40 (by omega)) (hn 41 (by omega)) (hn 42 (by omega)) (hn 43 (by omega)) (hn 44 (by omega)) (hn 45 (by omega)) (hn 46 (by omega)) (hn 47 (by omega)) (hn 48 (by omega)) (hn 49 (by omega)) (hn 50 (by omega)) (hn 52 (by omega)) (hn 53 (by omega)) (hn 54 (by omega)) (hn 56 (by omega)) (hn 57 (by omega)) (hn 58 (by omega))]
    unfold kerS
    rw [sS_1 (hn 7 (by omega)), sS_1 (hn 7 (by omega))]
    unfold jourS
    rw [sS_1 (hn 3 (by omega)), nA_1 (hn 14 (by omega)), sS_1 (hn 3 (by omega)), nA_1 (hn 13 (by omega)), sS_1 (hn 3 (by omega)), nA_1 (hn 12 (by omega)), nO_1 (hn 3 (by omega))]
    unfold kerS1
    rw [sS_1 (hn 7 (by omega)), nA_1 (hn 16 (by omega)), sS_1 (hn 7 (by omega)), nA_1 (hn 15 (by omega)), nO_1 (hn 7 (by omega))]
    exact if_neg (hn 18 (by omega))
  · show (if t < 20 then _ else if i = 0 then (if t < 43 then _ else cMa2 _ t k) else vN) = vN
    rw [if_neg (by omega)]
    split
    · rw [if_neg (by omega)]
      unfold cMa2
      rw [if_neg (hn 43 (by omega)), if_neg (hn 44 (by omega)), if_neg (hn 45 (by omega)), if_neg (hn 46 (by omega)), if_neg (hn 47 (by omega)), if_neg (hn 48 (by omega)), if_neg (hn 49 (by omega)), if_neg (hn 50 (by omega)), if_neg (hn 52 (by omega)), if_neg (hn 53 (by omega)), if_neg (hn 54 (by omega)), if_neg (hn 56 (by omega)), if_neg (hn 57 (by omega)), if_neg (hn 58 (by omega))]
    · rfl
theorem wid_eq (xs : Nat → Int32) (L : Nat) (d : Int32) (t : Nat) : wid t (Sf xs L d) = wid t (conc (K0 d) (K0 d) (G0 xs L)) := by
  unfold wid lenA
  rw [show (Sf xs L d).2 = (conc (K0 d) (K0 d) (G0 xs L)).2 from Sf_cnt xs L d]
theorem Sf_eq (xs : Nat → Int32) (L : Nat) (d : Int32) : EqS (Sf xs L d) (conc (K0 d) (K0 d) (G0 xs L)) := by
  refine ⟨Sf_cnt xs L d, fun t i k hi hk => ?_⟩
  by_cases h : t < 59
  · rw [Sf_cnt] at hi
    rw [wid_eq] at hk
    exact Sf_low xs L d t i k h hi hk
  · obtain ⟨a, b⟩ := Sf_high xs L d t i k (by omega)
    rw [a, b]
