/-! THE WORDS: all good words of the tables; which of them the interpreter's tables use (by program, mktab.py) -/
def ip_W : List Cond := lw_tbl.filter goodWord
theorem ip_W_mem {w : Cond} (h : w ∈ lw_tbl) (g : goodWord w = true) : w ∈ ip_W := List.mem_filter.mpr ⟨h, g⟩
theorem ip_W_in {w : Cond} (h : w ∈ ip_W) : w ∈ lw_tbl := (List.mem_filter.mp h).1
theorem ip_W_good : GoodIn lw_tbl ip_W := fun w h => ⟨(List.mem_filter.mp h).1, good_of_word (List.mem_filter.mp h).2⟩
/-- a list is another one with some left out -/
def ip_sub : List Cond → List Cond → Bool
  | [], _ => true
  | _ :: _, [] => false
  | a :: as, b :: bs => if a = b then ip_sub as bs else ip_sub (a :: as) bs
theorem ip_sub_mem : ∀ (b a : List Cond), ip_sub a b = true → ∀ w ∈ a, w ∈ b
  | [], [], _, w, hw => absurd hw List.not_mem_nil
  | [], _ :: _, h, _, _ => by simp [ip_sub] at h
  | _ :: _, [], _, w, hw => absurd hw List.not_mem_nil
  | b :: bs, a :: as, h, w, hw => by
    unfold ip_sub at h
    split at h
    · next e =>
      subst e
      rcases List.mem_cons.mp hw with e2 | h2
      · rw [e2]; exact List.mem_cons_self
      · exact List.mem_cons_of_mem _ (ip_sub_mem bs as h w h2)
    · exact List.mem_cons_of_mem _ (ip_sub_mem bs (a :: as) h w hw)
theorem ip_good {a : List Cond} (h : ip_sub a lw_tbl = true) (g : a.all goodWord = true) : ∀ w ∈ a, w ∈ ip_W := fun w hw => ip_W_mem (ip_sub_mem _ _ h w hw) (List.all_eq_true.mp g w hw)
def ip_cw (k : Nat) : Cond := .code (ip_mY k) (ip_mB k) (ip_mL k) (ip_mR k)
theorem ip_tb1 {w : Cond} (h : w ∈ tables_1_1) : w ∈ lw_tbl := List.mem_append_right _ (List.mem_append_left _ h)
theorem ip_tb2 {w : Cond} (h : w ∈ tables_1_2) : w ∈ lw_tbl := List.mem_append_right _ (List.mem_append_right _ (List.mem_append_left _ h))
theorem ip_tb3 {w : Cond} (h : w ∈ tables_1_3) : w ∈ lw_tbl := List.mem_append_right _ (List.mem_append_right _ (List.mem_append_right _ (List.mem_append_left _ h)))
theorem ip_tb4 {w : Cond} (h : w ∈ tables_1_4) : w ∈ lw_tbl := List.mem_append_right _ (List.mem_append_right _ (List.mem_append_right _ (List.mem_append_right _ (List.mem_append_left _ h))))
theorem ip_tb5 {w : Cond} (h : w ∈ tables_1_5) : w ∈ lw_tbl := List.mem_append_right _ (List.mem_append_right _ (List.mem_append_right _ (List.mem_append_right _ (List.mem_append_right _ h))))
theorem ip_cw_0 : ip_cw 0 ∈ lw_tbl := ip_tb1 (List.mem_of_getElem? (i := 22) rfl)
theorem ip_cw_1 : ip_cw 1 ∈ lw_tbl := ip_tb1 (List.mem_of_getElem? (i := 30) rfl)
theorem ip_cw_2 : ip_cw 2 ∈ lw_tbl := ip_tb1 (List.mem_of_getElem? (i := 36) rfl)
theorem ip_cw_3 : ip_cw 3 ∈ lw_tbl := ip_tb1 (List.mem_of_getElem? (i := 112) rfl)
theorem ip_cw_4 : ip_cw 4 ∈ lw_tbl := ip_tb1 (List.mem_of_getElem? (i := 132) rfl)
theorem ip_cw_5 : ip_cw 5 ∈ lw_tbl := ip_tb1 (List.mem_of_getElem? (i := 162) rfl)
theorem ip_cw_6 : ip_cw 6 ∈ lw_tbl := ip_tb1 (List.mem_of_getElem? (i := 188) rfl)
theorem ip_cw_7 : ip_cw 7 ∈ lw_tbl := ip_tb1 (List.mem_of_getElem? (i := 224) rfl)
theorem ip_cw_8 : ip_cw 8 ∈ lw_tbl := ip_tb1 (List.mem_of_getElem? (i := 229) rfl)
theorem ip_cw_9 : ip_cw 9 ∈ lw_tbl := ip_tb2 (List.mem_of_getElem? (i := 35) rfl)
theorem ip_cw_10 : ip_cw 10 ∈ lw_tbl := ip_tb2 (List.mem_of_getElem? (i := 39) rfl)
theorem ip_cw_11 : ip_cw 11 ∈ lw_tbl := ip_tb2 (List.mem_of_getElem? (i := 43) rfl)
theorem ip_cw_12 : ip_cw 12 ∈ lw_tbl := ip_tb2 (List.mem_of_getElem? (i := 47) rfl)
theorem ip_cw_13 : ip_cw 13 ∈ lw_tbl := ip_tb2 (List.mem_of_getElem? (i := 51) rfl)
theorem ip_cw_14 : ip_cw 14 ∈ lw_tbl := ip_tb2 (List.mem_of_getElem? (i := 55) rfl)
theorem ip_cw_15 : ip_cw 15 ∈ lw_tbl := ip_tb2 (List.mem_of_getElem? (i := 59) rfl)
theorem ip_cw_16 : ip_cw 16 ∈ lw_tbl := ip_tb2 (List.mem_of_getElem? (i := 63) rfl)
theorem ip_cw_17 : ip_cw 17 ∈ lw_tbl := ip_tb2 (List.mem_of_getElem? (i := 66) rfl)
theorem ip_cw_18 : ip_cw 18 ∈ lw_tbl := ip_tb2 (List.mem_of_getElem? (i := 69) rfl)
theorem ip_cw_19 : ip_cw 19 ∈ lw_tbl := ip_tb2 (List.mem_of_getElem? (i := 72) rfl)
theorem ip_cw_20 : ip_cw 20 ∈ lw_tbl := ip_tb2 (List.mem_of_getElem? (i := 84) rfl)
theorem ip_cw_21 : ip_cw 21 ∈ lw_tbl := ip_tb2 (List.mem_of_getElem? (i := 88) rfl)
theorem ip_cw_22 : ip_cw 22 ∈ lw_tbl := ip_tb2 (List.mem_of_getElem? (i := 92) rfl)
theorem ip_cw_23 : ip_cw 23 ∈ lw_tbl := ip_tb2 (List.mem_of_getElem? (i := 96) rfl)
theorem ip_cw_24 : ip_cw 24 ∈ lw_tbl := ip_tb2 (List.mem_of_getElem? (i := 102) rfl)
theorem ip_cw_25 : ip_cw 25 ∈ lw_tbl := ip_tb2 (List.mem_of_getElem? (i := 106) rfl)
theorem ip_cw_26 : ip_cw 26 ∈ lw_tbl := ip_tb2 (List.mem_of_getElem? (i := 109) rfl)
theorem ip_cw_27 : ip_cw 27 ∈ lw_tbl := ip_tb2 (List.mem_of_getElem? (i := 112) rfl)
theorem ip_cw_28 : ip_cw 28 ∈ lw_tbl := ip_tb2 (List.mem_of_getElem? (i := 117) rfl)
theorem ip_cw_29 : ip_cw 29 ∈ lw_tbl := ip_tb2 (List.mem_of_getElem? (i := 140) rfl)
theorem ip_cw_30 : ip_cw 30 ∈ lw_tbl := ip_tb2 (List.mem_of_getElem? (i := 144) rfl)
theorem ip_cw_31 : ip_cw 31 ∈ lw_tbl := ip_tb2 (List.mem_of_getElem? (i := 149) rfl)
theorem ip_cw_32 : ip_cw 32 ∈ lw_tbl := ip_tb2 (List.mem_of_getElem? (i := 153) rfl)
theorem ip_cw_33 : ip_cw 33 ∈ lw_tbl := ip_tb2 (List.mem_of_getElem? (i := 157) rfl)
theorem ip_cw_34 : ip_cw 34 ∈ lw_tbl := ip_tb2 (List.mem_of_getElem? (i := 160) rfl)
theorem ip_cw_35 : ip_cw 35 ∈ lw_tbl := ip_tb2 (List.mem_of_getElem? (i := 164) rfl)
theorem ip_cw_36 : ip_cw 36 ∈ lw_tbl := ip_tb2 (List.mem_of_getElem? (i := 168) rfl)
theorem ip_cw_37 : ip_cw 37 ∈ lw_tbl := ip_tb2 (List.mem_of_getElem? (i := 172) rfl)
theorem ip_cw_38 : ip_cw 38 ∈ lw_tbl := ip_tb2 (List.mem_of_getElem? (i := 176) rfl)
theorem ip_cw_39 : ip_cw 39 ∈ lw_tbl := ip_tb2 (List.mem_of_getElem? (i := 181) rfl)
theorem ip_cw_40 : ip_cw 40 ∈ lw_tbl := ip_tb2 (List.mem_of_getElem? (i := 185) rfl)
theorem ip_cw_41 : ip_cw 41 ∈ lw_tbl := ip_tb2 (List.mem_of_getElem? (i := 189) rfl)
theorem ip_cw_42 : ip_cw 42 ∈ lw_tbl := ip_tb2 (List.mem_of_getElem? (i := 194) rfl)
theorem ip_cw_43 : ip_cw 43 ∈ lw_tbl := ip_tb2 (List.mem_of_getElem? (i := 198) rfl)
theorem ip_cw_44 : ip_cw 44 ∈ lw_tbl := ip_tb2 (List.mem_of_getElem? (i := 202) rfl)
theorem ip_cw_45 : ip_cw 45 ∈ lw_tbl := ip_tb2 (List.mem_of_getElem? (i := 206) rfl)
theorem ip_cw_46 : ip_cw 46 ∈ lw_tbl := ip_tb2 (List.mem_of_getElem? (i := 210) rfl)
theorem ip_cw_47 : ip_cw 47 ∈ lw_tbl := ip_tb2 (List.mem_of_getElem? (i := 214) rfl)
theorem ip_cw_48 : ip_cw 48 ∈ lw_tbl := ip_tb2 (List.mem_of_getElem? (i := 218) rfl)
theorem ip_cw_49 : ip_cw 49 ∈ lw_tbl := ip_tb2 (List.mem_of_getElem? (i := 222) rfl)
theorem ip_cw_50 : ip_cw 50 ∈ lw_tbl := ip_tb2 (List.mem_of_getElem? (i := 226) rfl)
theorem ip_cw_51 : ip_cw 51 ∈ lw_tbl := ip_tb2 (List.mem_of_getElem? (i := 229) rfl)
theorem ip_cw_52 : ip_cw 52 ∈ lw_tbl := ip_tb2 (List.mem_of_getElem? (i := 237) rfl)
theorem ip_cw_53 : ip_cw 53 ∈ lw_tbl := ip_tb3 (List.mem_of_getElem? (i := 1) rfl)
theorem ip_cw_54 : ip_cw 54 ∈ lw_tbl := ip_tb3 (List.mem_of_getElem? (i := 5) rfl)
theorem ip_cw_55 : ip_cw 55 ∈ lw_tbl := ip_tb3 (List.mem_of_getElem? (i := 9) rfl)
theorem ip_cw_56 : ip_cw 56 ∈ lw_tbl := ip_tb3 (List.mem_of_getElem? (i := 14) rfl)
theorem ip_cw_57 : ip_cw 57 ∈ lw_tbl := ip_tb3 (List.mem_of_getElem? (i := 17) rfl)
theorem ip_cw_58 : ip_cw 58 ∈ lw_tbl := ip_tb3 (List.mem_of_getElem? (i := 20) rfl)
theorem ip_cw_59 : ip_cw 59 ∈ lw_tbl := ip_tb3 (List.mem_of_getElem? (i := 27) rfl)
theorem ip_cw_60 : ip_cw 60 ∈ lw_tbl := ip_tb3 (List.mem_of_getElem? (i := 31) rfl)
theorem ip_cw_61 : ip_cw 61 ∈ lw_tbl := ip_tb3 (List.mem_of_getElem? (i := 35) rfl)
theorem ip_cw_62 : ip_cw 62 ∈ lw_tbl := ip_tb3 (List.mem_of_getElem? (i := 40) rfl)
theorem ip_cw_63 : ip_cw 63 ∈ lw_tbl := ip_tb3 (List.mem_of_getElem? (i := 44) rfl)
theorem ip_cw_64 : ip_cw 64 ∈ lw_tbl := ip_tb3 (List.mem_of_getElem? (i := 48) rfl)
theorem ip_cw_65 : ip_cw 65 ∈ lw_tbl := ip_tb3 (List.mem_of_getElem? (i := 52) rfl)
theorem ip_cw_66 : ip_cw 66 ∈ lw_tbl := ip_tb3 (List.mem_of_getElem? (i := 59) rfl)
theorem ip_cw_67 : ip_cw 67 ∈ lw_tbl := ip_tb3 (List.mem_of_getElem? (i := 63) rfl)
theorem ip_cw_68 : ip_cw 68 ∈ lw_tbl := ip_tb3 (List.mem_of_getElem? (i := 67) rfl)
theorem ip_cw_69 : ip_cw 69 ∈ lw_tbl := ip_tb3 (List.mem_of_getElem? (i := 70) rfl)
theorem ip_cw_70 : ip_cw 70 ∈ lw_tbl := ip_tb3 (List.mem_of_getElem? (i := 74) rfl)
theorem ip_cw_71 : ip_cw 71 ∈ lw_tbl := ip_tb3 (List.mem_of_getElem? (i := 78) rfl)
theorem ip_cw_72 : ip_cw 72 ∈ lw_tbl := ip_tb3 (List.mem_of_getElem? (i := 82) rfl)
theorem ip_cw_73 : ip_cw 73 ∈ lw_tbl := ip_tb3 (List.mem_of_getElem? (i := 85) rfl)
theorem ip_cw_74 : ip_cw 74 ∈ lw_tbl := ip_tb3 (List.mem_of_getElem? (i := 88) rfl)
theorem ip_cw_75 : ip_cw 75 ∈ lw_tbl := ip_tb3 (List.mem_of_getElem? (i := 92) rfl)
theorem ip_cw_76 : ip_cw 76 ∈ lw_tbl := ip_tb3 (List.mem_of_getElem? (i := 96) rfl)
theorem ip_cw_77 : ip_cw 77 ∈ lw_tbl := ip_tb3 (List.mem_of_getElem? (i := 103) rfl)
theorem ip_cw_78 : ip_cw 78 ∈ lw_tbl := ip_tb3 (List.mem_of_getElem? (i := 107) rfl)
theorem ip_cw_79 : ip_cw 79 ∈ lw_tbl := ip_tb3 (List.mem_of_getElem? (i := 111) rfl)
theorem ip_cw_80 : ip_cw 80 ∈ lw_tbl := ip_tb3 (List.mem_of_getElem? (i := 115) rfl)
theorem ip_cw_81 : ip_cw 81 ∈ lw_tbl := ip_tb3 (List.mem_of_getElem? (i := 119) rfl)
theorem ip_cw_82 : ip_cw 82 ∈ lw_tbl := ip_tb3 (List.mem_of_getElem? (i := 123) rfl)
theorem ip_cw_83 : ip_cw 83 ∈ lw_tbl := ip_tb3 (List.mem_of_getElem? (i := 128) rfl)
theorem ip_cw_84 : ip_cw 84 ∈ lw_tbl := ip_tb3 (List.mem_of_getElem? (i := 132) rfl)
theorem ip_cw_85 : ip_cw 85 ∈ lw_tbl := ip_tb3 (List.mem_of_getElem? (i := 136) rfl)
theorem ip_cw_86 : ip_cw 86 ∈ lw_tbl := ip_tb3 (List.mem_of_getElem? (i := 140) rfl)
theorem ip_cw_87 : ip_cw 87 ∈ lw_tbl := ip_tb3 (List.mem_of_getElem? (i := 145) rfl)
theorem ip_cw_88 : ip_cw 88 ∈ lw_tbl := ip_tb3 (List.mem_of_getElem? (i := 149) rfl)
theorem ip_cw_89 : ip_cw 89 ∈ lw_tbl := ip_tb3 (List.mem_of_getElem? (i := 153) rfl)
theorem ip_cw_90 : ip_cw 90 ∈ lw_tbl := ip_tb3 (List.mem_of_getElem? (i := 160) rfl)
theorem ip_cw_91 : ip_cw 91 ∈ lw_tbl := ip_tb3 (List.mem_of_getElem? (i := 164) rfl)
theorem ip_cw_92 : ip_cw 92 ∈ lw_tbl := ip_tb3 (List.mem_of_getElem? (i := 168) rfl)
theorem ip_cw_93 : ip_cw 93 ∈ lw_tbl := ip_tb3 (List.mem_of_getElem? (i := 171) rfl)
theorem ip_cw_94 : ip_cw 94 ∈ lw_tbl := ip_tb3 (List.mem_of_getElem? (i := 177) rfl)
theorem ip_cw_95 : ip_cw 95 ∈ lw_tbl := ip_tb3 (List.mem_of_getElem? (i := 180) rfl)
theorem ip_cw_96 : ip_cw 96 ∈ lw_tbl := ip_tb3 (List.mem_of_getElem? (i := 184) rfl)
theorem ip_cw_97 : ip_cw 97 ∈ lw_tbl := ip_tb3 (List.mem_of_getElem? (i := 188) rfl)
theorem ip_cw_98 : ip_cw 98 ∈ lw_tbl := ip_tb3 (List.mem_of_getElem? (i := 192) rfl)
theorem ip_cw_99 : ip_cw 99 ∈ lw_tbl := ip_tb3 (List.mem_of_getElem? (i := 196) rfl)
theorem ip_cw_100 : ip_cw 100 ∈ lw_tbl := ip_tb3 (List.mem_of_getElem? (i := 200) rfl)
theorem ip_cw_101 : ip_cw 101 ∈ lw_tbl := ip_tb3 (List.mem_of_getElem? (i := 204) rfl)
theorem ip_cw_102 : ip_cw 102 ∈ lw_tbl := ip_tb3 (List.mem_of_getElem? (i := 209) rfl)
theorem ip_cw_103 : ip_cw 103 ∈ lw_tbl := ip_tb3 (List.mem_of_getElem? (i := 213) rfl)
theorem ip_cw_104 : ip_cw 104 ∈ lw_tbl := ip_tb3 (List.mem_of_getElem? (i := 217) rfl)
theorem ip_cw_105 : ip_cw 105 ∈ lw_tbl := ip_tb3 (List.mem_of_getElem? (i := 221) rfl)
theorem ip_cw_106 : ip_cw 106 ∈ lw_tbl := ip_tb3 (List.mem_of_getElem? (i := 225) rfl)
theorem ip_cw_107 : ip_cw 107 ∈ lw_tbl := ip_tb3 (List.mem_of_getElem? (i := 230) rfl)
theorem ip_cw_108 : ip_cw 108 ∈ lw_tbl := ip_tb3 (List.mem_of_getElem? (i := 234) rfl)
theorem ip_cw_109 : ip_cw 109 ∈ lw_tbl := ip_tb3 (List.mem_of_getElem? (i := 238) rfl)
theorem ip_cw_110 : ip_cw 110 ∈ lw_tbl := ip_tb4 (List.mem_of_getElem? (i := 2) rfl)
theorem ip_cw_111 : ip_cw 111 ∈ lw_tbl := ip_tb4 (List.mem_of_getElem? (i := 6) rfl)
theorem ip_cw_112 : ip_cw 112 ∈ lw_tbl := ip_tb4 (List.mem_of_getElem? (i := 10) rfl)
theorem ip_cw_113 : ip_cw 113 ∈ lw_tbl := ip_tb4 (List.mem_of_getElem? (i := 14) rfl)
theorem ip_cw_114 : ip_cw 114 ∈ lw_tbl := ip_tb4 (List.mem_of_getElem? (i := 18) rfl)
theorem ip_cw_115 : ip_cw 115 ∈ lw_tbl := ip_tb4 (List.mem_of_getElem? (i := 22) rfl)
theorem ip_cw_116 : ip_cw 116 ∈ lw_tbl := ip_tb4 (List.mem_of_getElem? (i := 26) rfl)
theorem ip_cw_117 : ip_cw 117 ∈ lw_tbl := ip_tb4 (List.mem_of_getElem? (i := 31) rfl)
theorem ip_cw_118 : ip_cw 118 ∈ lw_tbl := ip_tb4 (List.mem_of_getElem? (i := 35) rfl)
theorem ip_cw_119 : ip_cw 119 ∈ lw_tbl := ip_tb4 (List.mem_of_getElem? (i := 40) rfl)
theorem ip_cw_120 : ip_cw 120 ∈ lw_tbl := ip_tb4 (List.mem_of_getElem? (i := 44) rfl)
theorem ip_cw_121 : ip_cw 121 ∈ lw_tbl := ip_tb4 (List.mem_of_getElem? (i := 48) rfl)
theorem ip_cw_122 : ip_cw 122 ∈ lw_tbl := ip_tb4 (List.mem_of_getElem? (i := 53) rfl)
theorem ip_cw_123 : ip_cw 123 ∈ lw_tbl := ip_tb4 (List.mem_of_getElem? (i := 58) rfl)
theorem ip_cw_124 : ip_cw 124 ∈ lw_tbl := ip_tb4 (List.mem_of_getElem? (i := 117) rfl)
theorem ip_cw_125 : ip_cw 125 ∈ lw_tbl := ip_tb4 (List.mem_of_getElem? (i := 121) rfl)
theorem ip_cw_126 : ip_cw 126 ∈ lw_tbl := ip_tb4 (List.mem_of_getElem? (i := 125) rfl)
theorem ip_cw_127 : ip_cw 127 ∈ lw_tbl := ip_tb4 (List.mem_of_getElem? (i := 129) rfl)
theorem ip_cw_128 : ip_cw 128 ∈ lw_tbl := ip_tb4 (List.mem_of_getElem? (i := 133) rfl)
theorem ip_cw_129 : ip_cw 129 ∈ lw_tbl := ip_tb4 (List.mem_of_getElem? (i := 137) rfl)
theorem ip_cw_130 : ip_cw 130 ∈ lw_tbl := ip_tb4 (List.mem_of_getElem? (i := 140) rfl)
theorem ip_cw_131 : ip_cw 131 ∈ lw_tbl := ip_tb4 (List.mem_of_getElem? (i := 145) rfl)
theorem ip_cw_132 : ip_cw 132 ∈ lw_tbl := ip_tb4 (List.mem_of_getElem? (i := 151) rfl)
theorem ip_cw_133 : ip_cw 133 ∈ lw_tbl := ip_tb4 (List.mem_of_getElem? (i := 155) rfl)
theorem ip_cw_134 : ip_cw 134 ∈ lw_tbl := ip_tb4 (List.mem_of_getElem? (i := 159) rfl)
theorem ip_cw_135 : ip_cw 135 ∈ lw_tbl := ip_tb4 (List.mem_of_getElem? (i := 163) rfl)
theorem ip_cw_136 : ip_cw 136 ∈ lw_tbl := ip_tb4 (List.mem_of_getElem? (i := 167) rfl)
theorem ip_cw_137 : ip_cw 137 ∈ lw_tbl := ip_tb4 (List.mem_of_getElem? (i := 171) rfl)
theorem ip_cw_138 : ip_cw 138 ∈ lw_tbl := ip_tb4 (List.mem_of_getElem? (i := 175) rfl)
theorem ip_cw_139 : ip_cw 139 ∈ lw_tbl := ip_tb4 (List.mem_of_getElem? (i := 179) rfl)
theorem ip_cw_140 : ip_cw 140 ∈ lw_tbl := ip_tb4 (List.mem_of_getElem? (i := 183) rfl)
theorem ip_cw_141 : ip_cw 141 ∈ lw_tbl := ip_tb4 (List.mem_of_getElem? (i := 187) rfl)
theorem ip_cw_142 : ip_cw 142 ∈ lw_tbl := ip_tb4 (List.mem_of_getElem? (i := 191) rfl)
theorem ip_cw_143 : ip_cw 143 ∈ lw_tbl := ip_tb4 (List.mem_of_getElem? (i := 195) rfl)
theorem ip_cw_144 : ip_cw 144 ∈ lw_tbl := ip_tb4 (List.mem_of_getElem? (i := 198) rfl)
theorem ip_cw_145 : ip_cw 145 ∈ lw_tbl := ip_tb4 (List.mem_of_getElem? (i := 201) rfl)
theorem ip_cw_146 : ip_cw 146 ∈ lw_tbl := ip_tb4 (List.mem_of_getElem? (i := 205) rfl)
theorem ip_cw_147 : ip_cw 147 ∈ lw_tbl := ip_tb4 (List.mem_of_getElem? (i := 209) rfl)
theorem ip_cw_148 : ip_cw 148 ∈ lw_tbl := ip_tb4 (List.mem_of_getElem? (i := 213) rfl)
theorem ip_cw_149 : ip_cw 149 ∈ lw_tbl := ip_tb4 (List.mem_of_getElem? (i := 217) rfl)
theorem ip_cw_150 : ip_cw 150 ∈ lw_tbl := ip_tb4 (List.mem_of_getElem? (i := 221) rfl)
theorem ip_cw_151 : ip_cw 151 ∈ lw_tbl := ip_tb4 (List.mem_of_getElem? (i := 225) rfl)
theorem ip_cw_152 : ip_cw 152 ∈ lw_tbl := ip_tb4 (List.mem_of_getElem? (i := 229) rfl)
theorem ip_cw_153 : ip_cw 153 ∈ lw_tbl := ip_tb4 (List.mem_of_getElem? (i := 233) rfl)
theorem ip_cw_154 : ip_cw 154 ∈ lw_tbl := ip_tb4 (List.mem_of_getElem? (i := 237) rfl)
theorem ip_cw_155 : ip_cw 155 ∈ lw_tbl := ip_tb5 (List.mem_of_getElem? (i := 1) rfl)
theorem ip_cw_156 : ip_cw 156 ∈ lw_tbl := ip_tb5 (List.mem_of_getElem? (i := 5) rfl)
theorem ip_cw_157 : ip_cw 157 ∈ lw_tbl := ip_tb5 (List.mem_of_getElem? (i := 9) rfl)
theorem ip_cw_158 : ip_cw 158 ∈ lw_tbl := ip_tb5 (List.mem_of_getElem? (i := 13) rfl)
theorem ip_cw_159 : ip_cw 159 ∈ lw_tbl := ip_tb5 (List.mem_of_getElem? (i := 17) rfl)
theorem ip_cw_160 : ip_cw 160 ∈ lw_tbl := ip_tb5 (List.mem_of_getElem? (i := 21) rfl)
theorem ip_cw_161 : ip_cw 161 ∈ lw_tbl := ip_tb5 (List.mem_of_getElem? (i := 26) rfl)
theorem ip_cw_162 : ip_cw 162 ∈ lw_tbl := ip_tb5 (List.mem_of_getElem? (i := 30) rfl)
theorem ip_cw_163 : ip_cw 163 ∈ lw_tbl := ip_tb5 (List.mem_of_getElem? (i := 34) rfl)
theorem ip_cw_164 : ip_cw 164 ∈ lw_tbl := ip_tb5 (List.mem_of_getElem? (i := 38) rfl)
theorem ip_cw_165 : ip_cw 165 ∈ lw_tbl := ip_tb5 (List.mem_of_getElem? (i := 42) rfl)
theorem ip_cw_166 : ip_cw 166 ∈ lw_tbl := ip_tb5 (List.mem_of_getElem? (i := 46) rfl)
theorem ip_cw_167 : ip_cw 167 ∈ lw_tbl := ip_tb5 (List.mem_of_getElem? (i := 50) rfl)
theorem ip_cw_168 : ip_cw 168 ∈ lw_tbl := ip_tb5 (List.mem_of_getElem? (i := 54) rfl)
theorem ip_cw_169 : ip_cw 169 ∈ lw_tbl := ip_tb5 (List.mem_of_getElem? (i := 58) rfl)
theorem ip_cw_170 : ip_cw 170 ∈ lw_tbl := ip_tb5 (List.mem_of_getElem? (i := 62) rfl)
theorem ip_cw_171 : ip_cw 171 ∈ lw_tbl := ip_tb5 (List.mem_of_getElem? (i := 66) rfl)
theorem ip_cw_172 : ip_cw 172 ∈ lw_tbl := ip_tb5 (List.mem_of_getElem? (i := 70) rfl)
theorem ip_cw_173 : ip_cw 173 ∈ lw_tbl := ip_tb5 (List.mem_of_getElem? (i := 74) rfl)
theorem ip_cw_174 : ip_cw 174 ∈ lw_tbl := ip_tb5 (List.mem_of_getElem? (i := 78) rfl)
theorem ip_cw_175 : ip_cw 175 ∈ lw_tbl := ip_tb5 (List.mem_of_getElem? (i := 82) rfl)
theorem ip_cw_176 : ip_cw 176 ∈ lw_tbl := ip_tb5 (List.mem_of_getElem? (i := 86) rfl)
theorem ip_cw_177 : ip_cw 177 ∈ lw_tbl := ip_tb5 (List.mem_of_getElem? (i := 90) rfl)
theorem ip_cw_178 : ip_cw 178 ∈ lw_tbl := ip_tb5 (List.mem_of_getElem? (i := 94) rfl)
theorem ip_cw_179 : ip_cw 179 ∈ lw_tbl := ip_tb5 (List.mem_of_getElem? (i := 98) rfl)
theorem ip_cw_180 : ip_cw 180 ∈ lw_tbl := ip_tb5 (List.mem_of_getElem? (i := 102) rfl)
theorem ip_cw_181 : ip_cw 181 ∈ lw_tbl := ip_tb5 (List.mem_of_getElem? (i := 105) rfl)
theorem ip_cw_182 : ip_cw 182 ∈ lw_tbl := ip_tb5 (List.mem_of_getElem? (i := 110) rfl)
theorem ip_cw_183 : ip_cw 183 ∈ lw_tbl := ip_tb5 (List.mem_of_getElem? (i := 115) rfl)
theorem ip_cw_184 : ip_cw 184 ∈ lw_tbl := ip_tb5 (List.mem_of_getElem? (i := 120) rfl)
theorem ip_cw_185 : ip_cw 185 ∈ lw_tbl := ip_tb5 (List.mem_of_getElem? (i := 124) rfl)
theorem ip_cw_186 : ip_cw 186 ∈ lw_tbl := ip_tb5 (List.mem_of_getElem? (i := 128) rfl)
theorem ip_cw_187 : ip_cw 187 ∈ lw_tbl := ip_tb5 (List.mem_of_getElem? (i := 133) rfl)
theorem ip_cw_188 : ip_cw 188 ∈ lw_tbl := ip_tb5 (List.mem_of_getElem? (i := 137) rfl)
theorem ip_cw_189 : ip_cw 189 ∈ lw_tbl := ip_tb5 (List.mem_of_getElem? (i := 141) rfl)
theorem ip_cw_190 : ip_cw 190 ∈ lw_tbl := ip_tb5 (List.mem_of_getElem? (i := 145) rfl)
theorem ip_cw_191 : ip_cw 191 ∈ lw_tbl := ip_tb5 (List.mem_of_getElem? (i := 149) rfl)
theorem ip_cw_192 : ip_cw 192 ∈ lw_tbl := ip_tb5 (List.mem_of_getElem? (i := 153) rfl)
theorem ip_cw_193 : ip_cw 193 ∈ lw_tbl := ip_tb5 (List.mem_of_getElem? (i := 157) rfl)
theorem ip_cw_194 : ip_cw 194 ∈ lw_tbl := ip_tb5 (List.mem_of_getElem? (i := 161) rfl)
theorem ip_cw_195 : ip_cw 195 ∈ lw_tbl := ip_tb5 (List.mem_of_getElem? (i := 165) rfl)
theorem ip_cw_196 : ip_cw 196 ∈ lw_tbl := ip_tb5 (List.mem_of_getElem? (i := 169) rfl)
theorem ip_cw_197 : ip_cw 197 ∈ lw_tbl := ip_tb5 (List.mem_of_getElem? (i := 173) rfl)
theorem ip_cw_198 : ip_cw 198 ∈ lw_tbl := ip_tb5 (List.mem_of_getElem? (i := 177) rfl)
theorem ip_cwl_0 : ∀ k ∈ ([0, 1, 2, 3, 4, 5, 6, 7, 8, 9, 10, 11, 12, 13, 14, 15, 16, 17, 18, 19, 20, 21, 22, 23] : List Nat), ip_cw k ∈ lw_tbl := List.forall_mem_cons.mpr ⟨ip_cw_0, List.forall_mem_cons.mpr ⟨ip_cw_1, List.forall_mem_cons.mpr ⟨ip_cw_2, List.forall_mem_cons.mpr ⟨ip_cw_3, List.forall_mem_cons.mpr ⟨ip_cw_4, List.forall_mem_cons.mpr ⟨ip_cw_5, List.forall_mem_cons.mpr ⟨ip_cw_6, List.forall_mem_cons.mpr ⟨ip_cw_7, List.forall_mem_cons.mpr ⟨ip_cw_8, List.forall_mem_cons.mpr ⟨ip_cw_9, List.forall_mem_cons.mpr ⟨ip_cw_10, List.forall_mem_cons.mpr ⟨ip_cw_11, List.forall_mem_cons.mpr ⟨ip_cw_12, List.forall_mem_cons.mpr ⟨ip_cw_13, List.forall_mem_cons.mpr ⟨ip_cw_14, List.forall_mem_cons.mpr ⟨ip_cw_15, List.forall_mem_cons.mpr ⟨ip_cw_16, List.forall_mem_cons.mpr ⟨ip_cw_17, List.forall_mem_cons.mpr ⟨ip_cw_18, List.forall_mem_cons.mpr ⟨ip_cw_19, List.forall_mem_cons.mpr ⟨ip_cw_20, List.forall_mem_cons.mpr ⟨ip_cw_21, List.forall_mem_cons.mpr ⟨ip_cw_22, List.forall_mem_cons.mpr ⟨ip_cw_23, fun _ h => absurd h List.not_mem_nil⟩⟩⟩⟩⟩⟩⟩⟩⟩⟩⟩⟩⟩⟩⟩⟩⟩⟩⟩⟩⟩⟩⟩⟩
theorem ip_cwl_1 : ∀ k ∈ ([24, 25, 26, 27, 28, 29, 30, 31, 32, 33, 34, 35, 36, 37, 38, 39, 40, 41, 42, 43, 44, 45, 46, 47] : List Nat), ip_cw k ∈ lw_tbl := List.forall_mem_cons.mpr ⟨ip_cw_24, List.forall_mem_cons.mpr ⟨ip_cw_25, List.forall_mem_cons.mpr ⟨ip_cw_26, List.forall_mem_cons.mpr ⟨ip_cw_27, List.forall_mem_cons.mpr ⟨ip_cw_28, List.forall_mem_cons.mpr ⟨ip_cw_29, List.forall_mem_cons.mpr ⟨ip_cw_30, List.forall_mem_cons.mpr ⟨ip_cw_31, List.forall_mem_cons.mpr ⟨ip_cw_32, List.forall_mem_cons.mpr ⟨ip_cw_33, List.forall_mem_cons.mpr ⟨ip_cw_34, List.forall_mem_cons.mpr ⟨ip_cw_35, List.forall_mem_cons.mpr ⟨ip_cw_36, List.forall_mem_cons.mpr ⟨ip_cw_37, List.forall_mem_cons.mpr ⟨ip_cw_38, List.forall_mem_cons.mpr ⟨ip_cw_39, List.forall_mem_cons.mpr ⟨ip_cw_40, List.forall_mem_cons.mpr ⟨ip_cw_41, List.forall_mem_cons.mpr ⟨ip_cw_42, List.forall_mem_cons.mpr ⟨ip_cw_43, List.forall_mem_cons.mpr ⟨ip_cw_44, List.forall_mem_cons.mpr ⟨ip_cw_45, List.forall_mem_cons.mpr ⟨ip_cw_46, List.forall_mem_cons.mpr ⟨ip_cw_47, fun _ h => absurd h List.not_mem_nil⟩⟩⟩⟩⟩⟩⟩⟩⟩⟩⟩⟩⟩⟩⟩⟩⟩⟩⟩⟩⟩⟩⟩⟩
theorem ip_cwl_2 : ∀ k ∈ ([48, 49, 50, 51, 52, 53, 54, 55, 56, 57, 58, 59, 60, 61, 62, 63, 64, 65, 66, 67, 68, 69, 70, 71] : List Nat), ip_cw k ∈ lw_tbl := List.forall_mem_cons.mpr ⟨ip_cw_48, List.forall_mem_cons.mpr ⟨ip_cw_49, List.forall_mem_cons.mpr ⟨ip_cw_50, List.forall_mem_cons.mpr ⟨ip_cw_51, List.forall_mem_cons.mpr ⟨ip_cw_52, List.forall_mem_cons.mpr ⟨ip_cw_53, List.forall_mem_cons.mpr ⟨ip_cw_54, List.forall_mem_cons.mpr ⟨ip_cw_55, List.forall_mem_cons.mpr ⟨ip_cw_56, List.forall_mem_cons.mpr ⟨ip_cw_57, List.forall_mem_cons.mpr ⟨ip_cw_58, List.forall_mem_cons.mpr ⟨ip_cw_59, List.forall_mem_cons.mpr ⟨ip_cw_60, List.forall_mem_cons.mpr ⟨ip_cw_61, List.forall_mem_cons.mpr ⟨ip_cw_62, List.forall_mem_cons.mpr ⟨ip_cw_63, List.forall_mem_cons.mpr ⟨ip_cw_64, List.forall_mem_cons.mpr ⟨ip_cw_65, List.forall_mem_cons.mpr ⟨ip_cw_66, List.forall_mem_cons.mpr ⟨ip_cw_67, List.forall_mem_cons.mpr ⟨ip_cw_68, List.forall_mem_cons.mpr ⟨ip_cw_69, List.forall_mem_cons.mpr ⟨ip_cw_70, List.forall_mem_cons.mpr ⟨ip_cw_71, fun _ h => absurd h List.not_mem_nil⟩⟩⟩⟩⟩⟩⟩⟩⟩⟩⟩⟩⟩⟩⟩⟩⟩⟩⟩⟩⟩⟩⟩⟩
theorem ip_cwl_3 : ∀ k ∈ ([72, 73, 74, 75, 76, 77, 78, 79, 80, 81, 82, 83, 84, 85, 86, 87, 88, 89, 90, 91, 92, 93, 94, 95] : List Nat), ip_cw k ∈ lw_tbl := List.forall_mem_cons.mpr ⟨ip_cw_72, List.forall_mem_cons.mpr ⟨ip_cw_73, List.forall_mem_cons.mpr ⟨ip_cw_74, List.forall_mem_cons.mpr ⟨ip_cw_75, List.forall_mem_cons.mpr ⟨ip_cw_76, List.forall_mem_cons.mpr ⟨ip_cw_77, List.forall_mem_cons.mpr ⟨ip_cw_78, List.forall_mem_cons.mpr ⟨ip_cw_79, List.forall_mem_cons.mpr ⟨ip_cw_80, List.forall_mem_cons.mpr ⟨ip_cw_81, List.forall_mem_cons.mpr ⟨ip_cw_82, List.forall_mem_cons.mpr ⟨ip_cw_83, List.forall_mem_cons.mpr ⟨ip_cw_84, List.forall_mem_cons.mpr ⟨ip_cw_85, List.forall_mem_cons.mpr ⟨ip_cw_86, List.forall_mem_cons.mpr ⟨ip_cw_87, List.forall_mem_cons.mpr ⟨ip_cw_88, List.forall_mem_cons.mpr ⟨ip_cw_89, List.forall_mem_cons.mpr ⟨ip_cw_90, List.forall_mem_cons.mpr ⟨ip_cw_91, List.forall_mem_cons.mpr ⟨ip_cw_92, List.forall_mem_cons.mpr ⟨ip_cw_93, List.forall_mem_cons.mpr ⟨ip_cw_94, List.forall_mem_cons.mpr ⟨ip_cw_95, fun _ h => absurd h List.not_mem_nil⟩⟩⟩⟩⟩⟩⟩⟩⟩⟩⟩⟩⟩⟩⟩⟩⟩⟩⟩⟩⟩⟩⟩⟩
theorem ip_cwl_4 : ∀ k ∈ ([96, 97, 98, 99, 100, 101, 102, 103, 104, 105, 106, 107, 108, 109, 110, 111, 112, 113, 114, 115, 116, 117, 118, 119] : List Nat), ip_cw k ∈ lw_tbl := List.forall_mem_cons.mpr ⟨ip_cw_96, List.forall_mem_cons.mpr ⟨ip_cw_97, List.forall_mem_cons.mpr ⟨ip_cw_98, List.forall_mem_cons.mpr ⟨ip_cw_99, List.forall_mem_cons.mpr ⟨ip_cw_100, List.forall_mem_cons.mpr ⟨ip_cw_101, List.forall_mem_cons.mpr ⟨ip_cw_102, List.forall_mem_cons.mpr ⟨ip_cw_103, List.forall_mem_cons.mpr ⟨ip_cw_104, List.forall_mem_cons.mpr ⟨ip_cw_105, List.forall_mem_cons.mpr ⟨ip_cw_106, List.forall_mem_cons.mpr ⟨ip_cw_107, List.forall_mem_cons.mpr ⟨ip_cw_108, List.forall_mem_cons.mpr ⟨ip_cw_109, List.forall_mem_cons.mpr ⟨ip_cw_110, List.forall_mem_cons.mpr ⟨ip_cw_111, List.forall_mem_cons.mpr ⟨ip_cw_112, List.forall_mem_cons.mpr ⟨ip_cw_113, List.forall_mem_cons.mpr ⟨ip_cw_114, List.forall_mem_cons.mpr ⟨ip_cw_115, List.forall_mem_cons.mpr ⟨ip_cw_116, List.forall_mem_cons.mpr ⟨ip_cw_117, List.forall_mem_cons.mpr ⟨ip_cw_118, List.forall_mem_cons.mpr ⟨ip_cw_119, fun _ h => absurd h List.not_mem_nil⟩⟩⟩⟩⟩⟩⟩⟩⟩⟩⟩⟩⟩⟩⟩⟩⟩⟩⟩⟩⟩⟩⟩⟩
theorem ip_cwl_5 : ∀ k ∈ ([120, 121, 122, 123, 124, 125, 126, 127, 128, 129, 130, 131, 132, 133, 134, 135, 136, 137, 138, 139, 140, 141, 142, 143] : List Nat), ip_cw k ∈ lw_tbl := List.forall_mem_cons.mpr ⟨ip_cw_120, List.forall_mem_cons.mpr ⟨ip_cw_121, List.forall_mem_cons.mpr ⟨ip_cw_122, List.forall_mem_cons.mpr ⟨ip_cw_123, List.forall_mem_cons.mpr ⟨ip_cw_124, List.forall_mem_cons.mpr ⟨ip_cw_125, List.forall_mem_cons.mpr ⟨ip_cw_126, List.forall_mem_cons.mpr ⟨ip_cw_127, List.forall_mem_cons.mpr ⟨ip_cw_128, List.forall_mem_cons.mpr ⟨ip_cw_129, List.forall_mem_cons.mpr ⟨ip_cw_130, List.forall_mem_cons.mpr ⟨ip_cw_131, List.forall_mem_cons.mpr ⟨ip_cw_132, List.forall_mem_cons.mpr ⟨ip_cw_133, List.forall_mem_cons.mpr ⟨ip_cw_134, List.forall_mem_cons.mpr ⟨ip_cw_135, List.forall_mem_cons.mpr ⟨ip_cw_136, List.forall_mem_cons.mpr ⟨ip_cw_137, List.forall_mem_cons.mpr ⟨ip_cw_138, List.forall_mem_cons.mpr ⟨ip_cw_139, List.forall_mem_cons.mpr ⟨ip_cw_140, List.forall_mem_cons.mpr ⟨ip_cw_141, List.forall_mem_cons.mpr ⟨ip_cw_142, List.forall_mem_cons.mpr ⟨ip_cw_143, fun _ h => absurd h List.not_mem_nil⟩⟩⟩⟩⟩⟩⟩⟩⟩⟩⟩⟩⟩⟩⟩⟩⟩⟩⟩⟩⟩⟩⟩⟩
theorem ip_cwl_6 : ∀ k ∈ ([144, 145, 146, 147, 148, 149, 150, 151, 152, 153, 154, 155, 156, 157, 158, 159, 160, 161, 162, 163, 164, 165, 166, 167] : List Nat), ip_cw k ∈ lw_tbl := List.forall_mem_cons.mpr ⟨ip_cw_144, List.forall_mem_cons.mpr ⟨ip_cw_145, List.forall_mem_cons.mpr ⟨ip_cw_146, List.forall_mem_cons.mpr ⟨ip_cw_147, List.forall_mem_cons.mpr ⟨ip_cw_148, List.forall_mem_cons.mpr ⟨ip_cw_149, List.forall_mem_cons.mpr ⟨ip_cw_150, List.forall_mem_cons.mpr ⟨ip_cw_151, List.forall_mem_cons.mpr ⟨ip_cw_152, List.forall_mem_cons.mpr ⟨ip_cw_153, List.forall_mem_cons.mpr ⟨ip_cw_154, List.forall_mem_cons.mpr ⟨ip_cw_155, List.forall_mem_cons.mpr ⟨ip_cw_156, List.forall_mem_cons.mpr ⟨ip_cw_157, List.forall_mem_cons.mpr ⟨ip_cw_158, List.forall_mem_cons.mpr ⟨ip_cw_159, List.forall_mem_cons.mpr ⟨ip_cw_160, List.forall_mem_cons.mpr ⟨ip_cw_161, List.forall_mem_cons.mpr ⟨ip_cw_162, List.forall_mem_cons.mpr ⟨ip_cw_163, List.forall_mem_cons.mpr ⟨ip_cw_164, List.forall_mem_cons.mpr ⟨ip_cw_165, List.forall_mem_cons.mpr ⟨ip_cw_166, List.forall_mem_cons.mpr ⟨ip_cw_167, fun _ h => absurd h List.not_mem_nil⟩⟩⟩⟩⟩⟩⟩⟩⟩⟩⟩⟩⟩⟩⟩⟩⟩⟩⟩⟩⟩⟩⟩⟩
theorem ip_cwl_7 : ∀ k ∈ ([168, 169, 170, 171, 172, 173, 174, 175, 176, 177, 178, 179, 180, 181, 182, 183, 184, 185, 186, 187, 188, 189, 190, 191] : List Nat), ip_cw k ∈ lw_tbl := List.forall_mem_cons.mpr ⟨ip_cw_168, List.forall_mem_cons.mpr ⟨ip_cw_169, List.forall_mem_cons.mpr ⟨ip_cw_170, List.forall_mem_cons.mpr ⟨ip_cw_171, List.forall_mem_cons.mpr ⟨ip_cw_172, List.forall_mem_cons.mpr ⟨ip_cw_173, List.forall_mem_cons.mpr ⟨ip_cw_174, List.forall_mem_cons.mpr ⟨ip_cw_175, List.forall_mem_cons.mpr ⟨ip_cw_176, List.forall_mem_cons.mpr ⟨ip_cw_177, List.forall_mem_cons.mpr ⟨ip_cw_178, List.forall_mem_cons.mpr ⟨ip_cw_179, List.forall_mem_cons.mpr ⟨ip_cw_180, List.forall_mem_cons.mpr ⟨ip_cw_181, List.forall_mem_cons.mpr ⟨ip_cw_182, List.forall_mem_cons.mpr ⟨ip_cw_183, List.forall_mem_cons.mpr ⟨ip_cw_184, List.forall_mem_cons.mpr ⟨ip_cw_185, List.forall_mem_cons.mpr ⟨ip_cw_186, List.forall_mem_cons.mpr ⟨ip_cw_187, List.forall_mem_cons.mpr ⟨ip_cw_188, List.forall_mem_cons.mpr ⟨ip_cw_189, List.forall_mem_cons.mpr ⟨ip_cw_190, List.forall_mem_cons.mpr ⟨ip_cw_191, fun _ h => absurd h List.not_mem_nil⟩⟩⟩⟩⟩⟩⟩⟩⟩⟩⟩⟩⟩⟩⟩⟩⟩⟩⟩⟩⟩⟩⟩⟩
theorem ip_cwl_8 : ∀ k ∈ ([192, 193, 194, 195, 196, 197, 198] : List Nat), ip_cw k ∈ lw_tbl := List.forall_mem_cons.mpr ⟨ip_cw_192, List.forall_mem_cons.mpr ⟨ip_cw_193, List.forall_mem_cons.mpr ⟨ip_cw_194, List.forall_mem_cons.mpr ⟨ip_cw_195, List.forall_mem_cons.mpr ⟨ip_cw_196, List.forall_mem_cons.mpr ⟨ip_cw_197, List.forall_mem_cons.mpr ⟨ip_cw_198, fun _ h => absurd h List.not_mem_nil⟩⟩⟩⟩⟩⟩⟩
theorem ip_cw_all (k : Nat) (h : k < 199) : ip_cw k ∈ lw_tbl := by
  have h2 : k ∈ List.range 199 := List.mem_range.mpr h
  rw [show List.range 199 = ([0, 1, 2, 3, 4, 5, 6, 7, 8, 9, 10, 11, 12, 13, 14, 15, 16, 17, 18, 19, 20, 21, 22, 23] : List Nat) ++ ([24, 25, 26, 27, 28, 29, 30, 31, 32, 33, 34, 35, 36, 37, 38, 39, 40, 41, 42, 43, 44, 45, 46, 47] : List Nat) ++ ([48, 49, 50, 51, 52, 53, 54, 55, 56, 57, 58, 59, 60, 61, 62, 63, 64, 65, 66, 67, 68, 69, 70, 71] : List Nat) ++ ([72, 73, 74, 75, 76, 77, 78, 79, 80, 81, 82, 83, 84, 85, 86, 87, 88, 89, 90, 91, 92, 93, 94, 95] : List Nat) ++ ([96, 97, 98, 99, 100, 101, 102, 103, 104, 105, 106, 107, 108, 109, 110, 111, 112, 113, 114, 115, 116, 117, 118, 119] : List Nat) ++ ([120, 121, 122, 123, 124, 125, 126, 127, 128, 129, 130, 131, 132, 133, 134, 135, 136, 137, 138, 139, 140, 141, 142, 143] : List Nat) ++ ([144, 145, 146, 147, 148, 149, 150, 151, 152, 153, 154, 155, 156, 157, 158, 159, 160, 161, 162, 163, 164, 165, 166, 167] : List Nat) ++ ([168, 169, 170, 171, 172, 173, 174, 175, 176, 177, 178, 179, 180, 181, 182, 183, 184, 185, 186, 187, 188, 189, 190, 191] : List Nat) ++ ([192, 193, 194, 195, 196, 197, 198] : List Nat) from by decide +kernel] at h2
  simp only [List.mem_append] at h2
  rcases h2 with (((((((h2 | h2) | h2) | h2) | h2) | h2) | h2) | h2) | h2
  · exact ip_cwl_0 k h2
  · exact ip_cwl_1 k h2
  · exact ip_cwl_2 k h2
  · exact ip_cwl_3 k h2
  · exact ip_cwl_4 k h2
  · exact ip_cwl_5 k h2
  · exact ip_cwl_6 k h2
  · exact ip_cwl_7 k h2
  · exact ip_cwl_8 k h2
set_option maxRecDepth 100000 in
theorem ip_w_code_g : ((List.range 199).map ip_cw).all goodWord = true := by decide +kernel
theorem ip_w_code (k : Nat) (h : k < 199) : ip_cw k ∈ ip_W := ip_W_mem (ip_cw_all k h) (List.all_eq_true.mp ip_w_code_g _ (List.mem_map.mpr ⟨k, List.mem_range.mpr h, rfl⟩))
def ip_li : List Nat := [0, 1, 2, 3, 4, 5, 6, 7, 8, 9, 10, 11, 12, 13, 14, 15, 16, 20, 21, 22, 23, 24, 25, 29, 30, 31, 32, 33, 35, 36, 37, 38, 39, 40, 41, 42, 43, 44, 45, 46, 47, 48, 49, 50, 52, 53, 54, 55, 56, 59, 60, 61, 62, 63, 64, 65, 66, 67, 68, 70, 71, 72, 75, 76, 77, 78, 79, 80, 81, 82, 83, 84, 85, 86, 87, 88, 89, 90, 91, 92, 94, 96, 97, 98, 99, 100, 101, 102, 103, 104, 105, 106, 107, 108, 109, 110, 111, 112, 113, 114, 115, 116, 117, 118, 119, 120, 121, 122, 123, 124, 126, 127, 128, 129, 132, 133, 134, 135, 136, 137, 138, 139, 140, 141, 142, 143, 146, 147, 148, 149, 150, 151, 152, 153, 154, 155, 156, 157, 158, 159, 160, 161, 162, 163, 164, 165, 166, 167, 168, 169, 170, 171, 172, 173, 174, 175, 176, 178, 179, 180, 182, 183, 184, 185, 186, 187, 188, 189, 190, 191, 192, 193, 194, 195, 196, 197, 198]
def ip_ls : List Nat := [17, 18, 19, 26, 27, 28, 34, 51, 57, 58, 69, 73, 74, 93, 95, 125, 130, 131, 144, 145, 177, 181]
set_option maxRecDepth 100000 in
theorem ip_w_inst_s : ip_sub (ip_li.map (fun k => Cond.instanceMethod (ip_mY k))) lw_tbl = true := by decide +kernel
set_option maxRecDepth 100000 in
theorem ip_w_inst_g : (ip_li.map (fun k => Cond.instanceMethod (ip_mY k))).all goodWord = true := by decide +kernel
theorem ip_w_inst : ∀ w ∈ (ip_li.map (fun k => Cond.instanceMethod (ip_mY k))), w ∈ ip_W := ip_good ip_w_inst_s ip_w_inst_g
set_option maxRecDepth 100000 in
theorem ip_w_stat_s : ip_sub (ip_ls.map (fun k => Cond.static (ip_mY k))) lw_tbl = true := by decide +kernel
set_option maxRecDepth 100000 in
theorem ip_w_stat_g : (ip_ls.map (fun k => Cond.static (ip_mY k))).all goodWord = true := by decide +kernel
theorem ip_w_stat : ∀ w ∈ (ip_ls.map (fun k => Cond.static (ip_mY k))), w ∈ ip_W := ip_good ip_w_stat_s ip_w_stat_g
def ip_lv : List Nat := [13, 15, 29, 32, 33, 36, 37, 41, 77, 113, 114, 121, 123, 128, 129, 132, 133, 134, 135, 136, 137, 138, 141, 142, 143, 147, 148, 149, 151, 154, 155, 156, 157, 163, 164, 165, 166, 167, 169, 174, 179, 184, 190, 191, 192, 193, 194, 195, 196, 197, 198, 7, 9, 10, 11, 12, 14, 16, 20, 21, 22, 23, 24, 25, 30, 31, 35, 38, 39, 40, 42, 43, 44, 45, 46, 47, 48, 49, 50, 52, 53, 54, 55, 56, 59, 60, 61, 62, 63, 64, 65, 66, 67, 68, 70, 71, 72, 75, 76, 78, 79, 80, 81, 82, 83, 84, 85, 86, 87, 88, 89, 90, 91, 92, 94, 96, 97, 98, 99, 100, 101, 102, 103, 104, 105, 106, 107, 108, 109, 110, 111, 112, 115, 116, 117, 118, 119, 120, 124, 126, 127, 139, 140, 146, 150, 152, 153, 158, 159, 160, 161, 162, 168, 170, 171, 172, 173, 175, 176, 178, 180, 182, 183, 185, 186, 187, 188, 189]
set_option maxRecDepth 100000 in
theorem ip_w_sel_s : ip_sub (ip_lv.map (fun k => Cond.selects (ip_mY k).cls (ip_mY k) (ip_mY k))) lw_tbl = true := by decide +kernel
set_option maxRecDepth 100000 in
theorem ip_w_sel_g : (ip_lv.map (fun k => Cond.selects (ip_mY k).cls (ip_mY k) (ip_mY k))).all goodWord = true := by decide +kernel
theorem ip_w_sel : ∀ w ∈ (ip_lv.map (fun k => Cond.selects (ip_mY k).cls (ip_mY k) (ip_mY k))), w ∈ ip_W := ip_good ip_w_sel_s ip_w_sel_g
def ip_lo : List Nat := [10, 8, 1, 2, 3, 5, 7, 4, 6, 9, 12, 13, 14, 0, 11]
set_option maxRecDepth 100000 in
theorem ip_w_ini_s : ip_sub (ip_lo.map (fun k => Cond.initialized (ip_on k))) lw_tbl = true := by decide +kernel
set_option maxRecDepth 100000 in
theorem ip_w_ini_g : (ip_lo.map (fun k => Cond.initialized (ip_on k))).all goodWord = true := by decide +kernel
theorem ip_w_ini : ∀ w ∈ (ip_lo.map (fun k => Cond.initialized (ip_on k))), w ∈ ip_W := ip_good ip_w_ini_s ip_w_ini_g
def ip_fw (q : Nat × Nat × Nat × Nat × Nat) : Cond := match vwCl[q.2.2.1]? with
  | some (_, T, _) => .fieldLink (ip_on q.1) q.2.1 (T q.2.2.2.1).1 (T q.2.2.2.1).2.1 (T q.2.2.2.1).2.2.1
  | none => .initialized ""
set_option maxRecDepth 100000 in
theorem ip_w_fld_s : ip_sub (ip_ft.map ip_fw) lw_tbl = true := by decide +kernel
set_option maxRecDepth 100000 in
theorem ip_w_fld_g : (ip_ft.map ip_fw).all goodWord = true := by decide +kernel
theorem ip_w_fld : ∀ w ∈ (ip_ft.map ip_fw), w ∈ ip_W := ip_good ip_w_fld_s ip_w_fld_g
def ip_mw (q : Nat × Nat × Nat × Nat × Nat) : Cond := .methodLink (ip_on q.1) q.2.1 (ip_mY q.2.2.2.1)
set_option maxRecDepth 100000 in
theorem ip_w_mth_s : ip_sub (ip_ct0.map ip_mw) lw_tbl = true := by decide +kernel
set_option maxRecDepth 100000 in
theorem ip_w_mth_g : (ip_ct0.map ip_mw).all goodWord = true := by decide +kernel
theorem ip_w_mth : ∀ w ∈ (ip_ct0.map ip_mw), w ∈ ip_W := ip_good ip_w_mth_s ip_w_mth_g
def ip_pn (k : Nat) : MethodName := match k with
  | 10 => objectInit
  | 11 => Lib.Math.max.name
  | 12 => Lib.Math.min.name
  | _ => arraycopyName
def ip_ct2s : List (Nat × Nat × Nat × Nat × Nat) := [(8, 1, 10, 0, 0), (1, 3, 10, 0, 0), (2, 3, 10, 0, 0), (3, 1, 10, 0, 0), (5, 3, 10, 0, 0), (7, 3, 10, 0, 0), (4, 3, 10, 0, 0), (6, 3, 10, 0, 0), (0, 7, 11, 0, 2), (2, 40, 13, 0, 5), (1, 74, 12, 0, 2), (1, 62, 11, 0, 2), (6, 23, 12, 0, 2), (6, 29, 11, 0, 2), (9, 1, 10, 0, 0)]
theorem ip_ct2_s : ∀ q ∈ ip_ct2, q ∈ ip_ct2s := by decide +kernel
set_option maxRecDepth 100000 in
theorem ip_w_prm_s : ip_sub (ip_ct2s.map (fun q => Cond.methodLink (ip_on q.1) q.2.1 (ip_pn q.2.2.1))) lw_tbl = true := by decide +kernel
set_option maxRecDepth 100000 in
theorem ip_w_prm_g : (ip_ct2s.map (fun q => Cond.methodLink (ip_on q.1) q.2.1 (ip_pn q.2.2.1))).all goodWord = true := by decide +kernel
theorem ip_w_prm : ∀ w ∈ (ip_ct2s.map (fun q => Cond.methodLink (ip_on q.1) q.2.1 (ip_pn q.2.2.1))), w ∈ ip_W := ip_good ip_w_prm_s ip_w_prm_g
set_option maxRecDepth 100000 in
theorem ip_w_oi : ∀ w ∈ ([.instanceMethod objectInit, .code objectInit ⟨#[0xb1]⟩ 1 none, .static Lib.Math.max.name, .code Lib.Math.max.name Lib.Math.max.code 2 (some .int), .static Lib.Math.min.name, .code Lib.Math.min.name Lib.Math.min.code 2 (some .int), .static arraycopyName, .native arraycopyName, .initialized "java/lang/Math", .initialized "java/lang/System", .arrayClass .int, .arrayClass .boolean] : List Cond), w ∈ ip_W := by decide +kernel
def ip_nta : List (Nat × Nat × Nat) := [(10, 7, 7), (8, 7, 0), (1, 9, 1), (8, 23, 1), (8, 33, 2), (3, 9, 1), (8, 40, 4), (8, 47, 6), (8, 54, 3), (8, 61, 5), (10, 10, 8)]
theorem ip_nta_n : ∀ q ∈ ip_nt, q ∈ ip_nta := by decide +kernel
theorem ip_nta_a : ∀ q ∈ ip_at, q ∈ ip_nta := by decide +kernel
def ip_cn (k : Nat) : String := ((vwCl[k]?).map (fun q => q.1)).getD ""
def ip_cN (k : Nat) : Nat := ((vwCl[k]?).map (fun q => q.2.2)).getD 0
set_option maxRecDepth 100000 in
theorem ip_w_cls_s : ip_sub (ip_nta.map (fun q => Cond.classLink (ip_on q.1) q.2.1 (ip_cn q.2.2))) lw_tbl = true := by decide +kernel
set_option maxRecDepth 100000 in
theorem ip_w_cls_g : (ip_nta.map (fun q => Cond.classLink (ip_on q.1) q.2.1 (ip_cn q.2.2))).all goodWord = true := by decide +kernel
theorem ip_w_cls : ∀ w ∈ (ip_nta.map (fun q => Cond.classLink (ip_on q.1) q.2.1 (ip_cn q.2.2))), w ∈ ip_W := ip_good ip_w_cls_s ip_w_cls_g
def ip_lb : List Nat := [7, 0, 1, 2, 4, 6, 3, 5, 8]
set_option maxRecDepth 100000 in
theorem ip_w_ins_s : ip_sub (ip_lb.map (fun k => Cond.instantiable (ip_cn k) (ip_cN k))) lw_tbl = true := by decide +kernel
set_option maxRecDepth 100000 in
theorem ip_w_ins_g : (ip_lb.map (fun k => Cond.instantiable (ip_cn k) (ip_cN k))).all goodWord = true := by decide +kernel
theorem ip_w_ins : ∀ w ∈ (ip_lb.map (fun k => Cond.instantiable (ip_cn k) (ip_cN k))), w ∈ ip_W := ip_good ip_w_ins_s ip_w_ins_g
theorem ip_lb_all : ∀ k, k < 9 → k ∈ ip_lb := by decide +kernel
set_option maxRecDepth 100000 in
theorem ip_w_lc_s : ip_sub (ip_lt.map (fun q => Cond.constantLong (ip_on q.1) q.2.1 q.2.2)) lw_tbl = true := by decide +kernel
set_option maxRecDepth 100000 in
theorem ip_w_lc_g : (ip_lt.map (fun q => Cond.constantLong (ip_on q.1) q.2.1 q.2.2)).all goodWord = true := by decide +kernel
theorem ip_w_lc : ∀ w ∈ (ip_lt.map (fun q => Cond.constantLong (ip_on q.1) q.2.1 q.2.2)), w ∈ ip_W := ip_good ip_w_lc_s ip_w_lc_g
set_option maxRecDepth 100000 in
theorem ip_w_kc_s : ip_sub (ip_kt.map (fun q => Cond.constant (ip_on q.1) q.2.1 q.2.2)) lw_tbl = true := by decide +kernel
set_option maxRecDepth 100000 in
theorem ip_w_kc_g : (ip_kt.map (fun q => Cond.constant (ip_on q.1) q.2.1 q.2.2)).all goodWord = true := by decide +kernel
theorem ip_w_kc : ∀ w ∈ (ip_kt.map (fun q => Cond.constant (ip_on q.1) q.2.1 q.2.2)), w ∈ ip_W := ip_good ip_w_kc_s ip_w_kc_g
set_option maxRecDepth 100000 in
theorem ip_w_u0_s : ip_sub (u_ws RX1 TX1 4) lw_tbl = true := by decide +kernel
set_option maxRecDepth 100000 in
theorem ip_w_u0_g : (u_ws RX1 TX1 4).all goodWord = true := by decide +kernel
theorem ip_w_u0 : ∀ w ∈ (u_ws RX1 TX1 4), w ∈ ip_W := ip_good ip_w_u0_s ip_w_u0_g
set_option maxRecDepth 100000 in
theorem ip_w_u1_s : ip_sub (u_ws RX2 TX2 9) lw_tbl = true := by decide +kernel
set_option maxRecDepth 100000 in
theorem ip_w_u1_g : (u_ws RX2 TX2 9).all goodWord = true := by decide +kernel
theorem ip_w_u1 : ∀ w ∈ (u_ws RX2 TX2 9), w ∈ ip_W := ip_good ip_w_u1_s ip_w_u1_g
set_option maxRecDepth 100000 in
theorem ip_w_u2_s : ip_sub (u_ws RX3 TX3 3) lw_tbl = true := by decide +kernel
set_option maxRecDepth 100000 in
theorem ip_w_u2_g : (u_ws RX3 TX3 3).all goodWord = true := by decide +kernel
theorem ip_w_u2 : ∀ w ∈ (u_ws RX3 TX3 3), w ∈ ip_W := ip_good ip_w_u2_s ip_w_u2_g
set_option maxRecDepth 100000 in
theorem ip_w_u3_s : ip_sub (u_ws RX4 TX4 9) lw_tbl = true := by decide +kernel
set_option maxRecDepth 100000 in
theorem ip_w_u3_g : (u_ws RX4 TX4 9).all goodWord = true := by decide +kernel
theorem ip_w_u3 : ∀ w ∈ (u_ws RX4 TX4 9), w ∈ ip_W := ip_good ip_w_u3_s ip_w_u3_g
set_option maxRecDepth 100000 in
theorem ip_w_u4_s : ip_sub (u_ws RX5 TX5 6) lw_tbl = true := by decide +kernel
set_option maxRecDepth 100000 in
theorem ip_w_u4_g : (u_ws RX5 TX5 6).all goodWord = true := by decide +kernel
theorem ip_w_u4 : ∀ w ∈ (u_ws RX5 TX5 6), w ∈ ip_W := ip_good ip_w_u4_s ip_w_u4_g
set_option maxRecDepth 100000 in
theorem ip_w_u5_s : ip_sub (u_ws RX6 TX6 3) lw_tbl = true := by decide +kernel
set_option maxRecDepth 100000 in
theorem ip_w_u5_g : (u_ws RX6 TX6 3).all goodWord = true := by decide +kernel
theorem ip_w_u5 : ∀ w ∈ (u_ws RX6 TX6 3), w ∈ ip_W := ip_good ip_w_u5_s ip_w_u5_g
set_option maxRecDepth 100000 in
theorem ip_w_u6_s : ip_sub (u_ws RX7 TX7 5) lw_tbl = true := by decide +kernel
set_option maxRecDepth 100000 in
theorem ip_w_u6_g : (u_ws RX7 TX7 5).all goodWord = true := by decide +kernel
theorem ip_w_u6 : ∀ w ∈ (u_ws RX7 TX7 5), w ∈ ip_W := ip_good ip_w_u6_s ip_w_u6_g
set_option maxRecDepth 100000 in
theorem ip_w_u7_s : ip_sub (u_ws RX8 TX8 9) lw_tbl = true := by decide +kernel
set_option maxRecDepth 100000 in
theorem ip_w_u7_g : (u_ws RX8 TX8 9).all goodWord = true := by decide +kernel
theorem ip_w_u7 : ∀ w ∈ (u_ws RX8 TX8 9), w ∈ ip_W := ip_good ip_w_u7_s ip_w_u7_g
set_option maxRecDepth 100000 in
theorem ip_w_u8_s : ip_sub (u_ws RX9 TX9 18) lw_tbl = true := by decide +kernel
set_option maxRecDepth 100000 in
theorem ip_w_u8_g : (u_ws RX9 TX9 18).all goodWord = true := by decide +kernel
theorem ip_w_u8 : ∀ w ∈ (u_ws RX9 TX9 18), w ∈ ip_W := ip_good ip_w_u8_s ip_w_u8_g
