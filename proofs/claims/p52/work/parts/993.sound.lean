theorem dL_isPlanSound_0 : decode cL_isPlanSound 0 = .ok (.iconst 0, 1) := by decide +kernel
theorem dL_isPlanSound_1 : decode cL_isPlanSound 1 = .ok (.istore_n 2, 1) := by decide +kernel
theorem dL_isPlanSound_2 : decode cL_isPlanSound 2 = .ok (.iload_n 2, 1) := by decide +kernel
theorem dL_isPlanSound_3 : decode cL_isPlanSound 3 = .ok (.iload_n 1, 1) := by decide +kernel
theorem dL_isPlanSound_4 : decode cL_isPlanSound 4 = .ok (.if_icmp .ge 176, 3) := by decide +kernel
theorem dL_isPlanSound_180 : decode cL_isPlanSound 180 = .ok (.aload_n 0, 1) := by decide +kernel
theorem dL_isPlanSound_181 : decode cL_isPlanSound 181 = .ok (.invokevirtual 69, 3) := by decide +kernel
set_option maxRecDepth 20000 in
theorem ggL_isPlanSound_X8_meanWait : GoodIn wsL_isPlanSound wsX8_meanWait := goodIn_r _ [71, 9, 17, 8, 52, 22, 72, 73, 74, 75, 76, 77, 78, 79, 80, 81, 82, 83, 84, 85, 86, 87, 88, 89, 90, 91, 92, 93, 94, 95, 96, 97, 98, 99, 100, 101, 102] rfl (by decide +kernel)
set_option maxRecDepth 20000 in
theorem gL_isPlanSound_X8_meanWait : GoodIn wsL_isPlanSound (wsV RL 69 RX8 yX8_meanWait wsX8_meanWait) := goodIn_app (goodIn_of _ (by decide +kernel)) ggL_isPlanSound_X8_meanWait
theorem dL_isPlanSound_184 : decode cL_isPlanSound 184 = .ok (.dconst 0, 1) := by decide +kernel
theorem dL_isPlanSound_185 : decode cL_isPlanSound 185 = .ok (.dcmp .l, 1) := by decide +kernel
theorem dL_isPlanSound_186 : decode cL_isPlanSound 186 = .ok (.ifCond .lt 7, 3) := by decide +kernel
theorem dL_isPlanSound_189 : decode cL_isPlanSound 189 = .ok (.iconst 1, 1) := by decide +kernel
theorem dL_isPlanSound_190 : decode cL_isPlanSound 190 = .ok (.goto 4, 3) := by decide +kernel
theorem dL_isPlanSound_194 : decode cL_isPlanSound 194 = .ok (.ireturn, 1) := by decide +kernel
theorem dL_isPlanSound_7 : decode cL_isPlanSound 7 = .ok (.iconst 0, 1) := by decide +kernel
theorem dL_isPlanSound_8 : decode cL_isPlanSound 8 = .ok (.istore_n 3, 1) := by decide +kernel
theorem dL_isPlanSound_9 : decode cL_isPlanSound 9 = .ok (.iload_n 3, 1) := by decide +kernel
theorem dL_isPlanSound_10 : decode cL_isPlanSound 10 = .ok (.iload_n 2, 1) := by decide +kernel
theorem dL_isPlanSound_11 : decode cL_isPlanSound 11 = .ok (.if_icmp .ge 24, 3) := by decide +kernel
theorem dL_isPlanSound_35 : decode cL_isPlanSound 35 = .ok (.iconst (-1), 1) := by decide +kernel
theorem dL_isPlanSound_36 : decode cL_isPlanSound 36 = .ok (.istore_n 3, 1) := by decide +kernel
theorem dL_isPlanSound_37 : decode cL_isPlanSound 37 = .ok (.iconst 0, 1) := by decide +kernel
theorem dL_isPlanSound_38 : decode cL_isPlanSound 38 = .ok (.istore 4, 2) := by decide +kernel
theorem dL_isPlanSound_40 : decode cL_isPlanSound 40 = .ok (.iload 4, 2) := by decide +kernel
theorem dL_isPlanSound_42 : decode cL_isPlanSound 42 = .ok (.aload_n 0, 1) := by decide +kernel
theorem dL_isPlanSound_43 : decode cL_isPlanSound 43 = .ok (.iload_n 2, 1) := by decide +kernel
theorem dL_isPlanSound_44 : decode cL_isPlanSound 44 = .ok (.invokevirtual 45, 3) := by decide +kernel
set_option maxRecDepth 20000 in
theorem ggL_isPlanSound_X8_ranges : GoodIn wsL_isPlanSound wsX8_ranges := goodIn_ca (goodIn_r _ [21, 22, 23, 24, 25, 26, 4, 27, 6, 7, 8, 73, 74, 75, 76, 77, 78, 79, 80, 81, 82, 83, 84, 85, 86, 87, 92, 93, 94, 95, 96, 97, 98, 99, 100, 101, 102] rfl (by decide +kernel)) (goodIn_sub (fun _ h => List.mem_cons_of_mem _ (List.mem_append_left _ (List.mem_append_right _ h))) (by decide +kernel))
set_option maxRecDepth 20000 in
theorem gL_isPlanSound_X8_ranges : GoodIn wsL_isPlanSound (wsV RL 45 RX8 yX8_ranges wsX8_ranges) := goodIn_app (goodIn_of _ (by decide +kernel)) ggL_isPlanSound_X8_ranges
theorem dL_isPlanSound_47 : decode cL_isPlanSound 47 = .ok (.if_icmp .ge 30, 3) := by decide +kernel
theorem dL_isPlanSound_77 : decode cL_isPlanSound 77 = .ok (.aload_n 0, 1) := by decide +kernel
theorem dL_isPlanSound_78 : decode cL_isPlanSound 78 = .ok (.iload_n 2, 1) := by decide +kernel
theorem dL_isPlanSound_79 : decode cL_isPlanSound 79 = .ok (.iconst 0, 1) := by decide +kernel
theorem dL_isPlanSound_80 : decode cL_isPlanSound 80 = .ok (.invokevirtual 48, 3) := by decide +kernel
set_option maxRecDepth 20000 in
theorem ggL_isPlanSound_X8_firstBay : GoodIn wsL_isPlanSound wsX8_firstBay := goodIn_ca (goodIn_r _ [31, 6, 7, 22, 23, 32, 24, 25, 26, 4, 27, 8, 73, 74, 75, 76, 77, 78, 79, 80, 81, 82, 83, 84, 85, 86, 87, 92, 93, 94, 95, 96, 97, 98, 99, 100, 101, 102] rfl (by decide +kernel)) (goodIn_sub (fun _ h => List.mem_cons_of_mem _ (List.mem_append_left _ (List.mem_append_right _ h))) (by decide +kernel))
set_option maxRecDepth 20000 in
theorem gL_isPlanSound_X8_firstBay : GoodIn wsL_isPlanSound (wsV RL 48 RX8 yX8_firstBay wsX8_firstBay) := goodIn_app (goodIn_of _ (by decide +kernel)) ggL_isPlanSound_X8_firstBay
theorem dL_isPlanSound_83 : decode cL_isPlanSound 83 = .ok (.ifCond .ne 89, 3) := by decide +kernel
theorem dL_isPlanSound_86 : decode cL_isPlanSound 86 = .ok (.aload_n 0, 1) := by decide +kernel
theorem dL_isPlanSound_87 : decode cL_isPlanSound 87 = .ok (.iload_n 2, 1) := by decide +kernel
theorem dL_isPlanSound_88 : decode cL_isPlanSound 88 = .ok (.invokevirtual 51, 3) := by decide +kernel
set_option maxRecDepth 20000 in
theorem ggL_isPlanSound_X8_handling : GoodIn wsL_isPlanSound wsX8_handling := goodIn_ca (goodIn_r _ [36, 22, 37, 24, 25, 26, 4, 27, 6, 7, 8, 73, 74, 75, 76, 77, 78, 79, 80, 81, 82, 83, 84, 85, 86, 87, 92, 93, 94, 95, 96, 97, 98, 99, 100, 101, 102] rfl (by decide +kernel)) (goodIn_sub (fun _ h => List.mem_cons_of_mem _ (List.mem_append_left _ (List.mem_append_right _ h))) (by decide +kernel))
set_option maxRecDepth 20000 in
theorem gL_isPlanSound_X8_handling : GoodIn wsL_isPlanSound (wsV RL 51 RX8 yX8_handling wsX8_handling) := goodIn_app (goodIn_of _ (by decide +kernel)) ggL_isPlanSound_X8_handling
theorem dL_isPlanSound_91 : decode cL_isPlanSound 91 = .ok (.iconst 1, 1) := by decide +kernel
theorem dL_isPlanSound_92 : decode cL_isPlanSound 92 = .ok (.if_icmp .lt 80, 3) := by decide +kernel
theorem dL_isPlanSound_95 : decode cL_isPlanSound 95 = .ok (.aload_n 0, 1) := by decide +kernel
theorem dL_isPlanSound_96 : decode cL_isPlanSound 96 = .ok (.iload_n 2, 1) := by decide +kernel
theorem dL_isPlanSound_97 : decode cL_isPlanSound 97 = .ok (.invokevirtual 54, 3) := by decide +kernel
set_option maxRecDepth 20000 in
theorem ggL_isPlanSound_X8_waits : GoodIn wsL_isPlanSound wsX8_waits := goodIn_ca (goodIn_r _ [41, 22, 42, 24, 25, 26, 4, 27, 6, 7, 8, 73, 74, 75, 76, 77, 78, 79, 80, 81, 82, 83, 84, 85, 86, 87, 92, 93, 94, 95, 96, 97, 98, 99, 100, 101, 102] rfl (by decide +kernel)) (goodIn_sub (fun _ h => List.mem_cons_of_mem _ (List.mem_append_left _ (List.mem_append_right _ h))) (by decide +kernel))
set_option maxRecDepth 20000 in
theorem gL_isPlanSound_X8_waits : GoodIn wsL_isPlanSound (wsV RL 54 RX8 yX8_waits wsX8_waits) := goodIn_app (goodIn_of _ (by decide +kernel)) ggL_isPlanSound_X8_waits
theorem dL_isPlanSound_100 : decode cL_isPlanSound 100 = .ok (.ifCond .lt 72, 3) := by decide +kernel
theorem dL_isPlanSound_103 : decode cL_isPlanSound 103 = .ok (.aload_n 0, 1) := by decide +kernel
theorem dL_isPlanSound_104 : decode cL_isPlanSound 104 = .ok (.aload_n 0, 1) := by decide +kernel
theorem dL_isPlanSound_105 : decode cL_isPlanSound 105 = .ok (.iload_n 2, 1) := by decide +kernel
theorem dL_isPlanSound_106 : decode cL_isPlanSound 106 = .ok (.invokevirtual 57, 3) := by decide +kernel
set_option maxRecDepth 20000 in
theorem ggL_isPlanSound_X8_placeOf : GoodIn wsL_isPlanSound wsX8_placeOf := goodIn_ca (goodIn_ca (goodIn_r _ [46, 9, 47, 11, 12, 13, 4, 14, 15, 16, 17, 24, 25, 26, 27, 6, 7, 8, 73, 74, 75, 76, 77, 78, 79, 80, 81, 82, 83, 84, 85, 86, 87, 88, 89, 90, 91] rfl (by decide +kernel)) (goodIn_sub (fun _ h => List.mem_cons_of_mem _ (List.mem_append_right _ h)) (by decide +kernel))) (goodIn_sub (fun _ h => List.mem_cons_of_mem _ (List.mem_append_left _ (List.mem_append_right _ h))) (by decide +kernel))
set_option maxRecDepth 20000 in
theorem gL_isPlanSound_X8_placeOf : GoodIn wsL_isPlanSound (wsV RL 57 RX8 yX8_placeOf wsX8_placeOf) := goodIn_app (goodIn_of _ (by decide +kernel)) ggL_isPlanSound_X8_placeOf
theorem dL_isPlanSound_109 : decode cL_isPlanSound 109 = .ok (.aload_n 0, 1) := by decide +kernel
theorem dL_isPlanSound_110 : decode cL_isPlanSound 110 = .ok (.iload_n 2, 1) := by decide +kernel
theorem dL_isPlanSound_111 : decode cL_isPlanSound 111 = .ok (.invokevirtual 60, 3) := by decide +kernel
set_option maxRecDepth 20000 in
theorem ggL_isPlanSound_X8_startOf : GoodIn wsL_isPlanSound wsX8_startOf := goodIn_ca (goodIn_ca (goodIn_r _ [51, 9, 52, 11, 12, 13, 4, 14, 15, 16, 17, 24, 25, 26, 27, 6, 7, 8, 73, 74, 75, 76, 77, 78, 79, 80, 81, 82, 83, 84, 85, 86, 87, 88, 89, 90, 91] rfl (by decide +kernel)) (goodIn_sub (fun _ h => List.mem_cons_of_mem _ (List.mem_append_right _ h)) (by decide +kernel))) (goodIn_sub (fun _ h => List.mem_cons_of_mem _ (List.mem_append_left _ (List.mem_append_right _ h))) (by decide +kernel))
set_option maxRecDepth 20000 in
theorem gL_isPlanSound_X8_startOf : GoodIn wsL_isPlanSound (wsV RL 60 RX8 yX8_startOf wsX8_startOf) := goodIn_app (goodIn_of _ (by decide +kernel)) ggL_isPlanSound_X8_startOf
theorem dL_isPlanSound_114 : decode cL_isPlanSound 114 = .ok (.invokevirtual 63, 3) := by decide +kernel
set_option maxRecDepth 20000 in
theorem ggL_isPlanSound_X8_vesselAt : GoodIn wsL_isPlanSound wsX8_vesselAt := goodIn_ca (goodIn_ca (goodIn_r _ [56, 6, 7, 57, 8, 9, 47, 22, 58, 11, 12, 13, 4, 14, 15, 16, 17, 59, 60, 61, 62, 52, 37, 73, 74, 75, 76, 77, 78, 79, 80, 81, 82, 83, 84, 85, 86, 87, 88, 89, 90, 91, 92, 93, 94, 95, 96, 97, 98, 99, 100, 101, 102] rfl (by decide +kernel)) (goodIn_sub (fun _ h => List.mem_cons_of_mem _ (List.mem_append_left _ (List.mem_append_right _ h))) (by decide +kernel))) (goodIn_sub (fun _ h => List.mem_cons_of_mem _ (List.mem_append_right _ h)) (by decide +kernel))
set_option maxRecDepth 20000 in
theorem gL_isPlanSound_X8_vesselAt : GoodIn wsL_isPlanSound (wsV RL 63 RX8 yX8_vesselAt wsX8_vesselAt) := goodIn_app (goodIn_of _ (by decide +kernel)) ggL_isPlanSound_X8_vesselAt
theorem dL_isPlanSound_117 : decode cL_isPlanSound 117 = .ok (.iload_n 2, 1) := by decide +kernel
theorem dL_isPlanSound_118 : decode cL_isPlanSound 118 = .ok (.if_icmp .ne 54, 3) := by decide +kernel
theorem dL_isPlanSound_121 : decode cL_isPlanSound 121 = .ok (.aload_n 0, 1) := by decide +kernel
theorem dL_isPlanSound_122 : decode cL_isPlanSound 122 = .ok (.aload_n 0, 1) := by decide +kernel
theorem dL_isPlanSound_123 : decode cL_isPlanSound 123 = .ok (.iload_n 2, 1) := by decide +kernel
theorem dL_isPlanSound_124 : decode cL_isPlanSound 124 = .ok (.invokevirtual 57, 3) := by decide +kernel
theorem dL_isPlanSound_127 : decode cL_isPlanSound 127 = .ok (.aload_n 0, 1) := by decide +kernel
theorem dL_isPlanSound_128 : decode cL_isPlanSound 128 = .ok (.iload_n 2, 1) := by decide +kernel
theorem dL_isPlanSound_129 : decode cL_isPlanSound 129 = .ok (.invokevirtual 60, 3) := by decide +kernel
theorem dL_isPlanSound_132 : decode cL_isPlanSound 132 = .ok (.aload_n 0, 1) := by decide +kernel
theorem dL_isPlanSound_133 : decode cL_isPlanSound 133 = .ok (.iload_n 2, 1) := by decide +kernel
theorem dL_isPlanSound_134 : decode cL_isPlanSound 134 = .ok (.invokevirtual 51, 3) := by decide +kernel
theorem dL_isPlanSound_137 : decode cL_isPlanSound 137 = .ok (.iadd, 1) := by decide +kernel
theorem dL_isPlanSound_138 : decode cL_isPlanSound 138 = .ok (.invokevirtual 63, 3) := by decide +kernel
theorem dL_isPlanSound_141 : decode cL_isPlanSound 141 = .ok (.iload_n 2, 1) := by decide +kernel
theorem dL_isPlanSound_142 : decode cL_isPlanSound 142 = .ok (.if_icmp .eq 30, 3) := by decide +kernel
theorem dL_isPlanSound_145 : decode cL_isPlanSound 145 = .ok (.aload_n 0, 1) := by decide +kernel
theorem dL_isPlanSound_146 : decode cL_isPlanSound 146 = .ok (.aload_n 0, 1) := by decide +kernel
theorem dL_isPlanSound_147 : decode cL_isPlanSound 147 = .ok (.iload_n 2, 1) := by decide +kernel
theorem dL_isPlanSound_148 : decode cL_isPlanSound 148 = .ok (.invokevirtual 60, 3) := by decide +kernel
theorem dL_isPlanSound_151 : decode cL_isPlanSound 151 = .ok (.invokevirtual 66, 3) := by decide +kernel
set_option maxRecDepth 20000 in
theorem ggL_isPlanSound_X8_cranesAt : GoodIn wsL_isPlanSound wsX8_cranesAt := goodIn_ca (goodIn_r _ [66, 8, 22, 67, 11, 12, 13, 4, 14, 15, 16, 9, 17, 59, 60, 61, 62, 52, 37, 73, 74, 75, 76, 77, 78, 79, 80, 81, 82, 83, 84, 85, 86, 87, 92, 93, 94, 95, 96, 97, 98, 99, 100, 101, 102, 88, 89, 90, 91] rfl (by decide +kernel)) (goodIn_sub (fun _ h => List.mem_cons_of_mem _ (List.mem_append_right _ h)) (by decide +kernel))
set_option maxRecDepth 20000 in
theorem gL_isPlanSound_X8_cranesAt : GoodIn wsL_isPlanSound (wsV RL 66 RX8 yX8_cranesAt wsX8_cranesAt) := goodIn_app (goodIn_of _ (by decide +kernel)) ggL_isPlanSound_X8_cranesAt
theorem dL_isPlanSound_154 : decode cL_isPlanSound 154 = .ok (.iconst 1, 1) := by decide +kernel
theorem dL_isPlanSound_155 : decode cL_isPlanSound 155 = .ok (.if_icmp .lt 17, 3) := by decide +kernel
theorem dL_isPlanSound_158 : decode cL_isPlanSound 158 = .ok (.aload_n 0, 1) := by decide +kernel
theorem dL_isPlanSound_159 : decode cL_isPlanSound 159 = .ok (.aload_n 0, 1) := by decide +kernel
theorem dL_isPlanSound_160 : decode cL_isPlanSound 160 = .ok (.iload_n 2, 1) := by decide +kernel
theorem dL_isPlanSound_161 : decode cL_isPlanSound 161 = .ok (.invokevirtual 60, 3) := by decide +kernel
theorem dL_isPlanSound_164 : decode cL_isPlanSound 164 = .ok (.invokevirtual 66, 3) := by decide +kernel
theorem dL_isPlanSound_167 : decode cL_isPlanSound 167 = .ok (.bipush 6, 2) := by decide +kernel
theorem dL_isPlanSound_169 : decode cL_isPlanSound 169 = .ok (.if_icmp .le 5, 3) := by decide +kernel
theorem dL_isPlanSound_174 : decode cL_isPlanSound 174 = .ok (.iinc 2 1, 3) := by decide +kernel
theorem dL_isPlanSound_177 : decode cL_isPlanSound 177 = .ok (.goto (-175), 3) := by decide +kernel
theorem dL_isPlanSound_50 : decode cL_isPlanSound 50 = .ok (.aload_n 0, 1) := by decide +kernel
theorem dL_isPlanSound_51 : decode cL_isPlanSound 51 = .ok (.iload_n 2, 1) := by decide +kernel
theorem dL_isPlanSound_52 : decode cL_isPlanSound 52 = .ok (.iload 4, 2) := by decide +kernel
theorem dL_isPlanSound_54 : decode cL_isPlanSound 54 = .ok (.invokevirtual 48, 3) := by decide +kernel
theorem dL_isPlanSound_57 : decode cL_isPlanSound 57 = .ok (.iload_n 3, 1) := by decide +kernel
theorem dL_isPlanSound_58 : decode cL_isPlanSound 58 = .ok (.if_icmp .gt 5, 3) := by decide +kernel
theorem dL_isPlanSound_63 : decode cL_isPlanSound 63 = .ok (.aload_n 0, 1) := by decide +kernel
theorem dL_isPlanSound_64 : decode cL_isPlanSound 64 = .ok (.iload_n 2, 1) := by decide +kernel
theorem dL_isPlanSound_65 : decode cL_isPlanSound 65 = .ok (.iload 4, 2) := by decide +kernel
theorem dL_isPlanSound_67 : decode cL_isPlanSound 67 = .ok (.invokevirtual 48, 3) := by decide +kernel
theorem dL_isPlanSound_70 : decode cL_isPlanSound 70 = .ok (.istore_n 3, 1) := by decide +kernel
theorem dL_isPlanSound_71 : decode cL_isPlanSound 71 = .ok (.iinc 4 1, 3) := by decide +kernel
theorem dL_isPlanSound_74 : decode cL_isPlanSound 74 = .ok (.goto (-34), 3) := by decide +kernel
theorem dL_isPlanSound_14 : decode cL_isPlanSound 14 = .ok (.aload_n 0, 1) := by decide +kernel
theorem dL_isPlanSound_15 : decode cL_isPlanSound 15 = .ok (.iload_n 3, 1) := by decide +kernel
theorem dL_isPlanSound_16 : decode cL_isPlanSound 16 = .ok (.invokevirtual 42, 3) := by decide +kernel
set_option maxRecDepth 20000 in
theorem ggL_isPlanSound_X8_orderAt : GoodIn wsL_isPlanSound wsX8_orderAt := goodIn_ca (goodIn_ca (goodIn_r _ [5, 6, 7, 8, 9, 10, 11, 12, 13, 4, 14, 15, 16, 17, 73, 74, 75, 76, 77, 78, 79, 80, 81, 82, 83, 84, 85, 86, 87, 88, 89, 90, 91] rfl (by decide +kernel)) (goodIn_sub (fun _ h => List.mem_cons_of_mem _ (List.mem_append_left _ (List.mem_append_right _ h))) (by decide +kernel))) (goodIn_sub (fun _ h => List.mem_cons_of_mem _ (List.mem_append_right _ h)) (by decide +kernel))
set_option maxRecDepth 20000 in
theorem gL_isPlanSound_X8_orderAt : GoodIn wsL_isPlanSound (wsV RL 42 RX8 yX8_orderAt wsX8_orderAt) := goodIn_app (goodIn_of _ (by decide +kernel)) ggL_isPlanSound_X8_orderAt
theorem dL_isPlanSound_19 : decode cL_isPlanSound 19 = .ok (.aload_n 0, 1) := by decide +kernel
theorem dL_isPlanSound_20 : decode cL_isPlanSound 20 = .ok (.iload_n 2, 1) := by decide +kernel
theorem dL_isPlanSound_21 : decode cL_isPlanSound 21 = .ok (.invokevirtual 42, 3) := by decide +kernel
theorem dL_isPlanSound_24 : decode cL_isPlanSound 24 = .ok (.if_icmp .ne 5, 3) := by decide +kernel
theorem dL_isPlanSound_29 : decode cL_isPlanSound 29 = .ok (.iinc 3 1, 3) := by decide +kernel
theorem dL_isPlanSound_32 : decode cL_isPlanSound 32 = .ok (.goto (-23), 3) := by decide +kernel
set_option maxHeartbeats 4000000 in
set_option maxRecDepth 100000 in
theorem l_sound (l : Launch) (g : xG) (sz : Nat) (ad : Nat → Nat) (ga : Nat → Nat → Nat) (hs : Value) (aQ : xQ_) (aV : xV_) (aC : xC_) (aP : xP_) (aG : xG_) (aY : xY_) (aN : (Nat → Nat)) (aW : xW_) (aK : xK_) (aS : xS_) (aT : xT_) (nv : Nat) (nc : Nat)  (hInv : xInv aV aC aP aG aY aN aW aK aS aT) (hFl : lFill nv nc aQ aV aC aY) (hPl : lPl aQ aV aP) (hnv : 1 ≤ nv ∧ nv ≤ 4) (hvc : o_vc aQ = nv) : Met l yL_isPlanSound wsL_isPlanSound ({ frames := 2, cells := 0, slots := 0, locals := 47 }) (va_Pc [.ref (ad 0), .int (nI nv)] (fun U => xB g (SW g ad ga (.int 1) hs aQ aV aC aP aG aY aN aW aK aS aT) sz U)) (va_Qi (fun (r : Int32) (_ : Unit) => r = 1) (fun (_ : Unit) (_ : State) => True) (va_A [] sz)) 0 0 (va_A [] sz) := by
  refine Met.ofW (cc := cL_isPlanSound) (maxL := 5) (ret := (some .boolean)) (by decide) rfl ?_
  intro p e s m args below meth c s₁ B hml hv
  obtain ⟨rfl, hsz, hP, hK, hD0⟩ := hv
  have hx := B.exec
  have hb := B.bytes
  have hr := B.returns
  have hts := atoms_spec (ws := wsL_isPlanSound) B.pre
  have hown : s.vm.findClass RL = some m.cls := findClass_of_methodNamed B.named
  have hlocks := B.notSynchronized
  subst hsz
  have hD := hD0
  generalize hAe : va_A [] s.heap.size = A
  have hA : ∀ q : Nat, s.heap.size ≤ q → A q := fun q h => by rw [← hAe]; exact Or.inr h
  have hS : va_S A s.heap s.heap [] := va_S.rf
  have hl := lv_entry ([.ref (ad 0), .int (nI nv)]) (n := 5) (Nat.le_of_ble_eq_true rfl)
  rw [lg_entry_eq]
  generalize (lg_sl ([.ref (ad 0), .int (nI nv)]) ++ List.replicate (5 - (lg_sl ([.ref (ad 0), .int (nI nv)])).length) Slot.unset).toArray = ls at hl ⊢
  have hl : lv_has ls 5 [(0, .ref (ad 0)), (1, .int (nI nv))] := hl
  refine lv_iconst (v := 0) hx hb dL_isPlanSound_0 (by decide) ?_
  refine lv_istore_n (lv' := [(2, .int 0), (0, .ref (ad 0)), (1, .int (nI nv))]) hx hb dL_isPlanSound_1 rfl hl (by decide) rfl (fun ls hl => ?_)
  have hloop2 : ∀ (n9 : Nat) (v : Nat) (H : Heap) (locs : List Loc) (ls : Array Slot), nv - v < n9 → (v ≤ nv) → va_P (xD g) vwCl (SW g ad ga (.int 1) hs aQ aV aC aP aG aY aN aW aK aS aT) H → va_D (fun _ => True) (SW g ad ga (.int 1) hs aQ aV aC aP aG aY aN aW aK aS aT) → va_S A s.heap H locs → lv_has ls 5 [(2, .int (nI v)), (0, .ref (ad 0)), (1, .int (nI nv))] → W p l e (headSpec wsL_isPlanSound ({ frames := 2, cells := 0, slots := 0, locals := 47 })).room s m ([.ref (ad 0), .int (nI nv)] : List Value).toArray below meth c H locs 0 0 (MQ below (va_Qi (fun (r : Int32) (_ : Unit) => r = 1) (fun (_ : Unit) (_ : State) => True) (A)) ([.ref (ad 0), .int (nI nv)] : List Value).toArray s 0 0 A) (F0 m 2 ls []) := by
    intro n9
    induction n9 with
    | zero =>
      intro v H locs ls hm hv9 hP hD hS hl
      exact absurd hm (Nat.not_lt_zero _)
    | succ n9 ih2 =>
      intro v H locs ls hm hv9 hP hD hS hl
      refine lv_iload_n hx hb dL_isPlanSound_2 rfl (lv_at hl 0 rfl) ?_
      refine lv_iload_n hx hb dL_isPlanSound_3 rfl (lv_at hl 2 rfl) ?_
      refine lv_icmp_ge (tgt := 180) hx hb dL_isPlanSound_4 (by decide) (fun c_1 => ?_) (fun c_1 => ?_)
      · have nc_1 := (nI_leI (a := nv) (b := v) (by omega) (by omega)).mp c_1
        have hav : ∀ j, j < o_vc aQ → o_Var aV j ≤ o_qta aP j := fun j hj => (hPl.2.1 j hj).1
        refine lv_aload_n hx hb dL_isPlanSound_180 rfl (lv_at hl 1 rfl) ?_
        have hPc := hP
        have hDc := hD
        have hFc := xFree hS hA
        refine va_calld (va_runV (As := []) (rest := []) ⟨hx, hb, hml, hown, hts⟩ (L_meanWait l g H.size ad ga hs aQ aV aC aP aG aY aN aW aK aS aT (show xInv aV aC aP aG aY aN aW aK aS aT from by first | assumption | omega) (show (o_vc aQ) ≤ 6 from by first | assumption | omega) (show 0 < (o_vc aQ) from by first | assumption | omega) (show ∀ j, j < (o_vc aQ) → (o_Var aV) j ≤ (o_qta aP) j from by first | assumption | omega)) (cwV 0 hts gL_isPlanSound_X8_meanWait rfl rfl rfl (by decide +kernel) ⟨Nat.le_of_ble_eq_true rfl, Nat.le_of_ble_eq_true rfl⟩) ⟨xB.blind, va_recv hK hPc (ci := 8) (q0 := 0) rfl rfl, fun U9 hU9 hW9 => ⟨rfl, xB.mk hPc hK hDc hU9 hW9⟩⟩ rfl rfl hl.1 rfl (lv_room (Nat.le_of_ble_eq_true rfl)) dL_isPlanSound_181 ⟨Nat.le_of_ble_eq_true rfl, Nat.le_of_ble_eq_true rfl⟩) hS (fun q _ h => hFc q h) hFc (fun r_2 _ t H1 locs ht hvm hw_3 hB hz1 hk1 hS => ?_)
        have hP := xSame hP hk1
        generalize H1 = H at hP hS ⊢
        have hP : va_P (xD g) vwCl (SW g ad ga (.int 1) hs aQ aV aC aP aG aY aN aW aK aS aT) H := hP
        have hD : va_D (fun _ => True) (SW g ad ga (.int 1) hs aQ aV aC aP aG aY aN aW aK aS aT) := hD
        try dsimp only at hw_3
        refine lv_dconst0 hx hb dL_isPlanSound_184 ?_
        refine lv_dcmp hx hb dL_isPlanSound_185 ?_
        refine lv_topi (fun z_4 ez_4 => ?_)
        obtain ⟨z_4_z, rfl, fz_4⟩ := (show ∃ z : Int, z_4 = iI z ∧ 0 ≤ z ∧ z ≤ 1 from by rw [ez_4]; exact dNN_cmp hw_3)
        refine lv_if_lt (tgt := 193) hx hb dL_isPlanSound_186 (by decide) (fun c_5 => ?_) (fun c_5 => ?_)
        · have nc_5 := (iLt (a := z_4_z) (b := 0) rfl (by decide) (by omega)).mp c_5
          exfalso; omega
        · have nc_5 := mt (iLt (a := z_4_z) (b := 0) rfl (by decide) (by omega)).mpr c_5
          refine lv_iconst (v := 1) hx hb dL_isPlanSound_189 (by decide) ?_
          refine lv_goto (tgt := 194) hx hb dL_isPlanSound_190 (by decide) ?_
          exact W.zret (v := 1) hx hb hr (by rfl) (fun t ht hW => ⟨⟨1, (), rfl, rfl, trivial⟩, hS.F ht⟩) hS.2.2 dL_isPlanSound_194
      · have nc_1 := mt (nI_leI (a := nv) (b := v) (by omega) (by omega)).mpr c_1
        refine lv_iconst (v := 0) hx hb dL_isPlanSound_7 (by decide) ?_
        refine lv_istore_n (lv' := [(3, .int 0), (2, .int (nI v)), (0, .ref (ad 0)), (1, .int (nI nv))]) hx hb dL_isPlanSound_8 rfl hl (by decide) rfl (fun ls hl => ?_)
        have hloop9 : ∀ (n9 : Nat) (x : Nat) (H : Heap) (locs : List Loc) (ls : Array Slot), v - x < n9 → (x ≤ v) → va_P (xD g) vwCl (SW g ad ga (.int 1) hs aQ aV aC aP aG aY aN aW aK aS aT) H → va_D (fun _ => True) (SW g ad ga (.int 1) hs aQ aV aC aP aG aY aN aW aK aS aT) → va_S A s.heap H locs → lv_has ls 5 [(3, .int (nI x)), (0, .ref (ad 0)), (1, .int (nI nv)), (2, .int (nI v))] → W p l e (headSpec wsL_isPlanSound ({ frames := 2, cells := 0, slots := 0, locals := 47 })).room s m ([.ref (ad 0), .int (nI nv)] : List Value).toArray below meth c H locs 0 0 (MQ below (va_Qi (fun (r : Int32) (_ : Unit) => r = 1) (fun (_ : Unit) (_ : State) => True) (A)) ([.ref (ad 0), .int (nI nv)] : List Value).toArray s 0 0 A) (F0 m 9 ls []) := by
          intro n9
          induction n9 with
          | zero =>
            intro x H locs ls hm hx9 hP hD hS hl
            exact absurd hm (Nat.not_lt_zero _)
          | succ n9 ih9 =>
            intro x H locs ls hm hx9 hP hD hS hl
            have hqa := hInv.2.2.1.1 x
            have hqb := hInv.2.2.1.1 v
            refine lv_iload_n hx hb dL_isPlanSound_9 rfl (lv_at hl 0 rfl) ?_
            refine lv_iload_n hx hb dL_isPlanSound_10 rfl (lv_at hl 3 rfl) ?_
            refine lv_icmp_ge (tgt := 35) hx hb dL_isPlanSound_11 (by decide) (fun c_6 => ?_) (fun c_6 => ?_)
            · have nc_6 := (nI_leI (a := v) (b := x) (by omega) (by omega)).mp c_6
              have hvo := hPl.2.1 v (by omega)
              have hcv := hPl.2.2.2 v (by omega)
              have hft := hFl.2.2.2.2.1 v (by omega)
              unfold vFit vSt at hft
              have hVb := hInv.1.1 v
              have hf00 := hft.2.2.2.2.1.1
              have hq25 := hFl.1
              have hq26 := hFl.2.1
              refine lv_iconst (v := (-1)) hx hb dL_isPlanSound_35 (by decide) ?_
              refine lv_istore_n (lv' := [(3, .int (-1)), (0, .ref (ad 0)), (1, .int (nI nv)), (2, .int (nI v))]) hx hb dL_isPlanSound_36 rfl hl (by decide) rfl (fun ls hl => ?_)
              refine lv_iconst (v := 0) hx hb dL_isPlanSound_37 (by decide) ?_
              refine lv_istore (lv' := [(4, .int 0), (3, .int (-1)), (0, .ref (ad 0)), (1, .int (nI nv)), (2, .int (nI v))]) hx hb dL_isPlanSound_38 hl (by decide) rfl (fun ls hl => ?_)
              have hloop40 : ∀ (n9 : Nat) (y : Nat) (bg9 : Int) (H : Heap) (locs : List Loc) (ls : Array Slot), o_Vrc aV v - y < n9 → (y ≤ o_Vrc aV v) → ((y = 0 ∧ bg9 = -1) ∨ (0 < y ∧ bg9 = ((o_frh aV v (y - 1) : Nat) : Int))) → va_P (xD g) vwCl (SW g ad ga (.int 1) hs aQ aV aC aP aG aY aN aW aK aS aT) H → va_D (fun _ => True) (SW g ad ga (.int 1) hs aQ aV aC aP aG aY aN aW aK aS aT) → va_S A s.heap H locs → lv_has ls 5 [(4, .int (nI y)), (0, .ref (ad 0)), (1, .int (nI nv)), (2, .int (nI v)), (3, .int (iI bg9))] → W p l e (headSpec wsL_isPlanSound ({ frames := 2, cells := 0, slots := 0, locals := 47 })).room s m ([.ref (ad 0), .int (nI nv)] : List Value).toArray below meth c H locs 0 0 (MQ below (va_Qi (fun (r : Int32) (_ : Unit) => r = 1) (fun (_ : Unit) (_ : State) => True) (A)) ([.ref (ad 0), .int (nI nv)] : List Value).toArray s 0 0 A) (F0 m 40 ls []) := by
                intro n9
                induction n9 with
                | zero =>
                  intro y bg9 H locs ls hm hy9 hbg hP hD hS hl
                  exact absurd hm (Nat.not_lt_zero _)
                | succ n9 ih40 =>
                  intro y bg9 H locs ls hm hy9 hbg hP hD hS hl
                  have hfy : 0 < y → y < o_Vrc aV v → o_frh aV v (y - 1) < o_frh aV v y := fun q1 q2 => by have z := hft.2.2.2.2.1.2.2 (y - 1) (by omega); rw [show y - 1 + 1 = y by omega] at z; exact z
                  have hfb := hInv.1.2.2.1 v y
                  refine lv_iload hx hb dL_isPlanSound_40 (lv_at hl 0 rfl) ?_
                  refine lv_aload_n hx hb dL_isPlanSound_42 rfl (lv_at hl 1 rfl) ?_
                  refine lv_iload_n hx hb dL_isPlanSound_43 rfl (lv_at hl 3 rfl) ?_
                  have hPc := hP
                  have hDc := hD
                  have hFc := xFree hS hA
                  refine va_calli (va_runV (As := [.int (nI v)]) (rest := [.int (nI y)]) ⟨hx, hb, hml, hown, hts⟩ (L_ranges l g H.size ad ga (.int 1) hs aQ aV aC aP aG aY aN aW aK aS aT v (show xInv aV aC aP aG aY aN aW aK aS aT from by first | assumption | omega) (show v < (o_vc aQ) from by first | assumption | omega) (show (o_vc aQ) ≤ 6 from by first | assumption | omega)) (cwV 1 hts gL_isPlanSound_X8_ranges rfl rfl rfl (by decide +kernel) ⟨Nat.le_of_ble_eq_true rfl, Nat.le_of_ble_eq_true rfl⟩) ⟨xB.blind, va_recv hK hPc (ci := 8) (q0 := 0) rfl rfl, fun U9 hU9 hW9 => ⟨rfl, xB.mk hPc hK hDc hU9 hW9⟩⟩ rfl rfl hl.1 rfl (lv_room (Nat.le_of_ble_eq_true rfl)) dL_isPlanSound_44 ⟨Nat.le_of_ble_eq_true rfl, Nat.le_of_ble_eq_true rfl⟩) hS (fun q _ h => hFc q h) hFc (fun r_7 _ t H1 locs ht hvm hw_8 hB hz1 hk1 hS => ?_)
                  have hP := xSame hP hk1
                  generalize H1 = H at hP hS ⊢
                  have hP : va_P (xD g) vwCl (SW g ad ga (.int 1) hs aQ aV aC aP aG aY aN aW aK aS aT) H := hP
                  have hD : va_D (fun _ => True) (SW g ad ga (.int 1) hs aQ aV aC aP aG aY aN aW aK aS aT) := hD
                  try dsimp only at hw_8
                  obtain rfl : r_7 = nI ((o_Vrc aV) v) := hw_8
                  refine lv_icmp_ge (tgt := 77) hx hb dL_isPlanSound_47 (by decide) (fun c_9 => ?_) (fun c_9 => ?_)
                  · have nc_9 := (nI_leI (a := (o_Vrc aV) v) (b := y) (by omega) (by omega)).mp c_9
                    refine lv_aload_n hx hb dL_isPlanSound_77 rfl (lv_at hl 1 rfl) ?_
                    refine lv_iload_n hx hb dL_isPlanSound_78 rfl (lv_at hl 3 rfl) ?_
                    refine lv_iconst (v := 0) hx hb dL_isPlanSound_79 (by decide) ?_
                    have hPc := hP
                    have hDc := hD
                    have hFc := xFree hS hA
                    refine va_calli (va_runV (As := [.int (nI v), .int 0]) (rest := []) ⟨hx, hb, hml, hown, hts⟩ (L_firstBay l g H.size ad ga (.int 1) hs aQ aV aC aP aG aY aN aW aK aS aT v 0 (show xInv aV aC aP aG aY aN aW aK aS aT from by first | assumption | omega) (show v < (o_vc aQ) from by first | assumption | omega) (show (o_vc aQ) ≤ 6 from by first | assumption | omega) (show 0 < (o_Vrc aV) v from by first | assumption | omega) (show (o_Vrc aV) v ≤ 4 from by first | assumption | omega)) (cwV 2 hts gL_isPlanSound_X8_firstBay rfl rfl rfl (by decide +kernel) ⟨Nat.le_of_ble_eq_true rfl, Nat.le_of_ble_eq_true rfl⟩) ⟨xB.blind, va_recv hK hPc (ci := 8) (q0 := 0) rfl rfl, fun U9 hU9 hW9 => ⟨rfl, xB.mk hPc hK hDc hU9 hW9⟩⟩ rfl rfl hl.1 rfl (lv_room (Nat.le_of_ble_eq_true rfl)) dL_isPlanSound_80 ⟨Nat.le_of_ble_eq_true rfl, Nat.le_of_ble_eq_true rfl⟩) hS (fun q _ h => hFc q h) hFc (fun r_10 _ t H1 locs ht hvm hw_11 hB hz1 hk1 hS => ?_)
                    have hP := xSame hP hk1
                    generalize H1 = H at hP hS ⊢
                    have hP : va_P (xD g) vwCl (SW g ad ga (.int 1) hs aQ aV aC aP aG aY aN aW aK aS aT) H := hP
                    have hD : va_D (fun _ => True) (SW g ad ga (.int 1) hs aQ aV aC aP aG aY aN aW aK aS aT) := hD
                    try dsimp only at hw_11
                    obtain rfl : r_10 = nI ((o_frh aV) v 0) := hw_11
                    refine lv_if_ne (tgt := 172) hx hb dL_isPlanSound_83 (by decide) (fun c_12 => ?_) (fun c_12 => ?_)
                    · have nc_12 := mt (nI_eq (a := (o_frh aV) v 0) (b := 0) (by omega) (by omega)).mpr c_12
                      exfalso; omega
                    · have nc_12 := (nI_eq (a := (o_frh aV) v 0) (b := 0) (by omega) (by omega)).mp c_12
                      refine lv_aload_n hx hb dL_isPlanSound_86 rfl (lv_at hl 1 rfl) ?_
                      refine lv_iload_n hx hb dL_isPlanSound_87 rfl (lv_at hl 3 rfl) ?_
                      have hPc := hP
                      have hDc := hD
                      have hFc := xFree hS hA
                      refine va_calli (va_runV (As := [.int (nI v)]) (rest := []) ⟨hx, hb, hml, hown, hts⟩ (L_handling l g H.size ad ga (.int 1) hs aQ aV aC aP aG aY aN aW aK aS aT v (show xInv aV aC aP aG aY aN aW aK aS aT from by first | assumption | omega) (show v < (o_vc aQ) from by first | assumption | omega) (show (o_vc aQ) ≤ 6 from by first | assumption | omega)) (cwV 1 hts gL_isPlanSound_X8_handling rfl rfl rfl (by decide +kernel) ⟨Nat.le_of_ble_eq_true rfl, Nat.le_of_ble_eq_true rfl⟩) ⟨xB.blind, va_recv hK hPc (ci := 8) (q0 := 0) rfl rfl, fun U9 hU9 hW9 => ⟨rfl, xB.mk hPc hK hDc hU9 hW9⟩⟩ rfl rfl hl.1 rfl (lv_room (Nat.le_of_ble_eq_true rfl)) dL_isPlanSound_88 ⟨Nat.le_of_ble_eq_true rfl, Nat.le_of_ble_eq_true rfl⟩) hS (fun q _ h => hFc q h) hFc (fun r_13 _ t H1 locs ht hvm hw_14 hB hz1 hk1 hS => ?_)
                      have hP := xSame hP hk1
                      generalize H1 = H at hP hS ⊢
                      have hP : va_P (xD g) vwCl (SW g ad ga (.int 1) hs aQ aV aC aP aG aY aN aW aK aS aT) H := hP
                      have hD : va_D (fun _ => True) (SW g ad ga (.int 1) hs aQ aV aC aP aG aY aN aW aK aS aT) := hD
                      try dsimp only at hw_14
                      obtain rfl : r_13 = iI ((o_Vhd aV) v) := hw_14
                      refine lv_iconst (v := 1) hx hb dL_isPlanSound_91 (by decide) ?_
                      refine lv_icmp_lt (tgt := 172) hx hb dL_isPlanSound_92 (by decide) (fun c_15 => ?_) (fun c_15 => ?_)
                      · have nc_15 := (iLt (a := (o_Vhd aV) v) (b := 1) rfl (by decide) (by omega)).mp c_15
                        exfalso; omega
                      · have nc_15 := mt (iLt (a := (o_Vhd aV) v) (b := 1) rfl (by decide) (by omega)).mpr c_15
                        refine lv_aload_n hx hb dL_isPlanSound_95 rfl (lv_at hl 1 rfl) ?_
                        refine lv_iload_n hx hb dL_isPlanSound_96 rfl (lv_at hl 3 rfl) ?_
                        have hPc := hP
                        have hDc := hD
                        have hFc := xFree hS hA
                        refine va_calli (va_runV (As := [.int (nI v)]) (rest := []) ⟨hx, hb, hml, hown, hts⟩ (L_waits l g H.size ad ga (.int 1) hs aQ aV aC aP aG aY aN aW aK aS aT v (show xInv aV aC aP aG aY aN aW aK aS aT from by first | assumption | omega) (show v < (o_vc aQ) from by first | assumption | omega) (show (o_vc aQ) ≤ 6 from by first | assumption | omega)) (cwV 1 hts gL_isPlanSound_X8_waits rfl rfl rfl (by decide +kernel) ⟨Nat.le_of_ble_eq_true rfl, Nat.le_of_ble_eq_true rfl⟩) ⟨xB.blind, va_recv hK hPc (ci := 8) (q0 := 0) rfl rfl, fun U9 hU9 hW9 => ⟨rfl, xB.mk hPc hK hDc hU9 hW9⟩⟩ rfl rfl hl.1 rfl (lv_room (Nat.le_of_ble_eq_true rfl)) dL_isPlanSound_97 ⟨Nat.le_of_ble_eq_true rfl, Nat.le_of_ble_eq_true rfl⟩) hS (fun q _ h => hFc q h) hFc (fun r_16 _ t H1 locs ht hvm hw_17 hB hz1 hk1 hS => ?_)
                        have hP := xSame hP hk1
                        generalize H1 = H at hP hS ⊢
                        have hP : va_P (xD g) vwCl (SW g ad ga (.int 1) hs aQ aV aC aP aG aY aN aW aK aS aT) H := hP
                        have hD : va_D (fun _ => True) (SW g ad ga (.int 1) hs aQ aV aC aP aG aY aN aW aK aS aT) := hD
                        try dsimp only at hw_17
                        obtain rfl : r_16 = iI ((o_Vwt aV) v) := hw_17
                        refine lv_if_lt (tgt := 172) hx hb dL_isPlanSound_100 (by decide) (fun c_18 => ?_) (fun c_18 => ?_)
                        · have nc_18 := (iLt (a := (o_Vwt aV) v) (b := 0) rfl (by decide) (by omega)).mp c_18
                          exfalso; omega
                        · have nc_18 := mt (iLt (a := (o_Vwt aV) v) (b := 0) rfl (by decide) (by omega)).mpr c_18
                          refine lv_aload_n hx hb dL_isPlanSound_103 rfl (lv_at hl 1 rfl) ?_
                          refine lv_aload_n hx hb dL_isPlanSound_104 rfl (lv_at hl 1 rfl) ?_
                          refine lv_iload_n hx hb dL_isPlanSound_105 rfl (lv_at hl 3 rfl) ?_
                          have hPc := hP
                          have hDc := hD
                          have hFc := xFree hS hA
                          refine va_calli (va_runV (As := [.int (nI v)]) (rest := [.ref (ad 0)]) ⟨hx, hb, hml, hown, hts⟩ (L_placeOf l g H.size ad ga hs aQ aV aC aP aG aY aN aW aK aS aT v (show xInv aV aC aP aG aY aN aW aK aS aT from by first | assumption | omega) (show v < (o_vc aQ) from by first | assumption | omega) (show (o_vc aQ) ≤ 6 from by first | assumption | omega)) (cwV 1 hts gL_isPlanSound_X8_placeOf rfl rfl rfl (by decide +kernel) ⟨Nat.le_of_ble_eq_true rfl, Nat.le_of_ble_eq_true rfl⟩) ⟨xB.blind, va_recv hK hPc (ci := 8) (q0 := 0) rfl rfl, fun U9 hU9 hW9 => ⟨rfl, xB.mk hPc hK hDc hU9 hW9⟩⟩ rfl rfl hl.1 rfl (lv_room (Nat.le_of_ble_eq_true rfl)) dL_isPlanSound_106 ⟨Nat.le_of_ble_eq_true rfl, Nat.le_of_ble_eq_true rfl⟩) hS (fun q _ h => hFc q h) hFc (fun r_19 _ t H1 locs ht hvm hw_20 hB hz1 hk1 hS => ?_)
                          have hP := xSame hP hk1
                          generalize H1 = H at hP hS ⊢
                          have hP : va_P (xD g) vwCl (SW g ad ga (.int 1) hs aQ aV aC aP aG aY aN aW aK aS aT) H := hP
                          have hD : va_D (fun _ => True) (SW g ad ga (.int 1) hs aQ aV aC aP aG aY aN aW aK aS aT) := hD
                          try dsimp only at hw_20
                          obtain rfl : r_19 = iI ((o_qla aP) v) := hw_20
                          refine lv_aload_n hx hb dL_isPlanSound_109 rfl (lv_at hl 1 rfl) ?_
                          refine lv_iload_n hx hb dL_isPlanSound_110 rfl (lv_at hl 3 rfl) ?_
                          have hPc := hP
                          have hDc := hD
                          have hFc := xFree hS hA
                          refine va_calli (va_runV (As := [.int (nI v)]) (rest := [.int (iI ((o_qla aP) v)), .ref (ad 0)]) ⟨hx, hb, hml, hown, hts⟩ (L_startOf l g H.size ad ga hs aQ aV aC aP aG aY aN aW aK aS aT v (show xInv aV aC aP aG aY aN aW aK aS aT from by first | assumption | omega) (show v < (o_vc aQ) from by first | assumption | omega) (show (o_vc aQ) ≤ 6 from by first | assumption | omega)) (cwV 1 hts gL_isPlanSound_X8_startOf rfl rfl rfl (by decide +kernel) ⟨Nat.le_of_ble_eq_true rfl, Nat.le_of_ble_eq_true rfl⟩) ⟨xB.blind, va_recv hK hPc (ci := 8) (q0 := 0) rfl rfl, fun U9 hU9 hW9 => ⟨rfl, xB.mk hPc hK hDc hU9 hW9⟩⟩ rfl rfl hl.1 rfl (lv_room (Nat.le_of_ble_eq_true rfl)) dL_isPlanSound_111 ⟨Nat.le_of_ble_eq_true rfl, Nat.le_of_ble_eq_true rfl⟩) hS (fun q _ h => hFc q h) hFc (fun r_21 _ t H1 locs ht hvm hw_22 hB hz1 hk1 hS => ?_)
                          have hP := xSame hP hk1
                          generalize H1 = H at hP hS ⊢
                          have hP : va_P (xD g) vwCl (SW g ad ga (.int 1) hs aQ aV aC aP aG aY aN aW aK aS aT) H := hP
                          have hD : va_D (fun _ => True) (SW g ad ga (.int 1) hs aQ aV aC aP aG aY aN aW aK aS aT) := hD
                          try dsimp only at hw_22
                          obtain rfl : r_21 = iI ((o_qta aP) v) := hw_22
                          have hPc := hP
                          have hDc := hD
                          have hFc := xFree hS hA
                          refine va_calli (va_runV (As := [.int (iI ((o_qla aP) v)), .int (iI ((o_qta aP) v))]) (rest := []) ⟨hx, hb, hml, hown, hts⟩ (L_vesselAt l g H.size ad ga hs aQ aV aC aP aG aY aN aW aK aS aT ((o_qla aP) v) ((o_qta aP) v) (show xInv aV aC aP aG aY aN aW aK aS aT from by first | assumption | omega) (show (o_vc aQ) ≤ 6 from by first | assumption | omega) (show (o_qy aQ) ≤ 60 from by first | assumption | omega) (show 0 ≤ ((o_qla aP) v) ∧ ((o_qla aP) v) < (((o_qy aQ) : Nat) : Int) from by first | assumption | omega) (show -1000000 ≤ ((o_qta aP) v) ∧ ((o_qta aP) v) ≤ 2000000 from by first | assumption | omega)) (cwV 2 hts gL_isPlanSound_X8_vesselAt rfl rfl rfl (by decide +kernel) ⟨Nat.le_of_ble_eq_true rfl, Nat.le_of_ble_eq_true rfl⟩) ⟨xB.blind, va_recv hK hPc (ci := 8) (q0 := 0) rfl rfl, fun U9 hU9 hW9 => ⟨rfl, xB.mk hPc hK hDc hU9 hW9⟩⟩ rfl rfl hl.1 rfl (lv_room (Nat.le_of_ble_eq_true rfl)) dL_isPlanSound_114 ⟨Nat.le_of_ble_eq_true rfl, Nat.le_of_ble_eq_true rfl⟩) hS (fun q _ h => hFc q h) hFc (fun r_23 _ t H1 locs ht hvm hw_24 hB hz1 hk1 hS => ?_)
                          have hP := xSame hP hk1
                          generalize H1 = H at hP hS ⊢
                          have hP : va_P (xD g) vwCl (SW g ad ga (.int 1) hs aQ aV aC aP aG aY aN aW aK aS aT) H := hP
                          have hD : va_D (fun _ => True) (SW g ad ga (.int 1) hs aQ aV aC aP aG aY aN aW aK aS aT) := hD
                          try dsimp only at hw_24
                          have hat : vAt (o_qta aP) (o_Vhd aV) (o_qla aP) (o_Vba aV) (o_qla aP v) (o_qta aP v) v := by unfold vAt; omega
                          obtain rfl : r_23 = nI v := by rcases hw_24 with ⟨w, w1, w2, w3⟩ | ⟨w1, w2⟩; (rw [w2, hPl.2.2.1 v w (by omega) w1 w3]); (exact absurd hat (w2 v (by omega)))
                          clear hw_24
                          refine lv_iload_n hx hb dL_isPlanSound_117 rfl (lv_at hl 3 rfl) ?_
                          refine lv_icmp_ne (tgt := 172) hx hb dL_isPlanSound_118 (by decide) (fun c_25 => ?_) (fun c_25 => ?_)
                          · have nc_25 := mt (nI_eq (a := v) (b := v) (by omega) (by omega)).mpr c_25
                            exfalso; omega
                          · have nc_25 := (nI_eq (a := v) (b := v) (by omega) (by omega)).mp c_25
                            refine lv_aload_n hx hb dL_isPlanSound_121 rfl (lv_at hl 1 rfl) ?_
                            refine lv_aload_n hx hb dL_isPlanSound_122 rfl (lv_at hl 1 rfl) ?_
                            refine lv_iload_n hx hb dL_isPlanSound_123 rfl (lv_at hl 3 rfl) ?_
                            have hPc := hP
                            have hDc := hD
                            have hFc := xFree hS hA
                            refine va_calli (va_runV (As := [.int (nI v)]) (rest := [.ref (ad 0)]) ⟨hx, hb, hml, hown, hts⟩ (L_placeOf l g H.size ad ga hs aQ aV aC aP aG aY aN aW aK aS aT v (show xInv aV aC aP aG aY aN aW aK aS aT from by first | assumption | omega) (show v < (o_vc aQ) from by first | assumption | omega) (show (o_vc aQ) ≤ 6 from by first | assumption | omega)) (cwV 1 hts gL_isPlanSound_X8_placeOf rfl rfl rfl (by decide +kernel) ⟨Nat.le_of_ble_eq_true rfl, Nat.le_of_ble_eq_true rfl⟩) ⟨xB.blind, va_recv hK hPc (ci := 8) (q0 := 0) rfl rfl, fun U9 hU9 hW9 => ⟨rfl, xB.mk hPc hK hDc hU9 hW9⟩⟩ rfl rfl hl.1 rfl (lv_room (Nat.le_of_ble_eq_true rfl)) dL_isPlanSound_124 ⟨Nat.le_of_ble_eq_true rfl, Nat.le_of_ble_eq_true rfl⟩) hS (fun q _ h => hFc q h) hFc (fun r_26 _ t H1 locs ht hvm hw_27 hB hz1 hk1 hS => ?_)
                            have hP := xSame hP hk1
                            generalize H1 = H at hP hS ⊢
                            have hP : va_P (xD g) vwCl (SW g ad ga (.int 1) hs aQ aV aC aP aG aY aN aW aK aS aT) H := hP
                            have hD : va_D (fun _ => True) (SW g ad ga (.int 1) hs aQ aV aC aP aG aY aN aW aK aS aT) := hD
                            try dsimp only at hw_27
                            obtain rfl : r_26 = iI ((o_qla aP) v) := hw_27
                            refine lv_aload_n hx hb dL_isPlanSound_127 rfl (lv_at hl 1 rfl) ?_
                            refine lv_iload_n hx hb dL_isPlanSound_128 rfl (lv_at hl 3 rfl) ?_
                            have hPc := hP
                            have hDc := hD
                            have hFc := xFree hS hA
                            refine va_calli (va_runV (As := [.int (nI v)]) (rest := [.int (iI ((o_qla aP) v)), .ref (ad 0)]) ⟨hx, hb, hml, hown, hts⟩ (L_startOf l g H.size ad ga hs aQ aV aC aP aG aY aN aW aK aS aT v (show xInv aV aC aP aG aY aN aW aK aS aT from by first | assumption | omega) (show v < (o_vc aQ) from by first | assumption | omega) (show (o_vc aQ) ≤ 6 from by first | assumption | omega)) (cwV 1 hts gL_isPlanSound_X8_startOf rfl rfl rfl (by decide +kernel) ⟨Nat.le_of_ble_eq_true rfl, Nat.le_of_ble_eq_true rfl⟩) ⟨xB.blind, va_recv hK hPc (ci := 8) (q0 := 0) rfl rfl, fun U9 hU9 hW9 => ⟨rfl, xB.mk hPc hK hDc hU9 hW9⟩⟩ rfl rfl hl.1 rfl (lv_room (Nat.le_of_ble_eq_true rfl)) dL_isPlanSound_129 ⟨Nat.le_of_ble_eq_true rfl, Nat.le_of_ble_eq_true rfl⟩) hS (fun q _ h => hFc q h) hFc (fun r_28 _ t H1 locs ht hvm hw_29 hB hz1 hk1 hS => ?_)
                            have hP := xSame hP hk1
                            generalize H1 = H at hP hS ⊢
                            have hP : va_P (xD g) vwCl (SW g ad ga (.int 1) hs aQ aV aC aP aG aY aN aW aK aS aT) H := hP
                            have hD : va_D (fun _ => True) (SW g ad ga (.int 1) hs aQ aV aC aP aG aY aN aW aK aS aT) := hD
                            try dsimp only at hw_29
                            obtain rfl : r_28 = iI ((o_qta aP) v) := hw_29
                            refine lv_aload_n hx hb dL_isPlanSound_132 rfl (lv_at hl 1 rfl) ?_
                            refine lv_iload_n hx hb dL_isPlanSound_133 rfl (lv_at hl 3 rfl) ?_
                            have hPc := hP
                            have hDc := hD
                            have hFc := xFree hS hA
                            refine va_calli (va_runV (As := [.int (nI v)]) (rest := [.int (iI ((o_qta aP) v)), .int (iI ((o_qla aP) v)), .ref (ad 0)]) ⟨hx, hb, hml, hown, hts⟩ (L_handling l g H.size ad ga (.int 1) hs aQ aV aC aP aG aY aN aW aK aS aT v (show xInv aV aC aP aG aY aN aW aK aS aT from by first | assumption | omega) (show v < (o_vc aQ) from by first | assumption | omega) (show (o_vc aQ) ≤ 6 from by first | assumption | omega)) (cwV 1 hts gL_isPlanSound_X8_handling rfl rfl rfl (by decide +kernel) ⟨Nat.le_of_ble_eq_true rfl, Nat.le_of_ble_eq_true rfl⟩) ⟨xB.blind, va_recv hK hPc (ci := 8) (q0 := 0) rfl rfl, fun U9 hU9 hW9 => ⟨rfl, xB.mk hPc hK hDc hU9 hW9⟩⟩ rfl rfl hl.1 rfl (lv_room (Nat.le_of_ble_eq_true rfl)) dL_isPlanSound_134 ⟨Nat.le_of_ble_eq_true rfl, Nat.le_of_ble_eq_true rfl⟩) hS (fun q _ h => hFc q h) hFc (fun r_30 _ t H1 locs ht hvm hw_31 hB hz1 hk1 hS => ?_)
                            have hP := xSame hP hk1
                            generalize H1 = H at hP hS ⊢
                            have hP : va_P (xD g) vwCl (SW g ad ga (.int 1) hs aQ aV aC aP aG aY aN aW aK aS aT) H := hP
                            have hD : va_D (fun _ => True) (SW g ad ga (.int 1) hs aQ aV aC aP aG aY aN aW aK aS aT) := hD
                            try dsimp only at hw_31
                            obtain rfl : r_30 = iI ((o_Vhd aV) v) := hw_31
                            refine lv_iadd hx hb dL_isPlanSound_137 ?_
                            refine lv_topi (fun v_32 ev => ?_)
                            obtain rfl : v_32 = iI ((o_qta aP) v + ((o_Vhd aV) v)) := ev.trans (iA rfl rfl)
                            have hPc := hP
                            have hDc := hD
                            have hFc := xFree hS hA
                            refine va_calli (va_runV (As := [.int (iI ((o_qla aP) v)), .int (iI ((o_qta aP) v + ((o_Vhd aV) v)))]) (rest := []) ⟨hx, hb, hml, hown, hts⟩ (L_vesselAt l g H.size ad ga hs aQ aV aC aP aG aY aN aW aK aS aT ((o_qla aP) v) ((o_qta aP) v + ((o_Vhd aV) v)) (show xInv aV aC aP aG aY aN aW aK aS aT from by first | assumption | omega) (show (o_vc aQ) ≤ 6 from by first | assumption | omega) (show (o_qy aQ) ≤ 60 from by first | assumption | omega) (show 0 ≤ ((o_qla aP) v) ∧ ((o_qla aP) v) < (((o_qy aQ) : Nat) : Int) from by first | assumption | omega) (show -1000000 ≤ ((o_qta aP) v + ((o_Vhd aV) v)) ∧ ((o_qta aP) v + ((o_Vhd aV) v)) ≤ 2000000 from by first | assumption | omega)) (cwV 2 hts gL_isPlanSound_X8_vesselAt rfl rfl rfl (by decide +kernel) ⟨Nat.le_of_ble_eq_true rfl, Nat.le_of_ble_eq_true rfl⟩) ⟨xB.blind, va_recv hK hPc (ci := 8) (q0 := 0) rfl rfl, fun U9 hU9 hW9 => ⟨rfl, xB.mk hPc hK hDc hU9 hW9⟩⟩ rfl rfl hl.1 rfl (lv_room (Nat.le_of_ble_eq_true rfl)) dL_isPlanSound_138 ⟨Nat.le_of_ble_eq_true rfl, Nat.le_of_ble_eq_true rfl⟩) hS (fun q _ h => hFc q h) hFc (fun r_33 _ t H1 locs ht hvm hw_34 hB hz1 hk1 hS => ?_)
                            have hP := xSame hP hk1
                            generalize H1 = H at hP hS ⊢
                            have hP : va_P (xD g) vwCl (SW g ad ga (.int 1) hs aQ aV aC aP aG aY aN aW aK aS aT) H := hP
                            have hD : va_D (fun _ => True) (SW g ad ga (.int 1) hs aQ aV aC aP aG aY aN aW aK aS aT) := hD
                            try dsimp only at hw_34
                            rcases hw_34 with ⟨w, w1, rfl, w3⟩ | ⟨rfl, w2⟩
                            · have hne : w ≠ v := fun q => by rw [q] at w3; unfold vAt at w3; omega
                              refine lv_iload_n hx hb dL_isPlanSound_141 rfl (lv_at hl 3 rfl) ?_
                              refine lv_icmp_eq (tgt := 172) hx hb dL_isPlanSound_142 (by decide) (fun c_35 => ?_) (fun c_35 => ?_)
                              · have nc_35 := (nI_eq (a := w) (b := v) (by omega) (by omega)).mp c_35
                                exfalso; omega
                              · have nc_35 := mt (nI_eq (a := w) (b := v) (by omega) (by omega)).mpr c_35
                                refine lv_aload_n hx hb dL_isPlanSound_145 rfl (lv_at hl 1 rfl) ?_
                                refine lv_aload_n hx hb dL_isPlanSound_146 rfl (lv_at hl 1 rfl) ?_
                                refine lv_iload_n hx hb dL_isPlanSound_147 rfl (lv_at hl 3 rfl) ?_
                                have hPc := hP
                                have hDc := hD
                                have hFc := xFree hS hA
                                refine va_calli (va_runV (As := [.int (nI v)]) (rest := [.ref (ad 0)]) ⟨hx, hb, hml, hown, hts⟩ (L_startOf l g H.size ad ga hs aQ aV aC aP aG aY aN aW aK aS aT v (show xInv aV aC aP aG aY aN aW aK aS aT from by first | assumption | omega) (show v < (o_vc aQ) from by first | assumption | omega) (show (o_vc aQ) ≤ 6 from by first | assumption | omega)) (cwV 1 hts gL_isPlanSound_X8_startOf rfl rfl rfl (by decide +kernel) ⟨Nat.le_of_ble_eq_true rfl, Nat.le_of_ble_eq_true rfl⟩) ⟨xB.blind, va_recv hK hPc (ci := 8) (q0 := 0) rfl rfl, fun U9 hU9 hW9 => ⟨rfl, xB.mk hPc hK hDc hU9 hW9⟩⟩ rfl rfl hl.1 rfl (lv_room (Nat.le_of_ble_eq_true rfl)) dL_isPlanSound_148 ⟨Nat.le_of_ble_eq_true rfl, Nat.le_of_ble_eq_true rfl⟩) hS (fun q _ h => hFc q h) hFc (fun r_36 _ t H1 locs ht hvm hw_37 hB hz1 hk1 hS => ?_)
                                have hP := xSame hP hk1
                                generalize H1 = H at hP hS ⊢
                                have hP : va_P (xD g) vwCl (SW g ad ga (.int 1) hs aQ aV aC aP aG aY aN aW aK aS aT) H := hP
                                have hD : va_D (fun _ => True) (SW g ad ga (.int 1) hs aQ aV aC aP aG aY aN aW aK aS aT) := hD
                                try dsimp only at hw_37
                                obtain rfl : r_36 = iI ((o_qta aP) v) := hw_37
                                have hPc := hP
                                have hDc := hD
                                have hFc := xFree hS hA
                                refine va_calli (va_runV (As := [.int (iI ((o_qta aP) v))]) (rest := []) ⟨hx, hb, hml, hown, hts⟩ (L_cranesAt l g H.size ad ga hs aQ aV aC aP aG aY aN aW aK aS aT ((o_qta aP) v) (show xInv aV aC aP aG aY aN aW aK aS aT from by first | assumption | omega) (show (o_vc aQ) ≤ 6 from by first | assumption | omega) (show -1000000 ≤ ((o_qta aP) v) ∧ ((o_qta aP) v) ≤ 2000000 from by first | assumption | omega)) (cwV 1 hts gL_isPlanSound_X8_cranesAt rfl rfl rfl (by decide +kernel) ⟨Nat.le_of_ble_eq_true rfl, Nat.le_of_ble_eq_true rfl⟩) ⟨xB.blind, va_recv hK hPc (ci := 8) (q0 := 0) rfl rfl, fun U9 hU9 hW9 => ⟨rfl, xB.mk hPc hK hDc hU9 hW9⟩⟩ rfl rfl hl.1 rfl (lv_room (Nat.le_of_ble_eq_true rfl)) dL_isPlanSound_151 ⟨Nat.le_of_ble_eq_true rfl, Nat.le_of_ble_eq_true rfl⟩) hS (fun q _ h => hFc q h) hFc (fun r_38 _ t H1 locs ht hvm hw_39 hB hz1 hk1 hS => ?_)
                                have hP := xSame hP hk1
                                generalize H1 = H at hP hS ⊢
                                have hP : va_P (xD g) vwCl (SW g ad ga (.int 1) hs aQ aV aC aP aG aY aN aW aK aS aT) H := hP
                                have hD : va_D (fun _ => True) (SW g ad ga (.int 1) hs aQ aV aC aP aG aY aN aW aK aS aT) := hD
                                try dsimp only at hw_39
                                obtain rfl : r_38 = nI (vCr (o_qta aP) (o_Vhd aV) (o_Vwa aV) ((o_qta aP) v) (o_vc aQ)) := hw_39
                                refine lv_iconst (v := 1) hx hb dL_isPlanSound_154 (by decide) ?_
                                refine lv_icmp_lt (tgt := 172) hx hb dL_isPlanSound_155 (by decide) (fun c_40 => ?_) (fun c_40 => ?_)
                                · have nc_40 := (nI_ltI (a := vCr (o_qta aP) (o_Vhd aV) (o_Vwa aV) ((o_qta aP) v) (o_vc aQ)) (b := 1) (by omega) (by omega)).mp c_40
                                  exfalso; omega
                                · have nc_40 := mt (nI_ltI (a := vCr (o_qta aP) (o_Vhd aV) (o_Vwa aV) ((o_qta aP) v) (o_vc aQ)) (b := 1) (by omega) (by omega)).mpr c_40
                                  refine lv_aload_n hx hb dL_isPlanSound_158 rfl (lv_at hl 1 rfl) ?_
                                  refine lv_aload_n hx hb dL_isPlanSound_159 rfl (lv_at hl 1 rfl) ?_
                                  refine lv_iload_n hx hb dL_isPlanSound_160 rfl (lv_at hl 3 rfl) ?_
                                  have hPc := hP
                                  have hDc := hD
                                  have hFc := xFree hS hA
                                  refine va_calli (va_runV (As := [.int (nI v)]) (rest := [.ref (ad 0)]) ⟨hx, hb, hml, hown, hts⟩ (L_startOf l g H.size ad ga hs aQ aV aC aP aG aY aN aW aK aS aT v (show xInv aV aC aP aG aY aN aW aK aS aT from by first | assumption | omega) (show v < (o_vc aQ) from by first | assumption | omega) (show (o_vc aQ) ≤ 6 from by first | assumption | omega)) (cwV 1 hts gL_isPlanSound_X8_startOf rfl rfl rfl (by decide +kernel) ⟨Nat.le_of_ble_eq_true rfl, Nat.le_of_ble_eq_true rfl⟩) ⟨xB.blind, va_recv hK hPc (ci := 8) (q0 := 0) rfl rfl, fun U9 hU9 hW9 => ⟨rfl, xB.mk hPc hK hDc hU9 hW9⟩⟩ rfl rfl hl.1 rfl (lv_room (Nat.le_of_ble_eq_true rfl)) dL_isPlanSound_161 ⟨Nat.le_of_ble_eq_true rfl, Nat.le_of_ble_eq_true rfl⟩) hS (fun q _ h => hFc q h) hFc (fun r_41 _ t H1 locs ht hvm hw_42 hB hz1 hk1 hS => ?_)
                                  have hP := xSame hP hk1
                                  generalize H1 = H at hP hS ⊢
                                  have hP : va_P (xD g) vwCl (SW g ad ga (.int 1) hs aQ aV aC aP aG aY aN aW aK aS aT) H := hP
                                  have hD : va_D (fun _ => True) (SW g ad ga (.int 1) hs aQ aV aC aP aG aY aN aW aK aS aT) := hD
                                  try dsimp only at hw_42
                                  obtain rfl : r_41 = iI ((o_qta aP) v) := hw_42
                                  have hPc := hP
                                  have hDc := hD
                                  have hFc := xFree hS hA
                                  refine va_calli (va_runV (As := [.int (iI ((o_qta aP) v))]) (rest := []) ⟨hx, hb, hml, hown, hts⟩ (L_cranesAt l g H.size ad ga hs aQ aV aC aP aG aY aN aW aK aS aT ((o_qta aP) v) (show xInv aV aC aP aG aY aN aW aK aS aT from by first | assumption | omega) (show (o_vc aQ) ≤ 6 from by first | assumption | omega) (show -1000000 ≤ ((o_qta aP) v) ∧ ((o_qta aP) v) ≤ 2000000 from by first | assumption | omega)) (cwV 1 hts gL_isPlanSound_X8_cranesAt rfl rfl rfl (by decide +kernel) ⟨Nat.le_of_ble_eq_true rfl, Nat.le_of_ble_eq_true rfl⟩) ⟨xB.blind, va_recv hK hPc (ci := 8) (q0 := 0) rfl rfl, fun U9 hU9 hW9 => ⟨rfl, xB.mk hPc hK hDc hU9 hW9⟩⟩ rfl rfl hl.1 rfl (lv_room (Nat.le_of_ble_eq_true rfl)) dL_isPlanSound_164 ⟨Nat.le_of_ble_eq_true rfl, Nat.le_of_ble_eq_true rfl⟩) hS (fun q _ h => hFc q h) hFc (fun r_43 _ t H1 locs ht hvm hw_44 hB hz1 hk1 hS => ?_)
                                  have hP := xSame hP hk1
                                  generalize H1 = H at hP hS ⊢
                                  have hP : va_P (xD g) vwCl (SW g ad ga (.int 1) hs aQ aV aC aP aG aY aN aW aK aS aT) H := hP
                                  have hD : va_D (fun _ => True) (SW g ad ga (.int 1) hs aQ aV aC aP aG aY aN aW aK aS aT) := hD
                                  try dsimp only at hw_44
                                  obtain rfl : r_43 = nI (vCr (o_qta aP) (o_Vhd aV) (o_Vwa aV) ((o_qta aP) v) (o_vc aQ)) := hw_44
                                  refine lv_bipush (v := 6) hx hb dL_isPlanSound_167 (by decide) ?_
                                  refine lv_icmp_le (tgt := 174) hx hb dL_isPlanSound_169 (by decide) (fun c_45 => ?_) (fun c_45 => ?_)
                                  · have nc_45 := (nI_leI (a := vCr (o_qta aP) (o_Vhd aV) (o_Vwa aV) ((o_qta aP) v) (o_vc aQ)) (b := 6) (by omega) (by omega)).mp c_45
                                    refine lv_iinc (v := nI (v + 1)) (lv' := [(2, .int (nI (v + 1))), (4, .int (nI y)), (0, .ref (ad 0)), (1, .int (nI nv)), (3, .int (iI bg9))]) hx hb dL_isPlanSound_174 hl (k := 3) rfl (nI_add v 1) (by decide) rfl (fun ls hl => ?_)
                                    refine lv_goto (tgt := 2) hx hb dL_isPlanSound_177 (by decide) ?_
                                    exact ih2 (v + 1) _ _ _ (by omega) (by omega) hP hD hS (lv_sub hl [0, 2, 3] rfl)
                                  · have nc_45 := mt (nI_leI (a := vCr (o_qta aP) (o_Vhd aV) (o_Vwa aV) ((o_qta aP) v) (o_vc aQ)) (b := 6) (by omega) (by omega)).mpr c_45
                                    exfalso; omega
                            · refine lv_iload_n hx hb dL_isPlanSound_141 rfl (lv_at hl 3 rfl) ?_
                              refine lv_icmp_eq (tgt := 172) hx hb dL_isPlanSound_142 (by decide) (fun c_46 => ?_) (fun c_46 => ?_)
                              · have nc_46 := (iEq (a := (-1)) (b := ((v : Nat) : Int)) (by decide) (iI_nI _) (by omega)).mp c_46
                                exfalso; omega
                              · have nc_46 := mt (iEq (a := (-1)) (b := ((v : Nat) : Int)) (by decide) (iI_nI _) (by omega)).mpr c_46
                                refine lv_aload_n hx hb dL_isPlanSound_145 rfl (lv_at hl 1 rfl) ?_
                                refine lv_aload_n hx hb dL_isPlanSound_146 rfl (lv_at hl 1 rfl) ?_
                                refine lv_iload_n hx hb dL_isPlanSound_147 rfl (lv_at hl 3 rfl) ?_
                                have hPc := hP
                                have hDc := hD
                                have hFc := xFree hS hA
                                refine va_calli (va_runV (As := [.int (nI v)]) (rest := [.ref (ad 0)]) ⟨hx, hb, hml, hown, hts⟩ (L_startOf l g H.size ad ga hs aQ aV aC aP aG aY aN aW aK aS aT v (show xInv aV aC aP aG aY aN aW aK aS aT from by first | assumption | omega) (show v < (o_vc aQ) from by first | assumption | omega) (show (o_vc aQ) ≤ 6 from by first | assumption | omega)) (cwV 1 hts gL_isPlanSound_X8_startOf rfl rfl rfl (by decide +kernel) ⟨Nat.le_of_ble_eq_true rfl, Nat.le_of_ble_eq_true rfl⟩) ⟨xB.blind, va_recv hK hPc (ci := 8) (q0 := 0) rfl rfl, fun U9 hU9 hW9 => ⟨rfl, xB.mk hPc hK hDc hU9 hW9⟩⟩ rfl rfl hl.1 rfl (lv_room (Nat.le_of_ble_eq_true rfl)) dL_isPlanSound_148 ⟨Nat.le_of_ble_eq_true rfl, Nat.le_of_ble_eq_true rfl⟩) hS (fun q _ h => hFc q h) hFc (fun r_47 _ t H1 locs ht hvm hw_48 hB hz1 hk1 hS => ?_)
                                have hP := xSame hP hk1
                                generalize H1 = H at hP hS ⊢
                                have hP : va_P (xD g) vwCl (SW g ad ga (.int 1) hs aQ aV aC aP aG aY aN aW aK aS aT) H := hP
                                have hD : va_D (fun _ => True) (SW g ad ga (.int 1) hs aQ aV aC aP aG aY aN aW aK aS aT) := hD
                                try dsimp only at hw_48
                                obtain rfl : r_47 = iI ((o_qta aP) v) := hw_48
                                have hPc := hP
                                have hDc := hD
                                have hFc := xFree hS hA
                                refine va_calli (va_runV (As := [.int (iI ((o_qta aP) v))]) (rest := []) ⟨hx, hb, hml, hown, hts⟩ (L_cranesAt l g H.size ad ga hs aQ aV aC aP aG aY aN aW aK aS aT ((o_qta aP) v) (show xInv aV aC aP aG aY aN aW aK aS aT from by first | assumption | omega) (show (o_vc aQ) ≤ 6 from by first | assumption | omega) (show -1000000 ≤ ((o_qta aP) v) ∧ ((o_qta aP) v) ≤ 2000000 from by first | assumption | omega)) (cwV 1 hts gL_isPlanSound_X8_cranesAt rfl rfl rfl (by decide +kernel) ⟨Nat.le_of_ble_eq_true rfl, Nat.le_of_ble_eq_true rfl⟩) ⟨xB.blind, va_recv hK hPc (ci := 8) (q0 := 0) rfl rfl, fun U9 hU9 hW9 => ⟨rfl, xB.mk hPc hK hDc hU9 hW9⟩⟩ rfl rfl hl.1 rfl (lv_room (Nat.le_of_ble_eq_true rfl)) dL_isPlanSound_151 ⟨Nat.le_of_ble_eq_true rfl, Nat.le_of_ble_eq_true rfl⟩) hS (fun q _ h => hFc q h) hFc (fun r_49 _ t H1 locs ht hvm hw_50 hB hz1 hk1 hS => ?_)
                                have hP := xSame hP hk1
                                generalize H1 = H at hP hS ⊢
                                have hP : va_P (xD g) vwCl (SW g ad ga (.int 1) hs aQ aV aC aP aG aY aN aW aK aS aT) H := hP
                                have hD : va_D (fun _ => True) (SW g ad ga (.int 1) hs aQ aV aC aP aG aY aN aW aK aS aT) := hD
                                try dsimp only at hw_50
                                obtain rfl : r_49 = nI (vCr (o_qta aP) (o_Vhd aV) (o_Vwa aV) ((o_qta aP) v) (o_vc aQ)) := hw_50
                                refine lv_iconst (v := 1) hx hb dL_isPlanSound_154 (by decide) ?_
                                refine lv_icmp_lt (tgt := 172) hx hb dL_isPlanSound_155 (by decide) (fun c_51 => ?_) (fun c_51 => ?_)
                                · have nc_51 := (nI_ltI (a := vCr (o_qta aP) (o_Vhd aV) (o_Vwa aV) ((o_qta aP) v) (o_vc aQ)) (b := 1) (by omega) (by omega)).mp c_51
                                  exfalso; omega
                                · have nc_51 := mt (nI_ltI (a := vCr (o_qta aP) (o_Vhd aV) (o_Vwa aV) ((o_qta aP) v) (o_vc aQ)) (b := 1) (by omega) (by omega)).mpr c_51
                                  refine lv_aload_n hx hb dL_isPlanSound_158 rfl (lv_at hl 1 rfl) ?_
                                  refine lv_aload_n hx hb dL_isPlanSound_159 rfl (lv_at hl 1 rfl) ?_
                                  refine lv_iload_n hx hb dL_isPlanSound_160 rfl (lv_at hl 3 rfl) ?_
                                  have hPc := hP
                                  have hDc := hD
                                  have hFc := xFree hS hA
                                  refine va_calli (va_runV (As := [.int (nI v)]) (rest := [.ref (ad 0)]) ⟨hx, hb, hml, hown, hts⟩ (L_startOf l g H.size ad ga hs aQ aV aC aP aG aY aN aW aK aS aT v (show xInv aV aC aP aG aY aN aW aK aS aT from by first | assumption | omega) (show v < (o_vc aQ) from by first | assumption | omega) (show (o_vc aQ) ≤ 6 from by first | assumption | omega)) (cwV 1 hts gL_isPlanSound_X8_startOf rfl rfl rfl (by decide +kernel) ⟨Nat.le_of_ble_eq_true rfl, Nat.le_of_ble_eq_true rfl⟩) ⟨xB.blind, va_recv hK hPc (ci := 8) (q0 := 0) rfl rfl, fun U9 hU9 hW9 => ⟨rfl, xB.mk hPc hK hDc hU9 hW9⟩⟩ rfl rfl hl.1 rfl (lv_room (Nat.le_of_ble_eq_true rfl)) dL_isPlanSound_161 ⟨Nat.le_of_ble_eq_true rfl, Nat.le_of_ble_eq_true rfl⟩) hS (fun q _ h => hFc q h) hFc (fun r_52 _ t H1 locs ht hvm hw_53 hB hz1 hk1 hS => ?_)
                                  have hP := xSame hP hk1
                                  generalize H1 = H at hP hS ⊢
                                  have hP : va_P (xD g) vwCl (SW g ad ga (.int 1) hs aQ aV aC aP aG aY aN aW aK aS aT) H := hP
                                  have hD : va_D (fun _ => True) (SW g ad ga (.int 1) hs aQ aV aC aP aG aY aN aW aK aS aT) := hD
                                  try dsimp only at hw_53
                                  obtain rfl : r_52 = iI ((o_qta aP) v) := hw_53
                                  have hPc := hP
                                  have hDc := hD
                                  have hFc := xFree hS hA
                                  refine va_calli (va_runV (As := [.int (iI ((o_qta aP) v))]) (rest := []) ⟨hx, hb, hml, hown, hts⟩ (L_cranesAt l g H.size ad ga hs aQ aV aC aP aG aY aN aW aK aS aT ((o_qta aP) v) (show xInv aV aC aP aG aY aN aW aK aS aT from by first | assumption | omega) (show (o_vc aQ) ≤ 6 from by first | assumption | omega) (show -1000000 ≤ ((o_qta aP) v) ∧ ((o_qta aP) v) ≤ 2000000 from by first | assumption | omega)) (cwV 1 hts gL_isPlanSound_X8_cranesAt rfl rfl rfl (by decide +kernel) ⟨Nat.le_of_ble_eq_true rfl, Nat.le_of_ble_eq_true rfl⟩) ⟨xB.blind, va_recv hK hPc (ci := 8) (q0 := 0) rfl rfl, fun U9 hU9 hW9 => ⟨rfl, xB.mk hPc hK hDc hU9 hW9⟩⟩ rfl rfl hl.1 rfl (lv_room (Nat.le_of_ble_eq_true rfl)) dL_isPlanSound_164 ⟨Nat.le_of_ble_eq_true rfl, Nat.le_of_ble_eq_true rfl⟩) hS (fun q _ h => hFc q h) hFc (fun r_54 _ t H1 locs ht hvm hw_55 hB hz1 hk1 hS => ?_)
                                  have hP := xSame hP hk1
                                  generalize H1 = H at hP hS ⊢
                                  have hP : va_P (xD g) vwCl (SW g ad ga (.int 1) hs aQ aV aC aP aG aY aN aW aK aS aT) H := hP
                                  have hD : va_D (fun _ => True) (SW g ad ga (.int 1) hs aQ aV aC aP aG aY aN aW aK aS aT) := hD
                                  try dsimp only at hw_55
                                  obtain rfl : r_54 = nI (vCr (o_qta aP) (o_Vhd aV) (o_Vwa aV) ((o_qta aP) v) (o_vc aQ)) := hw_55
                                  refine lv_bipush (v := 6) hx hb dL_isPlanSound_167 (by decide) ?_
                                  refine lv_icmp_le (tgt := 174) hx hb dL_isPlanSound_169 (by decide) (fun c_56 => ?_) (fun c_56 => ?_)
                                  · have nc_56 := (nI_leI (a := vCr (o_qta aP) (o_Vhd aV) (o_Vwa aV) ((o_qta aP) v) (o_vc aQ)) (b := 6) (by omega) (by omega)).mp c_56
                                    refine lv_iinc (v := nI (v + 1)) (lv' := [(2, .int (nI (v + 1))), (4, .int (nI y)), (0, .ref (ad 0)), (1, .int (nI nv)), (3, .int (iI bg9))]) hx hb dL_isPlanSound_174 hl (k := 3) rfl (nI_add v 1) (by decide) rfl (fun ls hl => ?_)
                                    refine lv_goto (tgt := 2) hx hb dL_isPlanSound_177 (by decide) ?_
                                    exact ih2 (v + 1) _ _ _ (by omega) (by omega) hP hD hS (lv_sub hl [0, 2, 3] rfl)
                                  · have nc_56 := mt (nI_leI (a := vCr (o_qta aP) (o_Vhd aV) (o_Vwa aV) ((o_qta aP) v) (o_vc aQ)) (b := 6) (by omega) (by omega)).mpr c_56
                                    exfalso; omega
                  · have nc_9 := mt (nI_leI (a := (o_Vrc aV) v) (b := y) (by omega) (by omega)).mpr c_9
                    refine lv_aload_n hx hb dL_isPlanSound_50 rfl (lv_at hl 1 rfl) ?_
                    refine lv_iload_n hx hb dL_isPlanSound_51 rfl (lv_at hl 3 rfl) ?_
                    refine lv_iload hx hb dL_isPlanSound_52 (lv_at hl 0 rfl) ?_
                    have hPc := hP
                    have hDc := hD
                    have hFc := xFree hS hA
                    refine va_calli (va_runV (As := [.int (nI v), .int (nI y)]) (rest := []) ⟨hx, hb, hml, hown, hts⟩ (L_firstBay l g H.size ad ga (.int 1) hs aQ aV aC aP aG aY aN aW aK aS aT v y (show xInv aV aC aP aG aY aN aW aK aS aT from by first | assumption | omega) (show v < (o_vc aQ) from by first | assumption | omega) (show (o_vc aQ) ≤ 6 from by first | assumption | omega) (show y < (o_Vrc aV) v from by first | assumption | omega) (show (o_Vrc aV) v ≤ 4 from by first | assumption | omega)) (cwV 2 hts gL_isPlanSound_X8_firstBay rfl rfl rfl (by decide +kernel) ⟨Nat.le_of_ble_eq_true rfl, Nat.le_of_ble_eq_true rfl⟩) ⟨xB.blind, va_recv hK hPc (ci := 8) (q0 := 0) rfl rfl, fun U9 hU9 hW9 => ⟨rfl, xB.mk hPc hK hDc hU9 hW9⟩⟩ rfl rfl hl.1 rfl (lv_room (Nat.le_of_ble_eq_true rfl)) dL_isPlanSound_54 ⟨Nat.le_of_ble_eq_true rfl, Nat.le_of_ble_eq_true rfl⟩) hS (fun q _ h => hFc q h) hFc (fun r_57 _ t H1 locs ht hvm hw_58 hB hz1 hk1 hS => ?_)
                    have hP := xSame hP hk1
                    generalize H1 = H at hP hS ⊢
                    have hP : va_P (xD g) vwCl (SW g ad ga (.int 1) hs aQ aV aC aP aG aY aN aW aK aS aT) H := hP
                    have hD : va_D (fun _ => True) (SW g ad ga (.int 1) hs aQ aV aC aP aG aY aN aW aK aS aT) := hD
                    try dsimp only at hw_58
                    obtain rfl : r_57 = nI ((o_frh aV) v y) := hw_58
                    refine lv_iload_n hx hb dL_isPlanSound_57 rfl (lv_at hl 4 rfl) ?_
                    refine lv_icmp_gt (tgt := 63) hx hb dL_isPlanSound_58 (by decide) (fun c_59 => ?_) (fun c_59 => ?_)
                    · have nc_59 := (iLt (a := bg9) (b := (((o_frh aV) v y : Nat) : Int)) rfl (iI_nI _) (by omega)).mp c_59
                      refine lv_aload_n hx hb dL_isPlanSound_63 rfl (lv_at hl 1 rfl) ?_
                      refine lv_iload_n hx hb dL_isPlanSound_64 rfl (lv_at hl 3 rfl) ?_
                      refine lv_iload hx hb dL_isPlanSound_65 (lv_at hl 0 rfl) ?_
                      have hPc := hP
                      have hDc := hD
                      have hFc := xFree hS hA
                      refine va_calli (va_runV (As := [.int (nI v), .int (nI y)]) (rest := []) ⟨hx, hb, hml, hown, hts⟩ (L_firstBay l g H.size ad ga (.int 1) hs aQ aV aC aP aG aY aN aW aK aS aT v y (show xInv aV aC aP aG aY aN aW aK aS aT from by first | assumption | omega) (show v < (o_vc aQ) from by first | assumption | omega) (show (o_vc aQ) ≤ 6 from by first | assumption | omega) (show y < (o_Vrc aV) v from by first | assumption | omega) (show (o_Vrc aV) v ≤ 4 from by first | assumption | omega)) (cwV 2 hts gL_isPlanSound_X8_firstBay rfl rfl rfl (by decide +kernel) ⟨Nat.le_of_ble_eq_true rfl, Nat.le_of_ble_eq_true rfl⟩) ⟨xB.blind, va_recv hK hPc (ci := 8) (q0 := 0) rfl rfl, fun U9 hU9 hW9 => ⟨rfl, xB.mk hPc hK hDc hU9 hW9⟩⟩ rfl rfl hl.1 rfl (lv_room (Nat.le_of_ble_eq_true rfl)) dL_isPlanSound_67 ⟨Nat.le_of_ble_eq_true rfl, Nat.le_of_ble_eq_true rfl⟩) hS (fun q _ h => hFc q h) hFc (fun r_60 _ t H1 locs ht hvm hw_61 hB hz1 hk1 hS => ?_)
                      have hP := xSame hP hk1
                      generalize H1 = H at hP hS ⊢
                      have hP : va_P (xD g) vwCl (SW g ad ga (.int 1) hs aQ aV aC aP aG aY aN aW aK aS aT) H := hP
                      have hD : va_D (fun _ => True) (SW g ad ga (.int 1) hs aQ aV aC aP aG aY aN aW aK aS aT) := hD
                      try dsimp only at hw_61
                      obtain rfl : r_60 = nI ((o_frh aV) v y) := hw_61
                      refine lv_istore_n (lv' := [(3, .int (nI ((o_frh aV) v y))), (4, .int (nI y)), (0, .ref (ad 0)), (1, .int (nI nv)), (2, .int (nI v))]) hx hb dL_isPlanSound_70 rfl hl (by decide) rfl (fun ls hl => ?_)
                      refine lv_iinc (v := nI (y + 1)) (lv' := [(4, .int (nI (y + 1))), (3, .int (nI ((o_frh aV) v y))), (0, .ref (ad 0)), (1, .int (nI nv)), (2, .int (nI v))]) hx hb dL_isPlanSound_71 hl (k := 1) rfl (nI_add y 1) (by decide) rfl (fun ls hl => ?_)
                      refine lv_goto (tgt := 40) hx hb dL_isPlanSound_74 (by decide) ?_
                      exact ih40 (y + 1) (((o_frh aV) v y : Nat) : Int) _ _ _ (by omega) (by omega) (Or.inr ⟨by omega, by rw [Nat.add_sub_cancel]⟩) hP hD hS (by rw [(show iI (((o_frh aV) v y : Nat) : Int) = nI ((o_frh aV) v y) from (iI_nI _).symm)]; exact lv_sub hl [0, 2, 3, 4, 1] rfl)
                    · have nc_59 := mt (iLt (a := bg9) (b := (((o_frh aV) v y : Nat) : Int)) rfl (iI_nI _) (by omega)).mpr c_59
                      exfalso; omega
              exact hloop40 (o_Vrc aV v + 1) 0 (-1) _ _ _ (by omega) (Nat.zero_le _) (Or.inl ⟨rfl, rfl⟩) hP hD hS (by rw [(show nI 0 = (0 : Int32) from by decide), (show iI (-1) = ((-1) : Int32) from by decide)]; exact lv_sub hl [0, 2, 3, 4, 1] rfl)
            · have nc_6 := mt (nI_leI (a := v) (b := x) (by omega) (by omega)).mpr c_6
              refine lv_aload_n hx hb dL_isPlanSound_14 rfl (lv_at hl 1 rfl) ?_
              refine lv_iload_n hx hb dL_isPlanSound_15 rfl (lv_at hl 0 rfl) ?_
              have hPc := hP
              have hDc := hD
              have hFc := xFree hS hA
              refine va_calli (va_runV (As := [.int (nI x)]) (rest := []) ⟨hx, hb, hml, hown, hts⟩ (L_orderAt l g H.size ad ga hs aQ aV aC aP aG aY aN aW aK aS aT x (show xInv aV aC aP aG aY aN aW aK aS aT from by first | assumption | omega) (show x < o_vc aQ from by omega) (show (o_vc aQ) ≤ 6 from by first | assumption | omega)) (cwV 1 hts gL_isPlanSound_X8_orderAt rfl rfl rfl (by decide +kernel) ⟨Nat.le_of_ble_eq_true rfl, Nat.le_of_ble_eq_true rfl⟩) ⟨xB.blind, va_recv hK hPc (ci := 8) (q0 := 0) rfl rfl, fun U9 hU9 hW9 => ⟨rfl, xB.mk hPc hK hDc hU9 hW9⟩⟩ rfl rfl hl.1 rfl (lv_room (Nat.le_of_ble_eq_true rfl)) dL_isPlanSound_16 ⟨Nat.le_of_ble_eq_true rfl, Nat.le_of_ble_eq_true rfl⟩) hS (fun q _ h => hFc q h) hFc (fun r_62 _ t H1 locs ht hvm hw_63 hB hz1 hk1 hS => ?_)
              have hP := xSame hP hk1
              generalize H1 = H at hP hS ⊢
              have hP : va_P (xD g) vwCl (SW g ad ga (.int 1) hs aQ aV aC aP aG aY aN aW aK aS aT) H := hP
              have hD : va_D (fun _ => True) (SW g ad ga (.int 1) hs aQ aV aC aP aG aY aN aW aK aS aT) := hD
              try dsimp only at hw_63
              obtain rfl : r_62 = nI ((o_qrd aP) x) := hw_63
              refine lv_aload_n hx hb dL_isPlanSound_19 rfl (lv_at hl 1 rfl) ?_
              refine lv_iload_n hx hb dL_isPlanSound_20 rfl (lv_at hl 3 rfl) ?_
              have hPc := hP
              have hDc := hD
              have hFc := xFree hS hA
              refine va_calli (va_runV (As := [.int (nI v)]) (rest := [.int (nI ((o_qrd aP) x))]) ⟨hx, hb, hml, hown, hts⟩ (L_orderAt l g H.size ad ga hs aQ aV aC aP aG aY aN aW aK aS aT v (show xInv aV aC aP aG aY aN aW aK aS aT from by first | assumption | omega) (show v < o_vc aQ from by omega) (show (o_vc aQ) ≤ 6 from by first | assumption | omega)) (cwV 1 hts gL_isPlanSound_X8_orderAt rfl rfl rfl (by decide +kernel) ⟨Nat.le_of_ble_eq_true rfl, Nat.le_of_ble_eq_true rfl⟩) ⟨xB.blind, va_recv hK hPc (ci := 8) (q0 := 0) rfl rfl, fun U9 hU9 hW9 => ⟨rfl, xB.mk hPc hK hDc hU9 hW9⟩⟩ rfl rfl hl.1 rfl (lv_room (Nat.le_of_ble_eq_true rfl)) dL_isPlanSound_21 ⟨Nat.le_of_ble_eq_true rfl, Nat.le_of_ble_eq_true rfl⟩) hS (fun q _ h => hFc q h) hFc (fun r_64 _ t H1 locs ht hvm hw_65 hB hz1 hk1 hS => ?_)
              have hP := xSame hP hk1
              generalize H1 = H at hP hS ⊢
              have hP : va_P (xD g) vwCl (SW g ad ga (.int 1) hs aQ aV aC aP aG aY aN aW aK aS aT) H := hP
              have hD : va_D (fun _ => True) (SW g ad ga (.int 1) hs aQ aV aC aP aG aY aN aW aK aS aT) := hD
              try dsimp only at hw_65
              obtain rfl : r_64 = nI ((o_qrd aP) v) := hw_65
              refine lv_icmp_ne (tgt := 29) hx hb dL_isPlanSound_24 (by decide) (fun c_66 => ?_) (fun c_66 => ?_)
              · have nc_66 := mt (nI_eq (a := (o_qrd aP) x) (b := (o_qrd aP) v) (by omega) (by omega)).mpr c_66
                refine lv_iinc (v := nI (x + 1)) (lv' := [(3, .int (nI (x + 1))), (0, .ref (ad 0)), (1, .int (nI nv)), (2, .int (nI v))]) hx hb dL_isPlanSound_29 hl (k := 0) rfl (nI_add x 1) (by decide) rfl (fun ls hl => ?_)
                refine lv_goto (tgt := 9) hx hb dL_isPlanSound_32 (by decide) ?_
                exact ih9 (x + 1) _ _ _ (by omega) (by omega) hP hD hS (lv_sub hl [0, 1, 2, 3] rfl)
              · have nc_66 := (nI_eq (a := (o_qrd aP) x) (b := (o_qrd aP) v) (by omega) (by omega)).mp c_66
                (exact absurd (by omega) (hPl.1 x v (by omega) (by omega)))
        exact hloop9 (v + 1) 0 _ _ _ (by omega) (Nat.zero_le _) hP hD hS (by rw [(show nI 0 = (0 : Int32) from by decide)]; exact lv_sub hl [0, 2, 3, 1] rfl)
  exact hloop2 (nv + 1) 0 _ _ _ (by omega) (Nat.zero_le _) hP hD hS (by rw [(show nI 0 = (0 : Int32) from by decide)]; exact lv_sub hl [0, 1, 2] rfl)
