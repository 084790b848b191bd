/-! ===== the words: one list of all good ones; every method stands over it ===== -/
def wU : List Cond := lw_tbl.filter goodWord
theorem wU_good : ∀ w ∈ wU, goodWord w = true := fun w h => (List.mem_filter.mp h).2
theorem wU_tbl : ∀ w ∈ wU, w ∈ lw_tbl := fun w h => (List.mem_filter.mp h).1
theorem wU_at {w : Cond} (i : Nat) (h : lw_tbl[i]? = some w) (g : goodWord w = true) : w ∈ wU := List.mem_filter.mpr ⟨List.mem_of_getElem? h, g⟩
theorem wU_ws {ws : List Cond} (ps : List Nat) (h : ws = ps.filterMap (fun i => lw_tbl[i]?)) (g : ws.all goodWord = true) : ∀ w ∈ ws, w ∈ wU := by
  intro w hw
  have h1 := List.all_eq_true.mp g w hw
  rw [h] at hw
  obtain ⟨i, -, hi⟩ := List.mem_filterMap.mp hw
  exact wU_at i hi h1
theorem wU_in {yc w : Cond} (h : w ∈ wU) : GoodIn wU (w :: wU) := fun v hv => (List.mem_cons.mp hv).elim (fun e => by rw [e]; exact ⟨h, good_of_word (wU_good _ h)⟩) (fun h2 => ⟨h2, good_of_word (wU_good _ h2)⟩)
theorem fw_X0 : ∀ w ∈ u_ws RX0 TX0 3, w ∈ wU := wU_ws [671, 673, 675] (by decide +kernel) (by decide +kernel)
theorem fw_X1 : ∀ w ∈ u_ws RX1 TX1 6, w ∈ wU := wU_ws [94, 96, 98, 100, 102, 104] (by decide +kernel) (by decide +kernel)
theorem fw_X2 : ∀ w ∈ u_ws RX2 TX2 2, w ∈ wU := wU_ws [57, 59] (by decide +kernel) (by decide +kernel)
theorem fw_X3 : ∀ w ∈ u_ws RX3 TX3 2, w ∈ wU := wU_ws [445, 447] (by decide +kernel) (by decide +kernel)
theorem fw_X4 : ∀ w ∈ u_ws RX4 TX4 2, w ∈ wU := wU_ws [117, 119] (by decide +kernel) (by decide +kernel)
theorem fw_X5 : ∀ w ∈ u_ws RX5 TX5 1, w ∈ wU := wU_ws [131] (by decide +kernel) (by decide +kernel)
theorem fw_X6 : ∀ w ∈ u_ws RX6 TX6 5, w ∈ wU := wU_ws [501, 503, 505, 507, 509] (by decide +kernel) (by decide +kernel)
theorem fw_X7 : ∀ w ∈ u_ws RX7 TX7 3, w ∈ wU := wU_ws [74, 76, 78] (by decide +kernel) (by decide +kernel)
theorem fw_X8 : ∀ w ∈ u_ws RX8 TX8 6, w ∈ wU := wU_ws [140, 142, 144, 146, 148, 150] (by decide +kernel) (by decide +kernel)
theorem fw_X9 : ∀ w ∈ u_ws RX9 TX9 16, w ∈ wU := wU_ws [799, 801, 803, 805, 807, 809, 811, 813, 815, 817, 819, 821, 823, 825, 827, 829] (by decide +kernel) (by decide +kernel)
/-- a method that may be called: its code, its class; how many arguments -/
def MW (y : MethodName) (c : ByteArray) (nL : Nat) (ret : Option FieldType) (n : Nat) : Prop := Cond.code y c nL ret ∈ wU ∧ Cond.initialized y.cls ∈ wU ∧ y.cls ≠ "java/lang/invoke/MethodHandle" ∧ y.cls ≠ "java/lang/invoke/VarHandle" ∧ (parseMethodDescriptor y.desc).map (fun d => d.parameters.length) = some n
def MV (y : MethodName) : Prop := Cond.instanceMethod y ∈ wU ∧ Cond.selects y.cls y y ∈ wU
theorem m_X7_isThere : MW yX7_isThere cX7_isThere 2 (some .boolean) 1 := ⟨wU_at 188 (by decide +kernel) rfl, wU_at 25 (by decide +kernel) rfl, by decide +kernel, by decide +kernel, by decide +kernel⟩
theorem mv_X7_isThere : MV yX7_isThere := ⟨wU_at 187 (by decide +kernel) rfl, wU_at 0 (by decide +kernel) rfl⟩
theorem m_X7_originBits : MW yX7_originBits cX7_originBits 5 (some .int) 1 := ⟨wU_at 203 (by decide +kernel) rfl, wU_at 25 (by decide +kernel) rfl, by decide +kernel, by decide +kernel, by decide +kernel⟩
theorem mv_X7_originBits : MV yX7_originBits := ⟨wU_at 202 (by decide +kernel) rfl, wU_at 1 (by decide +kernel) rfl⟩
theorem m_X1_fillBest : MW yX1_fillBest cX1_fillBest 6 none 2 := ⟨wU_at 243 (by decide +kernel) rfl, wU_at 26 (by decide +kernel) rfl, by decide +kernel, by decide +kernel, by decide +kernel⟩
theorem mv_X1_fillBest : MV yX1_fillBest := ⟨wU_at 242 (by decide +kernel) rfl, wU_at 2 (by decide +kernel) rfl⟩
theorem m_X8_needPeer : MW yX8_needPeer cX8_needPeer 2 none 1 := ⟨wU_at 398 (by decide +kernel) rfl, wU_at 23 (by decide +kernel) rfl, by decide +kernel, by decide +kernel, by decide +kernel⟩
theorem mv_X8_needPeer : MV yX8_needPeer := ⟨wU_at 397 (by decide +kernel) rfl, wU_at 4 (by decide +kernel) rfl⟩
theorem m_X8_needPrefix : MW yX8_needPrefix cX8_needPrefix 3 (some (.object "Bgpreplay$Prefix")) 2 := ⟨wU_at 419 (by decide +kernel) rfl, wU_at 23 (by decide +kernel) rfl, by decide +kernel, by decide +kernel, by decide +kernel⟩
theorem mv_X8_needPrefix : MV yX8_needPrefix := ⟨wU_at 418 (by decide +kernel) rfl, wU_at 5 (by decide +kernel) rfl⟩
theorem m_X8_needRoomForUpdate : MW yX8_needRoomForUpdate cX8_needRoomForUpdate 1 none 0 := ⟨wU_at 458 (by decide +kernel) rfl, wU_at 23 (by decide +kernel) rfl, by decide +kernel, by decide +kernel, by decide +kernel⟩
theorem mv_X8_needRoomForUpdate : MV yX8_needRoomForUpdate := ⟨wU_at 457 (by decide +kernel) rfl, wU_at 6 (by decide +kernel) rfl⟩
theorem m_X8_endRoute : MW yX8_endRoute cX8_endRoute 2 none 1 := ⟨wU_at 468 (by decide +kernel) rfl, wU_at 23 (by decide +kernel) rfl, by decide +kernel, by decide +kernel, by decide +kernel⟩
theorem mv_X8_endRoute : MV yX8_endRoute := ⟨wU_at 467 (by decide +kernel) rfl, wU_at 7 (by decide +kernel) rfl⟩
theorem m_X8_needRoute : MW yX8_needRoute cX8_needRoute 5 (some (.object "Bgpreplay$Route")) 3 := ⟨wU_at 536 (by decide +kernel) rfl, wU_at 23 (by decide +kernel) rfl, by decide +kernel, by decide +kernel, by decide +kernel⟩
theorem mv_X8_needRoute : MV yX8_needRoute := ⟨wU_at 535 (by decide +kernel) rfl, wU_at 8 (by decide +kernel) rfl⟩
theorem m_X8_needAddress : MW yX8_needAddress cX8_needAddress 2 none 1 := ⟨wU_at 601 (by decide +kernel) rfl, wU_at 23 (by decide +kernel) rfl, by decide +kernel, by decide +kernel, by decide +kernel⟩
theorem mv_X8_needAddress : MV yX8_needAddress := ⟨wU_at 600 (by decide +kernel) rfl, wU_at 9 (by decide +kernel) rfl⟩
theorem m_X9_clearTable : MW yX9_clearTable cX9_clearTable 3 none 1 := ⟨wU_at 782 (by decide +kernel) rfl, wU_at 29 (by decide +kernel) rfl, by decide +kernel, by decide +kernel, by decide +kernel⟩
theorem mv_X9_clearTable : MV yX9_clearTable := ⟨wU_at 781 (by decide +kernel) rfl, wU_at 10 (by decide +kernel) rfl⟩
theorem m_X9_update : MW yX9_update cX9_update 5 none 3 := ⟨wU_at 875 (by decide +kernel) rfl, wU_at 29 (by decide +kernel) rfl, by decide +kernel, by decide +kernel, by decide +kernel⟩
theorem mv_X9_update : MV yX9_update := ⟨wU_at 874 (by decide +kernel) rfl, wU_at 11 (by decide +kernel) rfl⟩
theorem m_X9_apply : MW yX9_apply cX9_apply 4 none 2 := ⟨wU_at 879 (by decide +kernel) rfl, wU_at 29 (by decide +kernel) rfl, by decide +kernel, by decide +kernel, by decide +kernel⟩
theorem mv_X9_apply : MV yX9_apply := ⟨wU_at 878 (by decide +kernel) rfl, wU_at 12 (by decide +kernel) rfl⟩
theorem m_X9_route : MW yX9_route cX9_route 5 (some .int) 3 := ⟨wU_at 887 (by decide +kernel) rfl, wU_at 29 (by decide +kernel) rfl, by decide +kernel, by decide +kernel, by decide +kernel⟩
theorem mv_X9_route : MV yX9_route := ⟨wU_at 886 (by decide +kernel) rfl, wU_at 13 (by decide +kernel) rfl⟩
theorem m_X9_routesOf : MW yX9_routesOf cX9_routesOf 4 (some .int) 1 := ⟨wU_at 891 (by decide +kernel) rfl, wU_at 29 (by decide +kernel) rfl, by decide +kernel, by decide +kernel, by decide +kernel⟩
theorem mv_X9_routesOf : MV yX9_routesOf := ⟨wU_at 890 (by decide +kernel) rfl, wU_at 14 (by decide +kernel) rfl⟩
theorem m_X9_best : MW yX9_best cX9_best 6 (some .int) 2 := ⟨wU_at 911 (by decide +kernel) rfl, wU_at 29 (by decide +kernel) rfl, by decide +kernel, by decide +kernel, by decide +kernel⟩
theorem mv_X9_best : MV yX9_best := ⟨wU_at 910 (by decide +kernel) rfl, wU_at 15 (by decide +kernel) rfl⟩
theorem m_X9_lengthFound : MW yX9_lengthFound cX9_lengthFound 4 (some .int) 2 := ⟨wU_at 927 (by decide +kernel) rfl, wU_at 29 (by decide +kernel) rfl, by decide +kernel, by decide +kernel, by decide +kernel⟩
theorem mv_X9_lengthFound : MV yX9_lengthFound := ⟨wU_at 926 (by decide +kernel) rfl, wU_at 16 (by decide +kernel) rfl⟩
theorem m_X9_found : MW yX9_found cX9_found 4 (some .int) 2 := ⟨wU_at 931 (by decide +kernel) rfl, wU_at 29 (by decide +kernel) rfl, by decide +kernel, by decide +kernel, by decide +kernel⟩
theorem mv_X9_found : MV yX9_found := ⟨wU_at 930 (by decide +kernel) rfl, wU_at 17 (by decide +kernel) rfl⟩
theorem m_X9_originsOf : MW yX9_originsOf cX9_originsOf 7 (some .int) 1 := ⟨wU_at 947 (by decide +kernel) rfl, wU_at 29 (by decide +kernel) rfl, by decide +kernel, by decide +kernel, by decide +kernel⟩
theorem mv_X9_originsOf : MV yX9_originsOf := ⟨wU_at 946 (by decide +kernel) rfl, wU_at 18 (by decide +kernel) rfl⟩
theorem m_X9_origin : MW yX9_origin cX9_origin 2 (some .int) 1 := ⟨wU_at 951 (by decide +kernel) rfl, wU_at 29 (by decide +kernel) rfl, by decide +kernel, by decide +kernel, by decide +kernel⟩
theorem mv_X9_origin : MV yX9_origin := ⟨wU_at 950 (by decide +kernel) rfl, wU_at 19 (by decide +kernel) rfl⟩
theorem m_X9_replay : MW yX9_replay cX9_replay 4 none 2 := ⟨wU_at 986 (by decide +kernel) rfl, wU_at 29 (by decide +kernel) rfl, by decide +kernel, by decide +kernel, by decide +kernel⟩
theorem mv_X9_replay : MV yX9_replay := ⟨wU_at 985 (by decide +kernel) rfl, wU_at 20 (by decide +kernel) rfl⟩
theorem m_X9_areAlike : MW yX9_areAlike cX9_areAlike 5 (some .boolean) 2 := ⟨wU_at 998 (by decide +kernel) rfl, wU_at 29 (by decide +kernel) rfl, by decide +kernel, by decide +kernel, by decide +kernel⟩
theorem mv_X9_areAlike : MV yX9_areAlike := ⟨wU_at 997 (by decide +kernel) rfl, wU_at 21 (by decide +kernel) rfl⟩
theorem m_X8_init : MW yX8_init cX8_init 1 none 0 := ⟨wU_at 45 (by decide +kernel) rfl, wU_at 23 (by decide +kernel) rfl, by decide +kernel, by decide +kernel, by decide +kernel⟩
theorem mi_X8_init : Cond.instanceMethod yX8_init ∈ wU := wU_at 44 (by decide +kernel) rfl
theorem m_X2_init : MW yX2_init cX2_init 1 none 0 := ⟨wU_at 53 (by decide +kernel) rfl, wU_at 24 (by decide +kernel) rfl, by decide +kernel, by decide +kernel, by decide +kernel⟩
theorem mi_X2_init : Cond.instanceMethod yX2_init ∈ wU := wU_at 52 (by decide +kernel) rfl
theorem m_X7_init : MW yX7_init cX7_init 1 none 0 := ⟨wU_at 67 (by decide +kernel) rfl, wU_at 25 (by decide +kernel) rfl, by decide +kernel, by decide +kernel, by decide +kernel⟩
theorem mi_X7_init : Cond.instanceMethod yX7_init ∈ wU := wU_at 66 (by decide +kernel) rfl
theorem m_X1_init : MW yX1_init cX1_init 1 none 0 := ⟨wU_at 85 (by decide +kernel) rfl, wU_at 26 (by decide +kernel) rfl, by decide +kernel, by decide +kernel, by decide +kernel⟩
theorem mi_X1_init : Cond.instanceMethod yX1_init ∈ wU := wU_at 84 (by decide +kernel) rfl
theorem m_X4_init : MW yX4_init cX4_init 1 none 0 := ⟨wU_at 111 (by decide +kernel) rfl, wU_at 27 (by decide +kernel) rfl, by decide +kernel, by decide +kernel, by decide +kernel⟩
theorem mi_X4_init : Cond.instanceMethod yX4_init ∈ wU := wU_at 110 (by decide +kernel) rfl
theorem m_X5_init : MW yX5_init cX5_init 1 none 0 := ⟨wU_at 126 (by decide +kernel) rfl, wU_at 28 (by decide +kernel) rfl, by decide +kernel, by decide +kernel, by decide +kernel⟩
theorem mi_X5_init : Cond.instanceMethod yX5_init ∈ wU := wU_at 125 (by decide +kernel) rfl
theorem m_X8_now : MW yX8_now cX8_now 1 (some .int) 0 := ⟨wU_at 156 (by decide +kernel) rfl, wU_at 23 (by decide +kernel) rfl, by decide +kernel, by decide +kernel, by decide +kernel⟩
theorem mv_X8_now : MV yX8_now := ⟨wU_at 154 (by decide +kernel) rfl, wU_at 155 (by decide +kernel) rfl⟩
theorem m_X8_clearPath : MW yX8_clearPath cX8_clearPath 2 (some .int) 0 := ⟨wU_at 160 (by decide +kernel) rfl, wU_at 23 (by decide +kernel) rfl, by decide +kernel, by decide +kernel, by decide +kernel⟩
theorem mv_X8_clearPath : MV yX8_clearPath := ⟨wU_at 158 (by decide +kernel) rfl, wU_at 159 (by decide +kernel) rfl⟩
theorem m_X2_size : MW yX2_size cX2_size 1 (some .int) 0 := ⟨wU_at 164 (by decide +kernel) rfl, wU_at 24 (by decide +kernel) rfl, by decide +kernel, by decide +kernel, by decide +kernel⟩
theorem mv_X2_size : MV yX2_size := ⟨wU_at 162 (by decide +kernel) rfl, wU_at 163 (by decide +kernel) rfl⟩
theorem m_X2_clear : MW yX2_clear cX2_clear 1 none 0 := ⟨wU_at 168 (by decide +kernel) rfl, wU_at 24 (by decide +kernel) rfl, by decide +kernel, by decide +kernel, by decide +kernel⟩
theorem mv_X2_clear : MV yX2_clear := ⟨wU_at 166 (by decide +kernel) rfl, wU_at 167 (by decide +kernel) rfl⟩
theorem m_X8_updates : MW yX8_updates cX8_updates 1 (some .int) 0 := ⟨wU_at 172 (by decide +kernel) rfl, wU_at 23 (by decide +kernel) rfl, by decide +kernel, by decide +kernel, by decide +kernel⟩
theorem mv_X8_updates : MV yX8_updates := ⟨wU_at 170 (by decide +kernel) rfl, wU_at 171 (by decide +kernel) rfl⟩
theorem m_X1_size : MW yX1_size cX1_size 1 (some .int) 0 := ⟨wU_at 176 (by decide +kernel) rfl, wU_at 26 (by decide +kernel) rfl, by decide +kernel, by decide +kernel, by decide +kernel⟩
theorem mv_X1_size : MV yX1_size := ⟨wU_at 174 (by decide +kernel) rfl, wU_at 175 (by decide +kernel) rfl⟩
theorem m_X8_prefixes : MW yX8_prefixes cX8_prefixes 1 (some .int) 0 := ⟨wU_at 180 (by decide +kernel) rfl, wU_at 23 (by decide +kernel) rfl, by decide +kernel, by decide +kernel, by decide +kernel⟩
theorem mv_X8_prefixes : MV yX8_prefixes := ⟨wU_at 178 (by decide +kernel) rfl, wU_at 179 (by decide +kernel) rfl⟩
theorem m_X7_countPrefixes : MW yX7_countPrefixes cX7_countPrefixes 3 (some .int) 0 := ⟨wU_at 184 (by decide +kernel) rfl, wU_at 25 (by decide +kernel) rfl, by decide +kernel, by decide +kernel, by decide +kernel⟩
theorem mv_X7_countPrefixes : MV yX7_countPrefixes := ⟨wU_at 182 (by decide +kernel) rfl, wU_at 183 (by decide +kernel) rfl⟩
theorem m_X8_isPrefixNumber : MW yX8_isPrefixNumber cX8_isPrefixNumber 1 (some .boolean) 1 := ⟨wU_at 191 (by decide +kernel) rfl, wU_at 23 (by decide +kernel) rfl, by decide +kernel, by decide +kernel, by decide +kernel⟩
theorem ms_X8_isPrefixNumber : Cond.static yX8_isPrefixNumber ∈ wU := wU_at 190 (by decide +kernel) rfl
theorem m_X8_contested : MW yX8_contested cX8_contested 3 (some .int) 0 := ⟨wU_at 195 (by decide +kernel) rfl, wU_at 23 (by decide +kernel) rfl, by decide +kernel, by decide +kernel, by decide +kernel⟩
theorem mv_X8_contested : MV yX8_contested := ⟨wU_at 193 (by decide +kernel) rfl, wU_at 194 (by decide +kernel) rfl⟩
theorem m_X7_countOrigins : MW yX7_countOrigins cX7_countOrigins 2 (some .int) 1 := ⟨wU_at 199 (by decide +kernel) rfl, wU_at 25 (by decide +kernel) rfl, by decide +kernel, by decide +kernel, by decide +kernel⟩
theorem mv_X7_countOrigins : MV yX7_countOrigins := ⟨wU_at 197 (by decide +kernel) rfl, wU_at 198 (by decide +kernel) rfl⟩
theorem m_X7_routeOf : MW yX7_routeOf cX7_routeOf 4 (some (.object "Bgpreplay$Route")) 2 := ⟨wU_at 207 (by decide +kernel) rfl, wU_at 25 (by decide +kernel) rfl, by decide +kernel, by decide +kernel, by decide +kernel⟩
theorem mv_X7_routeOf : MV yX7_routeOf := ⟨wU_at 205 (by decide +kernel) rfl, wU_at 206 (by decide +kernel) rfl⟩
theorem m_X7_cellOf : MW yX7_cellOf cX7_cellOf 2 (some .int) 2 := ⟨wU_at 210 (by decide +kernel) rfl, wU_at 25 (by decide +kernel) rfl, by decide +kernel, by decide +kernel, by decide +kernel⟩
theorem ms_X7_cellOf : Cond.static yX7_cellOf ∈ wU := wU_at 209 (by decide +kernel) rfl
theorem m_X8_isPeer : MW yX8_isPeer cX8_isPeer 1 (some .boolean) 1 := ⟨wU_at 213 (by decide +kernel) rfl, wU_at 23 (by decide +kernel) rfl, by decide +kernel, by decide +kernel, by decide +kernel⟩
theorem ms_X8_isPeer : Cond.static yX8_isPeer ∈ wU := wU_at 212 (by decide +kernel) rfl
theorem m_X2_origin : MW yX2_origin cX2_origin 1 (some .int) 0 := ⟨wU_at 217 (by decide +kernel) rfl, wU_at 24 (by decide +kernel) rfl, by decide +kernel, by decide +kernel, by decide +kernel⟩
theorem mv_X2_origin : MV yX2_origin := ⟨wU_at 215 (by decide +kernel) rfl, wU_at 216 (by decide +kernel) rfl⟩
theorem m_X2_networkAt : MW yX2_networkAt cX2_networkAt 2 (some .int) 1 := ⟨wU_at 221 (by decide +kernel) rfl, wU_at 24 (by decide +kernel) rfl, by decide +kernel, by decide +kernel, by decide +kernel⟩
theorem mv_X2_networkAt : MV yX2_networkAt := ⟨wU_at 219 (by decide +kernel) rfl, wU_at 220 (by decide +kernel) rfl⟩
theorem m_J6_bitCount_0f7a4 : MW yJ6_bitCount_0f7a4 cJ6_bitCount_0f7a4 1 (some .int) 1 := ⟨wU_at 224 (by decide +kernel) rfl, wU_at 39 (by decide +kernel) rfl, by decide +kernel, by decide +kernel, by decide +kernel⟩
theorem ms_J6_bitCount_0f7a4 : Cond.static yJ6_bitCount_0f7a4 ∈ wU := wU_at 223 (by decide +kernel) rfl
theorem m_X8_changes : MW yX8_changes cX8_changes 3 (some .int) 2 := ⟨wU_at 231 (by decide +kernel) rfl, wU_at 23 (by decide +kernel) rfl, by decide +kernel, by decide +kernel, by decide +kernel⟩
theorem mv_X8_changes : MV yX8_changes := ⟨wU_at 229 (by decide +kernel) rfl, wU_at 230 (by decide +kernel) rfl⟩
theorem m_X1_sizeAt : MW yX1_sizeAt cX1_sizeAt 3 (some .int) 1 := ⟨wU_at 235 (by decide +kernel) rfl, wU_at 26 (by decide +kernel) rfl, by decide +kernel, by decide +kernel, by decide +kernel⟩
theorem mv_X1_sizeAt : MV yX1_sizeAt := ⟨wU_at 233 (by decide +kernel) rfl, wU_at 234 (by decide +kernel) rfl⟩
theorem m_X1_countUnlike : MW yX1_countUnlike cX1_countUnlike 5 (some .int) 2 := ⟨wU_at 239 (by decide +kernel) rfl, wU_at 26 (by decide +kernel) rfl, by decide +kernel, by decide +kernel, by decide +kernel⟩
theorem mv_X1_countUnlike : MV yX1_countUnlike := ⟨wU_at 237 (by decide +kernel) rfl, wU_at 238 (by decide +kernel) rfl⟩
theorem m_X6_standsAfter : MW yX6_standsAfter cX6_standsAfter 2 (some .boolean) 1 := ⟨wU_at 247 (by decide +kernel) rfl, wU_at 37 (by decide +kernel) rfl, by decide +kernel, by decide +kernel, by decide +kernel⟩
theorem mv_X6_standsAfter : MV yX6_standsAfter := ⟨wU_at 245 (by decide +kernel) rfl, wU_at 246 (by decide +kernel) rfl⟩
theorem m_X6_isBetterThan : MW yX6_isBetterThan cX6_isBetterThan 2 (some .boolean) 1 := ⟨wU_at 252 (by decide +kernel) rfl, wU_at 37 (by decide +kernel) rfl, by decide +kernel, by decide +kernel, by decide +kernel⟩
theorem mv_X6_isBetterThan : MV yX6_isBetterThan := ⟨wU_at 250 (by decide +kernel) rfl, wU_at 251 (by decide +kernel) rfl⟩
theorem m_X1_areUnlike : MW yX1_areUnlike cX1_areUnlike 2 (some .boolean) 2 := ⟨wU_at 256 (by decide +kernel) rfl, wU_at 26 (by decide +kernel) rfl, by decide +kernel, by decide +kernel, by decide +kernel⟩
theorem ms_X1_areUnlike : Cond.static yX1_areUnlike ∈ wU := wU_at 255 (by decide +kernel) rfl
theorem m_X6_isLike : MW yX6_isLike cX6_isLike 2 (some .boolean) 1 := ⟨wU_at 260 (by decide +kernel) rfl, wU_at 37 (by decide +kernel) rfl, by decide +kernel, by decide +kernel, by decide +kernel⟩
theorem mv_X6_isLike : MV yX6_isLike := ⟨wU_at 258 (by decide +kernel) rfl, wU_at 259 (by decide +kernel) rfl⟩
theorem m_X2_isLike : MW yX2_isLike cX2_isLike 3 (some .boolean) 1 := ⟨wU_at 264 (by decide +kernel) rfl, wU_at 24 (by decide +kernel) rfl, by decide +kernel, by decide +kernel, by decide +kernel⟩
theorem mv_X2_isLike : MV yX2_isLike := ⟨wU_at 262 (by decide +kernel) rfl, wU_at 263 (by decide +kernel) rfl⟩
theorem m_X8_pass : MW yX8_pass cX8_pass 2 (some .int) 1 := ⟨wU_at 273 (by decide +kernel) rfl, wU_at 23 (by decide +kernel) rfl, by decide +kernel, by decide +kernel, by decide +kernel⟩
theorem mv_X8_pass : MV yX8_pass := ⟨wU_at 271 (by decide +kernel) rfl, wU_at 272 (by decide +kernel) rfl⟩
theorem m_X8_hop : MW yX8_hop cX8_hop 2 (some .int) 1 := ⟨wU_at 366 (by decide +kernel) rfl, wU_at 23 (by decide +kernel) rfl, by decide +kernel, by decide +kernel, by decide +kernel⟩
theorem mv_X8_hop : MV yX8_hop := ⟨wU_at 364 (by decide +kernel) rfl, wU_at 365 (by decide +kernel) rfl⟩
theorem m_X8_isNetwork : MW yX8_isNetwork cX8_isNetwork 1 (some .boolean) 1 := ⟨wU_at 369 (by decide +kernel) rfl, wU_at 23 (by decide +kernel) rfl, by decide +kernel, by decide +kernel, by decide +kernel⟩
theorem ms_X8_isNetwork : Cond.static yX8_isNetwork ∈ wU := wU_at 368 (by decide +kernel) rfl
theorem m_X2_isFull : MW yX2_isFull cX2_isFull 1 (some .boolean) 0 := ⟨wU_at 374 (by decide +kernel) rfl, wU_at 24 (by decide +kernel) rfl, by decide +kernel, by decide +kernel, by decide +kernel⟩
theorem mv_X2_isFull : MV yX2_isFull := ⟨wU_at 372 (by decide +kernel) rfl, wU_at 373 (by decide +kernel) rfl⟩
theorem m_X2_hasLeft : MW yX2_hasLeft cX2_hasLeft 3 (some .boolean) 1 := ⟨wU_at 379 (by decide +kernel) rfl, wU_at 24 (by decide +kernel) rfl, by decide +kernel, by decide +kernel, by decide +kernel⟩
theorem mv_X2_hasLeft : MV yX2_hasLeft := ⟨wU_at 377 (by decide +kernel) rfl, wU_at 378 (by decide +kernel) rfl⟩
theorem m_X2_add : MW yX2_add cX2_add 2 none 1 := ⟨wU_at 385 (by decide +kernel) rfl, wU_at 24 (by decide +kernel) rfl, by decide +kernel, by decide +kernel, by decide +kernel⟩
theorem mv_X2_add : MV yX2_add := ⟨wU_at 383 (by decide +kernel) rfl, wU_at 384 (by decide +kernel) rfl⟩
theorem m_X8_announce : MW yX8_announce cX8_announce 7 (some .boolean) 3 := ⟨wU_at 394 (by decide +kernel) rfl, wU_at 23 (by decide +kernel) rfl, by decide +kernel, by decide +kernel, by decide +kernel⟩
theorem mv_X8_announce : MV yX8_announce := ⟨wU_at 392 (by decide +kernel) rfl, wU_at 393 (by decide +kernel) rfl⟩
theorem m_X8_isPrefix : MW yX8_isPrefix cX8_isPrefix 3 (some .boolean) 2 := ⟨wU_at 422 (by decide +kernel) rfl, wU_at 23 (by decide +kernel) rfl, by decide +kernel, by decide +kernel, by decide +kernel⟩
theorem ms_X8_isPrefix : Cond.static yX8_isPrefix ∈ wU := wU_at 421 (by decide +kernel) rfl
theorem m_X8_isAddress : MW yX8_isAddress cX8_isAddress 1 (some .boolean) 1 := ⟨wU_at 425 (by decide +kernel) rfl, wU_at 23 (by decide +kernel) rfl, by decide +kernel, by decide +kernel, by decide +kernel⟩
theorem ms_X8_isAddress : Cond.static yX8_isAddress ∈ wU := wU_at 424 (by decide +kernel) rfl
theorem m_X3_init : MW yX3_init cX3_init 3 none 2 := ⟨wU_at 431 (by decide +kernel) rfl, wU_at 36 (by decide +kernel) rfl, by decide +kernel, by decide +kernel, by decide +kernel⟩
theorem mi_X3_init : Cond.instanceMethod yX3_init ∈ wU := wU_at 430 (by decide +kernel) rfl
theorem m_X8_prefixNumber : MW yX8_prefixNumber cX8_prefixNumber 2 (some .int) 2 := ⟨wU_at 435 (by decide +kernel) rfl, wU_at 23 (by decide +kernel) rfl, by decide +kernel, by decide +kernel, by decide +kernel⟩
theorem ms_X8_prefixNumber : Cond.static yX8_prefixNumber ∈ wU := wU_at 434 (by decide +kernel) rfl
theorem m_X8_networkOf : MW yX8_networkOf cX8_networkOf 1 (some .int) 1 := ⟨wU_at 453 (by decide +kernel) rfl, wU_at 23 (by decide +kernel) rfl, by decide +kernel, by decide +kernel, by decide +kernel⟩
theorem ms_X8_networkOf : Cond.static yX8_networkOf ∈ wU := wU_at 452 (by decide +kernel) rfl
theorem m_X1_isFull : MW yX1_isFull cX1_isFull 1 (some .boolean) 0 := ⟨wU_at 462 (by decide +kernel) rfl, wU_at 26 (by decide +kernel) rfl, by decide +kernel, by decide +kernel, by decide +kernel⟩
theorem mv_X1_isFull : MV yX1_isFull := ⟨wU_at 460 (by decide +kernel) rfl, wU_at 461 (by decide +kernel) rfl⟩
theorem m_X7_remove : MW yX7_remove cX7_remove 4 none 1 := ⟨wU_at 472 (by decide +kernel) rfl, wU_at 25 (by decide +kernel) rfl, by decide +kernel, by decide +kernel, by decide +kernel⟩
theorem mv_X7_remove : MV yX7_remove := ⟨wU_at 470 (by decide +kernel) rfl, wU_at 471 (by decide +kernel) rfl⟩
theorem m_X2_copy : MW yX2_copy cX2_copy 3 (some (.object "Bgpreplay$Path")) 0 := ⟨wU_at 478 (by decide +kernel) rfl, wU_at 24 (by decide +kernel) rfl, by decide +kernel, by decide +kernel, by decide +kernel⟩
theorem mv_X2_copy : MV yX2_copy := ⟨wU_at 476 (by decide +kernel) rfl, wU_at 477 (by decide +kernel) rfl⟩
theorem m_X6_init : MW yX6_init cX6_init 5 none 4 := ⟨wU_at 484 (by decide +kernel) rfl, wU_at 37 (by decide +kernel) rfl, by decide +kernel, by decide +kernel, by decide +kernel⟩
theorem mi_X6_init : Cond.instanceMethod yX6_init ∈ wU := wU_at 483 (by decide +kernel) rfl
theorem m_X7_put : MW yX7_put cX7_put 4 none 1 := ⟨wU_at 515 (by decide +kernel) rfl, wU_at 25 (by decide +kernel) rfl, by decide +kernel, by decide +kernel, by decide +kernel⟩
theorem mv_X7_put : MV yX7_put := ⟨wU_at 513 (by decide +kernel) rfl, wU_at 514 (by decide +kernel) rfl⟩
theorem m_X1_keep : MW yX1_keep cX1_keep 2 none 1 := ⟨wU_at 519 (by decide +kernel) rfl, wU_at 26 (by decide +kernel) rfl, by decide +kernel, by decide +kernel, by decide +kernel⟩
theorem mv_X1_keep : MV yX1_keep := ⟨wU_at 517 (by decide +kernel) rfl, wU_at 518 (by decide +kernel) rfl⟩
theorem m_X1_noteUpdate : MW yX1_noteUpdate cX1_noteUpdate 2 none 1 := ⟨wU_at 523 (by decide +kernel) rfl, wU_at 26 (by decide +kernel) rfl, by decide +kernel, by decide +kernel, by decide +kernel⟩
theorem mv_X1_noteUpdate : MV yX1_noteUpdate := ⟨wU_at 521 (by decide +kernel) rfl, wU_at 522 (by decide +kernel) rfl⟩
theorem m_X8_withdraw : MW yX8_withdraw cX8_withdraw 5 (some .int) 3 := ⟨wU_at 532 (by decide +kernel) rfl, wU_at 23 (by decide +kernel) rfl, by decide +kernel, by decide +kernel, by decide +kernel⟩
theorem mv_X8_withdraw : MV yX8_withdraw := ⟨wU_at 530 (by decide +kernel) rfl, wU_at 531 (by decide +kernel) rfl⟩
theorem m_X7_countOfPeer : MW yX7_countOfPeer cX7_countOfPeer 2 (some .int) 1 := ⟨wU_at 556 (by decide +kernel) rfl, wU_at 25 (by decide +kernel) rfl, by decide +kernel, by decide +kernel, by decide +kernel⟩
theorem mv_X7_countOfPeer : MV yX7_countOfPeer := ⟨wU_at 554 (by decide +kernel) rfl, wU_at 555 (by decide +kernel) rfl⟩
theorem m_X8_drop : MW yX8_drop cX8_drop 5 (some .int) 1 := ⟨wU_at 563 (by decide +kernel) rfl, wU_at 23 (by decide +kernel) rfl, by decide +kernel, by decide +kernel, by decide +kernel⟩
theorem mv_X8_drop : MV yX8_drop := ⟨wU_at 561 (by decide +kernel) rfl, wU_at 562 (by decide +kernel) rfl⟩
theorem m_X8_routes : MW yX8_routes cX8_routes 2 (some .int) 1 := ⟨wU_at 570 (by decide +kernel) rfl, wU_at 23 (by decide +kernel) rfl, by decide +kernel, by decide +kernel, by decide +kernel⟩
theorem mv_X8_routes : MV yX8_routes := ⟨wU_at 568 (by decide +kernel) rfl, wU_at 569 (by decide +kernel) rfl⟩
theorem m_X8_pathAt : MW yX8_pathAt cX8_pathAt 5 (some .int) 4 := ⟨wU_at 577 (by decide +kernel) rfl, wU_at 23 (by decide +kernel) rfl, by decide +kernel, by decide +kernel, by decide +kernel⟩
theorem mv_X8_pathAt : MV yX8_pathAt := ⟨wU_at 575 (by decide +kernel) rfl, wU_at 576 (by decide +kernel) rfl⟩
theorem m_X8_bestPeer : MW yX8_bestPeer cX8_bestPeer 4 (some .int) 2 := ⟨wU_at 585 (by decide +kernel) rfl, wU_at 23 (by decide +kernel) rfl, by decide +kernel, by decide +kernel, by decide +kernel⟩
theorem mv_X8_bestPeer : MV yX8_bestPeer := ⟨wU_at 583 (by decide +kernel) rfl, wU_at 584 (by decide +kernel) rfl⟩
theorem m_X7_bestOf : MW yX7_bestOf cX7_bestOf 5 (some (.object "Bgpreplay$Route")) 1 := ⟨wU_at 589 (by decide +kernel) rfl, wU_at 25 (by decide +kernel) rfl, by decide +kernel, by decide +kernel, by decide +kernel⟩
theorem mv_X7_bestOf : MV yX7_bestOf := ⟨wU_at 587 (by decide +kernel) rfl, wU_at 588 (by decide +kernel) rfl⟩
theorem m_X8_lookUp : MW yX8_lookUp cX8_lookUp 2 (some .int) 1 := ⟨wU_at 597 (by decide +kernel) rfl, wU_at 23 (by decide +kernel) rfl, by decide +kernel, by decide +kernel, by decide +kernel⟩
theorem mv_X8_lookUp : MV yX8_lookUp := ⟨wU_at 595 (by decide +kernel) rfl, wU_at 596 (by decide +kernel) rfl⟩
theorem m_X7_longestLengthFor : MW yX7_longestLengthFor cX7_longestLengthFor 4 (some .int) 1 := ⟨wU_at 606 (by decide +kernel) rfl, wU_at 25 (by decide +kernel) rfl, by decide +kernel, by decide +kernel, by decide +kernel⟩
theorem mv_X7_longestLengthFor : MV yX7_longestLengthFor := ⟨wU_at 604 (by decide +kernel) rfl, wU_at 605 (by decide +kernel) rfl⟩
theorem m_X8_lookUpByScan : MW yX8_lookUpByScan cX8_lookUpByScan 2 (some .int) 1 := ⟨wU_at 614 (by decide +kernel) rfl, wU_at 23 (by decide +kernel) rfl, by decide +kernel, by decide +kernel, by decide +kernel⟩
theorem mv_X8_lookUpByScan : MV yX8_lookUpByScan := ⟨wU_at 612 (by decide +kernel) rfl, wU_at 613 (by decide +kernel) rfl⟩
theorem m_X1_routeFor : MW yX1_routeFor cX1_routeFor 6 (some (.object "Bgpreplay$Route")) 2 := ⟨wU_at 618 (by decide +kernel) rfl, wU_at 26 (by decide +kernel) rfl, by decide +kernel, by decide +kernel, by decide +kernel⟩
theorem mv_X1_routeFor : MV yX1_routeFor := ⟨wU_at 616 (by decide +kernel) rfl, wU_at 617 (by decide +kernel) rfl⟩
theorem m_X3_has : MW yX3_has cX3_has 2 (some .boolean) 1 := ⟨wU_at 622 (by decide +kernel) rfl, wU_at 36 (by decide +kernel) rfl, by decide +kernel, by decide +kernel, by decide +kernel⟩
theorem mv_X3_has : MV yX3_has := ⟨wU_at 620 (by decide +kernel) rfl, wU_at 621 (by decide +kernel) rfl⟩
theorem m_X6_isFoundBefore : MW yX6_isFoundBefore cX6_isFoundBefore 2 (some .boolean) 1 := ⟨wU_at 626 (by decide +kernel) rfl, wU_at 37 (by decide +kernel) rfl, by decide +kernel, by decide +kernel, by decide +kernel⟩
theorem mv_X6_isFoundBefore : MV yX6_isFoundBefore := ⟨wU_at 624 (by decide +kernel) rfl, wU_at 625 (by decide +kernel) rfl⟩
theorem m_X8_lengthOf : MW yX8_lengthOf cX8_lengthOf 1 (some .int) 1 := ⟨wU_at 630 (by decide +kernel) rfl, wU_at 23 (by decide +kernel) rfl, by decide +kernel, by decide +kernel, by decide +kernel⟩
theorem ms_X8_lengthOf : Cond.static yX8_lengthOf ∈ wU := wU_at 629 (by decide +kernel) rfl
theorem m_X8_origins : MW yX8_origins cX8_origins 3 (some .int) 2 := ⟨wU_at 637 (by decide +kernel) rfl, wU_at 23 (by decide +kernel) rfl, by decide +kernel, by decide +kernel, by decide +kernel⟩
theorem mv_X8_origins : MV yX8_origins := ⟨wU_at 635 (by decide +kernel) rfl, wU_at 636 (by decide +kernel) rfl⟩
theorem m_X8_isHijack : MW yX8_isHijack cX8_isHijack 6 (some .boolean) 3 := ⟨wU_at 644 (by decide +kernel) rfl, wU_at 23 (by decide +kernel) rfl, by decide +kernel, by decide +kernel, by decide +kernel⟩
theorem mv_X8_isHijack : MV yX8_isHijack := ⟨wU_at 642 (by decide +kernel) rfl, wU_at 643 (by decide +kernel) rfl⟩
theorem m_X7_nearestAbove : MW yX7_nearestAbove cX7_nearestAbove 3 (some .int) 1 := ⟨wU_at 648 (by decide +kernel) rfl, wU_at 25 (by decide +kernel) rfl, by decide +kernel, by decide +kernel, by decide +kernel⟩
theorem mv_X7_nearestAbove : MV yX7_nearestAbove := ⟨wU_at 646 (by decide +kernel) rfl, wU_at 647 (by decide +kernel) rfl⟩
theorem m_X7_hasOrigin : MW yX7_hasOrigin cX7_hasOrigin 3 (some .boolean) 2 := ⟨wU_at 653 (by decide +kernel) rfl, wU_at 25 (by decide +kernel) rfl, by decide +kernel, by decide +kernel, by decide +kernel⟩
theorem mv_X7_hasOrigin : MV yX7_hasOrigin := ⟨wU_at 651 (by decide +kernel) rfl, wU_at 652 (by decide +kernel) rfl⟩
theorem m_X8_allow : MW yX8_allow cX8_allow 8 (some .boolean) 4 := ⟨wU_at 660 (by decide +kernel) rfl, wU_at 23 (by decide +kernel) rfl, by decide +kernel, by decide +kernel, by decide +kernel⟩
theorem mv_X8_allow : MV yX8_allow := ⟨wU_at 658 (by decide +kernel) rfl, wU_at 659 (by decide +kernel) rfl⟩
theorem m_X0_init : MW yX0_init cX0_init 4 none 3 := ⟨wU_at 666 (by decide +kernel) rfl, wU_at 40 (by decide +kernel) rfl, by decide +kernel, by decide +kernel, by decide +kernel⟩
theorem mi_X0_init : Cond.instanceMethod yX0_init ∈ wU := wU_at 665 (by decide +kernel) rfl
theorem m_X4_placeOf : MW yX4_placeOf cX4_placeOf 4 (some .int) 1 := ⟨wU_at 681 (by decide +kernel) rfl, wU_at 27 (by decide +kernel) rfl, by decide +kernel, by decide +kernel, by decide +kernel⟩
theorem mv_X4_placeOf : MV yX4_placeOf := ⟨wU_at 679 (by decide +kernel) rfl, wU_at 680 (by decide +kernel) rfl⟩
theorem m_X0_isLike : MW yX0_isLike cX0_isLike 2 (some .boolean) 1 := ⟨wU_at 685 (by decide +kernel) rfl, wU_at 40 (by decide +kernel) rfl, by decide +kernel, by decide +kernel, by decide +kernel⟩
theorem mv_X0_isLike : MV yX0_isLike := ⟨wU_at 683 (by decide +kernel) rfl, wU_at 684 (by decide +kernel) rfl⟩
theorem m_X4_takeOut : MW yX4_takeOut cX4_takeOut 2 none 1 := ⟨wU_at 689 (by decide +kernel) rfl, wU_at 27 (by decide +kernel) rfl, by decide +kernel, by decide +kernel, by decide +kernel⟩
theorem mv_X4_takeOut : MV yX4_takeOut := ⟨wU_at 687 (by decide +kernel) rfl, wU_at 688 (by decide +kernel) rfl⟩
theorem m_X4_isFull : MW yX4_isFull cX4_isFull 1 (some .boolean) 0 := ⟨wU_at 693 (by decide +kernel) rfl, wU_at 27 (by decide +kernel) rfl, by decide +kernel, by decide +kernel, by decide +kernel⟩
theorem mv_X4_isFull : MV yX4_isFull := ⟨wU_at 691 (by decide +kernel) rfl, wU_at 692 (by decide +kernel) rfl⟩
theorem m_X4_add : MW yX4_add cX4_add 2 none 1 := ⟨wU_at 698 (by decide +kernel) rfl, wU_at 27 (by decide +kernel) rfl, by decide +kernel, by decide +kernel, by decide +kernel⟩
theorem mv_X4_add : MV yX4_add := ⟨wU_at 696 (by decide +kernel) rfl, wU_at 697 (by decide +kernel) rfl⟩
theorem m_X8_verdict : MW yX8_verdict cX8_verdict 4 (some .int) 3 := ⟨wU_at 706 (by decide +kernel) rfl, wU_at 23 (by decide +kernel) rfl, by decide +kernel, by decide +kernel, by decide +kernel⟩
theorem mv_X8_verdict : MV yX8_verdict := ⟨wU_at 704 (by decide +kernel) rfl, wU_at 705 (by decide +kernel) rfl⟩
theorem m_X4_judge : MW yX4_judge cX4_judge 5 (some .int) 1 := ⟨wU_at 710 (by decide +kernel) rfl, wU_at 27 (by decide +kernel) rfl, by decide +kernel, by decide +kernel, by decide +kernel⟩
theorem mv_X4_judge : MV yX4_judge := ⟨wU_at 708 (by decide +kernel) rfl, wU_at 709 (by decide +kernel) rfl⟩
theorem m_X0_concerns : MW yX0_concerns cX0_concerns 2 (some .boolean) 1 := ⟨wU_at 714 (by decide +kernel) rfl, wU_at 40 (by decide +kernel) rfl, by decide +kernel, by decide +kernel, by decide +kernel⟩
theorem mv_X0_concerns : MV yX0_concerns := ⟨wU_at 712 (by decide +kernel) rfl, wU_at 713 (by decide +kernel) rfl⟩
theorem m_X3_covers : MW yX3_covers cX3_covers 2 (some .boolean) 1 := ⟨wU_at 718 (by decide +kernel) rfl, wU_at 36 (by decide +kernel) rfl, by decide +kernel, by decide +kernel, by decide +kernel⟩
theorem mv_X3_covers : MV yX3_covers := ⟨wU_at 716 (by decide +kernel) rfl, wU_at 717 (by decide +kernel) rfl⟩
theorem m_X0_permits : MW yX0_permits cX0_permits 2 (some .boolean) 1 := ⟨wU_at 722 (by decide +kernel) rfl, wU_at 40 (by decide +kernel) rfl, by decide +kernel, by decide +kernel, by decide +kernel⟩
theorem mv_X0_permits : MV yX0_permits := ⟨wU_at 720 (by decide +kernel) rfl, wU_at 721 (by decide +kernel) rfl⟩
theorem m_X8_relate : MW yX8_relate cX8_relate 5 (some .int) 3 := ⟨wU_at 730 (by decide +kernel) rfl, wU_at 23 (by decide +kernel) rfl, by decide +kernel, by decide +kernel, by decide +kernel⟩
theorem mv_X8_relate : MV yX8_relate := ⟨wU_at 728 (by decide +kernel) rfl, wU_at 729 (by decide +kernel) rfl⟩
theorem m_X5_between : MW yX5_between cX5_between 3 (some .int) 2 := ⟨wU_at 736 (by decide +kernel) rfl, wU_at 28 (by decide +kernel) rfl, by decide +kernel, by decide +kernel, by decide +kernel⟩
theorem mv_X5_between : MV yX5_between := ⟨wU_at 734 (by decide +kernel) rfl, wU_at 735 (by decide +kernel) rfl⟩
theorem m_X5_put : MW yX5_put cX5_put 4 none 3 := ⟨wU_at 741 (by decide +kernel) rfl, wU_at 28 (by decide +kernel) rfl, by decide +kernel, by decide +kernel, by decide +kernel⟩
theorem mv_X5_put : MV yX5_put := ⟨wU_at 739 (by decide +kernel) rfl, wU_at 740 (by decide +kernel) rfl⟩
theorem m_X8_reverseOf : MW yX8_reverseOf cX8_reverseOf 1 (some .int) 1 := ⟨wU_at 744 (by decide +kernel) rfl, wU_at 23 (by decide +kernel) rfl, by decide +kernel, by decide +kernel, by decide +kernel⟩
theorem ms_X8_reverseOf : Cond.static yX8_reverseOf ∈ wU := wU_at 743 (by decide +kernel) rfl
theorem m_X8_valley : MW yX8_valley cX8_valley 4 (some .int) 3 := ⟨wU_at 751 (by decide +kernel) rfl, wU_at 23 (by decide +kernel) rfl, by decide +kernel, by decide +kernel, by decide +kernel⟩
theorem mv_X8_valley : MV yX8_valley := ⟨wU_at 749 (by decide +kernel) rfl, wU_at 750 (by decide +kernel) rfl⟩
theorem m_X5_shapeOf : MW yX5_shapeOf cX5_shapeOf 8 (some .int) 1 := ⟨wU_at 755 (by decide +kernel) rfl, wU_at 28 (by decide +kernel) rfl, by decide +kernel, by decide +kernel, by decide +kernel⟩
theorem mv_X5_shapeOf : MV yX5_shapeOf := ⟨wU_at 753 (by decide +kernel) rfl, wU_at 754 (by decide +kernel) rfl⟩
theorem m_X8_lookUpAt : MW yX8_lookUpAt cX8_lookUpAt 3 (some .int) 2 := ⟨wU_at 765 (by decide +kernel) rfl, wU_at 23 (by decide +kernel) rfl, by decide +kernel, by decide +kernel, by decide +kernel⟩
theorem mv_X8_lookUpAt : MV yX8_lookUpAt := ⟨wU_at 763 (by decide +kernel) rfl, wU_at 764 (by decide +kernel) rfl⟩
theorem m_X8_originAt : MW yX8_originAt cX8_originAt 4 (some .int) 2 := ⟨wU_at 772 (by decide +kernel) rfl, wU_at 23 (by decide +kernel) rfl, by decide +kernel, by decide +kernel, by decide +kernel⟩
theorem mv_X8_originAt : MV yX8_originAt := ⟨wU_at 770 (by decide +kernel) rfl, wU_at 771 (by decide +kernel) rfl⟩
theorem m_X9_init : MW yX9_init cX9_init 1 none 0 := ⟨wU_at 777 (by decide +kernel) rfl, wU_at 29 (by decide +kernel) rfl, by decide +kernel, by decide +kernel, by decide +kernel⟩
theorem mi_X9_init : Cond.instanceMethod yX9_init ∈ wU := wU_at 776 (by decide +kernel) rfl
theorem m_X9_thrown : MW yX9_thrown cX9_thrown 1 (some .int) 0 := ⟨wU_at 835 (by decide +kernel) rfl, wU_at 29 (by decide +kernel) rfl, by decide +kernel, by decide +kernel, by decide +kernel⟩
theorem mv_X9_thrown : MV yX9_thrown := ⟨wU_at 833 (by decide +kernel) rfl, wU_at 834 (by decide +kernel) rfl⟩
theorem m_X9_pass : MW yX9_pass cX9_pass 2 (some .int) 1 := ⟨wU_at 839 (by decide +kernel) rfl, wU_at 29 (by decide +kernel) rfl, by decide +kernel, by decide +kernel, by decide +kernel⟩
theorem mv_X9_pass : MV yX9_pass := ⟨wU_at 837 (by decide +kernel) rfl, wU_at 838 (by decide +kernel) rfl⟩
theorem m_X9_in : MW yX9_in cX9_in 3 (some .boolean) 3 := ⟨wU_at 842 (by decide +kernel) rfl, wU_at 29 (by decide +kernel) rfl, by decide +kernel, by decide +kernel, by decide +kernel⟩
theorem ms_X9_in : Cond.static yX9_in ∈ wU := wU_at 841 (by decide +kernel) rfl
theorem m_X9_now : MW yX9_now cX9_now 1 (some .int) 0 := ⟨wU_at 847 (by decide +kernel) rfl, wU_at 29 (by decide +kernel) rfl, by decide +kernel, by decide +kernel, by decide +kernel⟩
theorem mv_X9_now : MV yX9_now := ⟨wU_at 845 (by decide +kernel) rfl, wU_at 846 (by decide +kernel) rfl⟩
theorem m_X9_hop : MW yX9_hop cX9_hop 3 (some .int) 1 := ⟨wU_at 851 (by decide +kernel) rfl, wU_at 29 (by decide +kernel) rfl, by decide +kernel, by decide +kernel, by decide +kernel⟩
theorem mv_X9_hop : MV yX9_hop := ⟨wU_at 849 (by decide +kernel) rfl, wU_at 850 (by decide +kernel) rfl⟩
theorem m_X9_clearPath : MW yX9_clearPath cX9_clearPath 2 (some .int) 0 := ⟨wU_at 855 (by decide +kernel) rfl, wU_at 29 (by decide +kernel) rfl, by decide +kernel, by decide +kernel, by decide +kernel⟩
theorem mv_X9_clearPath : MV yX9_clearPath := ⟨wU_at 853 (by decide +kernel) rfl, wU_at 854 (by decide +kernel) rfl⟩
theorem m_X9_announce : MW yX9_announce cX9_announce 6 (some .boolean) 3 := ⟨wU_at 859 (by decide +kernel) rfl, wU_at 29 (by decide +kernel) rfl, by decide +kernel, by decide +kernel, by decide +kernel⟩
theorem mv_X9_announce : MV yX9_announce := ⟨wU_at 857 (by decide +kernel) rfl, wU_at 858 (by decide +kernel) rfl⟩
theorem m_X9_isPeer : MW yX9_isPeer cX9_isPeer 1 (some .boolean) 1 := ⟨wU_at 862 (by decide +kernel) rfl, wU_at 29 (by decide +kernel) rfl, by decide +kernel, by decide +kernel, by decide +kernel⟩
theorem ms_X9_isPeer : Cond.static yX9_isPeer ∈ wU := wU_at 861 (by decide +kernel) rfl
theorem m_X9_isPrefix : MW yX9_isPrefix cX9_isPrefix 2 (some .boolean) 2 := ⟨wU_at 865 (by decide +kernel) rfl, wU_at 29 (by decide +kernel) rfl, by decide +kernel, by decide +kernel, by decide +kernel⟩
theorem ms_X9_isPrefix : Cond.static yX9_isPrefix ∈ wU := wU_at 864 (by decide +kernel) rfl
theorem m_X9_prefixOf : MW yX9_prefixOf cX9_prefixOf 2 (some .int) 2 := ⟨wU_at 868 (by decide +kernel) rfl, wU_at 29 (by decide +kernel) rfl, by decide +kernel, by decide +kernel, by decide +kernel⟩
theorem ms_X9_prefixOf : Cond.static yX9_prefixOf ∈ wU := wU_at 867 (by decide +kernel) rfl
theorem m_X9_placeOf : MW yX9_placeOf cX9_placeOf 3 (some .int) 3 := ⟨wU_at 871 (by decide +kernel) rfl, wU_at 29 (by decide +kernel) rfl, by decide +kernel, by decide +kernel, by decide +kernel⟩
theorem ms_X9_placeOf : Cond.static yX9_placeOf ∈ wU := wU_at 870 (by decide +kernel) rfl
theorem m_X9_withdraw : MW yX9_withdraw cX9_withdraw 5 (some .int) 3 := ⟨wU_at 883 (by decide +kernel) rfl, wU_at 29 (by decide +kernel) rfl, by decide +kernel, by decide +kernel, by decide +kernel⟩
theorem mv_X9_withdraw : MV yX9_withdraw := ⟨wU_at 881 (by decide +kernel) rfl, wU_at 882 (by decide +kernel) rfl⟩
theorem m_X9_drop : MW yX9_drop cX9_drop 3 (some .int) 1 := ⟨wU_at 895 (by decide +kernel) rfl, wU_at 29 (by decide +kernel) rfl, by decide +kernel, by decide +kernel, by decide +kernel⟩
theorem mv_X9_drop : MV yX9_drop := ⟨wU_at 893 (by decide +kernel) rfl, wU_at 894 (by decide +kernel) rfl⟩
theorem m_X9_updates : MW yX9_updates cX9_updates 1 (some .int) 0 := ⟨wU_at 899 (by decide +kernel) rfl, wU_at 29 (by decide +kernel) rfl, by decide +kernel, by decide +kernel, by decide +kernel⟩
theorem mv_X9_updates : MV yX9_updates := ⟨wU_at 897 (by decide +kernel) rfl, wU_at 898 (by decide +kernel) rfl⟩
theorem m_X9_routes : MW yX9_routes cX9_routes 2 (some .int) 1 := ⟨wU_at 903 (by decide +kernel) rfl, wU_at 29 (by decide +kernel) rfl, by decide +kernel, by decide +kernel, by decide +kernel⟩
theorem mv_X9_routes : MV yX9_routes := ⟨wU_at 901 (by decide +kernel) rfl, wU_at 902 (by decide +kernel) rfl⟩
theorem m_X9_prefixes : MW yX9_prefixes cX9_prefixes 3 (some .int) 0 := ⟨wU_at 907 (by decide +kernel) rfl, wU_at 29 (by decide +kernel) rfl, by decide +kernel, by decide +kernel, by decide +kernel⟩
theorem mv_X9_prefixes : MV yX9_prefixes := ⟨wU_at 905 (by decide +kernel) rfl, wU_at 906 (by decide +kernel) rfl⟩
theorem m_X9_pathAt : MW yX9_pathAt cX9_pathAt 6 (some .int) 4 := ⟨wU_at 915 (by decide +kernel) rfl, wU_at 29 (by decide +kernel) rfl, by decide +kernel, by decide +kernel, by decide +kernel⟩
theorem mv_X9_pathAt : MV yX9_pathAt := ⟨wU_at 913 (by decide +kernel) rfl, wU_at 914 (by decide +kernel) rfl⟩
theorem m_X9_bestPeer : MW yX9_bestPeer cX9_bestPeer 4 (some .int) 2 := ⟨wU_at 919 (by decide +kernel) rfl, wU_at 29 (by decide +kernel) rfl, by decide +kernel, by decide +kernel, by decide +kernel⟩
theorem mv_X9_bestPeer : MV yX9_bestPeer := ⟨wU_at 917 (by decide +kernel) rfl, wU_at 918 (by decide +kernel) rfl⟩
theorem m_X9_lookUp : MW yX9_lookUp cX9_lookUp 2 (some .int) 1 := ⟨wU_at 923 (by decide +kernel) rfl, wU_at 29 (by decide +kernel) rfl, by decide +kernel, by decide +kernel, by decide +kernel⟩
theorem mv_X9_lookUp : MV yX9_lookUp := ⟨wU_at 921 (by decide +kernel) rfl, wU_at 922 (by decide +kernel) rfl⟩
theorem m_X9_lengthOf : MW yX9_lengthOf cX9_lengthOf 2 (some .int) 1 := ⟨wU_at 934 (by decide +kernel) rfl, wU_at 29 (by decide +kernel) rfl, by decide +kernel, by decide +kernel, by decide +kernel⟩
theorem ms_X9_lengthOf : Cond.static yX9_lengthOf ∈ wU := wU_at 933 (by decide +kernel) rfl
theorem m_X9_lookUpByScan : MW yX9_lookUpByScan cX9_lookUpByScan 2 (some .int) 1 := ⟨wU_at 938 (by decide +kernel) rfl, wU_at 29 (by decide +kernel) rfl, by decide +kernel, by decide +kernel, by decide +kernel⟩
theorem mv_X9_lookUpByScan : MV yX9_lookUpByScan := ⟨wU_at 936 (by decide +kernel) rfl, wU_at 937 (by decide +kernel) rfl⟩
theorem m_X9_origins : MW yX9_origins cX9_origins 3 (some .int) 2 := ⟨wU_at 943 (by decide +kernel) rfl, wU_at 29 (by decide +kernel) rfl, by decide +kernel, by decide +kernel, by decide +kernel⟩
theorem mv_X9_origins : MV yX9_origins := ⟨wU_at 941 (by decide +kernel) rfl, wU_at 942 (by decide +kernel) rfl⟩
theorem m_X9_contested : MW yX9_contested cX9_contested 3 (some .int) 0 := ⟨wU_at 955 (by decide +kernel) rfl, wU_at 29 (by decide +kernel) rfl, by decide +kernel, by decide +kernel, by decide +kernel⟩
theorem mv_X9_contested : MV yX9_contested := ⟨wU_at 953 (by decide +kernel) rfl, wU_at 954 (by decide +kernel) rfl⟩
theorem m_X9_isHijack : MW yX9_isHijack cX9_isHijack 9 (some .boolean) 3 := ⟨wU_at 959 (by decide +kernel) rfl, wU_at 29 (by decide +kernel) rfl, by decide +kernel, by decide +kernel, by decide +kernel⟩
theorem mv_X9_isHijack : MV yX9_isHijack := ⟨wU_at 957 (by decide +kernel) rfl, wU_at 958 (by decide +kernel) rfl⟩
theorem m_X9_allow : MW yX9_allow cX9_allow 7 (some .boolean) 4 := ⟨wU_at 963 (by decide +kernel) rfl, wU_at 29 (by decide +kernel) rfl, by decide +kernel, by decide +kernel, by decide +kernel⟩
theorem mv_X9_allow : MV yX9_allow := ⟨wU_at 961 (by decide +kernel) rfl, wU_at 962 (by decide +kernel) rfl⟩
theorem m_X9_verdict : MW yX9_verdict cX9_verdict 8 (some .int) 3 := ⟨wU_at 967 (by decide +kernel) rfl, wU_at 29 (by decide +kernel) rfl, by decide +kernel, by decide +kernel, by decide +kernel⟩
theorem mv_X9_verdict : MV yX9_verdict := ⟨wU_at 965 (by decide +kernel) rfl, wU_at 966 (by decide +kernel) rfl⟩
theorem m_X9_covers : MW yX9_covers cX9_covers 3 (some .boolean) 2 := ⟨wU_at 970 (by decide +kernel) rfl, wU_at 29 (by decide +kernel) rfl, by decide +kernel, by decide +kernel, by decide +kernel⟩
theorem ms_X9_covers : Cond.static yX9_covers ∈ wU := wU_at 969 (by decide +kernel) rfl
theorem m_X9_relate : MW yX9_relate cX9_relate 5 (some .int) 3 := ⟨wU_at 974 (by decide +kernel) rfl, wU_at 29 (by decide +kernel) rfl, by decide +kernel, by decide +kernel, by decide +kernel⟩
theorem mv_X9_relate : MV yX9_relate := ⟨wU_at 972 (by decide +kernel) rfl, wU_at 973 (by decide +kernel) rfl⟩
theorem m_X9_valley : MW yX9_valley cX9_valley 12 (some .int) 3 := ⟨wU_at 978 (by decide +kernel) rfl, wU_at 29 (by decide +kernel) rfl, by decide +kernel, by decide +kernel, by decide +kernel⟩
theorem mv_X9_valley : MV yX9_valley := ⟨wU_at 976 (by decide +kernel) rfl, wU_at 977 (by decide +kernel) rfl⟩
theorem m_X9_lookUpAt : MW yX9_lookUpAt cX9_lookUpAt 3 (some .int) 2 := ⟨wU_at 982 (by decide +kernel) rfl, wU_at 29 (by decide +kernel) rfl, by decide +kernel, by decide +kernel, by decide +kernel⟩
theorem mv_X9_lookUpAt : MV yX9_lookUpAt := ⟨wU_at 980 (by decide +kernel) rfl, wU_at 981 (by decide +kernel) rfl⟩
theorem m_X9_originAt : MW yX9_originAt cX9_originAt 4 (some .int) 2 := ⟨wU_at 990 (by decide +kernel) rfl, wU_at 29 (by decide +kernel) rfl, by decide +kernel, by decide +kernel, by decide +kernel⟩
theorem mv_X9_originAt : MV yX9_originAt := ⟨wU_at 988 (by decide +kernel) rfl, wU_at 989 (by decide +kernel) rfl⟩
theorem m_X9_changes : MW yX9_changes cX9_changes 5 (some .int) 2 := ⟨wU_at 994 (by decide +kernel) rfl, wU_at 29 (by decide +kernel) rfl, by decide +kernel, by decide +kernel, by decide +kernel⟩
theorem mv_X9_changes : MV yX9_changes := ⟨wU_at 992 (by decide +kernel) rfl, wU_at 993 (by decide +kernel) rfl⟩
theorem lk_L_7 : Cond.methodLink RL 7 yX8_pass ∈ wU := wU_at 270 (by decide +kernel) rfl
theorem lk_L_17 : Cond.methodLink RL 17 yX8_hop ∈ wU := wU_at 363 (by decide +kernel) rfl
theorem lk_L_20 : Cond.methodLink RL 20 yX8_announce ∈ wU := wU_at 391 (by decide +kernel) rfl
theorem lk_L_26 : Cond.methodLink RL 26 yX8_withdraw ∈ wU := wU_at 529 (by decide +kernel) rfl
theorem lk_L_32 : Cond.methodLink RL 32 yX8_drop ∈ wU := wU_at 560 (by decide +kernel) rfl
theorem lk_L_35 : Cond.methodLink RL 35 yX8_routes ∈ wU := wU_at 567 (by decide +kernel) rfl
theorem lk_L_38 : Cond.methodLink RL 38 yX8_pathAt ∈ wU := wU_at 574 (by decide +kernel) rfl
theorem lk_L_42 : Cond.methodLink RL 42 yX8_bestPeer ∈ wU := wU_at 582 (by decide +kernel) rfl
theorem lk_L_46 : Cond.methodLink RL 46 yX8_lookUp ∈ wU := wU_at 594 (by decide +kernel) rfl
theorem lk_L_49 : Cond.methodLink RL 49 yX8_lookUpByScan ∈ wU := wU_at 611 (by decide +kernel) rfl
theorem lk_L_52 : Cond.methodLink RL 52 yX8_origins ∈ wU := wU_at 634 (by decide +kernel) rfl
theorem lk_L_55 : Cond.methodLink RL 55 yX8_isHijack ∈ wU := wU_at 641 (by decide +kernel) rfl
theorem lk_L_58 : Cond.methodLink RL 58 yX8_allow ∈ wU := wU_at 657 (by decide +kernel) rfl
theorem lk_L_62 : Cond.methodLink RL 62 yX8_verdict ∈ wU := wU_at 703 (by decide +kernel) rfl
theorem lk_L_65 : Cond.methodLink RL 65 yX8_relate ∈ wU := wU_at 727 (by decide +kernel) rfl
theorem lk_L_68 : Cond.methodLink RL 68 yX8_valley ∈ wU := wU_at 748 (by decide +kernel) rfl
theorem lk_L_71 : Cond.methodLink RL 71 yX8_lookUpAt ∈ wU := wU_at 762 (by decide +kernel) rfl
theorem lk_L_74 : Cond.methodLink RL 74 yX8_originAt ∈ wU := wU_at 769 (by decide +kernel) rfl
theorem lk_L_77 : Cond.methodLink RL 77 yX8_init ∈ wU := wU_at 43 (by decide +kernel) rfl
theorem lk_L_80 : Cond.methodLink RL 80 yX9_init ∈ wU := wU_at 775 (by decide +kernel) rfl
theorem lk_L_81 : Cond.methodLink RL 81 yL_pass ∈ wU := wU_at 265 (by decide +kernel) rfl
theorem lk_L_86 : Cond.methodLink RL 86 yX9_pass ∈ wU := wU_at 836 (by decide +kernel) rfl
theorem lk_L_87 : Cond.methodLink RL 87 yX9_thrown ∈ wU := wU_at 832 (by decide +kernel) rfl
theorem lk_L_91 : Cond.methodLink RL 91 yX8_now ∈ wU := wU_at 153 (by decide +kernel) rfl
theorem lk_L_94 : Cond.methodLink RL 94 yX9_now ∈ wU := wU_at 844 (by decide +kernel) rfl
theorem lk_L_95 : Cond.methodLink RL 95 yL_hop ∈ wU := wU_at 360 (by decide +kernel) rfl
theorem lk_L_97 : Cond.methodLink RL 97 yX9_hop ∈ wU := wU_at 848 (by decide +kernel) rfl
theorem lk_L_98 : Cond.methodLink RL 98 yX8_clearPath ∈ wU := wU_at 157 (by decide +kernel) rfl
theorem lk_L_101 : Cond.methodLink RL 101 yX9_clearPath ∈ wU := wU_at 852 (by decide +kernel) rfl
theorem lk_L_102 : Cond.methodLink RL 102 yL_announce ∈ wU := wU_at 387 (by decide +kernel) rfl
theorem lk_L_105 : Cond.methodLink RL 105 yX9_announce ∈ wU := wU_at 856 (by decide +kernel) rfl
theorem lk_L_106 : Cond.methodLink RL 106 yL_withdraw ∈ wU := wU_at 525 (by decide +kernel) rfl
theorem lk_L_108 : Cond.methodLink RL 108 yX9_withdraw ∈ wU := wU_at 880 (by decide +kernel) rfl
theorem lk_L_109 : Cond.methodLink RL 109 yL_drop ∈ wU := wU_at 557 (by decide +kernel) rfl
theorem lk_L_111 : Cond.methodLink RL 111 yX9_drop ∈ wU := wU_at 892 (by decide +kernel) rfl
theorem lk_L_112 : Cond.methodLink RL 112 yX8_updates ∈ wU := wU_at 169 (by decide +kernel) rfl
theorem lk_L_115 : Cond.methodLink RL 115 yX9_updates ∈ wU := wU_at 896 (by decide +kernel) rfl
theorem lk_L_116 : Cond.methodLink RL 116 yL_routes ∈ wU := wU_at 564 (by decide +kernel) rfl
theorem lk_L_118 : Cond.methodLink RL 118 yX9_routes ∈ wU := wU_at 900 (by decide +kernel) rfl
theorem lk_L_119 : Cond.methodLink RL 119 yX8_prefixes ∈ wU := wU_at 177 (by decide +kernel) rfl
theorem lk_L_122 : Cond.methodLink RL 122 yX9_prefixes ∈ wU := wU_at 904 (by decide +kernel) rfl
theorem lk_L_123 : Cond.methodLink RL 123 yL_pathAt ∈ wU := wU_at 571 (by decide +kernel) rfl
theorem lk_L_126 : Cond.methodLink RL 126 yX9_pathAt ∈ wU := wU_at 912 (by decide +kernel) rfl
theorem lk_L_127 : Cond.methodLink RL 127 yL_bestPeer ∈ wU := wU_at 579 (by decide +kernel) rfl
theorem lk_L_130 : Cond.methodLink RL 130 yX9_bestPeer ∈ wU := wU_at 916 (by decide +kernel) rfl
theorem lk_L_131 : Cond.methodLink RL 131 yL_lookUp ∈ wU := wU_at 591 (by decide +kernel) rfl
theorem lk_L_133 : Cond.methodLink RL 133 yX9_lookUp ∈ wU := wU_at 920 (by decide +kernel) rfl
theorem lk_L_134 : Cond.methodLink RL 134 yL_lookUpByScan ∈ wU := wU_at 608 (by decide +kernel) rfl
theorem lk_L_136 : Cond.methodLink RL 136 yX9_lookUpByScan ∈ wU := wU_at 935 (by decide +kernel) rfl
theorem lk_L_137 : Cond.methodLink RL 137 yL_origins ∈ wU := wU_at 631 (by decide +kernel) rfl
theorem lk_L_139 : Cond.methodLink RL 139 yX9_origins ∈ wU := wU_at 940 (by decide +kernel) rfl
theorem lk_L_140 : Cond.methodLink RL 140 yX8_contested ∈ wU := wU_at 192 (by decide +kernel) rfl
theorem lk_L_143 : Cond.methodLink RL 143 yX9_contested ∈ wU := wU_at 952 (by decide +kernel) rfl
theorem lk_L_144 : Cond.methodLink RL 144 yL_isHijack ∈ wU := wU_at 638 (by decide +kernel) rfl
theorem lk_L_146 : Cond.methodLink RL 146 yX9_isHijack ∈ wU := wU_at 956 (by decide +kernel) rfl
theorem lk_L_147 : Cond.methodLink RL 147 yL_allow ∈ wU := wU_at 654 (by decide +kernel) rfl
theorem lk_L_149 : Cond.methodLink RL 149 yX9_allow ∈ wU := wU_at 960 (by decide +kernel) rfl
theorem lk_L_150 : Cond.methodLink RL 150 yL_verdict ∈ wU := wU_at 700 (by decide +kernel) rfl
theorem lk_L_152 : Cond.methodLink RL 152 yX9_verdict ∈ wU := wU_at 964 (by decide +kernel) rfl
theorem lk_L_153 : Cond.methodLink RL 153 yL_relate ∈ wU := wU_at 724 (by decide +kernel) rfl
theorem lk_L_155 : Cond.methodLink RL 155 yX9_relate ∈ wU := wU_at 971 (by decide +kernel) rfl
theorem lk_L_156 : Cond.methodLink RL 156 yL_valley ∈ wU := wU_at 745 (by decide +kernel) rfl
theorem lk_L_158 : Cond.methodLink RL 158 yX9_valley ∈ wU := wU_at 975 (by decide +kernel) rfl
theorem lk_L_159 : Cond.methodLink RL 159 yL_lookUpAt ∈ wU := wU_at 759 (by decide +kernel) rfl
theorem lk_L_161 : Cond.methodLink RL 161 yX9_lookUpAt ∈ wU := wU_at 979 (by decide +kernel) rfl
theorem lk_L_162 : Cond.methodLink RL 162 yL_originAt ∈ wU := wU_at 766 (by decide +kernel) rfl
theorem lk_L_164 : Cond.methodLink RL 164 yX9_originAt ∈ wU := wU_at 987 (by decide +kernel) rfl
theorem lk_L_165 : Cond.methodLink RL 165 yX8_changes ∈ wU := wU_at 228 (by decide +kernel) rfl
theorem lk_L_168 : Cond.methodLink RL 168 yX9_changes ∈ wU := wU_at 991 (by decide +kernel) rfl
theorem lk_X0_1 : Cond.methodLink RX0 1 objectInit ∈ wU := wU_at 667 (by decide +kernel) rfl
theorem lk_X0_28 : Cond.methodLink RX0 28 yX3_covers ∈ wU := wU_at 715 (by decide +kernel) rfl
theorem lk_X0_36 : Cond.methodLink RX0 36 yX2_origin ∈ wU := wU_at 723 (by decide +kernel) rfl
theorem lk_X1_3 : Cond.methodLink RX1 3 objectInit ∈ wU := wU_at 86 (by decide +kernel) rfl
theorem lk_X1_34 : Cond.methodLink RX1 34 yX1_isFull ∈ wU := wU_at 524 (by decide +kernel) rfl
theorem lk_X1_38 : Cond.methodLink RX1 38 yX6_standsAfter ∈ wU := wU_at 244 (by decide +kernel) rfl
theorem lk_X1_46 : Cond.methodLink RX1 46 yX3_has ∈ wU := wU_at 619 (by decide +kernel) rfl
theorem lk_X1_51 : Cond.methodLink RX1 51 yX6_isFoundBefore ∈ wU := wU_at 623 (by decide +kernel) rfl
theorem lk_X1_55 : Cond.methodLink RX1 55 yX1_fillBest ∈ wU := wU_at 240 (by decide +kernel) rfl
theorem lk_X1_59 : Cond.methodLink RX1 59 yX1_areUnlike ∈ wU := wU_at 254 (by decide +kernel) rfl
theorem lk_X1_69 : Cond.methodLink RX1 69 yX6_isBetterThan ∈ wU := wU_at 249 (by decide +kernel) rfl
theorem lk_X1_72 : Cond.methodLink RX1 72 yX6_isLike ∈ wU := wU_at 257 (by decide +kernel) rfl
theorem lk_X2_3 : Cond.methodLink RX2 3 objectInit ∈ wU := wU_at 54 (by decide +kernel) rfl
theorem lk_X2_19 : Cond.methodLink RX2 19 yX2_networkAt ∈ wU := wU_at 218 (by decide +kernel) rfl
theorem lk_X2_23 : Cond.methodLink RX2 23 yX2_origin ∈ wU := wU_at 380 (by decide +kernel) rfl
theorem lk_X2_27 : Cond.methodLink RX2 27 yX2_isFull ∈ wU := wU_at 386 (by decide +kernel) rfl
theorem lk_X2_31 : Cond.methodLink RX2 31 yX2_init ∈ wU := wU_at 480 (by decide +kernel) rfl
theorem lk_X2_32 : Cond.methodLink RX2 32 yX2_add ∈ wU := wU_at 481 (by decide +kernel) rfl
theorem lk_X3_1 : Cond.methodLink RX3 1 objectInit ∈ wU := wU_at 432 (by decide +kernel) rfl
theorem lk_X4_3 : Cond.methodLink RX4 3 objectInit ∈ wU := wU_at 112 (by decide +kernel) rfl
theorem lk_X4_21 : Cond.methodLink RX4 21 yX0_isLike ∈ wU := wU_at 682 (by decide +kernel) rfl
theorem lk_X4_25 : Cond.methodLink RX4 25 yX4_isFull ∈ wU := wU_at 699 (by decide +kernel) rfl
theorem lk_X4_29 : Cond.methodLink RX4 29 yX0_concerns ∈ wU := wU_at 711 (by decide +kernel) rfl
theorem lk_X4_33 : Cond.methodLink RX4 33 yX0_permits ∈ wU := wU_at 719 (by decide +kernel) rfl
theorem lk_X5_3 : Cond.methodLink RX5 3 objectInit ∈ wU := wU_at 127 (by decide +kernel) rfl
theorem lk_X5_20 : Cond.methodLink RX5 20 yX2_size ∈ wU := wU_at 756 (by decide +kernel) rfl
theorem lk_X5_26 : Cond.methodLink RX5 26 yX2_networkAt ∈ wU := wU_at 757 (by decide +kernel) rfl
theorem lk_X5_30 : Cond.methodLink RX5 30 yX5_between ∈ wU := wU_at 758 (by decide +kernel) rfl
theorem lk_X6_3 : Cond.methodLink RX6 3 objectInit ∈ wU := wU_at 485 (by decide +kernel) rfl
theorem lk_X6_29 : Cond.methodLink RX6 29 yX2_size ∈ wU := wU_at 253 (by decide +kernel) rfl
theorem lk_X6_40 : Cond.methodLink RX6 40 yX6_isBetterThan ∈ wU := wU_at 627 (by decide +kernel) rfl
theorem lk_X6_44 : Cond.methodLink RX6 44 yX2_isLike ∈ wU := wU_at 261 (by decide +kernel) rfl
theorem lk_X7_3 : Cond.methodLink RX7 3 objectInit ∈ wU := wU_at 68 (by decide +kernel) rfl
theorem lk_X7_24 : Cond.methodLink RX7 24 yX7_cellOf ∈ wU := wU_at 208 (by decide +kernel) rfl
theorem lk_X7_45 : Cond.methodLink RX7 45 yX7_isThere ∈ wU := wU_at 185 (by decide +kernel) rfl
theorem lk_X7_48 : Cond.methodLink RX7 48 yX7_routeOf ∈ wU := wU_at 204 (by decide +kernel) rfl
theorem lk_X7_52 : Cond.methodLink RX7 52 yX6_isBetterThan ∈ wU := wU_at 590 (by decide +kernel) rfl
theorem lk_X7_59 : Cond.methodLink RX7 59 yX7_originBits ∈ wU := wU_at 200 (by decide +kernel) rfl
theorem lk_X7_63 : Cond.methodLink RX7 63 yJ6_bitCount_0f7a4 ∈ wU := wU_at 222 (by decide +kernel) rfl
theorem lk_X7_72 : Cond.methodLink RX7 72 yX2_origin ∈ wU := wU_at 214 (by decide +kernel) rfl
theorem lk_X8_3 : Cond.methodLink RX8 3 objectInit ∈ wU := wU_at 46 (by decide +kernel) rfl
theorem lk_X8_61 : Cond.methodLink RX8 61 yX8_isNetwork ∈ wU := wU_at 367 (by decide +kernel) rfl
theorem lk_X8_67 : Cond.methodLink RX8 67 yX2_isFull ∈ wU := wU_at 371 (by decide +kernel) rfl
theorem lk_X8_73 : Cond.methodLink RX8 73 yX2_hasLeft ∈ wU := wU_at 376 (by decide +kernel) rfl
theorem lk_X8_78 : Cond.methodLink RX8 78 yX2_add ∈ wU := wU_at 382 (by decide +kernel) rfl
theorem lk_X8_82 : Cond.methodLink RX8 82 yX2_size ∈ wU := wU_at 161 (by decide +kernel) rfl
theorem lk_X8_86 : Cond.methodLink RX8 86 yX2_clear ∈ wU := wU_at 165 (by decide +kernel) rfl
theorem lk_X8_89 : Cond.methodLink RX8 89 yX8_needPeer ∈ wU := wU_at 395 (by decide +kernel) rfl
theorem lk_X8_92 : Cond.methodLink RX8 92 yX8_needPrefix ∈ wU := wU_at 416 (by decide +kernel) rfl
theorem lk_X8_96 : Cond.methodLink RX8 96 yX2_networkAt ∈ wU := wU_at 450 (by decide +kernel) rfl
theorem lk_X8_100 : Cond.methodLink RX8 100 yX8_networkOf ∈ wU := wU_at 451 (by decide +kernel) rfl
theorem lk_X8_105 : Cond.methodLink RX8 105 yX8_needRoomForUpdate ∈ wU := wU_at 455 (by decide +kernel) rfl
theorem lk_X8_113 : Cond.methodLink RX8 113 yX7_routeOf ∈ wU := wU_at 464 (by decide +kernel) rfl
theorem lk_X8_117 : Cond.methodLink RX8 117 yX8_endRoute ∈ wU := wU_at 465 (by decide +kernel) rfl
theorem lk_X8_123 : Cond.methodLink RX8 123 yX2_copy ∈ wU := wU_at 475 (by decide +kernel) rfl
theorem lk_X8_127 : Cond.methodLink RX8 127 yX1_size ∈ wU := wU_at 173 (by decide +kernel) rfl
theorem lk_X8_128 : Cond.methodLink RX8 128 yX6_init ∈ wU := wU_at 482 (by decide +kernel) rfl
theorem lk_X8_131 : Cond.methodLink RX8 131 yX7_put ∈ wU := wU_at 512 (by decide +kernel) rfl
theorem lk_X8_134 : Cond.methodLink RX8 134 yX1_keep ∈ wU := wU_at 516 (by decide +kernel) rfl
theorem lk_X8_137 : Cond.methodLink RX8 137 yX1_noteUpdate ∈ wU := wU_at 520 (by decide +kernel) rfl
theorem lk_X8_140 : Cond.methodLink RX8 140 yX8_needRoute ∈ wU := wU_at 533 (by decide +kernel) rfl
theorem lk_X8_144 : Cond.methodLink RX8 144 yX7_countOfPeer ∈ wU := wU_at 553 (by decide +kernel) rfl
theorem lk_X8_147 : Cond.methodLink RX8 147 yX7_countPrefixes ∈ wU := wU_at 181 (by decide +kernel) rfl
theorem lk_X8_158 : Cond.methodLink RX8 158 yX7_bestOf ∈ wU := wU_at 586 (by decide +kernel) rfl
theorem lk_X8_165 : Cond.methodLink RX8 165 yX8_needAddress ∈ wU := wU_at 598 (by decide +kernel) rfl
theorem lk_X8_168 : Cond.methodLink RX8 168 yX7_longestLengthFor ∈ wU := wU_at 603 (by decide +kernel) rfl
theorem lk_X8_171 : Cond.methodLink RX8 171 yX1_routeFor ∈ wU := wU_at 615 (by decide +kernel) rfl
theorem lk_X8_174 : Cond.methodLink RX8 174 yX8_lengthOf ∈ wU := wU_at 628 (by decide +kernel) rfl
theorem lk_X8_178 : Cond.methodLink RX8 178 yX7_countOrigins ∈ wU := wU_at 196 (by decide +kernel) rfl
theorem lk_X8_185 : Cond.methodLink RX8 185 yX7_nearestAbove ∈ wU := wU_at 645 (by decide +kernel) rfl
theorem lk_X8_188 : Cond.methodLink RX8 188 yX2_origin ∈ wU := wU_at 649 (by decide +kernel) rfl
theorem lk_X8_191 : Cond.methodLink RX8 191 yX7_hasOrigin ∈ wU := wU_at 650 (by decide +kernel) rfl
theorem lk_X8_199 : Cond.methodLink RX8 199 yX0_init ∈ wU := wU_at 664 (by decide +kernel) rfl
theorem lk_X8_202 : Cond.methodLink RX8 202 yX4_placeOf ∈ wU := wU_at 678 (by decide +kernel) rfl
theorem lk_X8_206 : Cond.methodLink RX8 206 yX4_takeOut ∈ wU := wU_at 686 (by decide +kernel) rfl
theorem lk_X8_209 : Cond.methodLink RX8 209 yX4_isFull ∈ wU := wU_at 690 (by decide +kernel) rfl
theorem lk_X8_212 : Cond.methodLink RX8 212 yX4_add ∈ wU := wU_at 695 (by decide +kernel) rfl
theorem lk_X8_215 : Cond.methodLink RX8 215 yX4_judge ∈ wU := wU_at 707 (by decide +kernel) rfl
theorem lk_X8_222 : Cond.methodLink RX8 222 yX5_between ∈ wU := wU_at 733 (by decide +kernel) rfl
theorem lk_X8_226 : Cond.methodLink RX8 226 yX5_put ∈ wU := wU_at 738 (by decide +kernel) rfl
theorem lk_X8_229 : Cond.methodLink RX8 229 yX8_reverseOf ∈ wU := wU_at 742 (by decide +kernel) rfl
theorem lk_X8_232 : Cond.methodLink RX8 232 yX5_shapeOf ∈ wU := wU_at 752 (by decide +kernel) rfl
theorem lk_X8_236 : Cond.methodLink RX8 236 yX1_sizeAt ∈ wU := wU_at 232 (by decide +kernel) rfl
theorem lk_X8_239 : Cond.methodLink RX8 239 yX1_countUnlike ∈ wU := wU_at 236 (by decide +kernel) rfl
theorem lk_X8_242 : Cond.methodLink RX8 242 yX8_isPeer ∈ wU := wU_at 399 (by decide +kernel) rfl
theorem lk_X8_247 : Cond.methodLink RX8 247 yX8_isAddress ∈ wU := wU_at 423 (by decide +kernel) rfl
theorem lk_X8_252 : Cond.methodLink RX8 252 yX8_isPrefix ∈ wU := wU_at 420 (by decide +kernel) rfl
theorem lk_X8_257 : Cond.methodLink RX8 257 yX3_init ∈ wU := wU_at 429 (by decide +kernel) rfl
theorem lk_X8_265 : Cond.methodLink RX8 265 yX1_isFull ∈ wU := wU_at 459 (by decide +kernel) rfl
theorem lk_X8_271 : Cond.methodLink RX8 271 yX7_remove ∈ wU := wU_at 469 (by decide +kernel) rfl
theorem lk_X9_1 : Cond.methodLink RX9 1 objectInit ∈ wU := wU_at 778 (by decide +kernel) rfl
theorem lk_X9_43 : Cond.methodLink RX9 43 yX9_clearTable ∈ wU := wU_at 779 (by decide +kernel) rfl
theorem lk_X9_51 : Cond.methodLink RX9 51 yX9_in ∈ wU := wU_at 840 (by decide +kernel) rfl
theorem lk_X9_55 : Cond.methodLink RX9 55 yX9_placeOf ∈ wU := wU_at 869 (by decide +kernel) rfl
theorem lk_X9_62 : Cond.methodLink RX9 62 yX9_apply ∈ wU := wU_at 876 (by decide +kernel) rfl
theorem lk_X9_66 : Cond.methodLink RX9 66 yX9_prefixOf ∈ wU := wU_at 866 (by decide +kernel) rfl
theorem lk_X9_70 : Cond.methodLink RX9 70 yX9_best ∈ wU := wU_at 908 (by decide +kernel) rfl
theorem lk_X9_80 : Cond.methodLink RX9 80 yX9_isPeer ∈ wU := wU_at 860 (by decide +kernel) rfl
theorem lk_X9_84 : Cond.methodLink RX9 84 yX9_isPrefix ∈ wU := wU_at 863 (by decide +kernel) rfl
theorem lk_X9_88 : Cond.methodLink RX9 88 yX9_update ∈ wU := wU_at 872 (by decide +kernel) rfl
theorem lk_X9_92 : Cond.methodLink RX9 92 yX9_route ∈ wU := wU_at 884 (by decide +kernel) rfl
theorem lk_X9_95 : Cond.methodLink RX9 95 yX9_routesOf ∈ wU := wU_at 888 (by decide +kernel) rfl
theorem lk_X9_99 : Cond.methodLink RX9 99 yX9_found ∈ wU := wU_at 928 (by decide +kernel) rfl
theorem lk_X9_102 : Cond.methodLink RX9 102 yX9_lengthOf ∈ wU := wU_at 932 (by decide +kernel) rfl
theorem lk_X9_105 : Cond.methodLink RX9 105 yX9_lengthFound ∈ wU := wU_at 924 (by decide +kernel) rfl
theorem lk_X9_108 : Cond.methodLink RX9 108 yX9_lookUp ∈ wU := wU_at 939 (by decide +kernel) rfl
theorem lk_X9_111 : Cond.methodLink RX9 111 yX9_origin ∈ wU := wU_at 948 (by decide +kernel) rfl
theorem lk_X9_114 : Cond.methodLink RX9 114 yX9_originsOf ∈ wU := wU_at 944 (by decide +kernel) rfl
theorem lk_X9_120 : Cond.methodLink RX9 120 yX9_covers ∈ wU := wU_at 968 (by decide +kernel) rfl
theorem lk_X9_123 : Cond.methodLink RX9 123 yX9_replay ∈ wU := wU_at 983 (by decide +kernel) rfl
theorem lk_X9_126 : Cond.methodLink RX9 126 yX9_areAlike ∈ wU := wU_at 995 (by decide +kernel) rfl
/-- a field that may be read: class number and place -/
def GW (own : String) (index ci k : Nat) : Prop := ∃ (C : String) (T : u_T) (N : Nat), vwCl[ci]? = some (C, T, N) ∧ (∀ w ∈ u_ws C T N, w ∈ wU) ∧ k < N ∧ Cond.fieldLink own index (T k).1 (T k).2.1 (T k).2.2.1 ∈ wU
/-- one that may be written -/
def PW (own : String) (index ci k : Nat) (ty : FieldType) (fin : Bool) : Prop := ∃ (C : String) (T : u_T) (N : Nat) (ty0 : Nat → FieldType), vwCl[ci]? = some (C, T, N) ∧ (∀ w ∈ u_ws C T N, w ∈ wU) ∧ k < N ∧ Cond.fieldLink own index (T k).1 (T k).2.1 (T k).2.2.1 ∈ wU ∧ (∀ k, k < N → parseFieldDescriptor (T k).2.2.1 = some (ty0 k)) ∧ (∀ a, a < N → ∀ b, b < N → a ≠ b → (T a).2.1 ≠ (T b).2.1) ∧ (T k).2.2.2 = fin ∧ (T k).1 = C ∧ parseFieldDescriptor (T k).2.2.1 = some ty
theorem fl_X0_7 : Cond.fieldLink RX0 7 (TX0 0).1 (TX0 0).2.1 (TX0 0).2.2.1 ∈ wU := wU_at 668 (by decide +kernel) rfl
theorem fg_X0_7 : GW RX0 7 0 0 := ⟨RX0, TX0, 3, rfl, fw_X0, by decide, fl_X0_7⟩
theorem fp_X0_7 : PW RX0 7 0 0 (.object "Bgpreplay$Prefix") true := ⟨RX0, TX0, 3, tyX0, rfl, fw_X0, by decide, fl_X0_7, tyX0_ok, nmX0, rfl, rfl, by decide +kernel⟩
theorem fl_X0_13 : Cond.fieldLink RX0 13 (TX0 1).1 (TX0 1).2.1 (TX0 1).2.2.1 ∈ wU := wU_at 669 (by decide +kernel) rfl
theorem fg_X0_13 : GW RX0 13 0 1 := ⟨RX0, TX0, 3, rfl, fw_X0, by decide, fl_X0_13⟩
theorem fp_X0_13 : PW RX0 13 0 1 (.int) true := ⟨RX0, TX0, 3, tyX0, rfl, fw_X0, by decide, fl_X0_13, tyX0_ok, nmX0, rfl, rfl, by decide +kernel⟩
theorem fl_X0_17 : Cond.fieldLink RX0 17 (TX0 2).1 (TX0 2).2.1 (TX0 2).2.2.1 ∈ wU := wU_at 670 (by decide +kernel) rfl
theorem fg_X0_17 : GW RX0 17 0 2 := ⟨RX0, TX0, 3, rfl, fw_X0, by decide, fl_X0_17⟩
theorem fp_X0_17 : PW RX0 17 0 2 (.int) true := ⟨RX0, TX0, 3, tyX0, rfl, fw_X0, by decide, fl_X0_17, tyX0_ok, nmX0, rfl, rfl, by decide +kernel⟩
theorem fl_X1_9 : Cond.fieldLink RX1 9 (TX1 0).1 (TX1 0).2.1 (TX1 0).2.2.1 ∈ wU := wU_at 88 (by decide +kernel) rfl
theorem fg_X1_9 : GW RX1 9 1 0 := ⟨RX1, TX1, 6, rfl, fw_X1, by decide, fl_X1_9⟩
theorem fp_X1_9 : PW RX1 9 1 0 (.array .int) true := ⟨RX1, TX1, 6, tyX1, rfl, fw_X1, by decide, fl_X1_9, tyX1_ok, nmX1, rfl, rfl, by decide +kernel⟩
theorem fl_X1_15 : Cond.fieldLink RX1 15 (TX1 1).1 (TX1 1).2.1 (TX1 1).2.2.1 ∈ wU := wU_at 89 (by decide +kernel) rfl
theorem fg_X1_15 : GW RX1 15 1 1 := ⟨RX1, TX1, 6, rfl, fw_X1, by decide, fl_X1_15⟩
theorem fp_X1_15 : PW RX1 15 1 1 (.int) false := ⟨RX1, TX1, 6, tyX1, rfl, fw_X1, by decide, fl_X1_15, tyX1_ok, nmX1, rfl, rfl, by decide +kernel⟩
theorem fl_X1_21 : Cond.fieldLink RX1 21 (TX1 2).1 (TX1 2).2.1 (TX1 2).2.2.1 ∈ wU := wU_at 90 (by decide +kernel) rfl
theorem fg_X1_21 : GW RX1 21 1 2 := ⟨RX1, TX1, 6, rfl, fw_X1, by decide, fl_X1_21⟩
theorem fp_X1_21 : PW RX1 21 1 2 (.array (.object "Bgpreplay$Route")) true := ⟨RX1, TX1, 6, tyX1, rfl, fw_X1, by decide, fl_X1_21, tyX1_ok, nmX1, rfl, rfl, by decide +kernel⟩
theorem fl_X1_25 : Cond.fieldLink RX1 25 (TX1 3).1 (TX1 3).2.1 (TX1 3).2.2.1 ∈ wU := wU_at 91 (by decide +kernel) rfl
theorem fg_X1_25 : GW RX1 25 1 3 := ⟨RX1, TX1, 6, rfl, fw_X1, by decide, fl_X1_25⟩
theorem fp_X1_25 : PW RX1 25 1 3 (.int) false := ⟨RX1, TX1, 6, tyX1, rfl, fw_X1, by decide, fl_X1_25, tyX1_ok, nmX1, rfl, rfl, by decide +kernel⟩
theorem fl_X1_28 : Cond.fieldLink RX1 28 (TX1 4).1 (TX1 4).2.1 (TX1 4).2.2.1 ∈ wU := wU_at 92 (by decide +kernel) rfl
theorem fg_X1_28 : GW RX1 28 1 4 := ⟨RX1, TX1, 6, rfl, fw_X1, by decide, fl_X1_28⟩
theorem fp_X1_28 : PW RX1 28 1 4 (.array (.object "Bgpreplay$Route")) true := ⟨RX1, TX1, 6, tyX1, rfl, fw_X1, by decide, fl_X1_28, tyX1_ok, nmX1, rfl, rfl, by decide +kernel⟩
theorem fl_X1_31 : Cond.fieldLink RX1 31 (TX1 5).1 (TX1 5).2.1 (TX1 5).2.2.1 ∈ wU := wU_at 93 (by decide +kernel) rfl
theorem fg_X1_31 : GW RX1 31 1 5 := ⟨RX1, TX1, 6, rfl, fw_X1, by decide, fl_X1_31⟩
theorem fp_X1_31 : PW RX1 31 1 5 (.array (.object "Bgpreplay$Route")) true := ⟨RX1, TX1, 6, tyX1, rfl, fw_X1, by decide, fl_X1_31, tyX1_ok, nmX1, rfl, rfl, by decide +kernel⟩
theorem fl_X2_9 : Cond.fieldLink RX2 9 (TX2 0).1 (TX2 0).2.1 (TX2 0).2.2.1 ∈ wU := wU_at 55 (by decide +kernel) rfl
theorem fg_X2_9 : GW RX2 9 2 0 := ⟨RX2, TX2, 2, rfl, fw_X2, by decide, fl_X2_9⟩
theorem fp_X2_9 : PW RX2 9 2 0 (.array .int) true := ⟨RX2, TX2, 2, tyX2, rfl, fw_X2, by decide, fl_X2_9, tyX2_ok, nmX2, rfl, rfl, by decide +kernel⟩
theorem fl_X2_15 : Cond.fieldLink RX2 15 (TX2 1).1 (TX2 1).2.1 (TX2 1).2.2.1 ∈ wU := wU_at 56 (by decide +kernel) rfl
theorem fg_X2_15 : GW RX2 15 2 1 := ⟨RX2, TX2, 2, rfl, fw_X2, by decide, fl_X2_15⟩
theorem fp_X2_15 : PW RX2 15 2 1 (.int) false := ⟨RX2, TX2, 2, tyX2, rfl, fw_X2, by decide, fl_X2_15, tyX2_ok, nmX2, rfl, rfl, by decide +kernel⟩
theorem fl_X3_13 : Cond.fieldLink RX3 13 (TX3 0).1 (TX3 0).2.1 (TX3 0).2.2.1 ∈ wU := wU_at 436 (by decide +kernel) rfl
theorem fg_X3_13 : GW RX3 13 3 0 := ⟨RX3, TX3, 2, rfl, fw_X3, by decide, fl_X3_13⟩
theorem fp_X3_13 : PW RX3 13 3 0 (.int) true := ⟨RX3, TX3, 2, tyX3, rfl, fw_X3, by decide, fl_X3_13, tyX3_ok, nmX3, rfl, rfl, by decide +kernel⟩
theorem fl_X3_19 : Cond.fieldLink RX3 19 (TX3 1).1 (TX3 1).2.1 (TX3 1).2.2.1 ∈ wU := wU_at 441 (by decide +kernel) rfl
theorem fg_X3_19 : GW RX3 19 3 1 := ⟨RX3, TX3, 2, rfl, fw_X3, by decide, fl_X3_19⟩
theorem fp_X3_19 : PW RX3 19 3 1 (.int) true := ⟨RX3, TX3, 2, tyX3, rfl, fw_X3, by decide, fl_X3_19, tyX3_ok, nmX3, rfl, rfl, by decide +kernel⟩
theorem fl_X4_11 : Cond.fieldLink RX4 11 (TX4 0).1 (TX4 0).2.1 (TX4 0).2.2.1 ∈ wU := wU_at 115 (by decide +kernel) rfl
theorem fg_X4_11 : GW RX4 11 4 0 := ⟨RX4, TX4, 2, rfl, fw_X4, by decide, fl_X4_11⟩
theorem fp_X4_11 : PW RX4 11 4 0 (.array (.object "Bgpreplay$Entry")) true := ⟨RX4, TX4, 2, tyX4, rfl, fw_X4, by decide, fl_X4_11, tyX4_ok, nmX4, rfl, rfl, by decide +kernel⟩
theorem fl_X4_17 : Cond.fieldLink RX4 17 (TX4 1).1 (TX4 1).2.1 (TX4 1).2.2.1 ∈ wU := wU_at 116 (by decide +kernel) rfl
theorem fg_X4_17 : GW RX4 17 4 1 := ⟨RX4, TX4, 2, rfl, fw_X4, by decide, fl_X4_17⟩
theorem fp_X4_17 : PW RX4 17 4 1 (.int) false := ⟨RX4, TX4, 2, tyX4, rfl, fw_X4, by decide, fl_X4_17, tyX4_ok, nmX4, rfl, rfl, by decide +kernel⟩
theorem fl_X5_11 : Cond.fieldLink RX5 11 (TX5 0).1 (TX5 0).2.1 (TX5 0).2.2.1 ∈ wU := wU_at 130 (by decide +kernel) rfl
theorem fg_X5_11 : GW RX5 11 5 0 := ⟨RX5, TX5, 1, rfl, fw_X5, by decide, fl_X5_11⟩
theorem fp_X5_11 : PW RX5 11 5 0 (.array (.array .int)) true := ⟨RX5, TX5, 1, tyX5, rfl, fw_X5, by decide, fl_X5_11, tyX5_ok, nmX5, rfl, rfl, by decide +kernel⟩
theorem fl_X6_9 : Cond.fieldLink RX6 9 (TX6 4).1 (TX6 4).2.1 (TX6 4).2.2.1 ∈ wU := wU_at 499 (by decide +kernel) rfl
theorem fg_X6_9 : GW RX6 9 6 4 := ⟨RX6, TX6, 5, rfl, fw_X6, by decide, fl_X6_9⟩
theorem fp_X6_9 : PW RX6 9 6 4 (.int) false := ⟨RX6, TX6, 5, tyX6, rfl, fw_X6, by decide, fl_X6_9, tyX6_ok, nmX6, rfl, rfl, by decide +kernel⟩
theorem fl_X6_15 : Cond.fieldLink RX6 15 (TX6 0).1 (TX6 0).2.1 (TX6 0).2.2.1 ∈ wU := wU_at 486 (by decide +kernel) rfl
theorem fg_X6_15 : GW RX6 15 6 0 := ⟨RX6, TX6, 5, rfl, fw_X6, by decide, fl_X6_15⟩
theorem fp_X6_15 : PW RX6 15 6 0 (.int) true := ⟨RX6, TX6, 5, tyX6, rfl, fw_X6, by decide, fl_X6_15, tyX6_ok, nmX6, rfl, rfl, by decide +kernel⟩
theorem fl_X6_18 : Cond.fieldLink RX6 18 (TX6 1).1 (TX6 1).2.1 (TX6 1).2.2.1 ∈ wU := wU_at 489 (by decide +kernel) rfl
theorem fg_X6_18 : GW RX6 18 6 1 := ⟨RX6, TX6, 5, rfl, fw_X6, by decide, fl_X6_18⟩
theorem fp_X6_18 : PW RX6 18 6 1 (.object "Bgpreplay$Prefix") true := ⟨RX6, TX6, 5, tyX6, rfl, fw_X6, by decide, fl_X6_18, tyX6_ok, nmX6, rfl, rfl, by decide +kernel⟩
theorem fl_X6_22 : Cond.fieldLink RX6 22 (TX6 2).1 (TX6 2).2.1 (TX6 2).2.2.1 ∈ wU := wU_at 494 (by decide +kernel) rfl
theorem fg_X6_22 : GW RX6 22 6 2 := ⟨RX6, TX6, 5, rfl, fw_X6, by decide, fl_X6_22⟩
theorem fp_X6_22 : PW RX6 22 6 2 (.object "Bgpreplay$Path") true := ⟨RX6, TX6, 5, tyX6, rfl, fw_X6, by decide, fl_X6_22, tyX6_ok, nmX6, rfl, rfl, by decide +kernel⟩
theorem fl_X6_26 : Cond.fieldLink RX6 26 (TX6 3).1 (TX6 3).2.1 (TX6 3).2.2.1 ∈ wU := wU_at 498 (by decide +kernel) rfl
theorem fg_X6_26 : GW RX6 26 6 3 := ⟨RX6, TX6, 5, rfl, fw_X6, by decide, fl_X6_26⟩
theorem fp_X6_26 : PW RX6 26 6 3 (.int) true := ⟨RX6, TX6, 5, tyX6, rfl, fw_X6, by decide, fl_X6_26, tyX6_ok, nmX6, rfl, rfl, by decide +kernel⟩
theorem fl_X7_11 : Cond.fieldLink RX7 11 (TX7 0).1 (TX7 0).2.1 (TX7 0).2.2.1 ∈ wU := wU_at 71 (by decide +kernel) rfl
theorem fg_X7_11 : GW RX7 11 7 0 := ⟨RX7, TX7, 3, rfl, fw_X7, by decide, fl_X7_11⟩
theorem fp_X7_11 : PW RX7 11 7 0 (.array (.object "Bgpreplay$Route")) true := ⟨RX7, TX7, 3, tyX7, rfl, fw_X7, by decide, fl_X7_11, tyX7_ok, nmX7, rfl, rfl, by decide +kernel⟩
theorem fl_X7_17 : Cond.fieldLink RX7 17 (TX7 1).1 (TX7 1).2.1 (TX7 1).2.2.1 ∈ wU := wU_at 72 (by decide +kernel) rfl
theorem fg_X7_17 : GW RX7 17 7 1 := ⟨RX7, TX7, 3, rfl, fw_X7, by decide, fl_X7_17⟩
theorem fp_X7_17 : PW RX7 17 7 1 (.array .int) true := ⟨RX7, TX7, 3, tyX7, rfl, fw_X7, by decide, fl_X7_17, tyX7_ok, nmX7, rfl, rfl, by decide +kernel⟩
theorem fl_X7_21 : Cond.fieldLink RX7 21 (TX7 2).1 (TX7 2).2.1 (TX7 2).2.2.1 ∈ wU := wU_at 73 (by decide +kernel) rfl
theorem fg_X7_21 : GW RX7 21 7 2 := ⟨RX7, TX7, 3, rfl, fw_X7, by decide, fl_X7_21⟩
theorem fp_X7_21 : PW RX7 21 7 2 (.array .int) true := ⟨RX7, TX7, 3, tyX7, rfl, fw_X7, by decide, fl_X7_21, tyX7_ok, nmX7, rfl, rfl, by decide +kernel⟩
theorem fl_X8_12 : Cond.fieldLink RX8 12 (TX8 0).1 (TX8 0).2.1 (TX8 0).2.2.1 ∈ wU := wU_at 134 (by decide +kernel) rfl
theorem fg_X8_12 : GW RX8 12 8 0 := ⟨RX8, TX8, 6, rfl, fw_X8, by decide, fl_X8_12⟩
theorem fp_X8_12 : PW RX8 12 8 0 (.object "Bgpreplay$Path") true := ⟨RX8, TX8, 6, tyX8, rfl, fw_X8, by decide, fl_X8_12, tyX8_ok, nmX8, rfl, rfl, by decide +kernel⟩
theorem fl_X8_19 : Cond.fieldLink RX8 19 (TX8 1).1 (TX8 1).2.1 (TX8 1).2.2.1 ∈ wU := wU_at 135 (by decide +kernel) rfl
theorem fg_X8_19 : GW RX8 19 8 1 := ⟨RX8, TX8, 6, rfl, fw_X8, by decide, fl_X8_19⟩
theorem fp_X8_19 : PW RX8 19 8 1 (.object "Bgpreplay$Tree") true := ⟨RX8, TX8, 6, tyX8, rfl, fw_X8, by decide, fl_X8_19, tyX8_ok, nmX8, rfl, rfl, by decide +kernel⟩
theorem fl_X8_26 : Cond.fieldLink RX8 26 (TX8 2).1 (TX8 2).2.1 (TX8 2).2.2.1 ∈ wU := wU_at 136 (by decide +kernel) rfl
theorem fg_X8_26 : GW RX8 26 8 2 := ⟨RX8, TX8, 6, rfl, fw_X8, by decide, fl_X8_26⟩
theorem fp_X8_26 : PW RX8 26 8 2 (.object "Bgpreplay$History") true := ⟨RX8, TX8, 6, tyX8, rfl, fw_X8, by decide, fl_X8_26, tyX8_ok, nmX8, rfl, rfl, by decide +kernel⟩
theorem fl_X8_33 : Cond.fieldLink RX8 33 (TX8 3).1 (TX8 3).2.1 (TX8 3).2.2.1 ∈ wU := wU_at 137 (by decide +kernel) rfl
theorem fg_X8_33 : GW RX8 33 8 3 := ⟨RX8, TX8, 6, rfl, fw_X8, by decide, fl_X8_33⟩
theorem fp_X8_33 : PW RX8 33 8 3 (.object "Bgpreplay$Registry") true := ⟨RX8, TX8, 6, tyX8, rfl, fw_X8, by decide, fl_X8_33, tyX8_ok, nmX8, rfl, rfl, by decide +kernel⟩
theorem fl_X8_40 : Cond.fieldLink RX8 40 (TX8 4).1 (TX8 4).2.1 (TX8 4).2.2.1 ∈ wU := wU_at 138 (by decide +kernel) rfl
theorem fg_X8_40 : GW RX8 40 8 4 := ⟨RX8, TX8, 6, rfl, fw_X8, by decide, fl_X8_40⟩
theorem fp_X8_40 : PW RX8 40 8 4 (.object "Bgpreplay$Relations") true := ⟨RX8, TX8, 6, tyX8, rfl, fw_X8, by decide, fl_X8_40, tyX8_ok, nmX8, rfl, rfl, by decide +kernel⟩
theorem fl_X8_44 : Cond.fieldLink RX8 44 (TX8 5).1 (TX8 5).2.1 (TX8 5).2.2.1 ∈ wU := wU_at 139 (by decide +kernel) rfl
theorem fg_X8_44 : GW RX8 44 8 5 := ⟨RX8, TX8, 6, rfl, fw_X8, by decide, fl_X8_44⟩
theorem fp_X8_44 : PW RX8 44 8 5 (.int) false := ⟨RX8, TX8, 6, tyX8, rfl, fw_X8, by decide, fl_X8_44, tyX8_ok, nmX8, rfl, rfl, by decide +kernel⟩
theorem fl_X9_7 : Cond.fieldLink RX9 7 (TX9 1).1 (TX9 1).2.1 (TX9 1).2.2.1 ∈ wU := wU_at 784 (by decide +kernel) rfl
theorem fg_X9_7 : GW RX9 7 9 1 := ⟨RX9, TX9, 16, rfl, fw_X9, by decide, fl_X9_7⟩
theorem fp_X9_7 : PW RX9 7 9 1 (.array .int) true := ⟨RX9, TX9, 16, tyX9, rfl, fw_X9, by decide, fl_X9_7, tyX9_ok, nmX9, rfl, rfl, by decide +kernel⟩
theorem fl_X9_13 : Cond.fieldLink RX9 13 (TX9 4).1 (TX9 4).2.1 (TX9 4).2.2.1 ∈ wU := wU_at 787 (by decide +kernel) rfl
theorem fg_X9_13 : GW RX9 13 9 4 := ⟨RX9, TX9, 16, rfl, fw_X9, by decide, fl_X9_13⟩
theorem fp_X9_13 : PW RX9 13 9 4 (.array .int) true := ⟨RX9, TX9, 16, tyX9, rfl, fw_X9, by decide, fl_X9_13, tyX9_ok, nmX9, rfl, rfl, by decide +kernel⟩
theorem fl_X9_16 : Cond.fieldLink RX9 16 (TX9 5).1 (TX9 5).2.1 (TX9 5).2.2.1 ∈ wU := wU_at 788 (by decide +kernel) rfl
theorem fg_X9_16 : GW RX9 16 9 5 := ⟨RX9, TX9, 16, rfl, fw_X9, by decide, fl_X9_16⟩
theorem fp_X9_16 : PW RX9 16 9 5 (.array .int) true := ⟨RX9, TX9, 16, tyX9, rfl, fw_X9, by decide, fl_X9_16, tyX9_ok, nmX9, rfl, rfl, by decide +kernel⟩
theorem fl_X9_19 : Cond.fieldLink RX9 19 (TX9 6).1 (TX9 6).2.1 (TX9 6).2.2.1 ∈ wU := wU_at 789 (by decide +kernel) rfl
theorem fg_X9_19 : GW RX9 19 9 6 := ⟨RX9, TX9, 16, rfl, fw_X9, by decide, fl_X9_19⟩
theorem fp_X9_19 : PW RX9 19 9 6 (.array .int) true := ⟨RX9, TX9, 16, tyX9, rfl, fw_X9, by decide, fl_X9_19, tyX9_ok, nmX9, rfl, rfl, by decide +kernel⟩
theorem fl_X9_22 : Cond.fieldLink RX9 22 (TX9 7).1 (TX9 7).2.1 (TX9 7).2.2.1 ∈ wU := wU_at 790 (by decide +kernel) rfl
theorem fg_X9_22 : GW RX9 22 9 7 := ⟨RX9, TX9, 16, rfl, fw_X9, by decide, fl_X9_22⟩
theorem fp_X9_22 : PW RX9 22 9 7 (.array .int) true := ⟨RX9, TX9, 16, tyX9, rfl, fw_X9, by decide, fl_X9_22, tyX9_ok, nmX9, rfl, rfl, by decide +kernel⟩
theorem fl_X9_25 : Cond.fieldLink RX9 25 (TX9 8).1 (TX9 8).2.1 (TX9 8).2.2.1 ∈ wU := wU_at 791 (by decide +kernel) rfl
theorem fg_X9_25 : GW RX9 25 9 8 := ⟨RX9, TX9, 16, rfl, fw_X9, by decide, fl_X9_25⟩
theorem fp_X9_25 : PW RX9 25 9 8 (.array .int) true := ⟨RX9, TX9, 16, tyX9, rfl, fw_X9, by decide, fl_X9_25, tyX9_ok, nmX9, rfl, rfl, by decide +kernel⟩
theorem fl_X9_28 : Cond.fieldLink RX9 28 (TX9 9).1 (TX9 9).2.1 (TX9 9).2.2.1 ∈ wU := wU_at 792 (by decide +kernel) rfl
theorem fg_X9_28 : GW RX9 28 9 9 := ⟨RX9, TX9, 16, rfl, fw_X9, by decide, fl_X9_28⟩
theorem fp_X9_28 : PW RX9 28 9 9 (.array .int) true := ⟨RX9, TX9, 16, tyX9, rfl, fw_X9, by decide, fl_X9_28, tyX9_ok, nmX9, rfl, rfl, by decide +kernel⟩
theorem fl_X9_31 : Cond.fieldLink RX9 31 (TX9 11).1 (TX9 11).2.1 (TX9 11).2.2.1 ∈ wU := wU_at 794 (by decide +kernel) rfl
theorem fg_X9_31 : GW RX9 31 9 11 := ⟨RX9, TX9, 16, rfl, fw_X9, by decide, fl_X9_31⟩
theorem fp_X9_31 : PW RX9 31 9 11 (.array .int) true := ⟨RX9, TX9, 16, tyX9, rfl, fw_X9, by decide, fl_X9_31, tyX9_ok, nmX9, rfl, rfl, by decide +kernel⟩
theorem fl_X9_34 : Cond.fieldLink RX9 34 (TX9 12).1 (TX9 12).2.1 (TX9 12).2.2.1 ∈ wU := wU_at 795 (by decide +kernel) rfl
theorem fg_X9_34 : GW RX9 34 9 12 := ⟨RX9, TX9, 16, rfl, fw_X9, by decide, fl_X9_34⟩
theorem fp_X9_34 : PW RX9 34 9 12 (.array .int) true := ⟨RX9, TX9, 16, tyX9, rfl, fw_X9, by decide, fl_X9_34, tyX9_ok, nmX9, rfl, rfl, by decide +kernel⟩
theorem fl_X9_37 : Cond.fieldLink RX9 37 (TX9 13).1 (TX9 13).2.1 (TX9 13).2.2.1 ∈ wU := wU_at 796 (by decide +kernel) rfl
theorem fg_X9_37 : GW RX9 37 9 13 := ⟨RX9, TX9, 16, rfl, fw_X9, by decide, fl_X9_37⟩
theorem fp_X9_37 : PW RX9 37 9 13 (.array .int) true := ⟨RX9, TX9, 16, tyX9, rfl, fw_X9, by decide, fl_X9_37, tyX9_ok, nmX9, rfl, rfl, by decide +kernel⟩
theorem fl_X9_40 : Cond.fieldLink RX9 40 (TX9 14).1 (TX9 14).2.1 (TX9 14).2.2.1 ∈ wU := wU_at 797 (by decide +kernel) rfl
theorem fg_X9_40 : GW RX9 40 9 14 := ⟨RX9, TX9, 16, rfl, fw_X9, by decide, fl_X9_40⟩
theorem fp_X9_40 : PW RX9 40 9 14 (.array .int) true := ⟨RX9, TX9, 16, tyX9, rfl, fw_X9, by decide, fl_X9_40, tyX9_ok, nmX9, rfl, rfl, by decide +kernel⟩
theorem fl_X9_47 : Cond.fieldLink RX9 47 (TX9 15).1 (TX9 15).2.1 (TX9 15).2.2.1 ∈ wU := wU_at 798 (by decide +kernel) rfl
theorem fg_X9_47 : GW RX9 47 9 15 := ⟨RX9, TX9, 16, rfl, fw_X9, by decide, fl_X9_47⟩
theorem fp_X9_47 : PW RX9 47 9 15 (.int) false := ⟨RX9, TX9, 16, tyX9, rfl, fw_X9, by decide, fl_X9_47, tyX9_ok, nmX9, rfl, rfl, by decide +kernel⟩
theorem fl_X9_59 : Cond.fieldLink RX9 59 (TX9 3).1 (TX9 3).2.1 (TX9 3).2.2.1 ∈ wU := wU_at 786 (by decide +kernel) rfl
theorem fg_X9_59 : GW RX9 59 9 3 := ⟨RX9, TX9, 16, rfl, fw_X9, by decide, fl_X9_59⟩
theorem fp_X9_59 : PW RX9 59 9 3 (.int) false := ⟨RX9, TX9, 16, tyX9, rfl, fw_X9, by decide, fl_X9_59, tyX9_ok, nmX9, rfl, rfl, by decide +kernel⟩
theorem fl_X9_73 : Cond.fieldLink RX9 73 (TX9 0).1 (TX9 0).2.1 (TX9 0).2.2.1 ∈ wU := wU_at 783 (by decide +kernel) rfl
theorem fg_X9_73 : GW RX9 73 9 0 := ⟨RX9, TX9, 16, rfl, fw_X9, by decide, fl_X9_73⟩
theorem fp_X9_73 : PW RX9 73 9 0 (.int) false := ⟨RX9, TX9, 16, tyX9, rfl, fw_X9, by decide, fl_X9_73, tyX9_ok, nmX9, rfl, rfl, by decide +kernel⟩
theorem fl_X9_77 : Cond.fieldLink RX9 77 (TX9 2).1 (TX9 2).2.1 (TX9 2).2.2.1 ∈ wU := wU_at 785 (by decide +kernel) rfl
theorem fg_X9_77 : GW RX9 77 9 2 := ⟨RX9, TX9, 16, rfl, fw_X9, by decide, fl_X9_77⟩
theorem fp_X9_77 : PW RX9 77 9 2 (.int) false := ⟨RX9, TX9, 16, tyX9, rfl, fw_X9, by decide, fl_X9_77, tyX9_ok, nmX9, rfl, rfl, by decide +kernel⟩
theorem fl_X9_117 : Cond.fieldLink RX9 117 (TX9 10).1 (TX9 10).2.1 (TX9 10).2.2.1 ∈ wU := wU_at 793 (by decide +kernel) rfl
theorem fg_X9_117 : GW RX9 117 9 10 := ⟨RX9, TX9, 16, rfl, fw_X9, by decide, fl_X9_117⟩
theorem fp_X9_117 : PW RX9 117 9 10 (.int) false := ⟨RX9, TX9, 16, tyX9, rfl, fw_X9, by decide, fl_X9_117, tyX9_ok, nmX9, rfl, rfl, by decide +kernel⟩
theorem lc_L_8 : Cond.classLink RL 8 RX8 ∈ wU := wU_at 41 (by decide +kernel) rfl
theorem lc_L_13 : Cond.classLink RL 13 "java/lang/IllegalArgumentException" ∈ wU := wU_at 268 (by decide +kernel) rfl
theorem lc_L_15 : Cond.classLink RL 15 "java/lang/IllegalStateException" ∈ wU := wU_at 269 (by decide +kernel) rfl
theorem lc_L_24 : Cond.classLink RL 24 "java/lang/IndexOutOfBoundsException" ∈ wU := wU_at 390 (by decide +kernel) rfl
theorem lc_L_30 : Cond.classLink RL 30 "java/util/NoSuchElementException" ∈ wU := wU_at 528 (by decide +kernel) rfl
theorem lc_L_78 : Cond.classLink RL 78 RX9 ∈ wU := wU_at 773 (by decide +kernel) rfl
theorem lc_X1_19 : Cond.classLink RX1 19 RX6 ∈ wU := wU_at 87 (by decide +kernel) rfl
theorem lc_X2_10 : Cond.classLink RX2 10 RX2 ∈ wU := wU_at 479 (by decide +kernel) rfl
theorem lc_X4_9 : Cond.classLink RX4 9 RX0 ∈ wU := wU_at 113 (by decide +kernel) rfl
theorem lc_X5_9 : Cond.classLink RX5 9 "[[I" ∈ wU := wU_at 128 (by decide +kernel) rfl
theorem lc_X7_9 : Cond.classLink RX7 9 RX6 ∈ wU := wU_at 69 (by decide +kernel) rfl
theorem lc_X8_9 : Cond.classLink RX8 9 RX2 ∈ wU := wU_at 49 (by decide +kernel) rfl
theorem lc_X8_16 : Cond.classLink RX8 16 RX7 ∈ wU := wU_at 63 (by decide +kernel) rfl
theorem lc_X8_23 : Cond.classLink RX8 23 RX1 ∈ wU := wU_at 81 (by decide +kernel) rfl
theorem lc_X8_30 : Cond.classLink RX8 30 RX4 ∈ wU := wU_at 107 (by decide +kernel) rfl
theorem lc_X8_37 : Cond.classLink RX8 37 RX5 ∈ wU := wU_at 122 (by decide +kernel) rfl
theorem lc_X8_48 : Cond.classLink RX8 48 "java/lang/IllegalArgumentException" ∈ wU := wU_at 274 (by decide +kernel) rfl
theorem lc_X8_56 : Cond.classLink RX8 56 "java/lang/IllegalStateException" ∈ wU := wU_at 344 (by decide +kernel) rfl
theorem lc_X8_109 : Cond.classLink RX8 109 RX3 ∈ wU := wU_at 427 (by decide +kernel) rfl
theorem lc_X8_121 : Cond.classLink RX8 121 RX6 ∈ wU := wU_at 473 (by decide +kernel) rfl
theorem lc_X8_150 : Cond.classLink RX8 150 "java/lang/IndexOutOfBoundsException" ∈ wU := wU_at 400 (by decide +kernel) rfl
theorem lc_X8_197 : Cond.classLink RX8 197 RX0 ∈ wU := wU_at 662 (by decide +kernel) rfl
theorem lc_X8_260 : Cond.classLink RX8 260 "java/util/NoSuchElementException" ∈ wU := wU_at 537 (by decide +kernel) rfl
theorem iw_X0 : Cond.instantiable RX0 3 ∈ wU := wU_at 663 (by decide +kernel) rfl
theorem nw_X0 : Cond.initialized RX0 ∈ wU := wU_at 40 (by decide +kernel) rfl
theorem iw_X1 : Cond.instantiable RX1 6 ∈ wU := wU_at 82 (by decide +kernel) rfl
theorem nw_X1 : Cond.initialized RX1 ∈ wU := wU_at 26 (by decide +kernel) rfl
theorem iw_X2 : Cond.instantiable RX2 2 ∈ wU := wU_at 50 (by decide +kernel) rfl
theorem nw_X2 : Cond.initialized RX2 ∈ wU := wU_at 24 (by decide +kernel) rfl
theorem iw_X3 : Cond.instantiable RX3 2 ∈ wU := wU_at 428 (by decide +kernel) rfl
theorem nw_X3 : Cond.initialized RX3 ∈ wU := wU_at 36 (by decide +kernel) rfl
theorem iw_X4 : Cond.instantiable RX4 2 ∈ wU := wU_at 108 (by decide +kernel) rfl
theorem nw_X4 : Cond.initialized RX4 ∈ wU := wU_at 27 (by decide +kernel) rfl
theorem iw_X5 : Cond.instantiable RX5 1 ∈ wU := wU_at 123 (by decide +kernel) rfl
theorem nw_X5 : Cond.initialized RX5 ∈ wU := wU_at 28 (by decide +kernel) rfl
theorem iw_X6 : Cond.instantiable RX6 5 ∈ wU := wU_at 474 (by decide +kernel) rfl
theorem nw_X6 : Cond.initialized RX6 ∈ wU := wU_at 37 (by decide +kernel) rfl
theorem iw_X7 : Cond.instantiable RX7 3 ∈ wU := wU_at 64 (by decide +kernel) rfl
theorem nw_X7 : Cond.initialized RX7 ∈ wU := wU_at 25 (by decide +kernel) rfl
theorem iw_X8 : Cond.instantiable RX8 6 ∈ wU := wU_at 42 (by decide +kernel) rfl
theorem nw_X8 : Cond.initialized RX8 ∈ wU := wU_at 23 (by decide +kernel) rfl
theorem iw_X9 : Cond.instantiable RX9 16 ∈ wU := wU_at 774 (by decide +kernel) rfl
theorem nw_X9 : Cond.initialized RX9 ∈ wU := wU_at 29 (by decide +kernel) rfl
theorem cw_J6_265 : Cond.constant RJ6 265 (1431655765) ∈ wU := wU_at 225 (by decide +kernel) rfl
theorem cw_J6_266 : Cond.constant RJ6 266 (858993459) ∈ wU := wU_at 226 (by decide +kernel) rfl
theorem cw_J6_267 : Cond.constant RJ6 267 (252645135) ∈ wU := wU_at 227 (by decide +kernel) rfl
theorem cw_X8_55 : Cond.constant RX8 55 (1000000) ∈ wU := wU_at 343 (by decide +kernel) rfl
theorem cw_X9_76 : Cond.constant RX9 76 (1000000) ∈ wU := wU_at 843 (by decide +kernel) rfl
theorem aw_int : Cond.arrayClass .int ∈ wU := wU_at 62 (by decide +kernel) rfl
theorem aw_byte : Cond.arrayClass .byte ∈ wU := wU_at 342 (by decide +kernel) rfl
theorem aw_long : Cond.arrayClass .long ∈ wU := wU_at 999 (by decide +kernel) rfl
theorem oi_inst : Cond.instanceMethod objectInit ∈ wU := wU_at 47 (by decide +kernel) rfl
theorem oi_code : Cond.code objectInit ⟨#[0xb1]⟩ 1 none ∈ wU := wU_at 48 (by decide +kernel) rfl
/-- the words that are no good ones: links between nest mates, casts, declarations -/
def eBad : List Cond := [(Cond.methodLinkNest "Bgpreplay" (11) ⟨"Bgpreplay$Path", "<init>", "()V"⟩ "Bgpreplay"), (Cond.methodLinkNest "Bgpreplay" (18) ⟨"Bgpreplay$Tree", "<init>", "()V"⟩ "Bgpreplay"), (Cond.methodLinkNest "Bgpreplay" (25) ⟨"Bgpreplay$History", "<init>", "()V"⟩ "Bgpreplay"), (Cond.methodLinkNest "Bgpreplay" (32) ⟨"Bgpreplay$Registry", "<init>", "()V"⟩ "Bgpreplay"), (Cond.methodLinkNest "Bgpreplay" (39) ⟨"Bgpreplay$Relations", "<init>", "()V"⟩ "Bgpreplay"), (Cond.methodLinkNest "Bgpreplay$Tree" (78) ⟨"Bgpreplay", "isPrefixNumber", "(I)Z"⟩ "Bgpreplay"), (Cond.methodLinkNest "Bgpreplay$Tree" (41) ⟨"Bgpreplay", "isPeer", "(I)Z"⟩ "Bgpreplay"), (Cond.methodLinkNest "Bgpreplay$History" (66) ⟨"Bgpreplay", "isPrefixNumber", "(I)Z"⟩ "Bgpreplay"), (Cond.castable "java/lang/IllegalArgumentException" "java/lang/IllegalArgumentException"), (Cond.declares ⟨"java/lang/RuntimeException", "<init>", "()V"⟩), (Cond.declares ⟨"java/lang/RuntimeException", "<init>", "(Ljava/lang/String;)V"⟩), (Cond.declares ⟨"java/lang/Exception", "<init>", "()V"⟩), (Cond.declares ⟨"java/lang/Exception", "<init>", "(Ljava/lang/String;)V"⟩), (Cond.declares ⟨"java/lang/Throwable", "<init>", "()V"⟩), (Cond.declares ⟨"java/lang/Throwable", "<init>", "(Ljava/lang/String;)V"⟩), (Cond.castable "java/lang/IllegalStateException" "java/lang/IllegalStateException"), (Cond.castable "java/lang/IndexOutOfBoundsException" "java/lang/IndexOutOfBoundsException"), (Cond.methodLinkNest "Bgpreplay$Prefix" (7) ⟨"Bgpreplay", "prefixNumber", "(II)I"⟩ "Bgpreplay"), (Cond.fieldLinkNest "Bgpreplay$Entry" (20) "Bgpreplay$Prefix" "number" "I" "Bgpreplay"), (Cond.fieldLinkNest "Bgpreplay$Tree" (32) "Bgpreplay$Prefix" "number" "I" "Bgpreplay"), (Cond.fieldLinkNest "Bgpreplay" (108) "Bgpreplay$Prefix" "number" "I" "Bgpreplay"), (Cond.fieldLinkNest "Bgpreplay$History" (63) "Bgpreplay$Prefix" "number" "I" "Bgpreplay"), (Cond.fieldLinkNest "Bgpreplay$Route" (35) "Bgpreplay$Prefix" "length" "I" "Bgpreplay"), (Cond.fieldLinkNest "Bgpreplay$Entry" (41) "Bgpreplay$Prefix" "length" "I" "Bgpreplay"), (Cond.fieldLinkNest "Bgpreplay" (274) "Bgpreplay$Prefix" "length" "I" "Bgpreplay"), (Cond.fieldLinkNest "Bgpreplay$Tree" (38) "Bgpreplay$Route" "peer" "I" "Bgpreplay"), (Cond.fieldLinkNest "Bgpreplay" (162) "Bgpreplay$Route" "peer" "I" "Bgpreplay"), (Cond.fieldLinkNest "Bgpreplay$Tree" (28) "Bgpreplay$Route" "prefix" "LBgpreplay$Prefix;" "Bgpreplay"), (Cond.fieldLinkNest "Bgpreplay$Entry" (25) "Bgpreplay$Route" "prefix" "LBgpreplay$Prefix;" "Bgpreplay"), (Cond.fieldLinkNest "Bgpreplay$History" (42) "Bgpreplay$Route" "prefix" "LBgpreplay$Prefix;" "Bgpreplay"), (Cond.fieldLinkNest "Bgpreplay" (181) "Bgpreplay$Route" "prefix" "LBgpreplay$Prefix;" "Bgpreplay"), (Cond.fieldLinkNest "Bgpreplay$Entry" (32) "Bgpreplay$Route" "path" "LBgpreplay$Path;" "Bgpreplay"), (Cond.fieldLinkNest "Bgpreplay" (155) "Bgpreplay$Route" "path" "LBgpreplay$Path;" "Bgpreplay"), (Cond.fieldLinkNest "Bgpreplay$Tree" (68) "Bgpreplay$Route" "path" "LBgpreplay$Path;" "Bgpreplay"), (Cond.fieldLinkNest "Bgpreplay" (268) "Bgpreplay$Route" "end" "I" "Bgpreplay"), (Cond.castable "java/util/NoSuchElementException" "java/util/NoSuchElementException"), (Cond.methodLinkNest "Bgpreplay$Tree" (56) ⟨"Bgpreplay", "prefixNumber", "(II)I"⟩ "Bgpreplay"), (Cond.methodLinkNest "Bgpreplay$Relations" (16) ⟨"Bgpreplay", "isNetwork", "(I)Z"⟩ "Bgpreplay"), (Cond.castable "Bgpreplay" "java/lang/Object"), (Cond.castable "Bgpreplay$Path" "java/lang/Object"), (Cond.castable "Bgpreplay$Tree" "java/lang/Object"), (Cond.castable "Bgpreplay$History" "java/lang/Object"), (Cond.castable "Bgpreplay$Registry" "java/lang/Object"), (Cond.castable "Bgpreplay$Relations" "java/lang/Object"), (Cond.castable "BgpreplayModel" "java/lang/Object"), (Cond.castable "java/lang/IllegalArgumentException" "java/lang/Object"), (Cond.castable "java/lang/IllegalStateException" "java/lang/Object"), (Cond.castable "java/lang/IndexOutOfBoundsException" "java/lang/Object"), (Cond.castable "Bgpreplay$Prefix" "java/lang/Object"), (Cond.castable "Bgpreplay$Route" "java/lang/Object"), (Cond.castable "java/util/NoSuchElementException" "java/lang/Object"), (Cond.castable "Bgpreplay$Entry" "java/lang/Object"), (Cond.castable "java/lang/Throwable" "java/lang/Object"), (Cond.castable "java/lang/String" "java/lang/Object")]
theorem ln_X8_11 : (Cond.methodLinkNest RX8 11 yX2_init "Bgpreplay") ∈ eBad := List.mem_of_getElem? (i := 0) rfl
theorem ln_X8_18 : (Cond.methodLinkNest RX8 18 yX7_init "Bgpreplay") ∈ eBad := List.mem_of_getElem? (i := 1) rfl
theorem ln_X8_25 : (Cond.methodLinkNest RX8 25 yX1_init "Bgpreplay") ∈ eBad := List.mem_of_getElem? (i := 2) rfl
theorem ln_X8_32 : (Cond.methodLinkNest RX8 32 yX4_init "Bgpreplay") ∈ eBad := List.mem_of_getElem? (i := 3) rfl
theorem ln_X8_39 : (Cond.methodLinkNest RX8 39 yX5_init "Bgpreplay") ∈ eBad := List.mem_of_getElem? (i := 4) rfl
theorem ln_X7_78 : (Cond.methodLinkNest RX7 78 yX8_isPrefixNumber "Bgpreplay") ∈ eBad := List.mem_of_getElem? (i := 5) rfl
theorem ln_X7_41 : (Cond.methodLinkNest RX7 41 yX8_isPeer "Bgpreplay") ∈ eBad := List.mem_of_getElem? (i := 6) rfl
theorem ln_X1_66 : (Cond.methodLinkNest RX1 66 yX8_isPrefixNumber "Bgpreplay") ∈ eBad := List.mem_of_getElem? (i := 7) rfl
theorem cs_8 : (Cond.castable "java/lang/IllegalArgumentException" "java/lang/IllegalArgumentException") ∈ eBad := List.mem_of_getElem? (i := 8) rfl
theorem cs_15 : (Cond.castable "java/lang/IllegalStateException" "java/lang/IllegalStateException") ∈ eBad := List.mem_of_getElem? (i := 15) rfl
theorem cs_16 : (Cond.castable "java/lang/IndexOutOfBoundsException" "java/lang/IndexOutOfBoundsException") ∈ eBad := List.mem_of_getElem? (i := 16) rfl
theorem ln_X3_7 : (Cond.methodLinkNest RX3 7 yX8_prefixNumber "Bgpreplay") ∈ eBad := List.mem_of_getElem? (i := 17) rfl
theorem cs_35 : (Cond.castable "java/util/NoSuchElementException" "java/util/NoSuchElementException") ∈ eBad := List.mem_of_getElem? (i := 35) rfl
theorem ln_X7_56 : (Cond.methodLinkNest RX7 56 yX8_prefixNumber "Bgpreplay") ∈ eBad := List.mem_of_getElem? (i := 36) rfl
theorem ln_X5_16 : (Cond.methodLinkNest RX5 16 yX8_isNetwork "Bgpreplay") ∈ eBad := List.mem_of_getElem? (i := 37) rfl
theorem cs_38 : (Cond.castable "Bgpreplay" "java/lang/Object") ∈ eBad := List.mem_of_getElem? (i := 38) rfl
theorem cs_39 : (Cond.castable "Bgpreplay$Path" "java/lang/Object") ∈ eBad := List.mem_of_getElem? (i := 39) rfl
theorem cs_40 : (Cond.castable "Bgpreplay$Tree" "java/lang/Object") ∈ eBad := List.mem_of_getElem? (i := 40) rfl
theorem cs_41 : (Cond.castable "Bgpreplay$History" "java/lang/Object") ∈ eBad := List.mem_of_getElem? (i := 41) rfl
theorem cs_42 : (Cond.castable "Bgpreplay$Registry" "java/lang/Object") ∈ eBad := List.mem_of_getElem? (i := 42) rfl
theorem cs_43 : (Cond.castable "Bgpreplay$Relations" "java/lang/Object") ∈ eBad := List.mem_of_getElem? (i := 43) rfl
theorem cs_44 : (Cond.castable "BgpreplayModel" "java/lang/Object") ∈ eBad := List.mem_of_getElem? (i := 44) rfl
theorem cs_45 : (Cond.castable "java/lang/IllegalArgumentException" "java/lang/Object") ∈ eBad := List.mem_of_getElem? (i := 45) rfl
theorem cs_46 : (Cond.castable "java/lang/IllegalStateException" "java/lang/Object") ∈ eBad := List.mem_of_getElem? (i := 46) rfl
theorem cs_47 : (Cond.castable "java/lang/IndexOutOfBoundsException" "java/lang/Object") ∈ eBad := List.mem_of_getElem? (i := 47) rfl
theorem cs_48 : (Cond.castable "Bgpreplay$Prefix" "java/lang/Object") ∈ eBad := List.mem_of_getElem? (i := 48) rfl
theorem cs_49 : (Cond.castable "Bgpreplay$Route" "java/lang/Object") ∈ eBad := List.mem_of_getElem? (i := 49) rfl
theorem cs_50 : (Cond.castable "java/util/NoSuchElementException" "java/lang/Object") ∈ eBad := List.mem_of_getElem? (i := 50) rfl
theorem cs_51 : (Cond.castable "Bgpreplay$Entry" "java/lang/Object") ∈ eBad := List.mem_of_getElem? (i := 51) rfl
theorem cs_52 : (Cond.castable "java/lang/Throwable" "java/lang/Object") ∈ eBad := List.mem_of_getElem? (i := 52) rfl
theorem cs_53 : (Cond.castable "java/lang/String" "java/lang/Object") ∈ eBad := List.mem_of_getElem? (i := 53) rfl
def GN (own : String) (index ci k : Nat) : Prop := ∃ (C : String) (T : u_T) (N : Nat), vwCl[ci]? = some (C, T, N) ∧ (∀ w ∈ u_ws C T N, w ∈ wU) ∧ k < N ∧ Cond.fieldLinkNest own index (T k).1 (T k).2.1 (T k).2.2.1 "Bgpreplay" ∈ eBad
def PN (own : String) (index ci k : Nat) (ty : FieldType) : Prop := ∃ (C : String) (T : u_T) (N : Nat) (ty0 : Nat → FieldType), vwCl[ci]? = some (C, T, N) ∧ (∀ w ∈ u_ws C T N, w ∈ wU) ∧ k < N ∧ Cond.fieldLinkNest own index (T k).1 (T k).2.1 (T k).2.2.1 "Bgpreplay" ∈ eBad ∧ (∀ k, k < N → parseFieldDescriptor (T k).2.2.1 = some (ty0 k)) ∧ (∀ a, a < N → ∀ b, b < N → a ≠ b → (T a).2.1 ≠ (T b).2.1) ∧ (T k).2.2.2 = false ∧ parseFieldDescriptor (T k).2.2.1 = some ty
theorem fn_X0_20 : GN RX0 20 3 0 := ⟨RX3, TX3, 2, rfl, fw_X3, by decide, List.mem_of_getElem? (i := 18) (by decide +kernel)⟩
theorem fn_X0_25 : GN RX0 25 6 1 := ⟨RX6, TX6, 5, rfl, fw_X6, by decide, List.mem_of_getElem? (i := 28) (by decide +kernel)⟩
theorem fn_X0_32 : GN RX0 32 6 2 := ⟨RX6, TX6, 5, rfl, fw_X6, by decide, List.mem_of_getElem? (i := 31) (by decide +kernel)⟩
theorem fn_X0_41 : GN RX0 41 3 1 := ⟨RX3, TX3, 2, rfl, fw_X3, by decide, List.mem_of_getElem? (i := 23) (by decide +kernel)⟩
theorem fn_X1_42 : GN RX1 42 6 1 := ⟨RX6, TX6, 5, rfl, fw_X6, by decide, List.mem_of_getElem? (i := 29) (by decide +kernel)⟩
theorem fn_X1_63 : GN RX1 63 3 0 := ⟨RX3, TX3, 2, rfl, fw_X3, by decide, List.mem_of_getElem? (i := 21) (by decide +kernel)⟩
theorem fn_X6_35 : GN RX6 35 3 1 := ⟨RX3, TX3, 2, rfl, fw_X3, by decide, List.mem_of_getElem? (i := 22) (by decide +kernel)⟩
theorem fn_X7_28 : GN RX7 28 6 1 := ⟨RX6, TX6, 5, rfl, fw_X6, by decide, List.mem_of_getElem? (i := 27) (by decide +kernel)⟩
theorem fn_X7_32 : GN RX7 32 3 0 := ⟨RX3, TX3, 2, rfl, fw_X3, by decide, List.mem_of_getElem? (i := 19) (by decide +kernel)⟩
theorem fn_X7_38 : GN RX7 38 6 0 := ⟨RX6, TX6, 5, rfl, fw_X6, by decide, List.mem_of_getElem? (i := 25) (by decide +kernel)⟩
theorem fn_X7_68 : GN RX7 68 6 2 := ⟨RX6, TX6, 5, rfl, fw_X6, by decide, List.mem_of_getElem? (i := 33) (by decide +kernel)⟩
theorem fn_X8_108 : GN RX8 108 3 0 := ⟨RX3, TX3, 2, rfl, fw_X3, by decide, List.mem_of_getElem? (i := 20) (by decide +kernel)⟩
theorem fn_X8_155 : GN RX8 155 6 2 := ⟨RX6, TX6, 5, rfl, fw_X6, by decide, List.mem_of_getElem? (i := 32) (by decide +kernel)⟩
theorem fn_X8_162 : GN RX8 162 6 0 := ⟨RX6, TX6, 5, rfl, fw_X6, by decide, List.mem_of_getElem? (i := 26) (by decide +kernel)⟩
theorem fn_X8_181 : GN RX8 181 6 1 := ⟨RX6, TX6, 5, rfl, fw_X6, by decide, List.mem_of_getElem? (i := 30) (by decide +kernel)⟩
theorem fn_X8_268 : GN RX8 268 6 4 := ⟨RX6, TX6, 5, rfl, fw_X6, by decide, List.mem_of_getElem? (i := 34) (by decide +kernel)⟩
theorem fq_X8_268 : PN RX8 268 6 4 (.int) := ⟨RX6, TX6, 5, tyX6, rfl, fw_X6, by decide, List.mem_of_getElem? (i := 34) (by decide +kernel), tyX6_ok, nmX6, rfl, by decide +kernel⟩
theorem fn_X8_274 : GN RX8 274 3 1 := ⟨RX3, TX3, 2, rfl, fw_X3, by decide, List.mem_of_getElem? (i := 24) (by decide +kernel)⟩
def eStr : List (String × Nat × String) := [(RX8, 50, "ticks is out of range"), (RX8, 58, "the time would be above 1000000"), (RX8, 65, "no such network"), (RX8, 71, "the path has 8 networks"), (RX8, 76, "the path has this network and another one behind it"), (RX8, 245, "no such peer"), (RX8, 255, "no such prefix"), (RX8, 103, "the path does not begin with the network of the peer"), (RX8, 266, "there are 300 updates"), (RX8, 262, "the peer has no route for the prefix"), (RX8, 152, "place is below 0"), (RX8, 250, "no such address"), (RX8, 195, "longest is out of range"), (RX8, 210, "there are 20 entries"), (RX8, 218, "no such two networks"), (RX8, 220, "no such relation")]
theorem es_50 : (RX8, 50, "ticks is out of range") ∈ eStr := List.mem_of_getElem? (i := 0) rfl
theorem es_58 : (RX8, 58, "the time would be above 1000000") ∈ eStr := List.mem_of_getElem? (i := 1) rfl
theorem es_65 : (RX8, 65, "no such network") ∈ eStr := List.mem_of_getElem? (i := 2) rfl
theorem es_71 : (RX8, 71, "the path has 8 networks") ∈ eStr := List.mem_of_getElem? (i := 3) rfl
theorem es_76 : (RX8, 76, "the path has this network and another one behind it") ∈ eStr := List.mem_of_getElem? (i := 4) rfl
theorem es_245 : (RX8, 245, "no such peer") ∈ eStr := List.mem_of_getElem? (i := 5) rfl
theorem es_255 : (RX8, 255, "no such prefix") ∈ eStr := List.mem_of_getElem? (i := 6) rfl
theorem es_103 : (RX8, 103, "the path does not begin with the network of the peer") ∈ eStr := List.mem_of_getElem? (i := 7) rfl
theorem es_266 : (RX8, 266, "there are 300 updates") ∈ eStr := List.mem_of_getElem? (i := 8) rfl
theorem es_262 : (RX8, 262, "the peer has no route for the prefix") ∈ eStr := List.mem_of_getElem? (i := 9) rfl
theorem es_152 : (RX8, 152, "place is below 0") ∈ eStr := List.mem_of_getElem? (i := 10) rfl
theorem es_250 : (RX8, 250, "no such address") ∈ eStr := List.mem_of_getElem? (i := 11) rfl
theorem es_195 : (RX8, 195, "longest is out of range") ∈ eStr := List.mem_of_getElem? (i := 12) rfl
theorem es_210 : (RX8, 210, "there are 20 entries") ∈ eStr := List.mem_of_getElem? (i := 13) rfl
theorem es_218 : (RX8, 218, "no such two networks") ∈ eStr := List.mem_of_getElem? (i := 14) rfl
theorem es_220 : (RX8, 220, "no such relation") ∈ eStr := List.mem_of_getElem? (i := 15) rfl
