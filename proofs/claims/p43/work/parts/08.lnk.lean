theorem ulay0 : ∀ k, k < 15 → u_lay RX0 TX0 k ∈ TB := fun k hk => match k, hk with
  | 0, _ => tw160
  | 1, _ => tw162
  | 2, _ => tw164
  | 3, _ => tw166
  | 4, _ => tw168
  | 5, _ => tw170
  | 6, _ => tw172
  | 7, _ => tw174
  | 8, _ => tw176
  | 9, _ => tw178
  | 10, _ => tw180
  | 11, _ => tw182
  | 12, _ => tw184
  | 13, _ => tw186
  | 14, _ => tw188
  | z + 15, h => absurd h (by omega)
theorem gc0 : gCl 0 RX0 TX0 15 := ⟨rfl, fun w hw => by
  obtain ⟨k, hk, rfl⟩ := List.mem_map.mp hw
  exact ulay0 k (List.mem_range.mp hk), nmX0, tyX0, tyX0_ok⟩
theorem ulay1 : ∀ k, k < 3 → u_lay RX1 TX1 k ∈ TB := fun k hk => match k, hk with
  | 0, _ => tw339
  | 1, _ => tw341
  | 2, _ => tw343
  | z + 3, h => absurd h (by omega)
theorem gc1 : gCl 1 RX1 TX1 3 := ⟨rfl, fun w hw => by
  obtain ⟨k, hk, rfl⟩ := List.mem_map.mp hw
  exact ulay1 k (List.mem_range.mp hk), nmX1, tyX1, tyX1_ok⟩
theorem ulay2 : ∀ k, k < 4 → u_lay RX2 TX2 k ∈ TB := fun k hk => match k, hk with
  | 0, _ => tw222
  | 1, _ => tw224
  | 2, _ => tw226
  | 3, _ => tw228
  | z + 4, h => absurd h (by omega)
theorem gc2 : gCl 2 RX2 TX2 4 := ⟨rfl, fun w hw => by
  obtain ⟨k, hk, rfl⟩ := List.mem_map.mp hw
  exact ulay2 k (List.mem_range.mp hk), nmX2, tyX2, tyX2_ok⟩
theorem ulay3 : ∀ k, k < 2 → u_lay RX3 TX3 k ∈ TB := fun k hk => match k, hk with
  | 0, _ => tw354
  | 1, _ => tw356
  | z + 2, h => absurd h (by omega)
theorem gc3 : gCl 3 RX3 TX3 2 := ⟨rfl, fun w hw => by
  obtain ⟨k, hk, rfl⟩ := List.mem_map.mp hw
  exact ulay3 k (List.mem_range.mp hk), nmX3, tyX3, tyX3_ok⟩
theorem ulay4 : ∀ k, k < 7 → u_lay RX4 TX4 k ∈ TB := fun k hk => match k, hk with
  | 0, _ => tw244
  | 1, _ => tw246
  | 2, _ => tw248
  | 3, _ => tw250
  | 4, _ => tw252
  | 5, _ => tw254
  | 6, _ => tw256
  | z + 7, h => absurd h (by omega)
theorem gc4 : gCl 4 RX4 TX4 7 := ⟨rfl, fun w hw => by
  obtain ⟨k, hk, rfl⟩ := List.mem_map.mp hw
  exact ulay4 k (List.mem_range.mp hk), nmX4, tyX4, tyX4_ok⟩
theorem ulay5 : ∀ k, k < 10 → u_lay RX5 TX5 k ∈ TB := fun k hk => match k, hk with
  | 0, _ => tw275
  | 1, _ => tw277
  | 2, _ => tw279
  | 3, _ => tw281
  | 4, _ => tw283
  | 5, _ => tw285
  | 6, _ => tw287
  | 7, _ => tw289
  | 8, _ => tw291
  | 9, _ => tw293
  | z + 10, h => absurd h (by omega)
theorem gc5 : gCl 5 RX5 TX5 10 := ⟨rfl, fun w hw => by
  obtain ⟨k, hk, rfl⟩ := List.mem_map.mp hw
  exact ulay5 k (List.mem_range.mp hk), nmX5, tyX5, tyX5_ok⟩
theorem ulay6 : ∀ k, k < 2 → u_lay RX6 TX6 k ∈ TB := fun k hk => match k, hk with
  | 0, _ => tw367
  | 1, _ => tw369
  | z + 2, h => absurd h (by omega)
theorem gc6 : gCl 6 RX6 TX6 2 := ⟨rfl, fun w hw => by
  obtain ⟨k, hk, rfl⟩ := List.mem_map.mp hw
  exact ulay6 k (List.mem_range.mp hk), nmX6, tyX6, tyX6_ok⟩
theorem ulay7 : ∀ k, k < 4 → u_lay RX7 TX7 k ∈ TB := fun k hk => match k, hk with
  | 0, _ => tw203
  | 1, _ => tw205
  | 2, _ => tw207
  | 3, _ => tw209
  | z + 4, h => absurd h (by omega)
theorem gc7 : gCl 7 RX7 TX7 4 := ⟨rfl, fun w hw => by
  obtain ⟨k, hk, rfl⟩ := List.mem_map.mp hw
  exact ulay7 k (List.mem_range.mp hk), nmX7, tyX7, tyX7_ok⟩
theorem ulay8 : ∀ k, k < 9 → u_lay RX8 TX8 k ∈ TB := fun k hk => match k, hk with
  | 0, _ => tw311
  | 1, _ => tw313
  | 2, _ => tw315
  | 3, _ => tw317
  | 4, _ => tw319
  | 5, _ => tw321
  | 6, _ => tw323
  | 7, _ => tw325
  | 8, _ => tw327
  | z + 9, h => absurd h (by omega)
theorem gc8 : gCl 8 RX8 TX8 9 := ⟨rfl, fun w hw => by
  obtain ⟨k, hk, rfl⟩ := List.mem_map.mp hw
  exact ulay8 k (List.mem_range.mp hk), nmX8, tyX8, tyX8_ok⟩
theorem ulay9 : ∀ k, k < 11 → u_lay RX9 TX9 k ∈ TB := fun k hk => match k, hk with
  | 0, _ => tw383
  | 1, _ => tw385
  | 2, _ => tw387
  | 3, _ => tw389
  | 4, _ => tw391
  | 5, _ => tw393
  | 6, _ => tw395
  | 7, _ => tw397
  | 8, _ => tw399
  | 9, _ => tw401
  | 10, _ => tw403
  | z + 11, h => absurd h (by omega)
theorem gc9 : gCl 9 RX9 TX9 11 := ⟨rfl, fun w hw => by
  obtain ⟨k, hk, rfl⟩ := List.mem_map.mp hw
  exact ulay9 k (List.mem_range.mp hk), nmX9, tyX9, tyX9_ok⟩
theorem ulay10 : ∀ k, k < 34 → u_lay RX10 TX10 k ∈ TB := fun k hk => match k, hk with
  | 0, _ => tw1261
  | 1, _ => tw1263
  | 2, _ => tw1265
  | 3, _ => tw1267
  | 4, _ => tw1269
  | 5, _ => tw1271
  | 6, _ => tw1273
  | 7, _ => tw1275
  | 8, _ => tw1277
  | 9, _ => tw1279
  | 10, _ => tw1281
  | 11, _ => tw1283
  | 12, _ => tw1285
  | 13, _ => tw1287
  | 14, _ => tw1289
  | 15, _ => tw1291
  | 16, _ => tw1293
  | 17, _ => tw1295
  | 18, _ => tw1297
  | 19, _ => tw1299
  | 20, _ => tw1301
  | 21, _ => tw1303
  | 22, _ => tw1305
  | 23, _ => tw1307
  | 24, _ => tw1309
  | 25, _ => tw1311
  | 26, _ => tw1313
  | 27, _ => tw1315
  | 28, _ => tw1317
  | 29, _ => tw1319
  | 30, _ => tw1321
  | 31, _ => tw1323
  | 32, _ => tw1325
  | 33, _ => tw1327
  | z + 34, h => absurd h (by omega)
theorem gc10 : gCl 10 RX10 TX10 34 := ⟨rfl, fun w hw => by
  obtain ⟨k, hk, rfl⟩ := List.mem_map.mp hw
  exact ulay10 k (List.mem_range.mp hk), nmX10, tyX10, tyX10_ok⟩
theorem ti_FairTurns : Cond.initialized "FairTurns" ∈ TB := tw102
theorem ti_FairTurns_Book : Cond.initialized "FairTurns$Book" ∈ TB := tw103
theorem ti_FairTurns_Tape : Cond.initialized "FairTurns$Tape" ∈ TB := tw104
theorem ti_FairTurns_Loads : Cond.initialized "FairTurns$Loads" ∈ TB := tw105
theorem ti_FairTurns_Paths : Cond.initialized "FairTurns$Paths" ∈ TB := tw106
theorem ti_FairTurns_Rings : Cond.initialized "FairTurns$Rings" ∈ TB := tw107
theorem ti_FairTurns_Texts : Cond.initialized "FairTurns$Texts" ∈ TB := tw108
theorem ti_FairTurns_Condition : Cond.initialized "FairTurns$Condition" ∈ TB := tw109
theorem ti_FairTurns_Paper : Cond.initialized "FairTurns$Paper" ∈ TB := tw110
theorem ti_FairTurns_Rows : Cond.initialized "FairTurns$Rows" ∈ TB := tw111
theorem ti_FairTurnsModel : Cond.initialized "FairTurnsModel" ∈ TB := tw112
theorem ti_java_lang_Math : Cond.initialized "java/lang/Math" ∈ TB := tw113
theorem ti_java_lang_String : Cond.initialized "java/lang/String" ∈ TB := tw114
theorem ti_java_lang_StringLatin1 : Cond.initialized "java/lang/StringLatin1" ∈ TB := tw115
theorem ti_jdk_internal_util_Preconditions : Cond.initialized "jdk/internal/util/Preconditions" ∈ TB := tw116
theorem ti_java_lang_StringUTF16 : Cond.initialized "java/lang/StringUTF16" ∈ TB := tw117
abbrev mB_init : Me := (yX0_init, cX0_init, 1, none)
theorem nq_FairTurns_Book : "FairTurns$Book" ≠ "java/lang/invoke/MethodHandle" ∧ "FairTurns$Book" ≠ "java/lang/invoke/VarHandle" := ⟨by decide +kernel, by decide +kernel⟩
theorem pd_0 : (parseMethodDescriptor "()V").map (fun q => q.parameters.length) = some 0 := by decide +kernel
abbrev mB_isOne : Me := (yX0_isOne, cX0_isOne, 2, some (Jvm.ClassFile.FieldType.boolean))
theorem pd_1 : (parseMethodDescriptor "(I)Z").map (fun q => q.parameters.length) = some 1 := by decide +kernel
theorem clB_isOne : gCalV mB_isOne 1 := ⟨⟨tw429, ti_FairTurns_Book, nq_FairTurns_Book.1, nq_FairTurns_Book.2⟩, tw427, tw428, pd_1, Nat.le_of_ble_eq_true rfl⟩
abbrev mB_isHere : Me := (yX0_isHere, cX0_isHere, 2, some (Jvm.ClassFile.FieldType.boolean))
theorem clB_isHere : gCalV mB_isHere 1 := ⟨⟨tw421, ti_FairTurns_Book, nq_FairTurns_Book.1, nq_FairTurns_Book.2⟩, tw419, tw420, pd_1, Nat.le_of_ble_eq_true rfl⟩
abbrev mB_isDuty : Me := (yX0_isDuty, cX0_isDuty, 2, some (Jvm.ClassFile.FieldType.boolean))
theorem clB_isDuty : gCalV mB_isDuty 1 := ⟨⟨tw454, ti_FairTurns_Book, nq_FairTurns_Book.1, nq_FairTurns_Book.2⟩, tw452, tw453, pd_1, Nat.le_of_ble_eq_true rfl⟩
abbrev mB_countHere : Me := (yX0_countHere, cX0_countHere, 3, some (Jvm.ClassFile.FieldType.int))
theorem pd_2 : (parseMethodDescriptor "()I").map (fun q => q.parameters.length) = some 0 := by decide +kernel
theorem clB_countHere : gCalV mB_countHere 0 := ⟨⟨tw470, ti_FairTurns_Book, nq_FairTurns_Book.1, nq_FairTurns_Book.2⟩, tw468, tw469, pd_2, Nat.le_of_ble_eq_true rfl⟩
abbrev mB_addOne : Me := (yX0_addOne, cX0_addOne, 4, some (Jvm.ClassFile.FieldType.int))
theorem pd_3 : (parseMethodDescriptor "(I)I").map (fun q => q.parameters.length) = some 1 := by decide +kernel
theorem clB_addOne : gCalV mB_addOne 1 := ⟨⟨tw413, ti_FairTurns_Book, nq_FairTurns_Book.1, nq_FairTurns_Book.2⟩, tw411, tw412, pd_3, Nat.le_of_ble_eq_true rfl⟩
abbrev mB_leave : Me := (yX0_leave, cX0_leave, 2, none)
theorem pd_4 : (parseMethodDescriptor "(I)V").map (fun q => q.parameters.length) = some 1 := by decide +kernel
theorem clB_leave : gCalV mB_leave 1 := ⟨⟨tw442, ti_FairTurns_Book, nq_FairTurns_Book.1, nq_FairTurns_Book.2⟩, tw440, tw441, pd_4, Nat.le_of_ble_eq_true rfl⟩
abbrev mB_openWhatMayNotBeHeldBy : Me := (yX0_openWhatMayNotBeHeldBy, cX0_openWhatMayNotBeHeldBy, 3, none)
theorem clB_openWhatMayNotBeHeldBy : gCalV mB_openWhatMayNotBeHeldBy 1 := ⟨⟨tw446, ti_FairTurns_Book, nq_FairTurns_Book.1, nq_FairTurns_Book.2⟩, tw444, tw445, pd_4, Nat.le_of_ble_eq_true rfl⟩
abbrev mB_neutralPast : Me := (yX0_neutralPast, cX0_neutralPast, 5, some (Jvm.ClassFile.FieldType.int))
theorem clB_neutralPast : gCalV mB_neutralPast 1 := ⟨⟨tw417, ti_FairTurns_Book, nq_FairTurns_Book.1, nq_FairTurns_Book.2⟩, tw415, tw416, pd_3, Nat.le_of_ble_eq_true rfl⟩
abbrev mB_rankOf : Me := (yX0_rankOf, cX0_rankOf, 2, some (Jvm.ClassFile.FieldType.int))
theorem clB_rankOf : gCalV mB_rankOf 1 := ⟨⟨tw508, ti_FairTurns_Book, nq_FairTurns_Book.1, nq_FairTurns_Book.2⟩, tw506, tw507, pd_3, Nat.le_of_ble_eq_true rfl⟩
abbrev mB_pastOf : Me := (yX0_pastOf, cX0_pastOf, 3, some (Jvm.ClassFile.FieldType.int))
theorem pd_5 : (parseMethodDescriptor "(II)I").map (fun q => q.parameters.length) = some 2 := by decide +kernel
theorem clB_pastOf : gCalV mB_pastOf 2 := ⟨⟨tw425, ti_FairTurns_Book, nq_FairTurns_Book.1, nq_FairTurns_Book.2⟩, tw423, tw424, pd_5, Nat.le_of_ble_eq_true rfl⟩
abbrev mB_putPast : Me := (yX0_putPast, cX0_putPast, 4, none)
theorem pd_6 : (parseMethodDescriptor "(III)V").map (fun q => q.parameters.length) = some 3 := by decide +kernel
theorem clB_putPast : gCalV mB_putPast 3 := ⟨⟨tw480, ti_FairTurns_Book, nq_FairTurns_Book.1, nq_FairTurns_Book.2⟩, tw478, tw479, pd_6, Nat.le_of_ble_eq_true rfl⟩
abbrev mB_headOf : Me := (yX0_headOf, cX0_headOf, 3, some (Jvm.ClassFile.FieldType.int))
theorem clB_headOf : gCalV mB_headOf 2 := ⟨⟨tw491, ti_FairTurns_Book, nq_FairTurns_Book.1, nq_FairTurns_Book.2⟩, tw489, tw490, pd_5, Nat.le_of_ble_eq_true rfl⟩
abbrev mB_loadOf : Me := (yX0_loadOf, cX0_loadOf, 3, some (Jvm.ClassFile.FieldType.int))
theorem clB_loadOf : gCalV mB_loadOf 2 := ⟨⟨tw495, ti_FairTurns_Book, nq_FairTurns_Book.1, nq_FairTurns_Book.2⟩, tw493, tw494, pd_5, Nat.le_of_ble_eq_true rfl⟩
abbrev mB_loadBy : Me := (yX0_loadBy, cX0_loadBy, 4, some (Jvm.ClassFile.FieldType.int))
theorem pd_7 : (parseMethodDescriptor "([III)I").map (fun q => q.parameters.length) = some 3 := by decide +kernel
theorem clB_loadBy : gCalV mB_loadBy 3 := ⟨⟨tw499, ti_FairTurns_Book, nq_FairTurns_Book.1, nq_FairTurns_Book.2⟩, tw497, tw498, pd_7, Nat.le_of_ble_eq_true rfl⟩
abbrev mB_countHeld : Me := (yX0_countHeld, cX0_countHeld, 6, some (Jvm.ClassFile.FieldType.int))
theorem clB_countHeld : gCalV mB_countHeld 3 := ⟨⟨tw504, ti_FairTurns_Book, nq_FairTurns_Book.1, nq_FairTurns_Book.2⟩, tw502, tw503, pd_7, Nat.le_of_ble_eq_true rfl⟩
abbrev mB_countHeldBy : Me := (yX0_countHeldBy, cX0_countHeldBy, 4, some (Jvm.ClassFile.FieldType.int))
theorem clB_countHeldBy : gCalV mB_countHeldBy 1 := ⟨⟨tw518, ti_FairTurns_Book, nq_FairTurns_Book.1, nq_FairTurns_Book.2⟩, tw516, tw517, pd_3, Nat.le_of_ble_eq_true rfl⟩
abbrev mB_burdenOf : Me := (yX0_burdenOf, cX0_burdenOf, 4, some (Jvm.ClassFile.FieldType.int))
theorem clB_burdenOf : gCalV mB_burdenOf 1 := ⟨⟨tw512, ti_FairTurns_Book, nq_FairTurns_Book.1, nq_FairTurns_Book.2⟩, tw510, tw511, pd_3, Nat.le_of_ble_eq_true rfl⟩
abbrev mB_countRulesOf : Me := (yX0_countRulesOf, cX0_countRulesOf, 2, some (Jvm.ClassFile.FieldType.int))
theorem clB_countRulesOf : gCalV mB_countRulesOf 1 := ⟨⟨tw522, ti_FairTurns_Book, nq_FairTurns_Book.1, nq_FairTurns_Book.2⟩, tw520, tw521, pd_3, Nat.le_of_ble_eq_true rfl⟩
abbrev mB_addRule : Me := (yX0_addRule, cX0_addRule, 7, none)
theorem pd_8 : (parseMethodDescriptor "(IIII)V").map (fun q => q.parameters.length) = some 4 := by decide +kernel
theorem clB_addRule : gCalV mB_addRule 4 := ⟨⟨tw609, ti_FairTurns_Book, nq_FairTurns_Book.1, nq_FairTurns_Book.2⟩, tw607, tw608, pd_8, Nat.le_of_ble_eq_true rfl⟩
abbrev mB_dropRules : Me := (yX0_dropRules, cX0_dropRules, 3, some (Jvm.ClassFile.FieldType.int))
theorem clB_dropRules : gCalV mB_dropRules 1 := ⟨⟨tw619, ti_FairTurns_Book, nq_FairTurns_Book.1, nq_FairTurns_Book.2⟩, tw617, tw618, pd_3, Nat.le_of_ble_eq_true rfl⟩
abbrev mB_mayHold : Me := (yX0_mayHold, cX0_mayHold, 4, some (Jvm.ClassFile.FieldType.boolean))
theorem pd_9 : (parseMethodDescriptor "(II)Z").map (fun q => q.parameters.length) = some 2 := by decide +kernel
theorem clB_mayHold : gCalV mB_mayHold 2 := ⟨⟨tw458, ti_FairTurns_Book, nq_FairTurns_Book.1, nq_FairTurns_Book.2⟩, tw456, tw457, pd_9, Nat.le_of_ble_eq_true rfl⟩
abbrev mB_isAgainst : Me := (yX0_isAgainst, cX0_isAgainst, 6, some (Jvm.ClassFile.FieldType.boolean))
theorem pd_10 : (parseMethodDescriptor "(III)Z").map (fun q => q.parameters.length) = some 3 := by decide +kernel
theorem clB_isAgainst : gCalV mB_isAgainst 3 := ⟨⟨tw462, ti_FairTurns_Book, nq_FairTurns_Book.1, nq_FairTurns_Book.2⟩, tw461, tw0, pd_10, Nat.le_of_ble_eq_true rfl⟩
abbrev mB_countWhoMayHold : Me := (yX0_countWhoMayHold, cX0_countWhoMayHold, 4, some (Jvm.ClassFile.FieldType.int))
theorem clB_countWhoMayHold : gCalV mB_countWhoMayHold 1 := ⟨⟨tw674, ti_FairTurns_Book, nq_FairTurns_Book.1, nq_FairTurns_Book.2⟩, tw672, tw673, pd_3, Nat.le_of_ble_eq_true rfl⟩
abbrev mB_addDuty : Me := (yX0_addDuty, cX0_addDuty, 5, some (Jvm.ClassFile.FieldType.int))
theorem clB_addDuty : gCalV mB_addDuty 2 := ⟨⟨tw627, ti_FairTurns_Book, nq_FairTurns_Book.1, nq_FairTurns_Book.2⟩, tw625, tw626, pd_5, Nat.le_of_ble_eq_true rfl⟩
abbrev mB_dayOf : Me := (yX0_dayOf, cX0_dayOf, 2, some (Jvm.ClassFile.FieldType.int))
theorem clB_dayOf : gCalV mB_dayOf 1 := ⟨⟨tw639, ti_FairTurns_Book, nq_FairTurns_Book.1, nq_FairTurns_Book.2⟩, tw637, tw638, pd_3, Nat.le_of_ble_eq_true rfl⟩
abbrev mB_kindOf : Me := (yX0_kindOf, cX0_kindOf, 2, some (Jvm.ClassFile.FieldType.int))
theorem clB_kindOf : gCalV mB_kindOf 1 := ⟨⟨tw662, ti_FairTurns_Book, nq_FairTurns_Book.1, nq_FairTurns_Book.2⟩, tw660, tw661, pd_3, Nat.le_of_ble_eq_true rfl⟩
abbrev mB_holderOf : Me := (yX0_holderOf, cX0_holderOf, 2, some (Jvm.ClassFile.FieldType.int))
theorem clB_holderOf : gCalV mB_holderOf 1 := ⟨⟨tw450, ti_FairTurns_Book, nq_FairTurns_Book.1, nq_FairTurns_Book.2⟩, tw448, tw449, pd_3, Nat.le_of_ble_eq_true rfl⟩
abbrev mB_putHolder : Me := (yX0_putHolder, cX0_putHolder, 3, none)
theorem pd_11 : (parseMethodDescriptor "(II)V").map (fun q => q.parameters.length) = some 2 := by decide +kernel
theorem clB_putHolder : gCalV mB_putHolder 2 := ⟨⟨tw466, ti_FairTurns_Book, nq_FairTurns_Book.1, nq_FairTurns_Book.2⟩, tw464, tw465, pd_11, Nat.le_of_ble_eq_true rfl⟩
abbrev mB_dutyAt : Me := (yX0_dutyAt, cX0_dutyAt, 2, some (Jvm.ClassFile.FieldType.int))
theorem clB_dutyAt : gCalV mB_dutyAt 1 := ⟨⟨tw635, ti_FairTurns_Book, nq_FairTurns_Book.1, nq_FairTurns_Book.2⟩, tw633, tw634, pd_3, Nat.le_of_ble_eq_true rfl⟩
abbrev mB_dayAt : Me := (yX0_dayAt, cX0_dayAt, 2, some (Jvm.ClassFile.FieldType.int))
theorem clB_dayAt : gCalV mB_dayAt 1 := ⟨⟨tw631, ti_FairTurns_Book, nq_FairTurns_Book.1, nq_FairTurns_Book.2⟩, tw629, tw630, pd_3, Nat.le_of_ble_eq_true rfl⟩
abbrev mB_placeOf : Me := (yX0_placeOf, cX0_placeOf, 3, some (Jvm.ClassFile.FieldType.int))
theorem clB_placeOf : gCalV mB_placeOf 1 := ⟨⟨tw670, ti_FairTurns_Book, nq_FairTurns_Book.1, nq_FairTurns_Book.2⟩, tw668, tw669, pd_3, Nat.le_of_ble_eq_true rfl⟩
abbrev mB_countOfKind : Me := (yX0_countOfKind, cX0_countOfKind, 4, some (Jvm.ClassFile.FieldType.int))
theorem clB_countOfKind : gCalV mB_countOfKind 1 := ⟨⟨tw1152, ti_FairTurns_Book, nq_FairTurns_Book.1, nq_FairTurns_Book.2⟩, tw1150, tw1151, pd_3, Nat.le_of_ble_eq_true rfl⟩
abbrev mB_countOpenBy : Me := (yX0_countOpenBy, cX0_countOpenBy, 3, some (Jvm.ClassFile.FieldType.int))
theorem pd_12 : (parseMethodDescriptor "([II)I").map (fun q => q.parameters.length) = some 2 := by decide +kernel
theorem clB_countOpenBy : gCalV mB_countOpenBy 2 := ⟨⟨tw1097, ti_FairTurns_Book, nq_FairTurns_Book.1, nq_FairTurns_Book.2⟩, tw1095, tw1096, pd_12, Nat.le_of_ble_eq_true rfl⟩
abbrev mB_countOpen : Me := (yX0_countOpen, cX0_countOpen, 1, some (Jvm.ClassFile.FieldType.int))
theorem clB_countOpen : gCalV mB_countOpen 0 := ⟨⟨tw869, ti_FairTurns_Book, nq_FairTurns_Book.1, nq_FairTurns_Book.2⟩, tw867, tw868, pd_2, Nat.le_of_ble_eq_true rfl⟩
abbrev mB_countDays : Me := (yX0_countDays, cX0_countDays, 3, some (Jvm.ClassFile.FieldType.int))
theorem clB_countDays : gCalV mB_countDays 0 := ⟨⟨tw1161, ti_FairTurns_Book, nq_FairTurns_Book.1, nq_FairTurns_Book.2⟩, tw1159, tw1160, pd_2, Nat.le_of_ble_eq_true rfl⟩
abbrev mB_areClose : Me := (yX0_areClose, cX0_areClose, 4, some (Jvm.ClassFile.FieldType.boolean))
theorem clB_areClose : gCalV mB_areClose 2 := ⟨⟨tw920, ti_FairTurns_Book, nq_FairTurns_Book.1, nq_FairTurns_Book.2⟩, tw918, tw919, pd_9, Nat.le_of_ble_eq_true rfl⟩
abbrev mB_dislikeOf : Me := (yX0_dislikeOf, cX0_dislikeOf, 3, some (Jvm.ClassFile.FieldType.int))
theorem clB_dislikeOf : gCalV mB_dislikeOf 2 := ⟨⟨tw692, ti_FairTurns_Book, nq_FairTurns_Book.1, nq_FairTurns_Book.2⟩, tw690, tw691, pd_5, Nat.le_of_ble_eq_true rfl⟩
abbrev mB_putDislike : Me := (yX0_putDislike, cX0_putDislike, 4, none)
theorem clB_putDislike : gCalV mB_putDislike 3 := ⟨⟨tw696, ti_FairTurns_Book, nq_FairTurns_Book.1, nq_FairTurns_Book.2⟩, tw694, tw695, pd_6, Nat.le_of_ble_eq_true rfl⟩
abbrev mB_closeYear : Me := (yX0_closeYear, cX0_closeYear, 4, none)
theorem clB_closeYear : gCalV mB_closeYear 0 := ⟨⟨tw874, ti_FairTurns_Book, nq_FairTurns_Book.1, nq_FairTurns_Book.2⟩, tw872, tw873, pd_0, Nat.le_of_ble_eq_true rfl⟩
abbrev mB_copyFrom : Me := (yX0_copyFrom, cX0_copyFrom, 3, none)
theorem pd_13 : (parseMethodDescriptor "(LFairTurns$Book;)V").map (fun q => q.parameters.length) = some 1 := by decide +kernel
theorem clB_copyFrom : gCalV mB_copyFrom 1 := ⟨⟨tw1213, ti_FairTurns_Book, nq_FairTurns_Book.1, nq_FairTurns_Book.2⟩, tw1211, tw1212, pd_13, Nat.le_of_ble_eq_true rfl⟩
abbrev mB_copyRow : Me := (yX0_copyRow, cX0_copyRow, 3, none)
theorem pd_14 : (parseMethodDescriptor "([I[I)V").map (fun q => q.parameters.length) = some 2 := by decide +kernel
theorem clB_copyRow : gCalS mB_copyRow 2 := ⟨⟨tw1216, ti_FairTurns_Book, nq_FairTurns_Book.1, nq_FairTurns_Book.2⟩, tw1215, pd_14, Nat.le_of_ble_eq_true rfl⟩
abbrev mC_init : Me := (yX1_init, cX1_init, 3, none)
theorem nq_FairTurns_Condition : "FairTurns$Condition" ≠ "java/lang/invoke/MethodHandle" ∧ "FairTurns$Condition" ≠ "java/lang/invoke/VarHandle" := ⟨by decide +kernel, by decide +kernel⟩
theorem pd_15 : (parseMethodDescriptor "(LFairTurns$Book;LFairTurns$Tape;)V").map (fun q => q.parameters.length) = some 2 := by decide +kernel
abbrev mC_pickDuties : Me := (yX1_pickDuties, cX1_pickDuties, 4, some (Jvm.ClassFile.FieldType.int))
theorem clC_pickDuties : gCalV mC_pickDuties 0 := ⟨⟨tw951, ti_FairTurns_Condition, nq_FairTurns_Condition.1, nq_FairTurns_Condition.2⟩, tw949, tw950, pd_2, Nat.le_of_ble_eq_true rfl⟩
abbrev mC_noteValues : Me := (yX1_noteValues, cX1_noteValues, 3, none)
theorem clC_noteValues : gCalV mC_noteValues 1 := ⟨⟨tw955, ti_FairTurns_Condition, nq_FairTurns_Condition.1, nq_FairTurns_Condition.2⟩, tw954, tw21, pd_4, Nat.le_of_ble_eq_true rfl⟩
abbrev mC_readEither : Me := (yX1_readEither, cX1_readEither, 5, some (Jvm.ClassFile.FieldType.boolean))
theorem clC_readEither : gCalV mC_readEither 1 := ⟨⟨tw964, ti_FairTurns_Condition, nq_FairTurns_Condition.1, nq_FairTurns_Condition.2⟩, tw963, tw22, pd_1, Nat.le_of_ble_eq_true rfl⟩
abbrev mC_readBoth : Me := (yX1_readBoth, cX1_readBoth, 5, some (Jvm.ClassFile.FieldType.boolean))
theorem clC_readBoth : gCalV mC_readBoth 1 := ⟨⟨tw968, ti_FairTurns_Condition, nq_FairTurns_Condition.1, nq_FairTurns_Condition.2⟩, tw967, tw23, pd_1, Nat.le_of_ble_eq_true rfl⟩
abbrev mC_readOne : Me := (yX1_readOne, cX1_readOne, 3, some (Jvm.ClassFile.FieldType.boolean))
theorem clC_readOne : gCalV mC_readOne 1 := ⟨⟨tw972, ti_FairTurns_Condition, nq_FairTurns_Condition.1, nq_FairTurns_Condition.2⟩, tw971, tw24, pd_1, Nat.le_of_ble_eq_true rfl⟩
abbrev mC_readComparison : Me := (yX1_readComparison, cX1_readComparison, 3, some (Jvm.ClassFile.FieldType.boolean))
theorem pd_16 : (parseMethodDescriptor "()Z").map (fun q => q.parameters.length) = some 0 := by decide +kernel
theorem clC_readComparison : gCalV mC_readComparison 0 := ⟨⟨tw978, ti_FairTurns_Condition, nq_FairTurns_Condition.1, nq_FairTurns_Condition.2⟩, tw977, tw25, pd_16, Nat.le_of_ble_eq_true rfl⟩
abbrev mC_wordFrom : Me := (yX1_wordFrom, cX1_wordFrom, 2, some (Jvm.ClassFile.FieldType.int))
theorem clC_wordFrom : gCalV mC_wordFrom 1 := ⟨⟨tw987, ti_FairTurns_Condition, nq_FairTurns_Condition.1, nq_FairTurns_Condition.2⟩, tw986, tw26, pd_3, Nat.le_of_ble_eq_true rfl⟩
abbrev mL_init : Me := (yX2_init, cX2_init, 2, none)
theorem nq_FairTurns_Loads : "FairTurns$Loads" ≠ "java/lang/invoke/MethodHandle" ∧ "FairTurns$Loads" ≠ "java/lang/invoke/VarHandle" := ⟨by decide +kernel, by decide +kernel⟩
abbrev mL_placeOfVector : Me := (yX2_placeOfVector, cX2_placeOfVector, 4, some (Jvm.ClassFile.FieldType.int))
theorem clL_placeOfVector : gCalV mL_placeOfVector 2 := ⟨⟨tw753, ti_FairTurns_Loads, nq_FairTurns_Loads.1, nq_FairTurns_Loads.2⟩, tw751, tw752, pd_5, Nat.le_of_ble_eq_true rfl⟩
abbrev mL_compareWithNow : Me := (yX2_compareWithNow, cX2_compareWithNow, 5, some (Jvm.ClassFile.FieldType.int))
theorem clL_compareWithNow : gCalV mL_compareWithNow 2 := ⟨⟨tw1101, ti_FairTurns_Loads, nq_FairTurns_Loads.1, nq_FairTurns_Loads.2⟩, tw1099, tw1100, pd_12, Nat.le_of_ble_eq_true rfl⟩
abbrev mL_makeVector : Me := (yX2_makeVector, cX2_makeVector, 6, some (Jvm.ClassFile.FieldType.int))
theorem pd_17 : (parseMethodDescriptor "([I[II)I").map (fun q => q.parameters.length) = some 3 := by decide +kernel
theorem clL_makeVector : gCalV mL_makeVector 3 := ⟨⟨tw757, ti_FairTurns_Loads, nq_FairTurns_Loads.1, nq_FairTurns_Loads.2⟩, tw756, tw10, pd_17, Nat.le_of_ble_eq_true rfl⟩
abbrev mL_insertFalling : Me := (yX2_insertFalling, cX2_insertFalling, 4, none)
theorem pd_18 : (parseMethodDescriptor "([III)V").map (fun q => q.parameters.length) = some 3 := by decide +kernel
theorem clL_insertFalling : gCalS mL_insertFalling 3 := ⟨⟨tw762, ti_FairTurns_Loads, nq_FairTurns_Loads.1, nq_FairTurns_Loads.2⟩, tw761, pd_18, Nat.le_of_ble_eq_true rfl⟩
abbrev mL_spread : Me := (yX2_spread, cX2_spread, 3, some (Jvm.ClassFile.FieldType.int))
theorem clL_spread : gCalV mL_spread 1 := ⟨⟨tw886, ti_FairTurns_Loads, nq_FairTurns_Loads.1, nq_FairTurns_Loads.2⟩, tw884, tw885, pd_3, Nat.le_of_ble_eq_true rfl⟩
abbrev mL_envy : Me := (yX2_envy, cX2_envy, 6, some (Jvm.ClassFile.FieldType.int))
theorem clL_envy : gCalV mL_envy 1 := ⟨⟨tw890, ti_FairTurns_Loads, nq_FairTurns_Loads.1, nq_FairTurns_Loads.2⟩, tw888, tw889, pd_3, Nat.le_of_ble_eq_true rfl⟩
abbrev mL_sum : Me := (yX2_sum, cX2_sum, 5, some (Jvm.ClassFile.FieldType.int))
theorem clL_sum : gCalV mL_sum 1 := ⟨⟨tw894, ti_FairTurns_Loads, nq_FairTurns_Loads.1, nq_FairTurns_Loads.2⟩, tw892, tw893, pd_3, Nat.le_of_ble_eq_true rfl⟩
abbrev mL_placeOfNext : Me := (yX2_placeOfNext, cX2_placeOfNext, 5, some (Jvm.ClassFile.FieldType.int))
theorem clL_placeOfNext : gCalV mL_placeOfNext 2 := ⟨⟨tw902, ti_FairTurns_Loads, nq_FairTurns_Loads.1, nq_FairTurns_Loads.2⟩, tw900, tw901, pd_5, Nat.le_of_ble_eq_true rfl⟩
abbrev mL_insertTurn : Me := (yX2_insertTurn, cX2_insertTurn, 5, none)
theorem clL_insertTurn : gCalV mL_insertTurn 3 := ⟨⟨tw906, ti_FairTurns_Loads, nq_FairTurns_Loads.1, nq_FairTurns_Loads.2⟩, tw905, tw19, pd_6, Nat.le_of_ble_eq_true rfl⟩
abbrev mL_isNextAheadOf : Me := (yX2_isNextAheadOf, cX2_isNextAheadOf, 6, some (Jvm.ClassFile.FieldType.boolean))
theorem clL_isNextAheadOf : gCalV mL_isNextAheadOf 3 := ⟨⟨tw910, ti_FairTurns_Loads, nq_FairTurns_Loads.1, nq_FairTurns_Loads.2⟩, tw909, tw20, pd_10, Nat.le_of_ble_eq_true rfl⟩
abbrev mP_init : Me := (yX3_init, cX3_init, 1, none)
theorem nq_FairTurns_Paper : "FairTurns$Paper" ≠ "java/lang/invoke/MethodHandle" ∧ "FairTurns$Paper" ≠ "java/lang/invoke/VarHandle" := ⟨by decide +kernel, by decide +kernel⟩
abbrev mP_size : Me := (yX3_size, cX3_size, 1, some (Jvm.ClassFile.FieldType.int))
theorem clP_size : gCalV mP_size 0 := ⟨⟨tw1157, ti_FairTurns_Paper, nq_FairTurns_Paper.1, nq_FairTurns_Paper.2⟩, tw1155, tw1156, pd_2, Nat.le_of_ble_eq_true rfl⟩
abbrev mP_byteAt : Me := (yX3_byteAt, cX3_byteAt, 2, some (Jvm.ClassFile.FieldType.int))
theorem clP_byteAt : gCalV mP_byteAt 1 := ⟨⟨tw1144, ti_FairTurns_Paper, nq_FairTurns_Paper.1, nq_FairTurns_Paper.2⟩, tw1142, tw1143, pd_3, Nat.le_of_ble_eq_true rfl⟩
abbrev mP_spellRoster : Me := (yX3_spellRoster, cX3_spellRoster, 3, some (Jvm.ClassFile.FieldType.int))
theorem pd_19 : (parseMethodDescriptor "(LFairTurns$Book;)I").map (fun q => q.parameters.length) = some 1 := by decide +kernel
theorem clP_spellRoster : gCalV mP_spellRoster 1 := ⟨⟨tw1118, ti_FairTurns_Paper, nq_FairTurns_Paper.1, nq_FairTurns_Paper.2⟩, tw1116, tw1117, pd_19, Nat.le_of_ble_eq_true rfl⟩
abbrev mP_spellDuty : Me := (yX3_spellDuty, cX3_spellDuty, 5, none)
theorem pd_20 : (parseMethodDescriptor "(LFairTurns$Book;I)V").map (fun q => q.parameters.length) = some 2 := by decide +kernel
theorem clP_spellDuty : gCalV mP_spellDuty 2 := ⟨⟨tw1127, ti_FairTurns_Paper, nq_FairTurns_Paper.1, nq_FairTurns_Paper.2⟩, tw1126, tw31, pd_20, Nat.le_of_ble_eq_true rfl⟩
abbrev mP_writeNumber : Me := (yX3_writeNumber, cX3_writeNumber, 2, none)
theorem clP_writeNumber : gCalV mP_writeNumber 1 := ⟨⟨tw1134, ti_FairTurns_Paper, nq_FairTurns_Paper.1, nq_FairTurns_Paper.2⟩, tw1133, tw32, pd_4, Nat.le_of_ble_eq_true rfl⟩
abbrev mP_write : Me := (yX3_write, cX3_write, 2, none)
theorem clP_write : gCalV mP_write 1 := ⟨⟨tw1122, ti_FairTurns_Paper, nq_FairTurns_Paper.1, nq_FairTurns_Paper.2⟩, tw1121, tw30, pd_4, Nat.le_of_ble_eq_true rfl⟩
abbrev mH_init : Me := (yX4_init, cX4_init, 2, none)
theorem nq_FairTurns_Paths : "FairTurns$Paths" ≠ "java/lang/invoke/MethodHandle" ∧ "FairTurns$Paths" ≠ "java/lang/invoke/VarHandle" := ⟨by decide +kernel, by decide +kernel⟩
abbrev mH_giver : Me := (yX4_giver, cX4_giver, 1, some (Jvm.ClassFile.FieldType.int))
theorem clH_giver : gCalV mH_giver 0 := ⟨⟨tw775, ti_FairTurns_Paths, nq_FairTurns_Paths.1, nq_FairTurns_Paths.2⟩, tw773, tw774, pd_2, Nat.le_of_ble_eq_true rfl⟩
abbrev mH_taker : Me := (yX4_taker, cX4_taker, 1, some (Jvm.ClassFile.FieldType.int))
theorem clH_taker : gCalV mH_taker 0 := ⟨⟨tw779, ti_FairTurns_Paths, nq_FairTurns_Paths.1, nq_FairTurns_Paths.2⟩, tw777, tw778, pd_2, Nat.le_of_ble_eq_true rfl⟩
abbrev mH_fillKind : Me := (yX4_fillKind, cX4_fillKind, 5, some (Jvm.ClassFile.FieldType.int))
theorem clH_fillKind : gCalV mH_fillKind 1 := ⟨⟨tw713, ti_FairTurns_Paths, nq_FairTurns_Paths.1, nq_FairTurns_Paths.2⟩, tw711, tw712, pd_3, Nat.le_of_ble_eq_true rfl⟩
abbrev mH_easeKind : Me := (yX4_easeKind, cX4_easeKind, 3, some (Jvm.ClassFile.FieldType.int))
theorem clH_easeKind : gCalV mH_easeKind 1 := ⟨⟨tw787, ti_FairTurns_Paths, nq_FairTurns_Paths.1, nq_FairTurns_Paths.2⟩, tw785, tw786, pd_3, Nat.le_of_ble_eq_true rfl⟩
abbrev mH_findLesser : Me := (yX4_findLesser, cX4_findLesser, 4, some (Jvm.ClassFile.FieldType.boolean))
theorem clH_findLesser : gCalV mH_findLesser 1 := ⟨⟨tw770, ti_FairTurns_Paths, nq_FairTurns_Paths.1, nq_FairTurns_Paths.2⟩, tw768, tw769, pd_1, Nat.le_of_ble_eq_true rfl⟩
abbrev mH_forget : Me := (yX4_forget, cX4_forget, 2, none)
theorem clH_forget : gCalV mH_forget 0 := ⟨⟨tw720, ti_FairTurns_Paths, nq_FairTurns_Paths.1, nq_FairTurns_Paths.2⟩, tw719, tw4, pd_0, Nat.le_of_ble_eq_true rfl⟩
abbrev mH_goOn : Me := (yX4_goOn, cX4_goOn, 4, none)
theorem clH_goOn : gCalV mH_goOn 1 := ⟨⟨tw734, ti_FairTurns_Paths, nq_FairTurns_Paths.1, nq_FairTurns_Paths.2⟩, tw733, tw7, pd_4, Nat.le_of_ble_eq_true rfl⟩
abbrev mH_meetWhoMayHold : Me := (yX4_meetWhoMayHold, cX4_meetWhoMayHold, 3, none)
theorem clH_meetWhoMayHold : gCalV mH_meetWhoMayHold 1 := ⟨⟨tw724, ti_FairTurns_Paths, nq_FairTurns_Paths.1, nq_FairTurns_Paths.2⟩, tw723, tw5, pd_4, Nat.le_of_ble_eq_true rfl⟩
abbrev mH_meet : Me := (yX4_meet, cX4_meet, 3, none)
theorem clH_meet : gCalV mH_meet 2 := ⟨⟨tw729, ti_FairTurns_Paths, nq_FairTurns_Paths.1, nq_FairTurns_Paths.2⟩, tw728, tw6, pd_11, Nat.le_of_ble_eq_true rfl⟩
abbrev mH_leastMet : Me := (yX4_leastMet, cX4_leastMet, 5, some (Jvm.ClassFile.FieldType.int))
theorem clH_leastMet : gCalV mH_leastMet 1 := ⟨⟨tw738, ti_FairTurns_Paths, nq_FairTurns_Paths.1, nq_FairTurns_Paths.2⟩, tw737, tw8, pd_3, Nat.le_of_ble_eq_true rfl⟩
abbrev mH_shiftTo : Me := (yX4_shiftTo, cX4_shiftTo, 6, none)
theorem clH_shiftTo : gCalV mH_shiftTo 1 := ⟨⟨tw743, ti_FairTurns_Paths, nq_FairTurns_Paths.1, nq_FairTurns_Paths.2⟩, tw742, tw9, pd_4, Nat.le_of_ble_eq_true rfl⟩
abbrev mG_init : Me := (yX5_init, cX5_init, 2, none)
theorem nq_FairTurns_Rings : "FairTurns$Rings" ≠ "java/lang/invoke/MethodHandle" ∧ "FairTurns$Rings" ≠ "java/lang/invoke/VarHandle" := ⟨by decide +kernel, by decide +kernel⟩
abbrev mG_gain : Me := (yX5_gain, cX5_gain, 1, some (Jvm.ClassFile.FieldType.int))
theorem clG_gain : gCalV mG_gain 0 := ⟨⟨tw844, ti_FairTurns_Rings, nq_FairTurns_Rings.1, nq_FairTurns_Rings.2⟩, tw842, tw843, pd_2, Nat.le_of_ble_eq_true rfl⟩
abbrev mG_size : Me := (yX5_size, cX5_size, 1, some (Jvm.ClassFile.FieldType.int))
theorem clG_size : gCalV mG_size 0 := ⟨⟨tw848, ti_FairTurns_Rings, nq_FairTurns_Rings.1, nq_FairTurns_Rings.2⟩, tw846, tw847, pd_2, Nat.le_of_ble_eq_true rfl⟩
abbrev mG_dutyAt : Me := (yX5_dutyAt, cX5_dutyAt, 2, some (Jvm.ClassFile.FieldType.int))
theorem clG_dutyAt : gCalV mG_dutyAt 1 := ⟨⟨tw852, ti_FairTurns_Rings, nq_FairTurns_Rings.1, nq_FairTurns_Rings.2⟩, tw850, tw851, pd_3, Nat.le_of_ble_eq_true rfl⟩
abbrev mG_findBest : Me := (yX5_findBest, cX5_findBest, 3, some (Jvm.ClassFile.FieldType.boolean))
theorem clG_findBest : gCalV mG_findBest 0 := ⟨⟨tw801, ti_FairTurns_Rings, nq_FairTurns_Rings.1, nq_FairTurns_Rings.2⟩, tw799, tw800, pd_16, Nat.le_of_ble_eq_true rfl⟩
abbrev mG_noteHeld : Me := (yX5_noteHeld, cX5_noteHeld, 4, none)
theorem clG_noteHeld : gCalV mG_noteHeld 1 := ⟨⟨tw805, ti_FairTurns_Rings, nq_FairTurns_Rings.1, nq_FairTurns_Rings.2⟩, tw804, tw11, pd_4, Nat.le_of_ble_eq_true rfl⟩
abbrev mG_noteCosts : Me := (yX5_noteCosts, cX5_noteCosts, 5, none)
theorem clG_noteCosts : gCalV mG_noteCosts 0 := ⟨⟨tw811, ti_FairTurns_Rings, nq_FairTurns_Rings.1, nq_FairTurns_Rings.2⟩, tw810, tw12, pd_0, Nat.le_of_ble_eq_true rfl⟩
abbrev mG_costOf : Me := (yX5_costOf, cX5_costOf, 4, some (Jvm.ClassFile.FieldType.int))
theorem clG_costOf : gCalV mG_costOf 2 := ⟨⟨tw820, ti_FairTurns_Rings, nq_FairTurns_Rings.1, nq_FairTurns_Rings.2⟩, tw819, tw13, pd_5, Nat.le_of_ble_eq_true rfl⟩
abbrev mG_grow : Me := (yX5_grow, cX5_grow, 5, none)
theorem clG_grow : gCalV mG_grow 3 := ⟨⟨tw824, ti_FairTurns_Rings, nq_FairTurns_Rings.1, nq_FairTurns_Rings.2⟩, tw823, tw14, pd_6, Nat.le_of_ble_eq_true rfl⟩
abbrev mG_growByEach : Me := (yX5_growByEach, cX5_growByEach, 7, none)
theorem clG_growByEach : gCalV mG_growByEach 3 := ⟨⟨tw840, ti_FairTurns_Rings, nq_FairTurns_Rings.1, nq_FairTurns_Rings.2⟩, tw839, tw18, pd_6, Nat.le_of_ble_eq_true rfl⟩
abbrev mG_tryRing : Me := (yX5_tryRing, cX5_tryRing, 6, none)
theorem clG_tryRing : gCalV mG_tryRing 2 := ⟨⟨tw828, ti_FairTurns_Rings, nq_FairTurns_Rings.1, nq_FairTurns_Rings.2⟩, tw827, tw15, pd_11, Nat.le_of_ble_eq_true rfl⟩
abbrev mG_isBetter : Me := (yX5_isBetter, cX5_isBetter, 3, some (Jvm.ClassFile.FieldType.boolean))
theorem clG_isBetter : gCalV mG_isBetter 2 := ⟨⟨tw832, ti_FairTurns_Rings, nq_FairTurns_Rings.1, nq_FairTurns_Rings.2⟩, tw831, tw16, pd_9, Nat.le_of_ble_eq_true rfl⟩
abbrev mG_dutyOfRow : Me := (yX5_dutyOfRow, cX5_dutyOfRow, 2, some (Jvm.ClassFile.FieldType.int))
theorem clG_dutyOfRow : gCalV mG_dutyOfRow 1 := ⟨⟨tw836, ti_FairTurns_Rings, nq_FairTurns_Rings.1, nq_FairTurns_Rings.2⟩, tw835, tw17, pd_3, Nat.le_of_ble_eq_true rfl⟩
abbrev mG_handOn : Me := (yX5_handOn, cX5_handOn, 3, none)
theorem clG_handOn : gCalV mG_handOn 0 := ⟨⟨tw860, ti_FairTurns_Rings, nq_FairTurns_Rings.1, nq_FairTurns_Rings.2⟩, tw858, tw859, pd_0, Nat.le_of_ble_eq_true rfl⟩
abbrev mW_init : Me := (yX6_init, cX6_init, 2, none)
theorem nq_FairTurns_Rows : "FairTurns$Rows" ≠ "java/lang/invoke/MethodHandle" ∧ "FairTurns$Rows" ≠ "java/lang/invoke/VarHandle" := ⟨by decide +kernel, by decide +kernel⟩
abbrev mW_isRow : Me := (yX6_isRow, cX6_isRow, 2, some (Jvm.ClassFile.FieldType.boolean))
theorem clW_isRow : gCalV mW_isRow 1 := ⟨⟨tw1170, ti_FairTurns_Rows, nq_FairTurns_Rows.1, nq_FairTurns_Rows.2⟩, tw1168, tw1169, pd_1, Nat.le_of_ble_eq_true rfl⟩
abbrev mW_isHeld : Me := (yX6_isHeld, cX6_isHeld, 2, some (Jvm.ClassFile.FieldType.boolean))
theorem clW_isHeld : gCalV mW_isHeld 1 := ⟨⟨tw1183, ti_FairTurns_Rows, nq_FairTurns_Rows.1, nq_FairTurns_Rows.2⟩, tw1181, tw1182, pd_1, Nat.le_of_ble_eq_true rfl⟩
abbrev mW_begin : Me := (yX6_begin, cX6_begin, 4, none)
theorem clW_begin : gCalV mW_begin 2 := ⟨⟨tw1174, ti_FairTurns_Rows, nq_FairTurns_Rows.1, nq_FairTurns_Rows.2⟩, tw1172, tw1173, pd_11, Nat.le_of_ble_eq_true rfl⟩
abbrev mW_isPlace : Me := (yX6_isPlace, cX6_isPlace, 3, some (Jvm.ClassFile.FieldType.boolean))
theorem clW_isPlace : gCalV mW_isPlace 2 := ⟨⟨tw1191, ti_FairTurns_Rows, nq_FairTurns_Rows.1, nq_FairTurns_Rows.2⟩, tw1190, tw33, pd_9, Nat.le_of_ble_eq_true rfl⟩
abbrev mW_put : Me := (yX6_put, cX6_put, 4, some (Jvm.ClassFile.FieldType.boolean))
theorem clW_put : gCalV mW_put 3 := ⟨⟨tw1187, ti_FairTurns_Rows, nq_FairTurns_Rows.1, nq_FairTurns_Rows.2⟩, tw1185, tw1186, pd_10, Nat.le_of_ble_eq_true rfl⟩
abbrev mW_at : Me := (yX6_at, cX6_at, 3, some (Jvm.ClassFile.FieldType.long))
theorem pd_21 : (parseMethodDescriptor "(II)J").map (fun q => q.parameters.length) = some 2 := by decide +kernel
theorem clW_at : gCalV mW_at 2 := ⟨⟨tw1200, ti_FairTurns_Rows, nq_FairTurns_Rows.1, nq_FairTurns_Rows.2⟩, tw1198, tw1199, pd_21, Nat.le_of_ble_eq_true rfl⟩
abbrev mT_init : Me := (yX7_init, cX7_init, 1, none)
theorem nq_FairTurns_Tape : "FairTurns$Tape" ≠ "java/lang/invoke/MethodHandle" ∧ "FairTurns$Tape" ≠ "java/lang/invoke/VarHandle" := ⟨by decide +kernel, by decide +kernel⟩
abbrev mT_size : Me := (yX7_size, cX7_size, 1, some (Jvm.ClassFile.FieldType.int))
theorem clT_size : gCalV mT_size 0 := ⟨⟨tw939, ti_FairTurns_Tape, nq_FairTurns_Tape.1, nq_FairTurns_Tape.2⟩, tw937, tw938, pd_2, Nat.le_of_ble_eq_true rfl⟩
abbrev mT_add : Me := (yX7_add, cX7_add, 2, some (Jvm.ClassFile.FieldType.boolean))
theorem clT_add : gCalV mT_add 1 := ⟨⟨tw935, ti_FairTurns_Tape, nq_FairTurns_Tape.1, nq_FairTurns_Tape.2⟩, tw933, tw934, pd_1, Nat.le_of_ble_eq_true rfl⟩
abbrev mT_wipe : Me := (yX7_wipe, cX7_wipe, 2, some (Jvm.ClassFile.FieldType.int))
theorem clT_wipe : gCalV mT_wipe 0 := ⟨⟨tw601, ti_FairTurns_Tape, nq_FairTurns_Tape.1, nq_FairTurns_Tape.2⟩, tw599, tw600, pd_2, Nat.le_of_ble_eq_true rfl⟩
abbrev mT_start : Me := (yX7_start, cX7_start, 1, none)
theorem clT_start : gCalV mT_start 0 := ⟨⟨tw540, ti_FairTurns_Tape, nq_FairTurns_Tape.1, nq_FairTurns_Tape.2⟩, tw538, tw539, pd_0, Nat.le_of_ble_eq_true rfl⟩
abbrev mT_at : Me := (yX7_at, cX7_at, 1, some (Jvm.ClassFile.FieldType.int))
theorem clT_at : gCalV mT_at 0 := ⟨⟨tw587, ti_FairTurns_Tape, nq_FairTurns_Tape.1, nq_FairTurns_Tape.2⟩, tw585, tw586, pd_2, Nat.le_of_ble_eq_true rfl⟩
abbrev mT_fault : Me := (yX7_fault, cX7_fault, 1, some (Jvm.ClassFile.FieldType.int))
theorem clT_fault : gCalV mT_fault 0 := ⟨⟨tw597, ti_FairTurns_Tape, nq_FairTurns_Tape.1, nq_FairTurns_Tape.2⟩, tw595, tw596, pd_2, Nat.le_of_ble_eq_true rfl⟩
abbrev mT_isFaulty : Me := (yX7_isFaulty, cX7_isFaulty, 1, some (Jvm.ClassFile.FieldType.boolean))
theorem clT_isFaulty : gCalV mT_isFaulty 0 := ⟨⟨tw575, ti_FairTurns_Tape, nq_FairTurns_Tape.1, nq_FairTurns_Tape.2⟩, tw573, tw574, pd_16, Nat.le_of_ble_eq_true rfl⟩
abbrev mT_fail : Me := (yX7_fail, cX7_fail, 2, none)
theorem clT_fail : gCalV mT_fail 1 := ⟨⟨tw560, ti_FairTurns_Tape, nq_FairTurns_Tape.1, nq_FairTurns_Tape.2⟩, tw558, tw559, pd_4, Nat.le_of_ble_eq_true rfl⟩
abbrev mT_byteHere : Me := (yX7_byteHere, cX7_byteHere, 1, some (Jvm.ClassFile.FieldType.int))
theorem clT_byteHere : gCalV mT_byteHere 0 := ⟨⟨tw552, ti_FairTurns_Tape, nq_FairTurns_Tape.1, nq_FairTurns_Tape.2⟩, tw551, tw2, pd_2, Nat.le_of_ble_eq_true rfl⟩
abbrev mT_takesIf : Me := (yX7_takesIf, cX7_takesIf, 2, some (Jvm.ClassFile.FieldType.boolean))
theorem clT_takesIf : gCalV mT_takesIf 1 := ⟨⟨tw548, ti_FairTurns_Tape, nq_FairTurns_Tape.1, nq_FairTurns_Tape.2⟩, tw546, tw547, pd_1, Nat.le_of_ble_eq_true rfl⟩
abbrev mT_take : Me := (yX7_take, cX7_take, 2, none)
theorem clT_take : gCalV mT_take 1 := ⟨⟨tw564, ti_FairTurns_Tape, nq_FairTurns_Tape.1, nq_FairTurns_Tape.2⟩, tw562, tw563, pd_4, Nat.le_of_ble_eq_true rfl⟩
abbrev mT_end : Me := (yX7_end, cX7_end, 1, none)
theorem clT_end : gCalV mT_end 0 := ⟨⟨tw583, ti_FairTurns_Tape, nq_FairTurns_Tape.1, nq_FairTurns_Tape.2⟩, tw581, tw582, pd_0, Nat.le_of_ble_eq_true rfl⟩
abbrev mT_takesPart : Me := (yX7_takesPart, cX7_takesPart, 1, some (Jvm.ClassFile.FieldType.boolean))
theorem clT_takesPart : gCalV mT_takesPart 0 := ⟨⟨tw579, ti_FairTurns_Tape, nq_FairTurns_Tape.1, nq_FairTurns_Tape.2⟩, tw577, tw578, pd_16, Nat.le_of_ble_eq_true rfl⟩
abbrev mT_takeFigure : Me := (yX7_takeFigure, cX7_takeFigure, 2, some (Jvm.ClassFile.FieldType.int))
theorem clT_takeFigure : gCalV mT_takeFigure 0 := ⟨⟨tw1078, ti_FairTurns_Tape, nq_FairTurns_Tape.1, nq_FairTurns_Tape.2⟩, tw1076, tw1077, pd_2, Nat.le_of_ble_eq_true rfl⟩
abbrev mT_takeNumber : Me := (yX7_takeNumber, cX7_takeNumber, 7, some (Jvm.ClassFile.FieldType.int))
theorem clT_takeNumber : gCalV mT_takeNumber 2 := ⟨⟨tw556, ti_FairTurns_Tape, nq_FairTurns_Tape.1, nq_FairTurns_Tape.2⟩, tw554, tw555, pd_5, Nat.le_of_ble_eq_true rfl⟩
abbrev mT_takeKind : Me := (yX7_takeKind, cX7_takeKind, 2, some (Jvm.ClassFile.FieldType.int))
theorem clT_takeKind : gCalV mT_takeKind 0 := ⟨⟨tw569, ti_FairTurns_Tape, nq_FairTurns_Tape.1, nq_FairTurns_Tape.2⟩, tw567, tw568, pd_2, Nat.le_of_ble_eq_true rfl⟩
abbrev mT_passWord : Me := (yX7_passWord, cX7_passWord, 2, none)
theorem clT_passWord : gCalV mT_passWord 0 := ⟨⟨tw983, ti_FairTurns_Tape, nq_FairTurns_Tape.1, nq_FairTurns_Tape.2⟩, tw981, tw982, pd_0, Nat.le_of_ble_eq_true rfl⟩
abbrev mT_isWordFrom : Me := (yX7_isWordFrom, cX7_isWordFrom, 4, some (Jvm.ClassFile.FieldType.boolean))
theorem pd_22 : (parseMethodDescriptor "(ILjava/lang/String;)Z").map (fun q => q.parameters.length) = some 2 := by decide +kernel
theorem clT_isWordFrom : gCalV mT_isWordFrom 2 := ⟨⟨tw992, ti_FairTurns_Tape, nq_FairTurns_Tape.1, nq_FairTurns_Tape.2⟩, tw990, tw991, pd_22, Nat.le_of_ble_eq_true rfl⟩
abbrev mX_init : Me := (yX8_init, cX8_init, 3, none)
theorem nq_FairTurns_Texts : "FairTurns$Texts" ≠ "java/lang/invoke/MethodHandle" ∧ "FairTurns$Texts" ≠ "java/lang/invoke/VarHandle" := ⟨by decide +kernel, by decide +kernel⟩
abbrev mX_readRules : Me := (yX8_readRules, cX8_readRules, 4, none)
theorem clX_readRules : gCalV mX_readRules 1 := ⟨⟨tw535, ti_FairTurns_Texts, nq_FairTurns_Texts.1, nq_FairTurns_Texts.2⟩, tw533, tw534, pd_4, Nat.le_of_ble_eq_true rfl⟩
abbrev mX_readRule : Me := (yX8_readRule, cX8_readRule, 2, none)
theorem clX_readRule : gCalV mX_readRule 1 := ⟨⟨tw544, ti_FairTurns_Texts, nq_FairTurns_Texts.1, nq_FairTurns_Texts.2⟩, tw543, tw1, pd_4, Nat.le_of_ble_eq_true rfl⟩
abbrev mX_giveRules : Me := (yX8_giveRules, cX8_giveRules, 3, some (Jvm.ClassFile.FieldType.int))
theorem clX_giveRules : gCalV mX_giveRules 1 := ⟨⟨tw605, ti_FairTurns_Texts, nq_FairTurns_Texts.1, nq_FairTurns_Texts.2⟩, tw603, tw604, pd_3, Nat.le_of_ble_eq_true rfl⟩
abbrev mX_readCalendar : Me := (yX8_readCalendar, cX8_readCalendar, 3, none)
theorem clX_readCalendar : gCalV mX_readCalendar 0 := ⟨⟨tw647, ti_FairTurns_Texts, nq_FairTurns_Texts.1, nq_FairTurns_Texts.2⟩, tw645, tw646, pd_0, Nat.le_of_ble_eq_true rfl⟩
abbrev mX_addDuties : Me := (yX8_addDuties, cX8_addDuties, 2, some (Jvm.ClassFile.FieldType.int))
theorem clX_addDuties : gCalV mX_addDuties 0 := ⟨⟨tw651, ti_FairTurns_Texts, nq_FairTurns_Texts.1, nq_FairTurns_Texts.2⟩, tw649, tw650, pd_2, Nat.le_of_ble_eq_true rfl⟩
abbrev mX_readRoster : Me := (yX8_readRoster, cX8_readRoster, 2, none)
theorem clX_readRoster : gCalV mX_readRoster 0 := ⟨⟨tw1066, ti_FairTurns_Texts, nq_FairTurns_Texts.1, nq_FairTurns_Texts.2⟩, tw1064, tw1065, pd_0, Nat.le_of_ble_eq_true rfl⟩
abbrev mX_readHolder : Me := (yX8_readHolder, cX8_readHolder, 4, none)
theorem clX_readHolder : gCalV mX_readHolder 1 := ⟨⟨tw1071, ti_FairTurns_Texts, nq_FairTurns_Texts.1, nq_FairTurns_Texts.2⟩, tw1070, tw28, pd_4, Nat.le_of_ble_eq_true rfl⟩
abbrev mX_planned : Me := (yX8_planned, cX8_planned, 1, some ((Jvm.ClassFile.FieldType.array Jvm.ClassFile.FieldType.int)))
theorem pd_23 : (parseMethodDescriptor "()[I").map (fun q => q.parameters.length) = some 0 := by decide +kernel
theorem clX_planned : gCalV mX_planned 0 := ⟨⟨tw1089, ti_FairTurns_Texts, nq_FairTurns_Texts.1, nq_FairTurns_Texts.2⟩, tw1087, tw1088, pd_23, Nat.le_of_ble_eq_true rfl⟩
abbrev mX_firstThatMayNotBe : Me := (yX8_firstThatMayNotBe, cX8_firstThatMayNotBe, 3, some (Jvm.ClassFile.FieldType.int))
theorem clX_firstThatMayNotBe : gCalV mX_firstThatMayNotBe 0 := ⟨⟨tw1084, ti_FairTurns_Texts, nq_FairTurns_Texts.1, nq_FairTurns_Texts.2⟩, tw1082, tw1083, pd_2, Nat.le_of_ble_eq_true rfl⟩
abbrev mX_holdAsPlanned : Me := (yX8_holdAsPlanned, cX8_holdAsPlanned, 2, none)
theorem clX_holdAsPlanned : gCalV mX_holdAsPlanned 0 := ⟨⟨tw1109, ti_FairTurns_Texts, nq_FairTurns_Texts.1, nq_FairTurns_Texts.2⟩, tw1107, tw1108, pd_0, Nat.le_of_ble_eq_true rfl⟩
abbrev mF_init : Me := (yX9_init, cX9_init, 3, none)
theorem nq_FairTurns : "FairTurns" ≠ "java/lang/invoke/MethodHandle" ∧ "FairTurns" ≠ "java/lang/invoke/VarHandle" := ⟨by decide +kernel, by decide +kernel⟩
abbrev mF_comes : Me := (yX9_comes, cX9_comes, 2, some (Jvm.ClassFile.FieldType.int))
theorem clF_comes : gCalV mF_comes 1 := ⟨⟨tw409, ti_FairTurns, nq_FairTurns.1, nq_FairTurns.2⟩, tw407, tw408, pd_3, Nat.le_of_ble_eq_true rfl⟩
abbrev mF_goes : Me := (yX9_goes, cX9_goes, 2, some (Jvm.ClassFile.FieldType.int))
theorem clF_goes : gCalV mF_goes 1 := ⟨⟨tw436, ti_FairTurns, nq_FairTurns.1, nq_FairTurns.2⟩, tw434, tw435, pd_3, Nat.le_of_ble_eq_true rfl⟩
abbrev mF_past : Me := (yX9_past, cX9_past, 5, some (Jvm.ClassFile.FieldType.int))
theorem pd_24 : (parseMethodDescriptor "(III)I").map (fun q => q.parameters.length) = some 3 := by decide +kernel
theorem clF_past : gCalV mF_past 3 := ⟨⟨tw474, ti_FairTurns, nq_FairTurns.1, nq_FairTurns.2⟩, tw472, tw473, pd_24, Nat.le_of_ble_eq_true rfl⟩
abbrev mF_of : Me := (yX9_of, cX9_of, 3, some (Jvm.ClassFile.FieldType.int))
theorem clF_of : gCalV mF_of 2 := ⟨⟨tw484, ti_FairTurns, nq_FairTurns.1, nq_FairTurns.2⟩, tw482, tw483, pd_5, Nat.le_of_ble_eq_true rfl⟩
abbrev mF_neutral : Me := (yX9_neutral, cX9_neutral, 2, some (Jvm.ClassFile.FieldType.int))
theorem clF_neutral : gCalV mF_neutral 1 := ⟨⟨tw526, ti_FairTurns, nq_FairTurns.1, nq_FairTurns.2⟩, tw524, tw525, pd_3, Nat.le_of_ble_eq_true rfl⟩
abbrev mF_rules : Me := (yX9_rules, cX9_rules, 3, some (Jvm.ClassFile.FieldType.int))
theorem clF_rules : gCalV mF_rules 1 := ⟨⟨tw531, ti_FairTurns, nq_FairTurns.1, nq_FairTurns.2⟩, tw529, tw530, pd_3, Nat.le_of_ble_eq_true rfl⟩
abbrev mF_frees : Me := (yX9_frees, cX9_frees, 2, some (Jvm.ClassFile.FieldType.int))
theorem clF_frees : gCalV mF_frees 1 := ⟨⟨tw615, ti_FairTurns, nq_FairTurns.1, nq_FairTurns.2⟩, tw613, tw614, pd_3, Nat.le_of_ble_eq_true rfl⟩
abbrev mF_duty : Me := (yX9_duty, cX9_duty, 3, some (Jvm.ClassFile.FieldType.int))
theorem clF_duty : gCalV mF_duty 2 := ⟨⟨tw623, ti_FairTurns, nq_FairTurns.1, nq_FairTurns.2⟩, tw621, tw622, pd_5, Nat.le_of_ble_eq_true rfl⟩
abbrev mF_calendar : Me := (yX9_calendar, cX9_calendar, 2, some (Jvm.ClassFile.FieldType.int))
theorem clF_calendar : gCalV mF_calendar 0 := ⟨⟨tw643, ti_FairTurns, nq_FairTurns.1, nq_FairTurns.2⟩, tw641, tw642, pd_2, Nat.le_of_ble_eq_true rfl⟩
abbrev mF_dutyOf : Me := (yX9_dutyOf, cX9_dutyOf, 3, some (Jvm.ClassFile.FieldType.int))
theorem clF_dutyOf : gCalV mF_dutyOf 2 := ⟨⟨tw656, ti_FairTurns, nq_FairTurns.1, nq_FairTurns.2⟩, tw654, tw655, pd_5, Nat.le_of_ble_eq_true rfl⟩
abbrev mF_stands : Me := (yX9_stands, cX9_stands, 2, some (Jvm.ClassFile.FieldType.int))
theorem clF_stands : gCalV mF_stands 1 := ⟨⟨tw678, ti_FairTurns, nq_FairTurns.1, nq_FairTurns.2⟩, tw676, tw677, pd_3, Nat.le_of_ble_eq_true rfl⟩
abbrev mF_may : Me := (yX9_may, cX9_may, 3, some (Jvm.ClassFile.FieldType.int))
theorem clF_may : gCalV mF_may 2 := ⟨⟨tw683, ti_FairTurns, nq_FairTurns.1, nq_FairTurns.2⟩, tw681, tw682, pd_5, Nat.le_of_ble_eq_true rfl⟩
abbrev mF_dislike : Me := (yX9_dislike, cX9_dislike, 5, some (Jvm.ClassFile.FieldType.int))
theorem clF_dislike : gCalV mF_dislike 3 := ⟨⟨tw688, ti_FairTurns, nq_FairTurns.1, nq_FairTurns.2⟩, tw686, tw687, pd_24, Nat.le_of_ble_eq_true rfl⟩
abbrev mF_hold : Me := (yX9_hold, cX9_hold, 4, some (Jvm.ClassFile.FieldType.int))
theorem clF_hold : gCalV mF_hold 2 := ⟨⟨tw700, ti_FairTurns, nq_FairTurns.1, nq_FairTurns.2⟩, tw698, tw699, pd_5, Nat.le_of_ble_eq_true rfl⟩
abbrev mF_open : Me := (yX9_open, cX9_open, 3, some (Jvm.ClassFile.FieldType.int))
theorem clF_open : gCalV mF_open 1 := ⟨⟨tw705, ti_FairTurns, nq_FairTurns.1, nq_FairTurns.2⟩, tw703, tw704, pd_3, Nat.le_of_ble_eq_true rfl⟩
abbrev mF_fill : Me := (yX9_fill, cX9_fill, 4, some (Jvm.ClassFile.FieldType.int))
theorem clF_fill : gCalV mF_fill 1 := ⟨⟨tw709, ti_FairTurns, nq_FairTurns.1, nq_FairTurns.2⟩, tw707, tw708, pd_3, Nat.le_of_ble_eq_true rfl⟩
abbrev mF_load : Me := (yX9_load, cX9_load, 3, some (Jvm.ClassFile.FieldType.int))
theorem clF_load : gCalV mF_load 2 := ⟨⟨tw749, ti_FairTurns, nq_FairTurns.1, nq_FairTurns.2⟩, tw747, tw748, pd_5, Nat.le_of_ble_eq_true rfl⟩
abbrev mF_lesser : Me := (yX9_lesser, cX9_lesser, 4, some (Jvm.ClassFile.FieldType.int))
theorem clF_lesser : gCalV mF_lesser 2 := ⟨⟨tw766, ti_FairTurns, nq_FairTurns.1, nq_FairTurns.2⟩, tw764, tw765, pd_5, Nat.le_of_ble_eq_true rfl⟩
abbrev mF_eases : Me := (yX9_eases, cX9_eases, 2, some (Jvm.ClassFile.FieldType.int))
theorem clF_eases : gCalV mF_eases 1 := ⟨⟨tw783, ti_FairTurns, nq_FairTurns.1, nq_FairTurns.2⟩, tw781, tw782, pd_3, Nat.le_of_ble_eq_true rfl⟩
abbrev mF_disliked : Me := (yX9_disliked, cX9_disliked, 3, some (Jvm.ClassFile.FieldType.int))
theorem clF_disliked : gCalV mF_disliked 0 := ⟨⟨tw793, ti_FairTurns, nq_FairTurns.1, nq_FairTurns.2⟩, tw791, tw792, pd_2, Nat.le_of_ble_eq_true rfl⟩
abbrev mF_ring : Me := (yX9_ring, cX9_ring, 2, some (Jvm.ClassFile.FieldType.int))
theorem clF_ring : gCalV mF_ring 1 := ⟨⟨tw797, ti_FairTurns, nq_FairTurns.1, nq_FairTurns.2⟩, tw795, tw796, pd_3, Nat.le_of_ble_eq_true rfl⟩
abbrev mF_turn : Me := (yX9_turn, cX9_turn, 3, some (Jvm.ClassFile.FieldType.int))
theorem clF_turn : gCalV mF_turn 1 := ⟨⟨tw856, ti_FairTurns, nq_FairTurns.1, nq_FairTurns.2⟩, tw854, tw855, pd_3, Nat.le_of_ble_eq_true rfl⟩
abbrev mF_close : Me := (yX9_close, cX9_close, 1, some (Jvm.ClassFile.FieldType.int))
theorem clF_close : gCalV mF_close 0 := ⟨⟨tw865, ti_FairTurns, nq_FairTurns.1, nq_FairTurns.2⟩, tw863, tw864, pd_2, Nat.le_of_ble_eq_true rfl⟩
abbrev mF_audit : Me := (yX9_audit, cX9_audit, 3, some (Jvm.ClassFile.FieldType.int))
theorem clF_audit : gCalV mF_audit 2 := ⟨⟨tw882, ti_FairTurns, nq_FairTurns.1, nq_FairTurns.2⟩, tw880, tw881, pd_5, Nat.le_of_ble_eq_true rfl⟩
abbrev mF_next : Me := (yX9_next, cX9_next, 3, some (Jvm.ClassFile.FieldType.int))
theorem clF_next : gCalV mF_next 2 := ⟨⟨tw898, ti_FairTurns, nq_FairTurns.1, nq_FairTurns.2⟩, tw896, tw897, pd_5, Nat.le_of_ble_eq_true rfl⟩
abbrev mF_near : Me := (yX9_near, cX9_near, 4, some (Jvm.ClassFile.FieldType.int))
theorem clF_near : gCalV mF_near 0 := ⟨⟨tw916, ti_FairTurns, nq_FairTurns.1, nq_FairTurns.2⟩, tw914, tw915, pd_2, Nat.le_of_ble_eq_true rfl⟩
abbrev mF_heaviest : Me := (yX9_heaviest, cX9_heaviest, 3, some (Jvm.ClassFile.FieldType.int))
theorem clF_heaviest : gCalV mF_heaviest 0 := ⟨⟨tw927, ti_FairTurns, nq_FairTurns.1, nq_FairTurns.2⟩, tw925, tw926, pd_2, Nat.le_of_ble_eq_true rfl⟩
abbrev mF_feed : Me := (yX9_feed, cX9_feed, 2, some (Jvm.ClassFile.FieldType.int))
theorem clF_feed : gCalV mF_feed 1 := ⟨⟨tw931, ti_FairTurns, nq_FairTurns.1, nq_FairTurns.2⟩, tw929, tw930, pd_3, Nat.le_of_ble_eq_true rfl⟩
abbrev mF_clear : Me := (yX9_clear, cX9_clear, 1, some (Jvm.ClassFile.FieldType.int))
theorem clF_clear : gCalV mF_clear 0 := ⟨⟨tw943, ti_FairTurns, nq_FairTurns.1, nq_FairTurns.2⟩, tw941, tw942, pd_2, Nat.le_of_ble_eq_true rfl⟩
abbrev mF_pick : Me := (yX9_pick, cX9_pick, 2, some (Jvm.ClassFile.FieldType.int))
theorem clF_pick : gCalV mF_pick 0 := ⟨⟨tw947, ti_FairTurns, nq_FairTurns.1, nq_FairTurns.2⟩, tw945, tw946, pd_2, Nat.le_of_ble_eq_true rfl⟩
abbrev mF_openAll : Me := (yX9_openAll, cX9_openAll, 4, some (Jvm.ClassFile.FieldType.int))
theorem clF_openAll : gCalV mF_openAll 0 := ⟨⟨tw1054, ti_FairTurns, nq_FairTurns.1, nq_FairTurns.2⟩, tw1052, tw1053, pd_2, Nat.le_of_ble_eq_true rfl⟩
abbrev mF_judge : Me := (yX9_judge, cX9_judge, 2, some (Jvm.ClassFile.FieldType.int))
theorem clF_judge : gCalV mF_judge 0 := ⟨⟨tw1058, ti_FairTurns, nq_FairTurns.1, nq_FairTurns.2⟩, tw1056, tw1057, pd_2, Nat.le_of_ble_eq_true rfl⟩
abbrev mF_roster : Me := (yX9_roster, cX9_roster, 1, some (Jvm.ClassFile.FieldType.int))
theorem clF_roster : gCalV mF_roster 0 := ⟨⟨tw1105, ti_FairTurns, nq_FairTurns.1, nq_FairTurns.2⟩, tw1103, tw1104, pd_2, Nat.le_of_ble_eq_true rfl⟩
abbrev mF_spell : Me := (yX9_spell, cX9_spell, 1, some (Jvm.ClassFile.FieldType.int))
theorem clF_spell : gCalV mF_spell 0 := ⟨⟨tw1114, ti_FairTurns, nq_FairTurns.1, nq_FairTurns.2⟩, tw1112, tw1113, pd_2, Nat.le_of_ble_eq_true rfl⟩
abbrev mF_paper : Me := (yX9_paper, cX9_paper, 2, some (Jvm.ClassFile.FieldType.int))
theorem clF_paper : gCalV mF_paper 1 := ⟨⟨tw1140, ti_FairTurns, nq_FairTurns.1, nq_FairTurns.2⟩, tw1138, tw1139, pd_3, Nat.le_of_ble_eq_true rfl⟩
abbrev mF_told : Me := (yX9_told, cX9_told, 2, some (Jvm.ClassFile.FieldType.int))
theorem clF_told : gCalV mF_told 1 := ⟨⟨tw1148, ti_FairTurns, nq_FairTurns.1, nq_FairTurns.2⟩, tw1146, tw1147, pd_3, Nat.le_of_ble_eq_true rfl⟩
abbrev mF_list : Me := (yX9_list, cX9_list, 3, some (Jvm.ClassFile.FieldType.int))
theorem clF_list : gCalV mF_list 2 := ⟨⟨tw1166, ti_FairTurns, nq_FairTurns.1, nq_FairTurns.2⟩, tw1164, tw1165, pd_5, Nat.le_of_ble_eq_true rfl⟩
abbrev mF_set : Me := (yX9_set, cX9_set, 4, some (Jvm.ClassFile.FieldType.int))
theorem clF_set : gCalV mF_set 3 := ⟨⟨tw1179, ti_FairTurns, nq_FairTurns.1, nq_FairTurns.2⟩, tw1177, tw1178, pd_24, Nat.le_of_ble_eq_true rfl⟩
abbrev mF_get : Me := (yX9_get, cX9_get, 3, some (Jvm.ClassFile.FieldType.long))
theorem clF_get : gCalV mF_get 2 := ⟨⟨tw1196, ti_FairTurns, nq_FairTurns.1, nq_FairTurns.2⟩, tw1194, tw1195, pd_21, Nat.le_of_ble_eq_true rfl⟩
abbrev mF_lay : Me := (yX9_lay, cX9_lay, 4, some (Jvm.ClassFile.FieldType.int))
theorem clF_lay : gCalV mF_lay 2 := ⟨⟨tw1205, ti_FairTurns, nq_FairTurns.1, nq_FairTurns.2⟩, tw1203, tw1204, pd_5, Nat.le_of_ble_eq_true rfl⟩
abbrev mF_image : Me := (yX9_image, cX9_image, 1, some (Jvm.ClassFile.FieldType.int))
theorem clF_image : gCalV mF_image 0 := ⟨⟨tw1209, ti_FairTurns, nq_FairTurns.1, nq_FairTurns.2⟩, tw1207, tw1208, pd_2, Nat.le_of_ble_eq_true rfl⟩
abbrev mF_undo : Me := (yX9_undo, cX9_undo, 1, some (Jvm.ClassFile.FieldType.int))
theorem clF_undo : gCalV mF_undo 0 := ⟨⟨tw1220, ti_FairTurns, nq_FairTurns.1, nq_FairTurns.2⟩, tw1218, tw1219, pd_2, Nat.le_of_ble_eq_true rfl⟩
abbrev mF_isKind : Me := (yX9_isKind, cX9_isKind, 1, some (Jvm.ClassFile.FieldType.boolean))
theorem clF_isKind : gCalS mF_isKind 1 := ⟨⟨tw432, ti_FairTurns, nq_FairTurns.1, nq_FairTurns.2⟩, tw431, pd_1, Nat.le_of_ble_eq_true rfl⟩
abbrev mF_isKindAfter : Me := (yX9_isKindAfter, cX9_isKindAfter, 2, some (Jvm.ClassFile.FieldType.boolean))
theorem clF_isKindAfter : gCalS mF_isKindAfter 2 := ⟨⟨tw487, ti_FairTurns, nq_FairTurns.1, nq_FairTurns.2⟩, tw486, pd_9, Nat.le_of_ble_eq_true rfl⟩
abbrev mF_orNobody : Me := (yX9_orNobody, cX9_orNobody, 1, some (Jvm.ClassFile.FieldType.int))
theorem clF_orNobody : gCalS mF_orNobody 1 := ⟨⟨tw666, ti_FairTurns, nq_FairTurns.1, nq_FairTurns.2⟩, tw665, pd_3, Nat.le_of_ble_eq_true rfl⟩
abbrev mF_faultAnswer : Me := (yX9_faultAnswer, cX9_faultAnswer, 2, some (Jvm.ClassFile.FieldType.int))
theorem clF_faultAnswer : gCalV mF_faultAnswer 0 := ⟨⟨tw593, ti_FairTurns, nq_FairTurns.1, nq_FairTurns.2⟩, tw592, tw3, pd_2, Nat.le_of_ble_eq_true rfl⟩
abbrev mF_readsRoster : Me := (yX9_readsRoster, cX9_readsRoster, 1, some (Jvm.ClassFile.FieldType.boolean))
theorem clF_readsRoster : gCalV mF_readsRoster 0 := ⟨⟨tw1062, ti_FairTurns, nq_FairTurns.1, nq_FairTurns.2⟩, tw1061, tw27, pd_16, Nat.le_of_ble_eq_true rfl⟩
abbrev mF_judgeLoads : Me := (yX9_judgeLoads, cX9_judgeLoads, 4, some (Jvm.ClassFile.FieldType.int))
theorem pd_25 : (parseMethodDescriptor "([I)I").map (fun q => q.parameters.length) = some 1 := by decide +kernel
theorem clF_judgeLoads : gCalV mF_judgeLoads 1 := ⟨⟨tw1093, ti_FairTurns, nq_FairTurns.1, nq_FairTurns.2⟩, tw1092, tw29, pd_25, Nat.le_of_ble_eq_true rfl⟩
abbrev mM_init : Me := (yX10_init, cX10_init, 1, none)
theorem nq_FairTurnsModel : "FairTurnsModel" ≠ "java/lang/invoke/MethodHandle" ∧ "FairTurnsModel" ≠ "java/lang/invoke/VarHandle" := ⟨by decide +kernel, by decide +kernel⟩
abbrev mM_in : Me := (yX10_in, cX10_in, 6, some (Jvm.ClassFile.FieldType.boolean))
theorem pd_26 : (parseMethodDescriptor "(JJJ)Z").map (fun q => q.parameters.length) = some 3 := by decide +kernel
theorem clM_in : gCalS mM_in 3 := ⟨⟨tw1337, ti_FairTurnsModel, nq_FairTurnsModel.1, nq_FairTurnsModel.2⟩, tw1336, pd_26, Nat.le_of_ble_eq_true rfl⟩
abbrev mM_isOne : Me := (yX10_isOne, cX10_isOne, 2, some (Jvm.ClassFile.FieldType.boolean))
theorem clM_isOne : gCalV mM_isOne 1 := ⟨⟨tw1353, ti_FairTurnsModel, nq_FairTurnsModel.1, nq_FairTurnsModel.2⟩, tw1352, tw37, pd_1, Nat.le_of_ble_eq_true rfl⟩
abbrev mM_isHere : Me := (yX10_isHere, cX10_isHere, 2, some (Jvm.ClassFile.FieldType.boolean))
theorem clM_isHere : gCalV mM_isHere 1 := ⟨⟨tw1349, ti_FairTurnsModel, nq_FairTurnsModel.1, nq_FairTurnsModel.2⟩, tw1348, tw36, pd_1, Nat.le_of_ble_eq_true rfl⟩
abbrev mM_isKind : Me := (yX10_isKind, cX10_isKind, 1, some (Jvm.ClassFile.FieldType.boolean))
theorem clM_isKind : gCalS mM_isKind 1 := ⟨⟨tw1380, ti_FairTurnsModel, nq_FairTurnsModel.1, nq_FairTurnsModel.2⟩, tw1379, pd_1, Nat.le_of_ble_eq_true rfl⟩
abbrev mM_isDuty : Me := (yX10_isDuty, cX10_isDuty, 2, some (Jvm.ClassFile.FieldType.boolean))
theorem clM_isDuty : gCalV mM_isDuty 1 := ⟨⟨tw1436, ti_FairTurnsModel, nq_FairTurnsModel.1, nq_FairTurnsModel.2⟩, tw1435, tw49, pd_1, Nat.le_of_ble_eq_true rfl⟩
abbrev mM_holder : Me := (yX10_holder, cX10_holder, 2, some (Jvm.ClassFile.FieldType.int))
theorem clM_holder : gCalV mM_holder 1 := ⟨⟨tw1369, ti_FairTurnsModel, nq_FairTurnsModel.1, nq_FairTurnsModel.2⟩, tw1368, tw40, pd_3, Nat.le_of_ble_eq_true rfl⟩
abbrev mM_past : Me := (yX10_past, cX10_past, 3, some (Jvm.ClassFile.FieldType.int))
theorem clM_past : gCalV mM_past 2 := ⟨⟨tw1357, ti_FairTurnsModel, nq_FairTurnsModel.1, nq_FairTurnsModel.2⟩, tw1356, tw38, pd_5, Nat.le_of_ble_eq_true rfl⟩
abbrev mM_head : Me := (yX10_head, cX10_head, 3, some (Jvm.ClassFile.FieldType.int))
theorem clM_head : gCalV mM_head 2 := ⟨⟨tw1401, ti_FairTurnsModel, nq_FairTurnsModel.1, nq_FairTurnsModel.2⟩, tw1400, tw45, pd_5, Nat.le_of_ble_eq_true rfl⟩
abbrev mM_heldIn : Me := (yX10_heldIn, cX10_heldIn, 5, some (Jvm.ClassFile.FieldType.int))
theorem clM_heldIn : gCalV mM_heldIn 2 := ⟨⟨tw1397, ti_FairTurnsModel, nq_FairTurnsModel.1, nq_FairTurnsModel.2⟩, tw1396, tw44, pd_5, Nat.le_of_ble_eq_true rfl⟩
abbrev mM_load : Me := (yX10_load, cX10_load, 4, some (Jvm.ClassFile.FieldType.int))
theorem pd_27 : (parseMethodDescriptor "(IIZ)I").map (fun q => q.parameters.length) = some 3 := by decide +kernel
theorem clM_load : gCalV mM_load 3 := ⟨⟨tw1393, ti_FairTurnsModel, nq_FairTurnsModel.1, nq_FairTurnsModel.2⟩, tw1392, tw43, pd_27, Nat.le_of_ble_eq_true rfl⟩
abbrev mM_loadOf : Me := (yX10_loadOf, cX10_loadOf, 3, some (Jvm.ClassFile.FieldType.int))
theorem clM_loadOf : gCalV mM_loadOf 2 := ⟨⟨tw1411, ti_FairTurnsModel, nq_FairTurnsModel.1, nq_FairTurnsModel.2⟩, tw1410, tw47, pd_5, Nat.le_of_ble_eq_true rfl⟩
abbrev mM_burden : Me := (yX10_burden, cX10_burden, 4, some (Jvm.ClassFile.FieldType.int))
theorem clM_burden : gCalV mM_burden 1 := ⟨⟨tw1389, ti_FairTurnsModel, nq_FairTurnsModel.1, nq_FairTurnsModel.2⟩, tw1388, tw42, pd_3, Nat.le_of_ble_eq_true rfl⟩
abbrev mM_hereMany : Me := (yX10_hereMany, cX10_hereMany, 3, some (Jvm.ClassFile.FieldType.int))
theorem clM_hereMany : gCalV mM_hereMany 0 := ⟨⟨tw1345, ti_FairTurnsModel, nq_FairTurnsModel.1, nq_FairTurnsModel.2⟩, tw1344, tw35, pd_2, Nat.le_of_ble_eq_true rfl⟩
abbrev mM_neutralOf : Me := (yX10_neutralOf, cX10_neutralOf, 5, some (Jvm.ClassFile.FieldType.int))
theorem clM_neutralOf : gCalV mM_neutralOf 1 := ⟨⟨tw1341, ti_FairTurnsModel, nq_FairTurnsModel.1, nq_FairTurnsModel.2⟩, tw1340, tw34, pd_3, Nat.le_of_ble_eq_true rfl⟩
abbrev mM_mayHold : Me := (yX10_mayHold, cX10_mayHold, 7, some (Jvm.ClassFile.FieldType.boolean))
theorem clM_mayHold : gCalV mM_mayHold 2 := ⟨⟨tw1373, ti_FairTurnsModel, nq_FairTurnsModel.1, nq_FairTurnsModel.2⟩, tw1372, tw41, pd_9, Nat.le_of_ble_eq_true rfl⟩
abbrev mM_lines : Me := (yX10_lines, cX10_lines, 3, none)
theorem clM_lines : gCalV mM_lines 0 := ⟨⟨tw1447, ti_FairTurnsModel, nq_FairTurnsModel.1, nq_FairTurnsModel.2⟩, tw1446, tw51, pd_0, Nat.le_of_ble_eq_true rfl⟩
abbrev mM_placeOf : Me := (yX10_placeOf, cX10_placeOf, 3, some (Jvm.ClassFile.FieldType.int))
theorem clM_placeOf : gCalV mM_placeOf 1 := ⟨⟨tw1443, ti_FairTurnsModel, nq_FairTurnsModel.1, nq_FairTurnsModel.2⟩, tw1442, tw50, pd_3, Nat.le_of_ble_eq_true rfl⟩
abbrev mM_comes : Me := (yX10_comes, cX10_comes, 4, some (Jvm.ClassFile.FieldType.int))
theorem clM_comes : gCalV mM_comes 1 := ⟨⟨tw1333, ti_FairTurnsModel, nq_FairTurnsModel.1, nq_FairTurnsModel.2⟩, tw1331, tw1332, pd_3, Nat.le_of_ble_eq_true rfl⟩
abbrev mM_goes : Me := (yX10_goes, cX10_goes, 2, some (Jvm.ClassFile.FieldType.int))
theorem clM_goes : gCalV mM_goes 1 := ⟨⟨tw1361, ti_FairTurnsModel, nq_FairTurnsModel.1, nq_FairTurnsModel.2⟩, tw1359, tw1360, pd_3, Nat.le_of_ble_eq_true rfl⟩
abbrev mM_opensBarred : Me := (yX10_opensBarred, cX10_opensBarred, 3, none)
theorem clM_opensBarred : gCalV mM_opensBarred 1 := ⟨⟨tw1365, ti_FairTurnsModel, nq_FairTurnsModel.1, nq_FairTurnsModel.2⟩, tw1364, tw39, pd_4, Nat.le_of_ble_eq_true rfl⟩
abbrev mM_past_ : Me := (yX10_past_, cX10_past_, 5, some (Jvm.ClassFile.FieldType.int))
theorem clM_past_ : gCalV mM_past_ 3 := ⟨⟨tw1377, ti_FairTurnsModel, nq_FairTurnsModel.1, nq_FairTurnsModel.2⟩, tw1375, tw1376, pd_24, Nat.le_of_ble_eq_true rfl⟩
abbrev mM_heldBy : Me := (yX10_heldBy, cX10_heldBy, 4, some (Jvm.ClassFile.FieldType.int))
theorem clM_heldBy : gCalV mM_heldBy 1 := ⟨⟨tw1405, ti_FairTurnsModel, nq_FairTurnsModel.1, nq_FairTurnsModel.2⟩, tw1404, tw46, pd_3, Nat.le_of_ble_eq_true rfl⟩
abbrev mM_of : Me := (yX10_of, cX10_of, 4, some (Jvm.ClassFile.FieldType.int))
theorem clM_of : gCalV mM_of 2 := ⟨⟨tw1385, ti_FairTurnsModel, nq_FairTurnsModel.1, nq_FairTurnsModel.2⟩, tw1383, tw1384, pd_5, Nat.le_of_ble_eq_true rfl⟩
abbrev mM_neutral : Me := (yX10_neutral, cX10_neutral, 2, some (Jvm.ClassFile.FieldType.int))
theorem clM_neutral : gCalV mM_neutral 1 := ⟨⟨tw1415, ti_FairTurnsModel, nq_FairTurnsModel.1, nq_FairTurnsModel.2⟩, tw1413, tw1414, pd_3, Nat.le_of_ble_eq_true rfl⟩
abbrev mM_frees : Me := (yX10_frees, cX10_frees, 3, some (Jvm.ClassFile.FieldType.int))
theorem clM_frees : gCalV mM_frees 1 := ⟨⟨tw1419, ti_FairTurnsModel, nq_FairTurnsModel.1, nq_FairTurnsModel.2⟩, tw1417, tw1418, pd_3, Nat.le_of_ble_eq_true rfl⟩
abbrev mM_adds : Me := (yX10_adds, cX10_adds, 5, none)
theorem clM_adds : gCalV mM_adds 2 := ⟨⟨tw1428, ti_FairTurnsModel, nq_FairTurnsModel.1, nq_FairTurnsModel.2⟩, tw1427, tw48, pd_11, Nat.le_of_ble_eq_true rfl⟩
abbrev mM_duty : Me := (yX10_duty, cX10_duty, 3, some (Jvm.ClassFile.FieldType.int))
theorem clM_duty : gCalV mM_duty 2 := ⟨⟨tw1423, ti_FairTurnsModel, nq_FairTurnsModel.1, nq_FairTurnsModel.2⟩, tw1421, tw1422, pd_5, Nat.le_of_ble_eq_true rfl⟩
abbrev mM_whoMay : Me := (yX10_whoMay, cX10_whoMay, 4, some (Jvm.ClassFile.FieldType.int))
theorem clM_whoMay : gCalV mM_whoMay 1 := ⟨⟨tw1451, ti_FairTurnsModel, nq_FairTurnsModel.1, nq_FairTurnsModel.2⟩, tw1450, tw52, pd_3, Nat.le_of_ble_eq_true rfl⟩
abbrev mM_toldHolder : Me := (yX10_toldHolder, cX10_toldHolder, 1, some (Jvm.ClassFile.FieldType.int))
theorem clM_toldHolder : gCalS mM_toldHolder 1 := ⟨⟨tw1439, ti_FairTurnsModel, nq_FairTurnsModel.1, nq_FairTurnsModel.2⟩, tw1438, pd_3, Nat.le_of_ble_eq_true rfl⟩
abbrev mM_dutyOf : Me := (yX10_dutyOf, cX10_dutyOf, 3, some (Jvm.ClassFile.FieldType.int))
theorem clM_dutyOf : gCalV mM_dutyOf 2 := ⟨⟨tw1432, ti_FairTurnsModel, nq_FairTurnsModel.1, nq_FairTurnsModel.2⟩, tw1430, tw1431, pd_5, Nat.le_of_ble_eq_true rfl⟩
abbrev mM_stands : Me := (yX10_stands, cX10_stands, 2, some (Jvm.ClassFile.FieldType.int))
theorem clM_stands : gCalV mM_stands 1 := ⟨⟨tw1455, ti_FairTurnsModel, nq_FairTurnsModel.1, nq_FairTurnsModel.2⟩, tw1453, tw1454, pd_3, Nat.le_of_ble_eq_true rfl⟩
abbrev mM_may : Me := (yX10_may, cX10_may, 3, some (Jvm.ClassFile.FieldType.int))
theorem clM_may : gCalV mM_may 2 := ⟨⟨tw1459, ti_FairTurnsModel, nq_FairTurnsModel.1, nq_FairTurnsModel.2⟩, tw1457, tw1458, pd_5, Nat.le_of_ble_eq_true rfl⟩
abbrev mM_dislike : Me := (yX10_dislike, cX10_dislike, 6, some (Jvm.ClassFile.FieldType.int))
theorem clM_dislike : gCalV mM_dislike 3 := ⟨⟨tw1463, ti_FairTurnsModel, nq_FairTurnsModel.1, nq_FairTurnsModel.2⟩, tw1461, tw1462, pd_24, Nat.le_of_ble_eq_true rfl⟩
abbrev mM_dislikeOf : Me := (yX10_dislikeOf, cX10_dislikeOf, 3, some (Jvm.ClassFile.FieldType.int))
theorem clM_dislikeOf : gCalV mM_dislikeOf 2 := ⟨⟨tw1533, ti_FairTurnsModel, nq_FairTurnsModel.1, nq_FairTurnsModel.2⟩, tw1532, tw62, pd_5, Nat.le_of_ble_eq_true rfl⟩
abbrev mM_hold : Me := (yX10_hold, cX10_hold, 4, some (Jvm.ClassFile.FieldType.int))
theorem clM_hold : gCalV mM_hold 2 := ⟨⟨tw1468, ti_FairTurnsModel, nq_FairTurnsModel.1, nq_FairTurnsModel.2⟩, tw1466, tw1467, pd_5, Nat.le_of_ble_eq_true rfl⟩
abbrev mM_open : Me := (yX10_open, cX10_open, 3, some (Jvm.ClassFile.FieldType.int))
theorem clM_open : gCalV mM_open 1 := ⟨⟨tw1472, ti_FairTurnsModel, nq_FairTurnsModel.1, nq_FairTurnsModel.2⟩, tw1470, tw1471, pd_3, Nat.le_of_ble_eq_true rfl⟩
abbrev mM_comesBy : Me := (yX10_comesBy, cX10_comesBy, 3, none)
theorem clM_comesBy : gCalV mM_comesBy 2 := ⟨⟨tw1492, ti_FairTurnsModel, nq_FairTurnsModel.1, nq_FairTurnsModel.2⟩, tw1491, tw56, pd_11, Nat.le_of_ble_eq_true rfl⟩
abbrev mM_goesFromDuty : Me := (yX10_goesFromDuty, cX10_goesFromDuty, 3, none)
theorem clM_goesFromDuty : gCalV mM_goesFromDuty 1 := ⟨⟨tw1488, ti_FairTurnsModel, nq_FairTurnsModel.1, nq_FairTurnsModel.2⟩, tw1487, tw55, pd_4, Nat.le_of_ble_eq_true rfl⟩
abbrev mM_begins : Me := (yX10_begins, cX10_begins, 2, none)
theorem clM_begins : gCalV mM_begins 0 := ⟨⟨tw1484, ti_FairTurnsModel, nq_FairTurnsModel.1, nq_FairTurnsModel.2⟩, tw1483, tw54, pd_0, Nat.le_of_ble_eq_true rfl⟩
abbrev mM_goesOn : Me := (yX10_goesOn, cX10_goesOn, 4, none)
theorem clM_goesOn : gCalV mM_goesOn 1 := ⟨⟨tw1496, ti_FairTurnsModel, nq_FairTurnsModel.1, nq_FairTurnsModel.2⟩, tw1495, tw57, pd_4, Nat.le_of_ble_eq_true rfl⟩
abbrev mM_leastCome : Me := (yX10_leastCome, cX10_leastCome, 4, some (Jvm.ClassFile.FieldType.int))
theorem clM_leastCome : gCalV mM_leastCome 1 := ⟨⟨tw1500, ti_FairTurnsModel, nq_FairTurnsModel.1, nq_FairTurnsModel.2⟩, tw1499, tw58, pd_3, Nat.le_of_ble_eq_true rfl⟩
abbrev mM_shifts : Me := (yX10_shifts, cX10_shifts, 5, none)
theorem clM_shifts : gCalV mM_shifts 1 := ⟨⟨tw1504, ti_FairTurnsModel, nq_FairTurnsModel.1, nq_FairTurnsModel.2⟩, tw1503, tw59, pd_4, Nat.le_of_ble_eq_true rfl⟩
abbrev mM_filled : Me := (yX10_filled, cX10_filled, 6, some (Jvm.ClassFile.FieldType.int))
theorem clM_filled : gCalV mM_filled 1 := ⟨⟨tw1480, ti_FairTurnsModel, nq_FairTurnsModel.1, nq_FairTurnsModel.2⟩, tw1479, tw53, pd_3, Nat.le_of_ble_eq_true rfl⟩
abbrev mM_fill : Me := (yX10_fill, cX10_fill, 4, some (Jvm.ClassFile.FieldType.int))
theorem clM_fill : gCalV mM_fill 1 := ⟨⟨tw1476, ti_FairTurnsModel, nq_FairTurnsModel.1, nq_FairTurnsModel.2⟩, tw1474, tw1475, pd_3, Nat.le_of_ble_eq_true rfl⟩
abbrev mM_vectors : Me := (yX10_vectors, cX10_vectors, 5, none)
theorem clM_vectors : gCalV mM_vectors 1 := ⟨⟨tw1512, ti_FairTurnsModel, nq_FairTurnsModel.1, nq_FairTurnsModel.2⟩, tw1511, tw60, pd_4, Nat.le_of_ble_eq_true rfl⟩
abbrev mM_load_ : Me := (yX10_load_, cX10_load_, 3, some (Jvm.ClassFile.FieldType.int))
theorem clM_load_ : gCalV mM_load_ 2 := ⟨⟨tw1508, ti_FairTurnsModel, nq_FairTurnsModel.1, nq_FairTurnsModel.2⟩, tw1506, tw1507, pd_5, Nat.le_of_ble_eq_true rfl⟩
abbrev mM_isLesser : Me := (yX10_isLesser, cX10_isLesser, 4, some (Jvm.ClassFile.FieldType.boolean))
theorem clM_isLesser : gCalV mM_isLesser 1 := ⟨⟨tw1521, ti_FairTurnsModel, nq_FairTurnsModel.1, nq_FairTurnsModel.2⟩, tw1520, tw61, pd_1, Nat.le_of_ble_eq_true rfl⟩
abbrev mM_lesser : Me := (yX10_lesser, cX10_lesser, 4, some (Jvm.ClassFile.FieldType.int))
theorem clM_lesser : gCalV mM_lesser 2 := ⟨⟨tw1516, ti_FairTurnsModel, nq_FairTurnsModel.1, nq_FairTurnsModel.2⟩, tw1514, tw1515, pd_5, Nat.le_of_ble_eq_true rfl⟩
abbrev mM_eases : Me := (yX10_eases, cX10_eases, 3, some (Jvm.ClassFile.FieldType.int))
theorem clM_eases : gCalV mM_eases 1 := ⟨⟨tw1525, ti_FairTurnsModel, nq_FairTurnsModel.1, nq_FairTurnsModel.2⟩, tw1523, tw1524, pd_3, Nat.le_of_ble_eq_true rfl⟩
abbrev mM_disliked : Me := (yX10_disliked, cX10_disliked, 3, some (Jvm.ClassFile.FieldType.int))
theorem clM_disliked : gCalV mM_disliked 0 := ⟨⟨tw1529, ti_FairTurnsModel, nq_FairTurnsModel.1, nq_FairTurnsModel.2⟩, tw1527, tw1528, pd_2, Nat.le_of_ble_eq_true rfl⟩
abbrev mM_follows : Me := (yX10_follows, cX10_follows, 4, some (Jvm.ClassFile.FieldType.boolean))
theorem clM_follows : gCalV mM_follows 2 := ⟨⟨tw1558, ti_FairTurnsModel, nq_FairTurnsModel.1, nq_FairTurnsModel.2⟩, tw1557, tw67, pd_9, Nat.le_of_ble_eq_true rfl⟩
abbrev mM_gainOf : Me := (yX10_gainOf, cX10_gainOf, 5, some (Jvm.ClassFile.FieldType.int))
theorem clM_gainOf : gCalV mM_gainOf 1 := ⟨⟨tw1554, ti_FairTurnsModel, nq_FairTurnsModel.1, nq_FairTurnsModel.2⟩, tw1553, tw66, pd_3, Nat.le_of_ble_eq_true rfl⟩
abbrev mM_looksAt : Me := (yX10_looksAt, cX10_looksAt, 3, none)
theorem clM_looksAt : gCalV mM_looksAt 1 := ⟨⟨tw1550, ti_FairTurnsModel, nq_FairTurnsModel.1, nq_FairTurnsModel.2⟩, tw1549, tw65, pd_4, Nat.le_of_ble_eq_true rfl⟩
abbrev mM_ringsOn : Me := (yX10_ringsOn, cX10_ringsOn, 4, none)
theorem clM_ringsOn : gCalV mM_ringsOn 2 := ⟨⟨tw1546, ti_FairTurnsModel, nq_FairTurnsModel.1, nq_FairTurnsModel.2⟩, tw1545, tw64, pd_11, Nat.le_of_ble_eq_true rfl⟩
abbrev mM_findsRing : Me := (yX10_findsRing, cX10_findsRing, 3, none)
theorem clM_findsRing : gCalV mM_findsRing 0 := ⟨⟨tw1542, ti_FairTurnsModel, nq_FairTurnsModel.1, nq_FairTurnsModel.2⟩, tw1541, tw63, pd_0, Nat.le_of_ble_eq_true rfl⟩
abbrev mM_ring : Me := (yX10_ring, cX10_ring, 2, some (Jvm.ClassFile.FieldType.int))
theorem clM_ring : gCalV mM_ring 1 := ⟨⟨tw1537, ti_FairTurnsModel, nq_FairTurnsModel.1, nq_FairTurnsModel.2⟩, tw1535, tw1536, pd_3, Nat.le_of_ble_eq_true rfl⟩
abbrev mM_doesRing : Me := (yX10_doesRing, cX10_doesRing, 3, none)
theorem clM_doesRing : gCalV mM_doesRing 0 := ⟨⟨tw1567, ti_FairTurnsModel, nq_FairTurnsModel.1, nq_FairTurnsModel.2⟩, tw1566, tw68, pd_0, Nat.le_of_ble_eq_true rfl⟩
abbrev mM_turn : Me := (yX10_turn, cX10_turn, 3, some (Jvm.ClassFile.FieldType.int))
theorem clM_turn : gCalV mM_turn 1 := ⟨⟨tw1562, ti_FairTurnsModel, nq_FairTurnsModel.1, nq_FairTurnsModel.2⟩, tw1560, tw1561, pd_3, Nat.le_of_ble_eq_true rfl⟩
abbrev mM_openMany : Me := (yX10_openMany, cX10_openMany, 3, some (Jvm.ClassFile.FieldType.int))
theorem clM_openMany : gCalV mM_openMany 0 := ⟨⟨tw1575, ti_FairTurnsModel, nq_FairTurnsModel.1, nq_FairTurnsModel.2⟩, tw1574, tw69, pd_2, Nat.le_of_ble_eq_true rfl⟩
abbrev mM_close : Me := (yX10_close, cX10_close, 3, some (Jvm.ClassFile.FieldType.int))
theorem clM_close : gCalV mM_close 0 := ⟨⟨tw1571, ti_FairTurnsModel, nq_FairTurnsModel.1, nq_FairTurnsModel.2⟩, tw1569, tw1570, pd_2, Nat.le_of_ble_eq_true rfl⟩
abbrev mM_audit : Me := (yX10_audit, cX10_audit, 7, some (Jvm.ClassFile.FieldType.int))
theorem clM_audit : gCalV mM_audit 2 := ⟨⟨tw1580, ti_FairTurnsModel, nq_FairTurnsModel.1, nq_FairTurnsModel.2⟩, tw1578, tw1579, pd_5, Nat.le_of_ble_eq_true rfl⟩
abbrev mM_isAhead : Me := (yX10_isAhead, cX10_isAhead, 4, some (Jvm.ClassFile.FieldType.boolean))
theorem clM_isAhead : gCalV mM_isAhead 3 := ⟨⟨tw1588, ti_FairTurnsModel, nq_FairTurnsModel.1, nq_FairTurnsModel.2⟩, tw1587, tw70, pd_10, Nat.le_of_ble_eq_true rfl⟩
abbrev mM_next : Me := (yX10_next, cX10_next, 6, some (Jvm.ClassFile.FieldType.int))
theorem clM_next : gCalV mM_next 2 := ⟨⟨tw1584, ti_FairTurnsModel, nq_FairTurnsModel.1, nq_FairTurnsModel.2⟩, tw1582, tw1583, pd_5, Nat.le_of_ble_eq_true rfl⟩
abbrev mM_near : Me := (yX10_near, cX10_near, 4, some (Jvm.ClassFile.FieldType.int))
theorem clM_near : gCalV mM_near 0 := ⟨⟨tw1592, ti_FairTurnsModel, nq_FairTurnsModel.1, nq_FairTurnsModel.2⟩, tw1590, tw1591, pd_2, Nat.le_of_ble_eq_true rfl⟩
abbrev mM_heaviest : Me := (yX10_heaviest, cX10_heaviest, 3, some (Jvm.ClassFile.FieldType.int))
theorem clM_heaviest : gCalV mM_heaviest 0 := ⟨⟨tw1597, ti_FairTurnsModel, nq_FairTurnsModel.1, nq_FairTurnsModel.2⟩, tw1595, tw1596, pd_2, Nat.le_of_ble_eq_true rfl⟩
abbrev mM_feed : Me := (yX10_feed, cX10_feed, 2, some (Jvm.ClassFile.FieldType.int))
theorem clM_feed : gCalV mM_feed 1 := ⟨⟨tw1601, ti_FairTurnsModel, nq_FairTurnsModel.1, nq_FairTurnsModel.2⟩, tw1599, tw1600, pd_3, Nat.le_of_ble_eq_true rfl⟩
abbrev mM_clear : Me := (yX10_clear, cX10_clear, 2, some (Jvm.ClassFile.FieldType.int))
theorem clM_clear : gCalV mM_clear 0 := ⟨⟨tw1606, ti_FairTurnsModel, nq_FairTurnsModel.1, nq_FairTurnsModel.2⟩, tw1604, tw1605, pd_2, Nat.le_of_ble_eq_true rfl⟩
abbrev mM_here : Me := (yX10_here, cX10_here, 1, some (Jvm.ClassFile.FieldType.int))
theorem clM_here : gCalV mM_here 0 := ⟨⟨tw1630, ti_FairTurnsModel, nq_FairTurnsModel.1, nq_FairTurnsModel.2⟩, tw1629, tw75, pd_2, Nat.le_of_ble_eq_true rfl⟩
abbrev mM_faults : Me := (yX10_faults, cX10_faults, 2, none)
theorem clM_faults : gCalV mM_faults 1 := ⟨⟨tw1622, ti_FairTurnsModel, nq_FairTurnsModel.1, nq_FairTurnsModel.2⟩, tw1621, tw73, pd_4, Nat.le_of_ble_eq_true rfl⟩
abbrev mM_opensTape : Me := (yX10_opensTape, cX10_opensTape, 1, none)
theorem clM_opensTape : gCalV mM_opensTape 0 := ⟨⟨tw1614, ti_FairTurnsModel, nq_FairTurnsModel.1, nq_FairTurnsModel.2⟩, tw1613, tw71, pd_0, Nat.le_of_ble_eq_true rfl⟩
abbrev mM_takes : Me := (yX10_takes, cX10_takes, 2, some (Jvm.ClassFile.FieldType.boolean))
theorem clM_takes : gCalV mM_takes 1 := ⟨⟨tw1626, ti_FairTurnsModel, nq_FairTurnsModel.1, nq_FairTurnsModel.2⟩, tw1625, tw74, pd_1, Nat.le_of_ble_eq_true rfl⟩
abbrev mM_must : Me := (yX10_must, cX10_must, 2, none)
theorem clM_must : gCalV mM_must 1 := ⟨⟨tw1640, ti_FairTurnsModel, nq_FairTurnsModel.1, nq_FairTurnsModel.2⟩, tw1639, tw77, pd_4, Nat.le_of_ble_eq_true rfl⟩
abbrev mM_number : Me := (yX10_number, cX10_number, 4, some (Jvm.ClassFile.FieldType.int))
theorem clM_number : gCalV mM_number 2 := ⟨⟨tw1634, ti_FairTurnsModel, nq_FairTurnsModel.1, nq_FairTurnsModel.2⟩, tw1633, tw76, pd_5, Nat.le_of_ble_eq_true rfl⟩
abbrev mM_kindLetter : Me := (yX10_kindLetter, cX10_kindLetter, 2, some (Jvm.ClassFile.FieldType.int))
theorem clM_kindLetter : gCalV mM_kindLetter 0 := ⟨⟨tw1644, ti_FairTurnsModel, nq_FairTurnsModel.1, nq_FairTurnsModel.2⟩, tw1643, tw78, pd_2, Nat.le_of_ble_eq_true rfl⟩
abbrev mM_closes : Me := (yX10_closes, cX10_closes, 2, some (Jvm.ClassFile.FieldType.int))
theorem clM_closes : gCalV mM_closes 1 := ⟨⟨tw1648, ti_FairTurnsModel, nq_FairTurnsModel.1, nq_FairTurnsModel.2⟩, tw1647, tw79, pd_3, Nat.le_of_ble_eq_true rfl⟩
abbrev mM_readsRule : Me := (yX10_readsRule, cX10_readsRule, 3, none)
theorem clM_readsRule : gCalV mM_readsRule 1 := ⟨⟨tw1618, ti_FairTurnsModel, nq_FairTurnsModel.1, nq_FairTurnsModel.2⟩, tw1617, tw72, pd_4, Nat.le_of_ble_eq_true rfl⟩
abbrev mM_rules : Me := (yX10_rules, cX10_rules, 4, some (Jvm.ClassFile.FieldType.int))
theorem clM_rules : gCalV mM_rules 1 := ⟨⟨tw1610, ti_FairTurnsModel, nq_FairTurnsModel.1, nq_FairTurnsModel.2⟩, tw1608, tw1609, pd_3, Nat.le_of_ble_eq_true rfl⟩
abbrev mM_calendar : Me := (yX10_calendar, cX10_calendar, 3, some (Jvm.ClassFile.FieldType.int))
theorem clM_calendar : gCalV mM_calendar 0 := ⟨⟨tw1652, ti_FairTurnsModel, nq_FairTurnsModel.1, nq_FairTurnsModel.2⟩, tw1650, tw1651, pd_2, Nat.le_of_ble_eq_true rfl⟩
abbrev mM_wordEnd : Me := (yX10_wordEnd, cX10_wordEnd, 2, some (Jvm.ClassFile.FieldType.int))
theorem clM_wordEnd : gCalV mM_wordEnd 0 := ⟨⟨tw1680, ti_FairTurnsModel, nq_FairTurnsModel.1, nq_FairTurnsModel.2⟩, tw1679, tw85, pd_2, Nat.le_of_ble_eq_true rfl⟩
abbrev mM_isWord : Me := (yX10_isWord, cX10_isWord, 7, some (Jvm.ClassFile.FieldType.boolean))
theorem pd_28 : (parseMethodDescriptor "(IIIII)Z").map (fun q => q.parameters.length) = some 5 := by decide +kernel
theorem clM_isWord : gCalV mM_isWord 5 := ⟨⟨tw1690, ti_FairTurnsModel, nq_FairTurnsModel.1, nq_FairTurnsModel.2⟩, tw1689, tw87, pd_28, Nat.le_of_ble_eq_true rfl⟩
abbrev mM_isDislike : Me := (yX10_isDislike, cX10_isDislike, 2, some (Jvm.ClassFile.FieldType.boolean))
theorem clM_isDislike : gCalV mM_isDislike 1 := ⟨⟨tw1694, ti_FairTurnsModel, nq_FairTurnsModel.1, nq_FairTurnsModel.2⟩, tw1693, tw88, pd_1, Nat.le_of_ble_eq_true rfl⟩
abbrev mM_worthOf : Me := (yX10_worthOf, cX10_worthOf, 3, some (Jvm.ClassFile.FieldType.int))
theorem clM_worthOf : gCalV mM_worthOf 1 := ⟨⟨tw1686, ti_FairTurnsModel, nq_FairTurnsModel.1, nq_FairTurnsModel.2⟩, tw1685, tw86, pd_3, Nat.le_of_ble_eq_true rfl⟩
abbrev mM_compared : Me := (yX10_compared, cX10_compared, 5, some (Jvm.ClassFile.FieldType.boolean))
theorem clM_compared : gCalV mM_compared 0 := ⟨⟨tw1676, ti_FairTurnsModel, nq_FairTurnsModel.1, nq_FairTurnsModel.2⟩, tw1675, tw84, pd_16, Nat.le_of_ble_eq_true rfl⟩
abbrev mM_factor : Me := (yX10_factor, cX10_factor, 2, some (Jvm.ClassFile.FieldType.boolean))
theorem clM_factor : gCalV mM_factor 0 := ⟨⟨tw1672, ti_FairTurnsModel, nq_FairTurnsModel.1, nq_FairTurnsModel.2⟩, tw1671, tw83, pd_16, Nat.le_of_ble_eq_true rfl⟩
abbrev mM_both : Me := (yX10_both, cX10_both, 3, some (Jvm.ClassFile.FieldType.boolean))
theorem clM_both : gCalV mM_both 0 := ⟨⟨tw1668, ti_FairTurnsModel, nq_FairTurnsModel.1, nq_FairTurnsModel.2⟩, tw1667, tw82, pd_16, Nat.le_of_ble_eq_true rfl⟩
abbrev mM_either : Me := (yX10_either, cX10_either, 3, some (Jvm.ClassFile.FieldType.boolean))
theorem clM_either : gCalV mM_either 0 := ⟨⟨tw1664, ti_FairTurnsModel, nq_FairTurnsModel.1, nq_FairTurnsModel.2⟩, tw1663, tw81, pd_16, Nat.le_of_ble_eq_true rfl⟩
abbrev mM_picked : Me := (yX10_picked, cX10_picked, 5, some (Jvm.ClassFile.FieldType.int))
theorem clM_picked : gCalV mM_picked 0 := ⟨⟨tw1660, ti_FairTurnsModel, nq_FairTurnsModel.1, nq_FairTurnsModel.2⟩, tw1659, tw80, pd_2, Nat.le_of_ble_eq_true rfl⟩
abbrev mM_pick : Me := (yX10_pick, cX10_pick, 1, some (Jvm.ClassFile.FieldType.int))
theorem clM_pick : gCalV mM_pick 0 := ⟨⟨tw1656, ti_FairTurnsModel, nq_FairTurnsModel.1, nq_FairTurnsModel.2⟩, tw1654, tw1655, pd_2, Nat.le_of_ble_eq_true rfl⟩
abbrev mM_openAll : Me := (yX10_openAll, cX10_openAll, 4, some (Jvm.ClassFile.FieldType.int))
theorem clM_openAll : gCalV mM_openAll 0 := ⟨⟨tw1698, ti_FairTurnsModel, nq_FairTurnsModel.1, nq_FairTurnsModel.2⟩, tw1696, tw1697, pd_2, Nat.le_of_ble_eq_true rfl⟩
abbrev mM_readsRoster : Me := (yX10_readsRoster, cX10_readsRoster, 3, none)
theorem clM_readsRoster : gCalV mM_readsRoster 0 := ⟨⟨tw1706, ti_FairTurnsModel, nq_FairTurnsModel.1, nq_FairTurnsModel.2⟩, tw1705, tw89, pd_0, Nat.le_of_ble_eq_true rfl⟩
abbrev mM_firstBarred : Me := (yX10_firstBarred, cX10_firstBarred, 3, some (Jvm.ClassFile.FieldType.int))
theorem clM_firstBarred : gCalV mM_firstBarred 0 := ⟨⟨tw1718, ti_FairTurnsModel, nq_FairTurnsModel.1, nq_FairTurnsModel.2⟩, tw1717, tw92, pd_2, Nat.le_of_ble_eq_true rfl⟩
abbrev mM_becomes : Me := (yX10_becomes, cX10_becomes, 3, none)
theorem pd_29 : (parseMethodDescriptor "([I)V").map (fun q => q.parameters.length) = some 1 := by decide +kernel
theorem clM_becomes : gCalV mM_becomes 1 := ⟨⟨tw1726, ti_FairTurnsModel, nq_FairTurnsModel.1, nq_FairTurnsModel.2⟩, tw1725, tw94, pd_29, Nat.le_of_ble_eq_true rfl⟩
abbrev mM_openIn : Me := (yX10_openIn, cX10_openIn, 4, some (Jvm.ClassFile.FieldType.int))
theorem clM_openIn : gCalV mM_openIn 1 := ⟨⟨tw1730, ti_FairTurnsModel, nq_FairTurnsModel.1, nq_FairTurnsModel.2⟩, tw1729, tw95, pd_3, Nat.le_of_ble_eq_true rfl⟩
abbrev mM_compares : Me := (yX10_compares, cX10_compares, 3, some (Jvm.ClassFile.FieldType.int))
theorem clM_compares : gCalV mM_compares 1 := ⟨⟨tw1722, ti_FairTurnsModel, nq_FairTurnsModel.1, nq_FairTurnsModel.2⟩, tw1721, tw93, pd_3, Nat.le_of_ble_eq_true rfl⟩
abbrev mM_judged : Me := (yX10_judged, cX10_judged, 5, some (Jvm.ClassFile.FieldType.int))
theorem clM_judged : gCalV mM_judged 0 := ⟨⟨tw1714, ti_FairTurnsModel, nq_FairTurnsModel.1, nq_FairTurnsModel.2⟩, tw1713, tw91, pd_2, Nat.le_of_ble_eq_true rfl⟩
abbrev mM_remembers : Me := (yX10_remembers, cX10_remembers, 2, none)
theorem clM_remembers : gCalV mM_remembers 0 := ⟨⟨tw1710, ti_FairTurnsModel, nq_FairTurnsModel.1, nq_FairTurnsModel.2⟩, tw1709, tw90, pd_0, Nat.le_of_ble_eq_true rfl⟩
abbrev mM_judge : Me := (yX10_judge, cX10_judge, 2, some (Jvm.ClassFile.FieldType.int))
theorem clM_judge : gCalV mM_judge 0 := ⟨⟨tw1702, ti_FairTurnsModel, nq_FairTurnsModel.1, nq_FairTurnsModel.2⟩, tw1700, tw1701, pd_2, Nat.le_of_ble_eq_true rfl⟩
abbrev mM_roster : Me := (yX10_roster, cX10_roster, 2, some (Jvm.ClassFile.FieldType.int))
theorem clM_roster : gCalV mM_roster 0 := ⟨⟨tw1734, ti_FairTurnsModel, nq_FairTurnsModel.1, nq_FairTurnsModel.2⟩, tw1732, tw1733, pd_2, Nat.le_of_ble_eq_true rfl⟩
abbrev mM_writes : Me := (yX10_writes, cX10_writes, 2, none)
theorem clM_writes : gCalV mM_writes 1 := ⟨⟨tw1742, ti_FairTurnsModel, nq_FairTurnsModel.1, nq_FairTurnsModel.2⟩, tw1741, tw96, pd_4, Nat.le_of_ble_eq_true rfl⟩
abbrev mM_writesDay : Me := (yX10_writesDay, cX10_writesDay, 2, none)
theorem clM_writesDay : gCalV mM_writesDay 1 := ⟨⟨tw1746, ti_FairTurnsModel, nq_FairTurnsModel.1, nq_FairTurnsModel.2⟩, tw1745, tw97, pd_4, Nat.le_of_ble_eq_true rfl⟩
abbrev mM_spell : Me := (yX10_spell, cX10_spell, 3, some (Jvm.ClassFile.FieldType.int))
theorem clM_spell : gCalV mM_spell 0 := ⟨⟨tw1738, ti_FairTurnsModel, nq_FairTurnsModel.1, nq_FairTurnsModel.2⟩, tw1736, tw1737, pd_2, Nat.le_of_ble_eq_true rfl⟩
abbrev mM_paper : Me := (yX10_paper, cX10_paper, 2, some (Jvm.ClassFile.FieldType.int))
theorem clM_paper : gCalV mM_paper 1 := ⟨⟨tw1750, ti_FairTurnsModel, nq_FairTurnsModel.1, nq_FairTurnsModel.2⟩, tw1748, tw1749, pd_3, Nat.le_of_ble_eq_true rfl⟩
abbrev mM_daysUnlike : Me := (yX10_daysUnlike, cX10_daysUnlike, 3, some (Jvm.ClassFile.FieldType.int))
theorem clM_daysUnlike : gCalV mM_daysUnlike 0 := ⟨⟨tw1758, ti_FairTurnsModel, nq_FairTurnsModel.1, nq_FairTurnsModel.2⟩, tw1757, tw98, pd_2, Nat.le_of_ble_eq_true rfl⟩
abbrev mM_dayAt : Me := (yX10_dayAt, cX10_dayAt, 2, some (Jvm.ClassFile.FieldType.int))
theorem clM_dayAt : gCalV mM_dayAt 1 := ⟨⟨tw1762, ti_FairTurnsModel, nq_FairTurnsModel.1, nq_FairTurnsModel.2⟩, tw1761, tw99, pd_3, Nat.le_of_ble_eq_true rfl⟩
abbrev mM_ofKind : Me := (yX10_ofKind, cX10_ofKind, 4, some (Jvm.ClassFile.FieldType.int))
theorem clM_ofKind : gCalV mM_ofKind 1 := ⟨⟨tw1767, ti_FairTurnsModel, nq_FairTurnsModel.1, nq_FairTurnsModel.2⟩, tw1766, tw100, pd_3, Nat.le_of_ble_eq_true rfl⟩
abbrev mM_told : Me := (yX10_told, cX10_told, 2, some (Jvm.ClassFile.FieldType.int))
theorem clM_told : gCalV mM_told 1 := ⟨⟨tw1754, ti_FairTurnsModel, nq_FairTurnsModel.1, nq_FairTurnsModel.2⟩, tw1752, tw1753, pd_3, Nat.le_of_ble_eq_true rfl⟩
abbrev mM_isList : Me := (yX10_isList, cX10_isList, 1, some (Jvm.ClassFile.FieldType.boolean))
theorem clM_isList : gCalS mM_isList 1 := ⟨⟨tw1776, ti_FairTurnsModel, nq_FairTurnsModel.1, nq_FairTurnsModel.2⟩, tw1775, pd_1, Nat.le_of_ble_eq_true rfl⟩
abbrev mM_list : Me := (yX10_list, cX10_list, 4, some (Jvm.ClassFile.FieldType.int))
theorem clM_list : gCalV mM_list 2 := ⟨⟨tw1773, ti_FairTurnsModel, nq_FairTurnsModel.1, nq_FairTurnsModel.2⟩, tw1771, tw1772, pd_5, Nat.le_of_ble_eq_true rfl⟩
abbrev mM_set : Me := (yX10_set, cX10_set, 4, some (Jvm.ClassFile.FieldType.int))
theorem clM_set : gCalV mM_set 3 := ⟨⟨tw1780, ti_FairTurnsModel, nq_FairTurnsModel.1, nq_FairTurnsModel.2⟩, tw1778, tw1779, pd_24, Nat.le_of_ble_eq_true rfl⟩
abbrev mM_get : Me := (yX10_get, cX10_get, 3, some (Jvm.ClassFile.FieldType.long))
theorem clM_get : gCalV mM_get 2 := ⟨⟨tw1784, ti_FairTurnsModel, nq_FairTurnsModel.1, nq_FairTurnsModel.2⟩, tw1782, tw1783, pd_21, Nat.le_of_ble_eq_true rfl⟩
abbrev mM_lay : Me := (yX10_lay, cX10_lay, 4, some (Jvm.ClassFile.FieldType.int))
theorem clM_lay : gCalV mM_lay 2 := ⟨⟨tw1789, ti_FairTurnsModel, nq_FairTurnsModel.1, nq_FairTurnsModel.2⟩, tw1787, tw1788, pd_5, Nat.le_of_ble_eq_true rfl⟩
abbrev mM_copies : Me := (yX10_copies, cX10_copies, 3, none)
theorem clM_copies : gCalS mM_copies 2 := ⟨⟨tw1796, ti_FairTurnsModel, nq_FairTurnsModel.1, nq_FairTurnsModel.2⟩, tw1795, pd_14, Nat.le_of_ble_eq_true rfl⟩
abbrev mM_image : Me := (yX10_image, cX10_image, 1, some (Jvm.ClassFile.FieldType.int))
theorem clM_image : gCalV mM_image 0 := ⟨⟨tw1793, ti_FairTurnsModel, nq_FairTurnsModel.1, nq_FairTurnsModel.2⟩, tw1791, tw1792, pd_2, Nat.le_of_ble_eq_true rfl⟩
abbrev mM_undo : Me := (yX10_undo, cX10_undo, 1, some (Jvm.ClassFile.FieldType.int))
theorem clM_undo : gCalV mM_undo 0 := ⟨⟨tw1800, ti_FairTurnsModel, nq_FairTurnsModel.1, nq_FairTurnsModel.2⟩, tw1798, tw1799, pd_2, Nat.le_of_ble_eq_true rfl⟩
abbrev mJ9_abs_0f7a4 : Me := (yJ9_abs_0f7a4, cJ9_abs_0f7a4, 1, some (Jvm.ClassFile.FieldType.int))
theorem nq_java_lang_Math : "java/lang/Math" ≠ "java/lang/invoke/MethodHandle" ∧ "java/lang/Math" ≠ "java/lang/invoke/VarHandle" := ⟨by decide +kernel, by decide +kernel⟩
theorem clJ9_abs_0f7a4 : gCalS mJ9_abs_0f7a4 1 := ⟨⟨tw923, ti_java_lang_Math, nq_java_lang_Math.1, nq_java_lang_Math.2⟩, tw922, pd_3, Nat.le_of_ble_eq_true rfl⟩
abbrev mJ9_max_7cf53 : Me := (yJ9_max_7cf53, cJ9_max_7cf53, 2, some (Jvm.ClassFile.FieldType.int))
theorem clJ9_max_7cf53 : gCalS mJ9_max_7cf53 2 := ⟨⟨tw816, ti_java_lang_Math, nq_java_lang_Math.1, nq_java_lang_Math.2⟩, tw815, pd_5, Nat.le_of_ble_eq_true rfl⟩
abbrev mJ9_min_7cf53 : Me := (yJ9_min_7cf53, cJ9_min_7cf53, 2, some (Jvm.ClassFile.FieldType.int))
theorem clJ9_min_7cf53 : gCalS mJ9_min_7cf53 2 := ⟨⟨tw877, ti_java_lang_Math, nq_java_lang_Math.1, nq_java_lang_Math.2⟩, tw876, pd_5, Nat.le_of_ble_eq_true rfl⟩
abbrev mJ0_length_8abf5 : Me := (yJ0_length_8abf5, cJ0_length_8abf5, 1, some (Jvm.ClassFile.FieldType.int))
theorem nq_java_lang_String : "java/lang/String" ≠ "java/lang/invoke/MethodHandle" ∧ "java/lang/String" ≠ "java/lang/invoke/VarHandle" := ⟨by decide +kernel, by decide +kernel⟩
theorem clJ0_length_8abf5 : gCalV mJ0_length_8abf5 0 := ⟨⟨tw996, ti_java_lang_String, nq_java_lang_String.1, nq_java_lang_String.2⟩, tw994, tw995, pd_2, Nat.le_of_ble_eq_true rfl⟩
abbrev mJ0_charAt_5068e : Me := (yJ0_charAt_5068e, cJ0_charAt_5068e, 2, some (Jvm.ClassFile.FieldType.char))
theorem pd_30 : (parseMethodDescriptor "(I)C").map (fun q => q.parameters.length) = some 1 := by decide +kernel
theorem clJ0_charAt_5068e : gCalV mJ0_charAt_5068e 1 := ⟨⟨tw1006, ti_java_lang_String, nq_java_lang_String.1, nq_java_lang_String.2⟩, tw1004, tw1005, pd_30, Nat.le_of_ble_eq_true rfl⟩
abbrev mJ0_coder_7d493 : Me := (yJ0_coder_7d493, cJ0_coder_7d493, 1, some (Jvm.ClassFile.FieldType.byte))
theorem pd_31 : (parseMethodDescriptor "()B").map (fun q => q.parameters.length) = some 0 := by decide +kernel
theorem clJ0_coder_7d493 : gCalV mJ0_coder_7d493 0 := ⟨⟨tw1000, ti_java_lang_String, nq_java_lang_String.1, nq_java_lang_String.2⟩, tw998, tw999, pd_31, Nat.le_of_ble_eq_true rfl⟩
abbrev mJ0_isLatin1_aae02 : Me := (yJ0_isLatin1_aae02, cJ0_isLatin1_aae02, 1, some (Jvm.ClassFile.FieldType.boolean))
theorem clJ0_isLatin1_aae02 : gCalV mJ0_isLatin1_aae02 0 := ⟨⟨tw1010, ti_java_lang_String, nq_java_lang_String.1, nq_java_lang_String.2⟩, tw1008, tw1009, pd_16, Nat.le_of_ble_eq_true rfl⟩
abbrev mJ0_checkIndex_df160 : Me := (yJ0_checkIndex_df160, cJ0_checkIndex_df160, 2, none)
theorem clJ0_checkIndex_df160 : gCalS mJ0_checkIndex_df160 2 := ⟨⟨tw1016, ti_java_lang_String, nq_java_lang_String.1, nq_java_lang_String.2⟩, tw1015, pd_11, Nat.le_of_ble_eq_true rfl⟩
abbrev mJ1_charAt_3b067 : Me := (yJ1_charAt_3b067, cJ1_charAt_3b067, 2, some (Jvm.ClassFile.FieldType.char))
theorem nq_java_lang_StringLatin1 : "java/lang/StringLatin1" ≠ "java/lang/invoke/MethodHandle" ∧ "java/lang/StringLatin1" ≠ "java/lang/invoke/VarHandle" := ⟨by decide +kernel, by decide +kernel⟩
theorem pd_32 : (parseMethodDescriptor "([BI)C").map (fun q => q.parameters.length) = some 2 := by decide +kernel
theorem clJ1_charAt_3b067 : gCalS mJ1_charAt_3b067 2 := ⟨⟨tw1013, ti_java_lang_StringLatin1, nq_java_lang_StringLatin1.1, nq_java_lang_StringLatin1.2⟩, tw1012, pd_32, Nat.le_of_ble_eq_true rfl⟩
abbrev mJ2_getChar_3b067 : Me := (yJ2_getChar_3b067, cJ2_getChar_3b067, 2, some (Jvm.ClassFile.FieldType.char))
theorem nq_java_lang_StringUTF16 : "java/lang/StringUTF16" ≠ "java/lang/invoke/MethodHandle" ∧ "java/lang/StringUTF16" ≠ "java/lang/invoke/VarHandle" := ⟨by decide +kernel, by decide +kernel⟩
theorem clJ2_getChar_3b067 : gCalS mJ2_getChar_3b067 2 := ⟨⟨tw1034, ti_java_lang_StringUTF16, nq_java_lang_StringUTF16.1, nq_java_lang_StringUTF16.2⟩, tw1033, pd_32, Nat.le_of_ble_eq_true rfl⟩
abbrev mJ2_length_9d52b : Me := (yJ2_length_9d52b, cJ2_length_9d52b, 1, some (Jvm.ClassFile.FieldType.int))
theorem pd_33 : (parseMethodDescriptor "([B)I").map (fun q => q.parameters.length) = some 1 := by decide +kernel
theorem clJ2_length_9d52b : gCalS mJ2_length_9d52b 1 := ⟨⟨tw1030, ti_java_lang_StringUTF16, nq_java_lang_StringUTF16.1, nq_java_lang_StringUTF16.2⟩, tw1029, pd_33, Nat.le_of_ble_eq_true rfl⟩
abbrev mJ2_charAt_3b067 : Me := (yJ2_charAt_3b067, cJ2_charAt_3b067, 2, some (Jvm.ClassFile.FieldType.char))
theorem clJ2_charAt_3b067 : gCalS mJ2_charAt_3b067 2 := ⟨⟨tw1024, ti_java_lang_StringUTF16, nq_java_lang_StringUTF16.1, nq_java_lang_StringUTF16.2⟩, tw1023, pd_32, Nat.le_of_ble_eq_true rfl⟩
abbrev mJ2_checkIndex_2214a : Me := (yJ2_checkIndex_2214a, cJ2_checkIndex_2214a, 2, none)
theorem pd_34 : (parseMethodDescriptor "(I[B)V").map (fun q => q.parameters.length) = some 2 := by decide +kernel
theorem clJ2_checkIndex_2214a : gCalS mJ2_checkIndex_2214a 2 := ⟨⟨tw1027, ti_java_lang_StringUTF16, nq_java_lang_StringUTF16.1, nq_java_lang_StringUTF16.2⟩, tw1026, pd_34, Nat.le_of_ble_eq_true rfl⟩
abbrev mJ3_checkIndex_8e157 : Me := (yJ3_checkIndex_8e157, cJ3_checkIndex_8e157, 3, some (Jvm.ClassFile.FieldType.int))
theorem nq_jdk_internal_util_Preconditions : "jdk/internal/util/Preconditions" ≠ "java/lang/invoke/MethodHandle" ∧ "jdk/internal/util/Preconditions" ≠ "java/lang/invoke/VarHandle" := ⟨by decide +kernel, by decide +kernel⟩
theorem pd_35 : (parseMethodDescriptor "(IILjava/util/function/BiFunction;)I").map (fun q => q.parameters.length) = some 3 := by decide +kernel
theorem clJ3_checkIndex_8e157 : gCalS mJ3_checkIndex_8e157 3 := ⟨⟨tw1021, ti_jdk_internal_util_Preconditions, nq_jdk_internal_util_Preconditions.1, nq_jdk_internal_util_Preconditions.2⟩, tw1020, pd_35, Nat.le_of_ble_eq_true rfl⟩
theorem ml_F_12 : Cond.methodLink "FairTurns" 12 yX7_init ∈ TB := tw195
theorem ml_F_28 : Cond.methodLink "FairTurns" 28 yX2_init ∈ TB := tw214
theorem ml_F_37 : Cond.methodLink "FairTurns" 37 yX4_init ∈ TB := tw233
theorem ml_F_44 : Cond.methodLink "FairTurns" 44 yX5_init ∈ TB := tw261
theorem ml_F_55 : Cond.methodLink "FairTurns" 55 yX8_init ∈ TB := tw298
theorem ml_F_64 : Cond.methodLink "FairTurns" 64 yX1_init ∈ TB := tw332
theorem ml_F_71 : Cond.methodLink "FairTurns" 71 yX3_init ∈ TB := tw348
theorem ml_F_78 : Cond.methodLink "FairTurns" 78 yX6_init ∈ TB := tw361
theorem ml_F_87 : Cond.methodLink "FairTurns" 87 yX0_addOne ∈ TB := tw410
theorem ml_F_91 : Cond.methodLink "FairTurns" 91 yX0_isOne ∈ TB := tw437
theorem ml_F_95 : Cond.methodLink "FairTurns" 95 yX0_isHere ∈ TB := tw438
theorem ml_F_98 : Cond.methodLink "FairTurns" 98 yX0_leave ∈ TB := tw439
theorem ml_F_102 : Cond.methodLink "FairTurns" 102 yX0_countHere ∈ TB := tw467
theorem ml_F_106 : Cond.methodLink "FairTurns" 106 yX9_isKind ∈ TB := tw475
theorem ml_F_109 : Cond.methodLink "FairTurns" 109 yX0_pastOf ∈ TB := tw476
theorem ml_F_113 : Cond.methodLink "FairTurns" 113 yX0_putPast ∈ TB := tw477
theorem ml_F_117 : Cond.methodLink "FairTurns" 117 yX9_isKindAfter ∈ TB := tw485
theorem ml_F_121 : Cond.methodLink "FairTurns" 121 yX0_headOf ∈ TB := tw488
theorem ml_F_124 : Cond.methodLink "FairTurns" 124 yX0_loadOf ∈ TB := tw492
theorem ml_F_127 : Cond.methodLink "FairTurns" 127 yX0_rankOf ∈ TB := tw505
theorem ml_F_130 : Cond.methodLink "FairTurns" 130 yX0_burdenOf ∈ TB := tw509
theorem ml_F_133 : Cond.methodLink "FairTurns" 133 yX0_countHeldBy ∈ TB := tw515
theorem ml_F_136 : Cond.methodLink "FairTurns" 136 yX0_countRulesOf ∈ TB := tw519
theorem ml_F_139 : Cond.methodLink "FairTurns" 139 yX0_neutralPast ∈ TB := tw527
theorem ml_F_142 : Cond.methodLink "FairTurns" 142 yX8_readRules ∈ TB := tw532
theorem ml_F_145 : Cond.methodLink "FairTurns" 145 yX7_isFaulty ∈ TB := tw589
theorem ml_F_149 : Cond.methodLink "FairTurns" 149 yX9_faultAnswer ∈ TB := tw590
theorem ml_F_152 : Cond.methodLink "FairTurns" 152 yX8_giveRules ∈ TB := tw602
theorem ml_F_155 : Cond.methodLink "FairTurns" 155 yX0_openWhatMayNotBeHeldBy ∈ TB := tw611
theorem ml_F_158 : Cond.methodLink "FairTurns" 158 yX7_wipe ∈ TB := tw598
theorem ml_F_161 : Cond.methodLink "FairTurns" 161 yX0_dropRules ∈ TB := tw616
theorem ml_F_167 : Cond.methodLink "FairTurns" 167 yX0_addDuty ∈ TB := tw624
theorem ml_F_170 : Cond.methodLink "FairTurns" 170 yX8_readCalendar ∈ TB := tw644
theorem ml_F_173 : Cond.methodLink "FairTurns" 173 yX8_addDuties ∈ TB := tw648
theorem ml_F_176 : Cond.methodLink "FairTurns" 176 yX0_isDuty ∈ TB := tw657
theorem ml_F_179 : Cond.methodLink "FairTurns" 179 yX0_dayOf ∈ TB := tw658
theorem ml_F_182 : Cond.methodLink "FairTurns" 182 yX0_kindOf ∈ TB := tw659
theorem ml_F_185 : Cond.methodLink "FairTurns" 185 yX0_holderOf ∈ TB := tw663
theorem ml_F_188 : Cond.methodLink "FairTurns" 188 yX9_orNobody ∈ TB := tw664
theorem ml_F_191 : Cond.methodLink "FairTurns" 191 yX0_placeOf ∈ TB := tw667
theorem ml_F_194 : Cond.methodLink "FairTurns" 194 yX0_countWhoMayHold ∈ TB := tw671
theorem ml_F_197 : Cond.methodLink "FairTurns" 197 yX0_dutyAt ∈ TB := tw679
theorem ml_F_200 : Cond.methodLink "FairTurns" 200 yX0_mayHold ∈ TB := tw684
theorem ml_F_203 : Cond.methodLink "FairTurns" 203 yX0_dislikeOf ∈ TB := tw689
theorem ml_F_206 : Cond.methodLink "FairTurns" 206 yX0_putDislike ∈ TB := tw693
theorem ml_F_209 : Cond.methodLink "FairTurns" 209 yX0_putHolder ∈ TB := tw701
theorem ml_F_213 : Cond.methodLink "FairTurns" 213 yX4_fillKind ∈ TB := tw710
theorem ml_F_216 : Cond.methodLink "FairTurns" 216 yX2_placeOfVector ∈ TB := tw750
theorem ml_F_219 : Cond.methodLink "FairTurns" 219 yX4_findLesser ∈ TB := tw767
theorem ml_F_222 : Cond.methodLink "FairTurns" 222 yX4_giver ∈ TB := tw772
theorem ml_F_225 : Cond.methodLink "FairTurns" 225 yX4_taker ∈ TB := tw776
theorem ml_F_228 : Cond.methodLink "FairTurns" 228 yX4_easeKind ∈ TB := tw784
theorem ml_F_231 : Cond.methodLink "FairTurns" 231 yX5_findBest ∈ TB := tw798
theorem ml_F_234 : Cond.methodLink "FairTurns" 234 yX5_gain ∈ TB := tw841
theorem ml_F_237 : Cond.methodLink "FairTurns" 237 yX5_size ∈ TB := tw845
theorem ml_F_240 : Cond.methodLink "FairTurns" 240 yX5_dutyAt ∈ TB := tw849
theorem ml_F_241 : Cond.methodLink "FairTurns" 241 yX5_handOn ∈ TB := tw857
theorem ml_F_244 : Cond.methodLink "FairTurns" 244 yX0_countOpen ∈ TB := tw866
theorem ml_F_247 : Cond.methodLink "FairTurns" 247 yX0_closeYear ∈ TB := tw871
theorem ml_F_253 : Cond.methodLink "FairTurns" 253 yX2_spread ∈ TB := tw883
theorem ml_F_256 : Cond.methodLink "FairTurns" 256 yX2_envy ∈ TB := tw887
theorem ml_F_259 : Cond.methodLink "FairTurns" 259 yX2_sum ∈ TB := tw891
theorem ml_F_262 : Cond.methodLink "FairTurns" 262 yX2_placeOfNext ∈ TB := tw899
theorem ml_F_265 : Cond.methodLink "FairTurns" 265 yX0_areClose ∈ TB := tw917
theorem ml_F_268 : Cond.methodLink "FairTurns" 268 yX7_add ∈ TB := tw932
theorem ml_F_271 : Cond.methodLink "FairTurns" 271 yX7_size ∈ TB := tw936
theorem ml_F_272 : Cond.methodLink "FairTurns" 272 yX1_pickDuties ∈ TB := tw948
theorem ml_F_275 : Cond.methodLink "FairTurns" 275 yX9_readsRoster ∈ TB := tw1059
theorem ml_F_278 : Cond.methodLink "FairTurns" 278 yX8_firstThatMayNotBe ∈ TB := tw1081
theorem ml_F_281 : Cond.methodLink "FairTurns" 281 yX8_planned ∈ TB := tw1086
theorem ml_F_285 : Cond.methodLink "FairTurns" 285 yX9_judgeLoads ∈ TB := tw1090
theorem ml_F_289 : Cond.methodLink "FairTurns" 289 yX8_holdAsPlanned ∈ TB := tw1106
theorem ml_F_292 : Cond.methodLink "FairTurns" 292 yX3_spellRoster ∈ TB := tw1115
theorem ml_F_296 : Cond.methodLink "FairTurns" 296 yX3_byteAt ∈ TB := tw1141
theorem ml_F_299 : Cond.methodLink "FairTurns" 299 yX0_countOfKind ∈ TB := tw1149
theorem ml_F_306 : Cond.methodLink "FairTurns" 306 yX0_countOpenBy ∈ TB := tw1094
theorem ml_F_310 : Cond.methodLink "FairTurns" 310 yX3_size ∈ TB := tw1154
theorem ml_F_311 : Cond.methodLink "FairTurns" 311 yX0_countDays ∈ TB := tw1158
theorem ml_F_314 : Cond.methodLink "FairTurns" 314 yX0_dayAt ∈ TB := tw1162
theorem ml_F_317 : Cond.methodLink "FairTurns" 317 yX6_isRow ∈ TB := tw1167
theorem ml_F_320 : Cond.methodLink "FairTurns" 320 yX6_begin ∈ TB := tw1171
theorem ml_F_323 : Cond.methodLink "FairTurns" 323 yX6_isHeld ∈ TB := tw1180
theorem ml_F_326 : Cond.methodLink "FairTurns" 326 yX6_put ∈ TB := tw1184
theorem ml_F_330 : Cond.methodLink "FairTurns" 330 yX6_at ∈ TB := tw1197
theorem ml_F_334 : Cond.methodLink "FairTurns" 334 yX0_copyFrom ∈ TB := tw1210
theorem ml_F_337 : Cond.methodLink "FairTurns" 337 yX7_fault ∈ TB := tw594
theorem ml_F_340 : Cond.methodLink "FairTurns" 340 yX8_readRoster ∈ TB := tw1063
theorem ml_F_343 : Cond.methodLink "FairTurns" 343 yX2_compareWithNow ∈ TB := tw1098
theorem ml_B_56 : Cond.methodLink "FairTurns$Book" 56 yX0_isHere ∈ TB := tw418
theorem ml_B_60 : Cond.methodLink "FairTurns$Book" 60 yX0_neutralPast ∈ TB := tw414
theorem ml_B_64 : Cond.methodLink "FairTurns$Book" 64 yX0_isOne ∈ TB := tw426
theorem ml_B_67 : Cond.methodLink "FairTurns$Book" 67 yX0_openWhatMayNotBeHeldBy ∈ TB := tw443
theorem ml_B_71 : Cond.methodLink "FairTurns$Book" 71 yX0_holderOf ∈ TB := tw447
theorem ml_B_74 : Cond.methodLink "FairTurns$Book" 74 yX0_mayHold ∈ TB := tw455
theorem ml_B_78 : Cond.methodLink "FairTurns$Book" 78 yX0_putHolder ∈ TB := tw463
theorem ml_B_82 : Cond.methodLink "FairTurns$Book" 82 yX0_pastOf ∈ TB := tw422
theorem ml_B_89 : Cond.methodLink "FairTurns$Book" 89 yX0_loadBy ∈ TB := tw496
theorem ml_B_93 : Cond.methodLink "FairTurns$Book" 93 yX0_headOf ∈ TB := tw500
theorem ml_B_96 : Cond.methodLink "FairTurns$Book" 96 yX0_countHeld ∈ TB := tw501
theorem ml_B_102 : Cond.methodLink "FairTurns$Book" 102 yX0_countRulesOf ∈ TB := tw610
theorem ml_B_105 : Cond.methodLink "FairTurns$Book" 105 yX0_isDuty ∈ TB := tw451
theorem ml_B_108 : Cond.methodLink "FairTurns$Book" 108 yX0_isAgainst ∈ TB := tw459
theorem ml_B_112 : Cond.methodLink "FairTurns$Book" 112 yX0_dayAt ∈ TB := tw628
theorem ml_B_115 : Cond.methodLink "FairTurns$Book" 115 yX0_dutyAt ∈ TB := tw632
theorem ml_B_118 : Cond.methodLink "FairTurns$Book" 118 yX0_dayOf ∈ TB := tw636
theorem ml_B_121 : Cond.methodLink "FairTurns$Book" 121 yX0_kindOf ∈ TB := tw1153
theorem ml_B_124 : Cond.methodLink "FairTurns$Book" 124 yX0_countHeldBy ∈ TB := tw870
theorem ml_B_127 : Cond.methodLink "FairTurns$Book" 127 yJ9_abs_0f7a4 ∈ TB := tw921
theorem ml_B_132 : Cond.methodLink "FairTurns$Book" 132 yJ9_min_7cf53 ∈ TB := tw875
theorem ml_B_135 : Cond.methodLink "FairTurns$Book" 135 yX0_putPast ∈ TB := tw878
theorem ml_B_142 : Cond.methodLink "FairTurns$Book" 142 yX0_copyRow ∈ TB := tw1214
theorem ml_C_29 : Cond.methodLink "FairTurns$Condition" 29 yX1_noteValues ∈ TB := tw952
theorem ml_C_33 : Cond.methodLink "FairTurns$Condition" 33 yX7_start ∈ TB := tw960
theorem ml_C_38 : Cond.methodLink "FairTurns$Condition" 38 yX1_readEither ∈ TB := tw961
theorem ml_C_42 : Cond.methodLink "FairTurns$Condition" 42 yX7_end ∈ TB := tw1048
theorem ml_C_45 : Cond.methodLink "FairTurns$Condition" 45 yX7_isFaulty ∈ TB := tw1049
theorem ml_C_49 : Cond.methodLink "FairTurns$Condition" 49 yX0_holderOf ∈ TB := tw956
theorem ml_C_53 : Cond.methodLink "FairTurns$Condition" 53 yX0_dayOf ∈ TB := tw957
theorem ml_C_56 : Cond.methodLink "FairTurns$Condition" 56 yX0_kindOf ∈ TB := tw958
theorem ml_C_59 : Cond.methodLink "FairTurns$Condition" 59 yX0_dislikeOf ∈ TB := tw959
theorem ml_C_63 : Cond.methodLink "FairTurns$Condition" 63 yX1_readBoth ∈ TB := tw965
theorem ml_C_66 : Cond.methodLink "FairTurns$Condition" 66 yX7_takesIf ∈ TB := tw973
theorem ml_C_69 : Cond.methodLink "FairTurns$Condition" 69 yX1_readOne ∈ TB := tw969
theorem ml_C_72 : Cond.methodLink "FairTurns$Condition" 72 yX7_take ∈ TB := tw974
theorem ml_C_75 : Cond.methodLink "FairTurns$Condition" 75 yX1_readComparison ∈ TB := tw975
theorem ml_C_78 : Cond.methodLink "FairTurns$Condition" 78 yX7_at ∈ TB := tw979
theorem ml_C_82 : Cond.methodLink "FairTurns$Condition" 82 yX7_passWord ∈ TB := tw980
theorem ml_C_85 : Cond.methodLink "FairTurns$Condition" 85 yX1_wordFrom ∈ TB := tw984
theorem ml_C_88 : Cond.methodLink "FairTurns$Condition" 88 yX7_fail ∈ TB := tw1046
theorem ml_C_91 : Cond.methodLink "FairTurns$Condition" 91 yX7_takeNumber ∈ TB := tw1047
theorem ml_C_96 : Cond.methodLink "FairTurns$Condition" 96 yX7_isWordFrom ∈ TB := tw989
theorem ml_L_30 : Cond.methodLink "FairTurns$Loads" 30 yX2_makeVector ∈ TB := tw754
theorem ml_L_38 : Cond.methodLink "FairTurns$Loads" 38 yX0_isHere ∈ TB := tw758
theorem ml_L_42 : Cond.methodLink "FairTurns$Loads" 42 yX0_loadBy ∈ TB := tw759
theorem ml_L_46 : Cond.methodLink "FairTurns$Loads" 46 yX2_insertFalling ∈ TB := tw760
theorem ml_L_50 : Cond.methodLink "FairTurns$Loads" 50 yX2_insertTurn ∈ TB := tw903
theorem ml_L_54 : Cond.methodLink "FairTurns$Loads" 54 yX2_isNextAheadOf ∈ TB := tw907
theorem ml_L_58 : Cond.methodLink "FairTurns$Loads" 58 yX0_loadOf ∈ TB := tw911
theorem ml_L_62 : Cond.methodLink "FairTurns$Loads" 62 yX0_burdenOf ∈ TB := tw912
theorem ml_P_24 : Cond.methodLink "FairTurns$Paper" 24 yX3_write ∈ TB := tw1119
theorem ml_P_28 : Cond.methodLink "FairTurns$Paper" 28 yX0_dutyAt ∈ TB := tw1123
theorem ml_P_32 : Cond.methodLink "FairTurns$Paper" 32 yX3_spellDuty ∈ TB := tw1124
theorem ml_P_36 : Cond.methodLink "FairTurns$Paper" 36 yX0_kindOf ∈ TB := tw1128
theorem ml_P_39 : Cond.methodLink "FairTurns$Paper" 39 yX0_holderOf ∈ TB := tw1129
theorem ml_P_42 : Cond.methodLink "FairTurns$Paper" 42 yX0_dayOf ∈ TB := tw1130
theorem ml_P_45 : Cond.methodLink "FairTurns$Paper" 45 yX3_writeNumber ∈ TB := tw1131
theorem ml_H_41 : Cond.methodLink "FairTurns$Paths" 41 yX0_dutyAt ∈ TB := tw714
theorem ml_H_45 : Cond.methodLink "FairTurns$Paths" 45 yX0_kindOf ∈ TB := tw715
theorem ml_H_48 : Cond.methodLink "FairTurns$Paths" 48 yX0_holderOf ∈ TB := tw716
theorem ml_H_51 : Cond.methodLink "FairTurns$Paths" 51 yX4_forget ∈ TB := tw717
theorem ml_H_54 : Cond.methodLink "FairTurns$Paths" 54 yX4_meetWhoMayHold ∈ TB := tw721
theorem ml_H_58 : Cond.methodLink "FairTurns$Paths" 58 yX4_goOn ∈ TB := tw731
theorem ml_H_61 : Cond.methodLink "FairTurns$Paths" 61 yX4_leastMet ∈ TB := tw735
theorem ml_H_64 : Cond.methodLink "FairTurns$Paths" 64 yX4_shiftTo ∈ TB := tw740
theorem ml_H_68 : Cond.methodLink "FairTurns$Paths" 68 yX4_findLesser ∈ TB := tw789
theorem ml_H_78 : Cond.methodLink "FairTurns$Paths" 78 yX0_countHeld ∈ TB := tw771
theorem ml_H_82 : Cond.methodLink "FairTurns$Paths" 82 yX4_meet ∈ TB := tw726
theorem ml_H_86 : Cond.methodLink "FairTurns$Paths" 86 yX0_loadOf ∈ TB := tw739
theorem ml_H_90 : Cond.methodLink "FairTurns$Paths" 90 yX0_mayHold ∈ TB := tw725
theorem ml_H_94 : Cond.methodLink "FairTurns$Paths" 94 yX0_isOne ∈ TB := tw730
theorem ml_H_97 : Cond.methodLink "FairTurns$Paths" 97 yX0_isDuty ∈ TB := tw744
theorem ml_H_100 : Cond.methodLink "FairTurns$Paths" 100 yX0_putHolder ∈ TB := tw745
theorem ml_G_44 : Cond.methodLink "FairTurns$Rings" 44 yX5_noteHeld ∈ TB := tw802
theorem ml_G_48 : Cond.methodLink "FairTurns$Rings" 48 yX5_noteCosts ∈ TB := tw808
theorem ml_G_51 : Cond.methodLink "FairTurns$Rings" 51 yX5_costOf ∈ TB := tw817
theorem ml_G_55 : Cond.methodLink "FairTurns$Rings" 55 yX5_grow ∈ TB := tw821
theorem ml_G_64 : Cond.methodLink "FairTurns$Rings" 64 yX0_holderOf ∈ TB := tw806
theorem ml_G_68 : Cond.methodLink "FairTurns$Rings" 68 yX0_kindOf ∈ TB := tw807
theorem ml_G_71 : Cond.methodLink "FairTurns$Rings" 71 yX0_mayHold ∈ TB := tw812
theorem ml_G_75 : Cond.methodLink "FairTurns$Rings" 75 yX0_dislikeOf ∈ TB := tw813
theorem ml_G_78 : Cond.methodLink "FairTurns$Rings" 78 yJ9_max_7cf53 ∈ TB := tw814
theorem ml_G_83 : Cond.methodLink "FairTurns$Rings" 83 yX5_tryRing ∈ TB := tw825
theorem ml_G_87 : Cond.methodLink "FairTurns$Rings" 87 yX5_growByEach ∈ TB := tw837
theorem ml_G_90 : Cond.methodLink "FairTurns$Rings" 90 yX5_isBetter ∈ TB := tw829
theorem ml_G_93 : Cond.methodLink "FairTurns$Rings" 93 yX5_dutyOfRow ∈ TB := tw833
theorem ml_G_96 : Cond.methodLink "FairTurns$Rings" 96 yX0_putHolder ∈ TB := tw861
theorem ml_W_18 : Cond.methodLink "FairTurns$Rows" 18 yX6_isRow ∈ TB := tw1175
theorem ml_W_22 : Cond.methodLink "FairTurns$Rows" 22 yX6_isHeld ∈ TB := tw1192
theorem ml_W_25 : Cond.methodLink "FairTurns$Rows" 25 yX6_isPlace ∈ TB := tw1188
theorem ml_T_25 : Cond.methodLink "FairTurns$Tape" 25 yX7_byteHere ∈ TB := tw549
theorem ml_T_29 : Cond.methodLink "FairTurns$Tape" 29 yX7_takesIf ∈ TB := tw565
theorem ml_T_33 : Cond.methodLink "FairTurns$Tape" 33 yX7_fail ∈ TB := tw557
theorem ml_T_37 : Cond.methodLink "FairTurns$Tape" 37 yX7_end ∈ TB := tw580
theorem ml_T_44 : Cond.methodLink "FairTurns$Tape" 44 yJ0_length_8abf5 ∈ TB := tw993
theorem ml_T_49 : Cond.methodLink "FairTurns$Tape" 49 yJ0_charAt_5068e ∈ TB := tw1003
theorem ml_X_42 : Cond.methodLink "FairTurns$Texts" 42 yX0_countRulesOf ∈ TB := tw536
theorem ml_X_48 : Cond.methodLink "FairTurns$Texts" 48 yX7_start ∈ TB := tw537
theorem ml_X_53 : Cond.methodLink "FairTurns$Texts" 53 yX8_readRule ∈ TB := tw541
theorem ml_X_57 : Cond.methodLink "FairTurns$Texts" 57 yX7_isFaulty ∈ TB := tw572
theorem ml_X_61 : Cond.methodLink "FairTurns$Texts" 61 yX7_takesPart ∈ TB := tw576
theorem ml_X_64 : Cond.methodLink "FairTurns$Texts" 64 yX7_at ∈ TB := tw584
theorem ml_X_68 : Cond.methodLink "FairTurns$Texts" 68 yX7_fail ∈ TB := tw588
theorem ml_X_71 : Cond.methodLink "FairTurns$Texts" 71 yX7_takesIf ∈ TB := tw545
theorem ml_X_75 : Cond.methodLink "FairTurns$Texts" 75 yX7_takeNumber ∈ TB := tw553
theorem ml_X_79 : Cond.methodLink "FairTurns$Texts" 79 yX7_take ∈ TB := tw561
theorem ml_X_82 : Cond.methodLink "FairTurns$Texts" 82 yX7_takeKind ∈ TB := tw566
theorem ml_X_85 : Cond.methodLink "FairTurns$Texts" 85 yX0_addRule ∈ TB := tw606
theorem ml_X_92 : Cond.methodLink "FairTurns$Texts" 92 yX0_addDuty ∈ TB := tw652
theorem ml_X_95 : Cond.methodLink "FairTurns$Texts" 95 yX0_dutyAt ∈ TB := tw1067
theorem ml_X_98 : Cond.methodLink "FairTurns$Texts" 98 yX8_readHolder ∈ TB := tw1068
theorem ml_X_101 : Cond.methodLink "FairTurns$Texts" 101 yX7_end ∈ TB := tw1080
theorem ml_X_104 : Cond.methodLink "FairTurns$Texts" 104 yX0_isDuty ∈ TB := tw1072
theorem ml_X_107 : Cond.methodLink "FairTurns$Texts" 107 yX0_dayOf ∈ TB := tw1073
theorem ml_X_110 : Cond.methodLink "FairTurns$Texts" 110 yX0_kindOf ∈ TB := tw1074
theorem ml_X_113 : Cond.methodLink "FairTurns$Texts" 113 yX7_takeFigure ∈ TB := tw1075
theorem ml_X_116 : Cond.methodLink "FairTurns$Texts" 116 yX0_isHere ∈ TB := tw1079
theorem ml_X_119 : Cond.methodLink "FairTurns$Texts" 119 yX0_mayHold ∈ TB := tw1085
theorem ml_X_123 : Cond.methodLink "FairTurns$Texts" 123 yX0_putHolder ∈ TB := tw1110
theorem ml_Law_9 : Cond.methodLink "FairTurnsLaw" 9 yX9_init ∈ TB := tw120
theorem ml_Law_12 : Cond.methodLink "FairTurnsLaw" 12 yX10_init ∈ TB := tw1223
theorem ml_Law_13 : Cond.methodLink "FairTurnsLaw" 13 yX9_comes ∈ TB := tw406
theorem ml_Law_17 : Cond.methodLink "FairTurnsLaw" 17 yX10_comes ∈ TB := tw1330
theorem ml_Law_18 : Cond.methodLink "FairTurnsLaw" 18 yX9_goes ∈ TB := tw433
theorem ml_Law_21 : Cond.methodLink "FairTurnsLaw" 21 yX10_goes ∈ TB := tw1358
theorem ml_Law_22 : Cond.methodLink "FairTurnsLaw" 22 yX9_past ∈ TB := tw471
theorem ml_Law_26 : Cond.methodLink "FairTurnsLaw" 26 yX10_past_ ∈ TB := tw1374
theorem ml_Law_27 : Cond.methodLink "FairTurnsLaw" 27 yX9_of ∈ TB := tw481
theorem ml_Law_31 : Cond.methodLink "FairTurnsLaw" 31 yX10_of ∈ TB := tw1382
theorem ml_Law_32 : Cond.methodLink "FairTurnsLaw" 32 yX9_neutral ∈ TB := tw523
theorem ml_Law_35 : Cond.methodLink "FairTurnsLaw" 35 yX10_neutral ∈ TB := tw1412
theorem ml_Law_36 : Cond.methodLink "FairTurnsLaw" 36 yX9_rules ∈ TB := tw528
theorem ml_Law_39 : Cond.methodLink "FairTurnsLaw" 39 yX10_rules ∈ TB := tw1607
theorem ml_Law_40 : Cond.methodLink "FairTurnsLaw" 40 yX9_frees ∈ TB := tw612
theorem ml_Law_43 : Cond.methodLink "FairTurnsLaw" 43 yX10_frees ∈ TB := tw1416
theorem ml_Law_44 : Cond.methodLink "FairTurnsLaw" 44 yX9_duty ∈ TB := tw620
theorem ml_Law_47 : Cond.methodLink "FairTurnsLaw" 47 yX10_duty ∈ TB := tw1420
theorem ml_Law_48 : Cond.methodLink "FairTurnsLaw" 48 yX9_calendar ∈ TB := tw640
theorem ml_Law_52 : Cond.methodLink "FairTurnsLaw" 52 yX10_calendar ∈ TB := tw1649
theorem ml_Law_53 : Cond.methodLink "FairTurnsLaw" 53 yX9_dutyOf ∈ TB := tw653
theorem ml_Law_56 : Cond.methodLink "FairTurnsLaw" 56 yX10_dutyOf ∈ TB := tw1429
theorem ml_Law_57 : Cond.methodLink "FairTurnsLaw" 57 yX9_stands ∈ TB := tw675
theorem ml_Law_60 : Cond.methodLink "FairTurnsLaw" 60 yX10_stands ∈ TB := tw1452
theorem ml_Law_61 : Cond.methodLink "FairTurnsLaw" 61 yX9_may ∈ TB := tw680
theorem ml_Law_64 : Cond.methodLink "FairTurnsLaw" 64 yX10_may ∈ TB := tw1456
theorem ml_Law_65 : Cond.methodLink "FairTurnsLaw" 65 yX9_dislike ∈ TB := tw685
theorem ml_Law_68 : Cond.methodLink "FairTurnsLaw" 68 yX10_dislike ∈ TB := tw1460
theorem ml_Law_69 : Cond.methodLink "FairTurnsLaw" 69 yX9_hold ∈ TB := tw697
theorem ml_Law_72 : Cond.methodLink "FairTurnsLaw" 72 yX10_hold ∈ TB := tw1465
theorem ml_Law_73 : Cond.methodLink "FairTurnsLaw" 73 yX9_open ∈ TB := tw702
theorem ml_Law_76 : Cond.methodLink "FairTurnsLaw" 76 yX10_open ∈ TB := tw1469
theorem ml_Law_77 : Cond.methodLink "FairTurnsLaw" 77 yX9_fill ∈ TB := tw706
theorem ml_Law_80 : Cond.methodLink "FairTurnsLaw" 80 yX10_fill ∈ TB := tw1473
theorem ml_Law_81 : Cond.methodLink "FairTurnsLaw" 81 yX9_load ∈ TB := tw746
theorem ml_Law_84 : Cond.methodLink "FairTurnsLaw" 84 yX10_load_ ∈ TB := tw1505
theorem ml_Law_85 : Cond.methodLink "FairTurnsLaw" 85 yX9_lesser ∈ TB := tw763
theorem ml_Law_88 : Cond.methodLink "FairTurnsLaw" 88 yX10_lesser ∈ TB := tw1513
theorem ml_Law_89 : Cond.methodLink "FairTurnsLaw" 89 yX9_eases ∈ TB := tw780
theorem ml_Law_92 : Cond.methodLink "FairTurnsLaw" 92 yX10_eases ∈ TB := tw1522
theorem ml_Law_93 : Cond.methodLink "FairTurnsLaw" 93 yX9_disliked ∈ TB := tw790
theorem ml_Law_96 : Cond.methodLink "FairTurnsLaw" 96 yX10_disliked ∈ TB := tw1526
theorem ml_Law_97 : Cond.methodLink "FairTurnsLaw" 97 yX9_ring ∈ TB := tw794
theorem ml_Law_100 : Cond.methodLink "FairTurnsLaw" 100 yX10_ring ∈ TB := tw1534
theorem ml_Law_101 : Cond.methodLink "FairTurnsLaw" 101 yX9_turn ∈ TB := tw853
theorem ml_Law_104 : Cond.methodLink "FairTurnsLaw" 104 yX10_turn ∈ TB := tw1559
theorem ml_Law_105 : Cond.methodLink "FairTurnsLaw" 105 yX9_close ∈ TB := tw862
theorem ml_Law_108 : Cond.methodLink "FairTurnsLaw" 108 yX10_close ∈ TB := tw1568
theorem ml_Law_109 : Cond.methodLink "FairTurnsLaw" 109 yX9_audit ∈ TB := tw879
theorem ml_Law_112 : Cond.methodLink "FairTurnsLaw" 112 yX10_audit ∈ TB := tw1577
theorem ml_Law_113 : Cond.methodLink "FairTurnsLaw" 113 yX9_next ∈ TB := tw895
theorem ml_Law_116 : Cond.methodLink "FairTurnsLaw" 116 yX10_next ∈ TB := tw1581
theorem ml_Law_117 : Cond.methodLink "FairTurnsLaw" 117 yX9_near ∈ TB := tw913
theorem ml_Law_120 : Cond.methodLink "FairTurnsLaw" 120 yX10_near ∈ TB := tw1589
theorem ml_Law_121 : Cond.methodLink "FairTurnsLaw" 121 yX9_heaviest ∈ TB := tw924
theorem ml_Law_124 : Cond.methodLink "FairTurnsLaw" 124 yX10_heaviest ∈ TB := tw1594
theorem ml_Law_125 : Cond.methodLink "FairTurnsLaw" 125 yX9_feed ∈ TB := tw928
theorem ml_Law_128 : Cond.methodLink "FairTurnsLaw" 128 yX10_feed ∈ TB := tw1598
theorem ml_Law_129 : Cond.methodLink "FairTurnsLaw" 129 yX9_clear ∈ TB := tw940
theorem ml_Law_132 : Cond.methodLink "FairTurnsLaw" 132 yX10_clear ∈ TB := tw1603
theorem ml_Law_133 : Cond.methodLink "FairTurnsLaw" 133 yX9_pick ∈ TB := tw944
theorem ml_Law_136 : Cond.methodLink "FairTurnsLaw" 136 yX10_pick ∈ TB := tw1653
theorem ml_Law_137 : Cond.methodLink "FairTurnsLaw" 137 yX9_openAll ∈ TB := tw1051
theorem ml_Law_140 : Cond.methodLink "FairTurnsLaw" 140 yX10_openAll ∈ TB := tw1695
theorem ml_Law_141 : Cond.methodLink "FairTurnsLaw" 141 yX9_judge ∈ TB := tw1055
theorem ml_Law_144 : Cond.methodLink "FairTurnsLaw" 144 yX10_judge ∈ TB := tw1699
theorem ml_Law_145 : Cond.methodLink "FairTurnsLaw" 145 yX9_roster ∈ TB := tw1102
theorem ml_Law_148 : Cond.methodLink "FairTurnsLaw" 148 yX10_roster ∈ TB := tw1731
theorem ml_Law_149 : Cond.methodLink "FairTurnsLaw" 149 yX9_spell ∈ TB := tw1111
theorem ml_Law_152 : Cond.methodLink "FairTurnsLaw" 152 yX10_spell ∈ TB := tw1735
theorem ml_Law_153 : Cond.methodLink "FairTurnsLaw" 153 yX9_paper ∈ TB := tw1137
theorem ml_Law_156 : Cond.methodLink "FairTurnsLaw" 156 yX10_paper ∈ TB := tw1747
theorem ml_Law_157 : Cond.methodLink "FairTurnsLaw" 157 yX9_told ∈ TB := tw1145
theorem ml_Law_160 : Cond.methodLink "FairTurnsLaw" 160 yX10_told ∈ TB := tw1751
theorem ml_Law_161 : Cond.methodLink "FairTurnsLaw" 161 yX9_list ∈ TB := tw1163
theorem ml_Law_164 : Cond.methodLink "FairTurnsLaw" 164 yX10_list ∈ TB := tw1770
theorem ml_Law_165 : Cond.methodLink "FairTurnsLaw" 165 yX9_set ∈ TB := tw1176
theorem ml_Law_168 : Cond.methodLink "FairTurnsLaw" 168 yX10_set ∈ TB := tw1777
theorem ml_Law_169 : Cond.methodLink "FairTurnsLaw" 169 yX9_get ∈ TB := tw1193
theorem ml_Law_173 : Cond.methodLink "FairTurnsLaw" 173 yX10_get ∈ TB := tw1781
theorem ml_Law_174 : Cond.methodLink "FairTurnsLaw" 174 yX9_lay ∈ TB := tw1202
theorem ml_Law_177 : Cond.methodLink "FairTurnsLaw" 177 yX10_lay ∈ TB := tw1786
theorem ml_Law_178 : Cond.methodLink "FairTurnsLaw" 178 yX9_image ∈ TB := tw1206
theorem ml_Law_181 : Cond.methodLink "FairTurnsLaw" 181 yX10_image ∈ TB := tw1790
theorem ml_Law_182 : Cond.methodLink "FairTurnsLaw" 182 yX9_undo ∈ TB := tw1217
theorem ml_Law_185 : Cond.methodLink "FairTurnsLaw" 185 yX10_undo ∈ TB := tw1797
theorem ml_M_68 : Cond.methodLink "FairTurnsModel" 68 yX10_in ∈ TB := tw1335
theorem ml_M_72 : Cond.methodLink "FairTurnsModel" 72 yX10_isOne ∈ TB := tw1350
theorem ml_M_78 : Cond.methodLink "FairTurnsModel" 78 yX10_holder ∈ TB := tw1366
theorem ml_M_82 : Cond.methodLink "FairTurnsModel" 82 yX10_past ∈ TB := tw1354
theorem ml_M_86 : Cond.methodLink "FairTurnsModel" 86 yX10_heldIn ∈ TB := tw1394
theorem ml_M_89 : Cond.methodLink "FairTurnsModel" 89 yX10_head ∈ TB := tw1398
theorem ml_M_92 : Cond.methodLink "FairTurnsModel" 92 yX10_load ∈ TB := tw1390
theorem ml_M_96 : Cond.methodLink "FairTurnsModel" 96 yX10_hereMany ∈ TB := tw1342
theorem ml_M_100 : Cond.methodLink "FairTurnsModel" 100 yX10_isHere ∈ TB := tw1346
theorem ml_M_103 : Cond.methodLink "FairTurnsModel" 103 yX10_lines ∈ TB := tw1444
theorem ml_M_106 : Cond.methodLink "FairTurnsModel" 106 yX10_neutralOf ∈ TB := tw1338
theorem ml_M_109 : Cond.methodLink "FairTurnsModel" 109 yX10_opensBarred ∈ TB := tw1362
theorem ml_M_113 : Cond.methodLink "FairTurnsModel" 113 yX10_mayHold ∈ TB := tw1370
theorem ml_M_117 : Cond.methodLink "FairTurnsModel" 117 yX10_isKind ∈ TB := tw1378
theorem ml_M_122 : Cond.methodLink "FairTurnsModel" 122 yX10_burden ∈ TB := tw1386
theorem ml_M_125 : Cond.methodLink "FairTurnsModel" 125 yX10_heldBy ∈ TB := tw1402
theorem ml_M_132 : Cond.methodLink "FairTurnsModel" 132 yX10_loadOf ∈ TB := tw1408
theorem ml_M_137 : Cond.methodLink "FairTurnsModel" 137 yX10_adds ∈ TB := tw1425
theorem ml_M_141 : Cond.methodLink "FairTurnsModel" 141 yX10_isDuty ∈ TB := tw1433
theorem ml_M_144 : Cond.methodLink "FairTurnsModel" 144 yX10_toldHolder ∈ TB := tw1437
theorem ml_M_147 : Cond.methodLink "FairTurnsModel" 147 yX10_placeOf ∈ TB := tw1440
theorem ml_M_150 : Cond.methodLink "FairTurnsModel" 150 yX10_whoMay ∈ TB := tw1448
theorem ml_M_159 : Cond.methodLink "FairTurnsModel" 159 yX10_comesBy ∈ TB := tw1489
theorem ml_M_162 : Cond.methodLink "FairTurnsModel" 162 yX10_goesFromDuty ∈ TB := tw1485
theorem ml_M_165 : Cond.methodLink "FairTurnsModel" 165 yX10_begins ∈ TB := tw1481
theorem ml_M_168 : Cond.methodLink "FairTurnsModel" 168 yX10_goesOn ∈ TB := tw1493
theorem ml_M_171 : Cond.methodLink "FairTurnsModel" 171 yX10_leastCome ∈ TB := tw1497
theorem ml_M_174 : Cond.methodLink "FairTurnsModel" 174 yX10_shifts ∈ TB := tw1501
theorem ml_M_177 : Cond.methodLink "FairTurnsModel" 177 yX10_filled ∈ TB := tw1477
theorem ml_M_183 : Cond.methodLink "FairTurnsModel" 183 yX10_vectors ∈ TB := tw1509
theorem ml_M_194 : Cond.methodLink "FairTurnsModel" 194 yX10_isLesser ∈ TB := tw1518
theorem ml_M_197 : Cond.methodLink "FairTurnsModel" 197 yX10_dislikeOf ∈ TB := tw1530
theorem ml_M_200 : Cond.methodLink "FairTurnsModel" 200 yX10_gainOf ∈ TB := tw1551
theorem ml_M_209 : Cond.methodLink "FairTurnsModel" 209 yX10_looksAt ∈ TB := tw1547
theorem ml_M_212 : Cond.methodLink "FairTurnsModel" 212 yX10_follows ∈ TB := tw1555
theorem ml_M_215 : Cond.methodLink "FairTurnsModel" 215 yX10_ringsOn ∈ TB := tw1543
theorem ml_M_220 : Cond.methodLink "FairTurnsModel" 220 yX10_findsRing ∈ TB := tw1539
theorem ml_M_225 : Cond.methodLink "FairTurnsModel" 225 yX10_doesRing ∈ TB := tw1564
theorem ml_M_228 : Cond.methodLink "FairTurnsModel" 228 yX10_openMany ∈ TB := tw1572
theorem ml_M_231 : Cond.methodLink "FairTurnsModel" 231 yJ9_min_7cf53 ∈ TB := tw1576
theorem ml_M_236 : Cond.methodLink "FairTurnsModel" 236 yX10_isAhead ∈ TB := tw1585
theorem ml_M_240 : Cond.methodLink "FairTurnsModel" 240 yJ9_abs_0f7a4 ∈ TB := tw1593
theorem ml_M_254 : Cond.methodLink "FairTurnsModel" 254 yX10_here ∈ TB := tw1627
theorem ml_M_257 : Cond.methodLink "FairTurnsModel" 257 yX10_takes ∈ TB := tw1623
theorem ml_M_260 : Cond.methodLink "FairTurnsModel" 260 yX10_faults ∈ TB := tw1619
theorem ml_M_273 : Cond.methodLink "FairTurnsModel" 273 yX10_number ∈ TB := tw1631
theorem ml_M_276 : Cond.methodLink "FairTurnsModel" 276 yX10_must ∈ TB := tw1637
theorem ml_M_279 : Cond.methodLink "FairTurnsModel" 279 yX10_kindLetter ∈ TB := tw1641
theorem ml_M_282 : Cond.methodLink "FairTurnsModel" 282 yX10_opensTape ∈ TB := tw1611
theorem ml_M_285 : Cond.methodLink "FairTurnsModel" 285 yX10_readsRule ∈ TB := tw1615
theorem ml_M_288 : Cond.methodLink "FairTurnsModel" 288 yX10_closes ∈ TB := tw1645
theorem ml_M_298 : Cond.methodLink "FairTurnsModel" 298 yX10_isWord ∈ TB := tw1687
theorem ml_M_302 : Cond.methodLink "FairTurnsModel" 302 yX10_isDislike ∈ TB := tw1691
theorem ml_M_305 : Cond.methodLink "FairTurnsModel" 305 yX10_wordEnd ∈ TB := tw1677
theorem ml_M_308 : Cond.methodLink "FairTurnsModel" 308 yX10_worthOf ∈ TB := tw1683
theorem ml_M_314 : Cond.methodLink "FairTurnsModel" 314 yX10_factor ∈ TB := tw1669
theorem ml_M_318 : Cond.methodLink "FairTurnsModel" 318 yX10_either ∈ TB := tw1661
theorem ml_M_321 : Cond.methodLink "FairTurnsModel" 321 yX10_compared ∈ TB := tw1673
theorem ml_M_324 : Cond.methodLink "FairTurnsModel" 324 yX10_both ∈ TB := tw1665
theorem ml_M_327 : Cond.methodLink "FairTurnsModel" 327 yX10_picked ∈ TB := tw1657
theorem ml_M_330 : Cond.methodLink "FairTurnsModel" 330 yX10_becomes ∈ TB := tw1723
theorem ml_M_334 : Cond.methodLink "FairTurnsModel" 334 yX10_firstBarred ∈ TB := tw1715
theorem ml_M_337 : Cond.methodLink "FairTurnsModel" 337 yX10_compares ∈ TB := tw1719
theorem ml_M_340 : Cond.methodLink "FairTurnsModel" 340 yX10_openIn ∈ TB := tw1727
theorem ml_M_343 : Cond.methodLink "FairTurnsModel" 343 yX10_readsRoster ∈ TB := tw1703
theorem ml_M_346 : Cond.methodLink "FairTurnsModel" 346 yX10_remembers ∈ TB := tw1707
theorem ml_M_349 : Cond.methodLink "FairTurnsModel" 349 yX10_judged ∈ TB := tw1711
theorem ml_M_355 : Cond.methodLink "FairTurnsModel" 355 yX10_writes ∈ TB := tw1739
theorem ml_M_358 : Cond.methodLink "FairTurnsModel" 358 yX10_writesDay ∈ TB := tw1743
theorem ml_M_361 : Cond.methodLink "FairTurnsModel" 361 yX10_daysUnlike ∈ TB := tw1755
theorem ml_M_364 : Cond.methodLink "FairTurnsModel" 364 yX10_dayAt ∈ TB := tw1759
theorem ml_M_367 : Cond.methodLink "FairTurnsModel" 367 yJ9_max_7cf53 ∈ TB := tw1763
theorem ml_M_370 : Cond.methodLink "FairTurnsModel" 370 yX10_ofKind ∈ TB := tw1764
theorem ml_M_377 : Cond.methodLink "FairTurnsModel" 377 yX10_isList ∈ TB := tw1774
theorem ml_M_388 : Cond.methodLink "FairTurnsModel" 388 yX10_copies ∈ TB := tw1794
theorem ml_RJ0_335 : Cond.methodLink "java/lang/String" 335 yJ0_coder_7d493 ∈ TB := tw997
theorem ml_RJ0_492 : Cond.methodLink "java/lang/String" 492 yJ0_isLatin1_aae02 ∈ TB := tw1007
theorem ml_RJ0_495 : Cond.methodLink "java/lang/String" 495 yJ1_charAt_3b067 ∈ TB := tw1011
theorem ml_RJ0_498 : Cond.methodLink "java/lang/String" 498 yJ2_charAt_3b067 ∈ TB := tw1022
theorem ml_RJ0_1059 : Cond.methodLink "java/lang/String" 1059 yJ3_checkIndex_8e157 ∈ TB := tw1019
theorem ml_RJ1_9 : Cond.methodLink "java/lang/StringLatin1" 9 yJ0_checkIndex_df160 ∈ TB := tw1014
theorem ml_RJ2_48 : Cond.methodLink "java/lang/StringUTF16" 48 yJ2_length_9d52b ∈ TB := tw1028
theorem ml_RJ2_67 : Cond.methodLink "java/lang/StringUTF16" 67 yJ2_checkIndex_2214a ∈ TB := tw1025
theorem ml_RJ2_71 : Cond.methodLink "java/lang/StringUTF16" 71 yJ2_getChar_3b067 ∈ TB := tw1032
theorem ml_RJ2_414 : Cond.methodLink "java/lang/StringUTF16" 414 yJ0_checkIndex_df160 ∈ TB := tw1031
theorem fl_F_13 : Cond.fieldLink "FairTurns" 13 "FairTurns" "book" "LFairTurns$Book;" ∈ TB := tw372
theorem fl_F_19 : Cond.fieldLink "FairTurns" 19 "FairTurns" "kept" "LFairTurns$Book;" ∈ TB := tw373
theorem fl_F_22 : Cond.fieldLink "FairTurns" 22 "FairTurns" "isKept" "Z" ∈ TB := tw374
theorem fl_F_31 : Cond.fieldLink "FairTurns" 31 "FairTurns" "loads" "LFairTurns$Loads;" ∈ TB := tw375
theorem fl_F_38 : Cond.fieldLink "FairTurns" 38 "FairTurns" "paths" "LFairTurns$Paths;" ∈ TB := tw376
theorem fl_F_45 : Cond.fieldLink "FairTurns" 45 "FairTurns" "rings" "LFairTurns$Rings;" ∈ TB := tw377
theorem fl_F_49 : Cond.fieldLink "FairTurns" 49 "FairTurns" "tape" "LFairTurns$Tape;" ∈ TB := tw378
theorem fl_F_58 : Cond.fieldLink "FairTurns" 58 "FairTurns" "texts" "LFairTurns$Texts;" ∈ TB := tw379
theorem fl_F_65 : Cond.fieldLink "FairTurns" 65 "FairTurns" "condition" "LFairTurns$Condition;" ∈ TB := tw380
theorem fl_F_72 : Cond.fieldLink "FairTurns" 72 "FairTurns" "sheet" "LFairTurns$Paper;" ∈ TB := tw381
theorem fl_F_79 : Cond.fieldLink "FairTurns" 79 "FairTurns" "rows" "LFairTurns$Rows;" ∈ TB := tw382
theorem fl_F_83 : Cond.fieldLink "FairTurns" 83 "FairTurns$Book" "people" "I" ∈ TB := tw133
theorem fl_F_164 : Cond.fieldLink "FairTurns" 164 "FairTurns$Book" "duties" "I" ∈ TB := tw142
theorem fl_F_250 : Cond.fieldLink "FairTurns" 250 "FairTurns$Book" "year" "I" ∈ TB := tw143
theorem fl_F_302 : Cond.fieldLink "FairTurns" 302 "FairTurns$Book" "holder" "[I" ∈ TB := tw148
theorem fl_B_9 : Cond.fieldLink "FairTurns$Book" 9 "FairTurns$Book" "holder" "[I" ∈ TB := tw145
theorem fl_B_15 : Cond.fieldLink "FairTurns$Book" 15 "FairTurns$Book" "rank" "[I" ∈ TB := tw149
theorem fl_B_18 : Cond.fieldLink "FairTurns$Book" 18 "FairTurns$Book" "here" "[Z" ∈ TB := tw150
theorem fl_B_22 : Cond.fieldLink "FairTurns$Book" 22 "FairTurns$Book" "past" "[I" ∈ TB := tw151
theorem fl_B_25 : Cond.fieldLink "FairTurns$Book" 25 "FairTurns$Book" "ruleCount" "[I" ∈ TB := tw152
theorem fl_B_28 : Cond.fieldLink "FairTurns$Book" 28 "FairTurns$Book" "ruleSort" "[I" ∈ TB := tw153
theorem fl_B_31 : Cond.fieldLink "FairTurns$Book" 31 "FairTurns$Book" "ruleFirst" "[I" ∈ TB := tw154
theorem fl_B_34 : Cond.fieldLink "FairTurns$Book" 34 "FairTurns$Book" "ruleSecond" "[I" ∈ TB := tw155
theorem fl_B_37 : Cond.fieldLink "FairTurns$Book" 37 "FairTurns$Book" "day" "[I" ∈ TB := tw156
theorem fl_B_40 : Cond.fieldLink "FairTurns$Book" 40 "FairTurns$Book" "kind" "[I" ∈ TB := tw157
theorem fl_B_43 : Cond.fieldLink "FairTurns$Book" 43 "FairTurns$Book" "standing" "[I" ∈ TB := tw158
theorem fl_B_46 : Cond.fieldLink "FairTurns$Book" 46 "FairTurns$Book" "dislikes" "[I" ∈ TB := tw159
theorem fl_B_49 : Cond.fieldLink "FairTurns$Book" 49 "FairTurns$Book" "people" "I" ∈ TB := tw132
theorem fl_B_53 : Cond.fieldLink "FairTurns$Book" 53 "FairTurns$Book" "duties" "I" ∈ TB := tw137
theorem fl_B_139 : Cond.fieldLink "FairTurns$Book" 139 "FairTurns$Book" "year" "I" ∈ TB := tw144
theorem fl_C_11 : Cond.fieldLink "FairTurns$Condition" 11 "FairTurns$Condition" "values" "[I" ∈ TB := tw338
theorem fl_C_15 : Cond.fieldLink "FairTurns$Condition" 15 "FairTurns$Condition" "book" "LFairTurns$Book;" ∈ TB := tw336
theorem fl_C_19 : Cond.fieldLink "FairTurns$Condition" 19 "FairTurns$Condition" "tape" "LFairTurns$Tape;" ∈ TB := tw337
theorem fl_C_23 : Cond.fieldLink "FairTurns$Condition" 23 "FairTurns$Book" "duties" "I" ∈ TB := tw136
theorem fl_L_9 : Cond.fieldLink "FairTurns$Loads" 9 "FairTurns$Loads" "now" "[I" ∈ TB := tw219
theorem fl_L_15 : Cond.fieldLink "FairTurns$Loads" 15 "FairTurns$Loads" "planned" "[I" ∈ TB := tw220
theorem fl_L_18 : Cond.fieldLink "FairTurns$Loads" 18 "FairTurns$Loads" "turns" "[I" ∈ TB := tw221
theorem fl_L_21 : Cond.fieldLink "FairTurns$Loads" 21 "FairTurns$Loads" "book" "LFairTurns$Book;" ∈ TB := tw218
theorem fl_L_25 : Cond.fieldLink "FairTurns$Loads" 25 "FairTurns$Book" "holder" "[I" ∈ TB := tw146
theorem fl_L_34 : Cond.fieldLink "FairTurns$Loads" 34 "FairTurns$Book" "people" "I" ∈ TB := tw134
theorem fl_P_9 : Cond.fieldLink "FairTurns$Paper" 9 "FairTurns$Paper" "bytes" "[I" ∈ TB := tw352
theorem fl_P_15 : Cond.fieldLink "FairTurns$Paper" 15 "FairTurns$Paper" "size" "I" ∈ TB := tw353
theorem fl_P_19 : Cond.fieldLink "FairTurns$Paper" 19 "FairTurns$Book" "duties" "I" ∈ TB := tw139
theorem fl_H_9 : Cond.fieldLink "FairTurns$Paths" 9 "FairTurns$Paths" "met" "[I" ∈ TB := tw238
theorem fl_H_15 : Cond.fieldLink "FairTurns$Paths" 15 "FairTurns$Paths" "metBy" "[I" ∈ TB := tw239
theorem fl_H_18 : Cond.fieldLink "FairTurns$Paths" 18 "FairTurns$Paths" "isMet" "[Z" ∈ TB := tw240
theorem fl_H_22 : Cond.fieldLink "FairTurns$Paths" 22 "FairTurns$Paths" "book" "LFairTurns$Book;" ∈ TB := tw237
theorem fl_H_26 : Cond.fieldLink "FairTurns$Paths" 26 "FairTurns$Paths" "metCount" "I" ∈ TB := tw241
theorem fl_H_30 : Cond.fieldLink "FairTurns$Paths" 30 "FairTurns$Paths" "from" "I" ∈ TB := tw242
theorem fl_H_33 : Cond.fieldLink "FairTurns$Paths" 33 "FairTurns$Paths" "to" "I" ∈ TB := tw243
theorem fl_H_36 : Cond.fieldLink "FairTurns$Paths" 36 "FairTurns$Book" "duties" "I" ∈ TB := tw138
theorem fl_H_72 : Cond.fieldLink "FairTurns$Paths" 72 "FairTurns$Book" "people" "I" ∈ TB := tw135
theorem fl_H_75 : Cond.fieldLink "FairTurns$Paths" 75 "FairTurns$Book" "holder" "[I" ∈ TB := tw147
theorem fl_G_9 : Cond.fieldLink "FairTurns$Rings" 9 "FairTurns$Rings" "held" "[I" ∈ TB := tw266
theorem fl_G_15 : Cond.fieldLink "FairTurns$Rings" 15 "FairTurns$Rings" "holderBits" "[I" ∈ TB := tw267
theorem fl_G_18 : Cond.fieldLink "FairTurns$Rings" 18 "FairTurns$Rings" "costs" "[I" ∈ TB := tw268
theorem fl_G_21 : Cond.fieldLink "FairTurns$Rings" 21 "FairTurns$Rings" "row" "[I" ∈ TB := tw269
theorem fl_G_24 : Cond.fieldLink "FairTurns$Rings" 24 "FairTurns$Rings" "best" "[I" ∈ TB := tw270
theorem fl_G_27 : Cond.fieldLink "FairTurns$Rings" 27 "FairTurns$Rings" "book" "LFairTurns$Book;" ∈ TB := tw265
theorem fl_G_31 : Cond.fieldLink "FairTurns$Rings" 31 "FairTurns$Rings" "heldCount" "I" ∈ TB := tw271
theorem fl_G_35 : Cond.fieldLink "FairTurns$Rings" 35 "FairTurns$Rings" "mostCost" "I" ∈ TB := tw272
theorem fl_G_38 : Cond.fieldLink "FairTurns$Rings" 38 "FairTurns$Rings" "bestSize" "I" ∈ TB := tw273
theorem fl_G_41 : Cond.fieldLink "FairTurns$Rings" 41 "FairTurns$Rings" "bestGain" "I" ∈ TB := tw274
theorem fl_G_59 : Cond.fieldLink "FairTurns$Rings" 59 "FairTurns$Book" "duties" "I" ∈ TB := tw141
theorem fl_W_9 : Cond.fieldLink "FairTurns$Rows" 9 "FairTurns$Rows" "places" "[I" ∈ TB := tw365
theorem fl_W_15 : Cond.fieldLink "FairTurns$Rows" 15 "FairTurns$Rows" "sizes" "[I" ∈ TB := tw366
theorem fl_T_9 : Cond.fieldLink "FairTurns$Tape" 9 "FairTurns$Tape" "bytes" "[I" ∈ TB := tw199
theorem fl_T_15 : Cond.fieldLink "FairTurns$Tape" 15 "FairTurns$Tape" "size" "I" ∈ TB := tw200
theorem fl_T_19 : Cond.fieldLink "FairTurns$Tape" 19 "FairTurns$Tape" "at" "I" ∈ TB := tw201
theorem fl_T_22 : Cond.fieldLink "FairTurns$Tape" 22 "FairTurns$Tape" "fault" "I" ∈ TB := tw202
theorem fl_X_9 : Cond.fieldLink "FairTurns$Texts" 9 "FairTurns$Texts" "sorts" "[I" ∈ TB := tw304
theorem fl_X_15 : Cond.fieldLink "FairTurns$Texts" 15 "FairTurns$Texts" "firsts" "[I" ∈ TB := tw305
theorem fl_X_18 : Cond.fieldLink "FairTurns$Texts" 18 "FairTurns$Texts" "seconds" "[I" ∈ TB := tw306
theorem fl_X_21 : Cond.fieldLink "FairTurns$Texts" 21 "FairTurns$Texts" "days" "[I" ∈ TB := tw307
theorem fl_X_24 : Cond.fieldLink "FairTurns$Texts" 24 "FairTurns$Texts" "kinds" "[I" ∈ TB := tw308
theorem fl_X_27 : Cond.fieldLink "FairTurns$Texts" 27 "FairTurns$Texts" "plan" "[I" ∈ TB := tw309
theorem fl_X_30 : Cond.fieldLink "FairTurns$Texts" 30 "FairTurns$Texts" "book" "LFairTurns$Book;" ∈ TB := tw302
theorem fl_X_34 : Cond.fieldLink "FairTurns$Texts" 34 "FairTurns$Texts" "tape" "LFairTurns$Tape;" ∈ TB := tw303
theorem fl_X_38 : Cond.fieldLink "FairTurns$Texts" 38 "FairTurns$Texts" "count" "I" ∈ TB := tw310
theorem fl_X_89 : Cond.fieldLink "FairTurns$Texts" 89 "FairTurns$Book" "duties" "I" ∈ TB := tw140
theorem fl_M_9 : Cond.fieldLink "FairTurnsModel" 9 "FairTurnsModel" "w" "[I" ∈ TB := tw1227
theorem fl_M_13 : Cond.fieldLink "FairTurnsModel" 13 "FairTurnsModel" "kept" "[I" ∈ TB := tw1228
theorem fl_M_16 : Cond.fieldLink "FairTurnsModel" 16 "FairTurnsModel" "letters" "[I" ∈ TB := tw1230
theorem fl_M_19 : Cond.fieldLink "FairTurnsModel" 19 "FairTurnsModel" "burdens" "[I" ∈ TB := tw1231
theorem fl_M_22 : Cond.fieldLink "FairTurnsModel" 22 "FairTurnsModel" "stand" "[I" ∈ TB := tw1232
theorem fl_M_25 : Cond.fieldLink "FairTurnsModel" 25 "FairTurnsModel" "come" "[I" ∈ TB := tw1233
theorem fl_M_28 : Cond.fieldLink "FairTurnsModel" 28 "FairTurnsModel" "by" "[I" ∈ TB := tw1235
theorem fl_M_31 : Cond.fieldLink "FairTurnsModel" 31 "FairTurnsModel" "isCome" "[Z" ∈ TB := tw1236
theorem fl_M_35 : Cond.fieldLink "FairTurnsModel" 35 "FairTurnsModel" "vector" "[I" ∈ TB := tw1237
theorem fl_M_38 : Cond.fieldLink "FairTurnsModel" 38 "FairTurnsModel" "ring" "[I" ∈ TB := tw1241
theorem fl_M_41 : Cond.fieldLink "FairTurnsModel" 41 "FairTurnsModel" "best" "[I" ∈ TB := tw1242
theorem fl_M_44 : Cond.fieldLink "FairTurnsModel" 44 "FairTurnsModel" "tape" "[I" ∈ TB := tw1245
theorem fl_M_47 : Cond.fieldLink "FairTurnsModel" 47 "FairTurnsModel" "read" "[I" ∈ TB := tw1250
theorem fl_M_50 : Cond.fieldLink "FairTurnsModel" 50 "FairTurnsModel" "rostered" "[I" ∈ TB := tw1254
theorem fl_M_53 : Cond.fieldLink "FairTurnsModel" 53 "FairTurnsModel" "before" "[I" ∈ TB := tw1255
theorem fl_M_56 : Cond.fieldLink "FairTurnsModel" 56 "FairTurnsModel" "vectorNow" "[I" ∈ TB := tw1256
theorem fl_M_59 : Cond.fieldLink "FairTurnsModel" 59 "FairTurnsModel" "paper" "[I" ∈ TB := tw1257
theorem fl_M_62 : Cond.fieldLink "FairTurnsModel" 62 "FairTurnsModel" "sizes" "[I" ∈ TB := tw1259
theorem fl_M_65 : Cond.fieldLink "FairTurnsModel" 65 "FairTurnsModel" "lists" "[I" ∈ TB := tw1260
theorem fl_M_155 : Cond.fieldLink "FairTurnsModel" 155 "FairTurnsModel" "comeMany" "I" ∈ TB := tw1234
theorem fl_M_180 : Cond.fieldLink "FairTurnsModel" 180 "FairTurnsModel" "vectorMany" "I" ∈ TB := tw1238
theorem fl_M_186 : Cond.fieldLink "FairTurnsModel" 186 "FairTurnsModel" "from" "I" ∈ TB := tw1239
theorem fl_M_189 : Cond.fieldLink "FairTurnsModel" 189 "FairTurnsModel" "to" "I" ∈ TB := tw1240
theorem fl_M_203 : Cond.fieldLink "FairTurnsModel" 203 "FairTurnsModel" "bestGain" "I" ∈ TB := tw1244
theorem fl_M_206 : Cond.fieldLink "FairTurnsModel" 206 "FairTurnsModel" "bestMany" "I" ∈ TB := tw1243
theorem fl_M_245 : Cond.fieldLink "FairTurnsModel" 245 "FairTurnsModel" "taped" "I" ∈ TB := tw1246
theorem fl_M_248 : Cond.fieldLink "FairTurnsModel" 248 "FairTurnsModel" "fault" "I" ∈ TB := tw1248
theorem fl_M_251 : Cond.fieldLink "FairTurnsModel" 251 "FairTurnsModel" "at" "I" ∈ TB := tw1247
theorem fl_M_263 : Cond.fieldLink "FairTurnsModel" 263 "FairTurnsModel" "begin" "I" ∈ TB := tw1249
theorem fl_M_270 : Cond.fieldLink "FairTurnsModel" 270 "FairTurnsModel" "readMany" "I" ∈ TB := tw1251
theorem fl_M_295 : Cond.fieldLink "FairTurnsModel" 295 "FairTurnsModel" "ofDuty" "I" ∈ TB := tw1252
theorem fl_M_311 : Cond.fieldLink "FairTurnsModel" 311 "FairTurnsModel" "within" "I" ∈ TB := tw1253
theorem fl_M_352 : Cond.fieldLink "FairTurnsModel" 352 "FairTurnsModel" "paperMany" "I" ∈ TB := tw1258
theorem fl_M_384 : Cond.fieldLink "FairTurnsModel" 384 "FairTurnsModel" "hasImage" "Z" ∈ TB := tw1229
theorem fl_RJ0_9 : Cond.fieldLink "java/lang/String" 9 "java/lang/String" "value" "[B" ∈ TB := tw1801
theorem fl_RJ0_15 : Cond.fieldLink "java/lang/String" 15 "java/lang/String" "coder" "B" ∈ TB := tw1802
theorem fl_RJ0_38 : Cond.fieldLink "java/lang/String" 38 "java/lang/String" "COMPACT_STRINGS" "Z" ∈ TB := tw1001
theorem fl_RJ0_1053 : Cond.fieldLink "java/lang/String" 1053 "jdk/internal/util/Preconditions" "SIOOBE_FORMATTER" "Ljava/util/function/BiFunction;" ∈ TB := tw1017
theorem fl_RJ2_44 : Cond.fieldLink "java/lang/StringUTF16" 44 "java/lang/StringUTF16" "$assertionsDisabled" "Z" ∈ TB := tw1035
theorem fl_RJ2_59 : Cond.fieldLink "java/lang/StringUTF16" 59 "java/lang/StringUTF16" "HI_BYTE_SHIFT" "I" ∈ TB := tw1037
theorem fl_RJ2_63 : Cond.fieldLink "java/lang/StringUTF16" 63 "java/lang/StringUTF16" "LO_BYTE_SHIFT" "I" ∈ TB := tw1039
theorem kc_H_67 : Cond.constant "FairTurns$Paths" 67 (1000000) ∈ TB := tw788
theorem kl_W_29 : Cond.constantLong "FairTurns$Rows" 29 (-9223372036854775808) ∈ TB := tw1201
theorem kl_M_76 : Cond.constantLong "FairTurnsModel" 76 (3) ∈ TB := tw1334
theorem kl_M_120 : Cond.constantLong "FairTurnsModel" 120 (999) ∈ TB := tw1381
theorem kl_M_128 : Cond.constantLong "FairTurnsModel" 128 (10) ∈ TB := tw1406
theorem kl_M_130 : Cond.constantLong "FairTurnsModel" 130 (39) ∈ TB := tw1407
theorem kl_M_135 : Cond.constantLong "FairTurnsModel" 135 (365) ∈ TB := tw1424
theorem kl_M_153 : Cond.constantLong "FairTurnsModel" 153 (9) ∈ TB := tw1464
theorem kl_M_192 : Cond.constantLong "FairTurnsModel" 192 (2) ∈ TB := tw1517
theorem kl_M_218 : Cond.constantLong "FairTurnsModel" 218 (13) ∈ TB := tw1538
theorem kl_M_223 : Cond.constantLong "FairTurnsModel" 223 (24) ∈ TB := tw1563
theorem kl_M_243 : Cond.constantLong "FairTurnsModel" 243 (127) ∈ TB := tw1602
theorem kl_M_266 : Cond.constantLong "FairTurnsModel" 266 (48) ∈ TB := tw1635
theorem kl_M_268 : Cond.constantLong "FairTurnsModel" 268 (57) ∈ TB := tw1636
theorem kl_M_291 : Cond.constantLong "FairTurnsModel" 291 (97) ∈ TB := tw1681
theorem kl_M_293 : Cond.constantLong "FairTurnsModel" 293 (122) ∈ TB := tw1682
theorem kl_M_373 : Cond.constantLong "FairTurnsModel" 373 (20) ∈ TB := tw1768
theorem kl_M_375 : Cond.constantLong "FairTurnsModel" 375 (23) ∈ TB := tw1769
theorem kl_M_382 : Cond.constantLong "FairTurnsModel" 382 (-9223372036854775808) ∈ TB := tw1785
theorem mc_min : Cond.code Lib.Math.min.name Lib.Math.min.code 2 (some .int) ∈ TB := tw877
theorem ms_min : Cond.static Lib.Math.min.name ∈ TB := tw876
theorem mm_B_132 : Cond.methodLink "FairTurns$Book" 132 Lib.Math.min.name ∈ TB := tw875
theorem mm_M_231 : Cond.methodLink "FairTurnsModel" 231 Lib.Math.min.name ∈ TB := tw1576
theorem mc_max : Cond.code Lib.Math.max.name Lib.Math.max.code 2 (some .int) ∈ TB := tw816
theorem ms_max : Cond.static Lib.Math.max.name ∈ TB := tw815
theorem mm_G_78 : Cond.methodLink "FairTurns$Rings" 78 Lib.Math.max.name ∈ TB := tw814
theorem mm_M_367 : Cond.methodLink "FairTurnsModel" 367 Lib.Math.max.name ∈ TB := tw1763
theorem mc_abs : Cond.code Lib.Math.abs.name Lib.Math.abs.code 1 (some .int) ∈ TB := tw923
theorem ms_abs : Cond.static Lib.Math.abs.name ∈ TB := tw922
theorem mm_B_127 : Cond.methodLink "FairTurns$Book" 127 Lib.Math.abs.name ∈ TB := tw921
theorem mm_M_240 : Cond.methodLink "FairTurnsModel" 240 Lib.Math.abs.name ∈ TB := tw1593
theorem ki_m1 : Int32.ofInt (-1) = (-1) := by decide +kernel
theorem ki_0 : Int32.ofInt (0) = nI 0 := by decide +kernel
theorem ki_1 : Int32.ofInt (1) = nI 1 := by decide +kernel
theorem ki_2 : Int32.ofInt (2) = nI 2 := by decide +kernel
theorem ki_3 : Int32.ofInt (3) = nI 3 := by decide +kernel
theorem ki_4 : Int32.ofInt (4) = nI 4 := by decide +kernel
theorem ki_5 : Int32.ofInt (5) = nI 5 := by decide +kernel
theorem kb_m100 : (Int8.ofInt (-100)).toInt32 = (-100) := by decide +kernel
theorem kb_m14 : (Int8.ofInt (-14)).toInt32 = (-14) := by decide +kernel
theorem kb_m13 : (Int8.ofInt (-13)).toInt32 = (-13) := by decide +kernel
theorem kb_m11 : (Int8.ofInt (-11)).toInt32 = (-11) := by decide +kernel
theorem kb_m7 : (Int8.ofInt (-7)).toInt32 = (-7) := by decide +kernel
theorem kb_m5 : (Int8.ofInt (-5)).toInt32 = (-5) := by decide +kernel
theorem kb_m4 : (Int8.ofInt (-4)).toInt32 = (-4) := by decide +kernel
theorem kb_m3 : (Int8.ofInt (-3)).toInt32 = (-3) := by decide +kernel
theorem kb_m2 : (Int8.ofInt (-2)).toInt32 = (-2) := by decide +kernel
theorem kb_6 : (Int8.ofInt (6)).toInt32 = nI 6 := by decide +kernel
theorem kb_7 : (Int8.ofInt (7)).toInt32 = nI 7 := by decide +kernel
theorem kb_8 : (Int8.ofInt (8)).toInt32 = nI 8 := by decide +kernel
theorem kb_9 : (Int8.ofInt (9)).toInt32 = nI 9 := by decide +kernel
theorem kb_10 : (Int8.ofInt (10)).toInt32 = nI 10 := by decide +kernel
theorem kb_11 : (Int8.ofInt (11)).toInt32 = nI 11 := by decide +kernel
theorem kb_19 : (Int8.ofInt (19)).toInt32 = nI 19 := by decide +kernel
theorem kb_20 : (Int8.ofInt (20)).toInt32 = nI 20 := by decide +kernel
theorem kb_24 : (Int8.ofInt (24)).toInt32 = nI 24 := by decide +kernel
theorem kb_30 : (Int8.ofInt (30)).toInt32 = nI 30 := by decide +kernel
theorem kb_32 : (Int8.ofInt (32)).toInt32 = nI 32 := by decide +kernel
theorem kb_33 : (Int8.ofInt (33)).toInt32 = nI 33 := by decide +kernel
theorem kb_38 : (Int8.ofInt (38)).toInt32 = nI 38 := by decide +kernel
theorem kb_40 : (Int8.ofInt (40)).toInt32 = nI 40 := by decide +kernel
theorem kb_41 : (Int8.ofInt (41)).toInt32 = nI 41 := by decide +kernel
theorem kb_45 : (Int8.ofInt (45)).toInt32 = nI 45 := by decide +kernel
theorem kb_48 : (Int8.ofInt (48)).toInt32 = nI 48 := by decide +kernel
theorem kb_51 : (Int8.ofInt (51)).toInt32 = nI 51 := by decide +kernel
theorem kb_58 : (Int8.ofInt (58)).toInt32 = nI 58 := by decide +kernel
theorem kb_59 : (Int8.ofInt (59)).toInt32 = nI 59 := by decide +kernel
theorem kb_60 : (Int8.ofInt (60)).toInt32 = nI 60 := by decide +kernel
theorem kb_61 : (Int8.ofInt (61)).toInt32 = nI 61 := by decide +kernel
theorem kb_62 : (Int8.ofInt (62)).toInt32 = nI 62 := by decide +kernel
theorem kb_64 : (Int8.ofInt (64)).toInt32 = nI 64 := by decide +kernel
theorem kb_72 : (Int8.ofInt (72)).toInt32 = nI 72 := by decide +kernel
theorem kb_97 : (Int8.ofInt (97)).toInt32 = nI 97 := by decide +kernel
theorem kb_99 : (Int8.ofInt (99)).toInt32 = nI 99 := by decide +kernel
theorem kb_100 : (Int8.ofInt (100)).toInt32 = nI 100 := by decide +kernel
theorem kb_101 : (Int8.ofInt (101)).toInt32 = nI 101 := by decide +kernel
theorem kb_104 : (Int8.ofInt (104)).toInt32 = nI 104 := by decide +kernel
theorem kb_105 : (Int8.ofInt (105)).toInt32 = nI 105 := by decide +kernel
theorem kb_107 : (Int8.ofInt (107)).toInt32 = nI 107 := by decide +kernel
theorem kb_108 : (Int8.ofInt (108)).toInt32 = nI 108 := by decide +kernel
theorem kb_110 : (Int8.ofInt (110)).toInt32 = nI 110 := by decide +kernel
theorem kb_111 : (Int8.ofInt (111)).toInt32 = nI 111 := by decide +kernel
theorem kb_112 : (Int8.ofInt (112)).toInt32 = nI 112 := by decide +kernel
theorem kb_114 : (Int8.ofInt (114)).toInt32 = nI 114 := by decide +kernel
theorem kb_115 : (Int8.ofInt (115)).toInt32 = nI 115 := by decide +kernel
theorem kb_119 : (Int8.ofInt (119)).toInt32 = nI 119 := by decide +kernel
theorem kb_120 : (Int8.ofInt (120)).toInt32 = nI 120 := by decide +kernel
theorem kb_121 : (Int8.ofInt (121)).toInt32 = nI 121 := by decide +kernel
theorem kb_122 : (Int8.ofInt (122)).toInt32 = nI 122 := by decide +kernel
theorem kb_124 : (Int8.ofInt (124)).toInt32 = nI 124 := by decide +kernel
theorem kb_127 : (Int8.ofInt (127)).toInt32 = nI 127 := by decide +kernel
theorem ks_150 : (Int16.ofInt (150)).toInt32 = nI 150 := by decide +kernel
theorem ks_168 : (Int16.ofInt (168)).toInt32 = nI 168 := by decide +kernel
theorem ks_192 : (Int16.ofInt (192)).toInt32 = nI 192 := by decide +kernel
theorem ks_200 : (Int16.ofInt (200)).toInt32 = nI 200 := by decide +kernel
theorem ks_251 : (Int16.ofInt (251)).toInt32 = nI 251 := by decide +kernel
theorem ks_255 : (Int16.ofInt (255)).toInt32 = nI 255 := by decide +kernel
theorem ks_275 : (Int16.ofInt (275)).toInt32 = nI 275 := by decide +kernel
theorem ks_299 : (Int16.ofInt (299)).toInt32 = nI 299 := by decide +kernel
theorem ks_300 : (Int16.ofInt (300)).toInt32 = nI 300 := by decide +kernel
theorem ks_323 : (Int16.ofInt (323)).toInt32 = nI 323 := by decide +kernel
theorem ks_365 : (Int16.ofInt (365)).toInt32 = nI 365 := by decide +kernel
theorem ks_515 : (Int16.ofInt (515)).toInt32 = nI 515 := by decide +kernel
theorem ks_576 : (Int16.ofInt (576)).toInt32 = nI 576 := by decide +kernel
theorem ks_999 : (Int16.ofInt (999)).toInt32 = nI 999 := by decide +kernel
