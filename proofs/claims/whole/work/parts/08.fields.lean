theorem i_Row : ∀ w ∈ u_ws R_Row F_Row 2, w ∈ TW := by
  intro w hw
  obtain ⟨k, hk, rfl⟩ := List.mem_map.mp hw
  have hk := List.mem_range.mp hk
  match k, hk with
  | 0, _ => exact k_105
  | 1, _ => exact k_107
  | k + 2, hk => exact absurd hk (by omega)
theorem i_Mac : ∀ w ∈ u_ws R_Mac F_Mac 4, w ∈ TW := by
  intro w hw
  obtain ⟨k, hk, rfl⟩ := List.mem_map.mp hw
  have hk := List.mem_range.mp hk
  match k, hk with
  | 0, _ => exact k_129
  | 1, _ => exact k_131
  | 2, _ => exact k_133
  | 3, _ => exact k_135
  | k + 4, hk => exact absurd hk (by omega)
theorem i_Pla : ∀ w ∈ u_ws R_Pla F_Pla 8, w ∈ TW := by
  intro w hw
  obtain ⟨k, hk, rfl⟩ := List.mem_map.mp hw
  have hk := List.mem_range.mp hk
  match k, hk with
  | 0, _ => exact k_153
  | 1, _ => exact k_155
  | 2, _ => exact k_157
  | 3, _ => exact k_159
  | 4, _ => exact k_161
  | 5, _ => exact k_163
  | 6, _ => exact k_165
  | 7, _ => exact k_167
  | k + 8, hk => exact absurd hk (by omega)
theorem i_Set : ∀ w ∈ u_ws R_Set F_Set 6, w ∈ TW := by
  intro w hw
  obtain ⟨k, hk, rfl⟩ := List.mem_map.mp hw
  have hk := List.mem_range.mp hk
  match k, hk with
  | 0, _ => exact k_187
  | 1, _ => exact k_189
  | 2, _ => exact k_191
  | 3, _ => exact k_193
  | 4, _ => exact k_195
  | 5, _ => exact k_197
  | k + 6, hk => exact absurd hk (by omega)
theorem i_Txt : ∀ w ∈ u_ws R_Txt F_Txt 3, w ∈ TW := by
  intro w hw
  obtain ⟨k, hk, rfl⟩ := List.mem_map.mp hw
  have hk := List.mem_range.mp hk
  match k, hk with
  | 0, _ => exact k_211
  | 1, _ => exact k_213
  | 2, _ => exact k_215
  | k + 3, hk => exact absurd hk (by omega)
theorem i_Num : ∀ w ∈ u_ws R_Num F_Num 3, w ∈ TW := by
  intro w hw
  obtain ⟨k, hk, rfl⟩ := List.mem_map.mp hw
  have hk := List.mem_range.mp hk
  match k, hk with
  | 0, _ => exact k_229
  | 1, _ => exact k_231
  | 2, _ => exact k_233
  | k + 3, hk => exact absurd hk (by omega)
theorem i_Pai : ∀ w ∈ u_ws R_Pai F_Pai 3, w ∈ TW := by
  intro w hw
  obtain ⟨k, hk, rfl⟩ := List.mem_map.mp hw
  have hk := List.mem_range.mp hk
  match k, hk with
  | 0, _ => exact k_567
  | 1, _ => exact k_569
  | 2, _ => exact k_571
  | k + 3, hk => exact absurd hk (by omega)
theorem i_Joi : ∀ w ∈ u_ws R_Joi F_Joi 2, w ∈ TW := by
  intro w hw
  obtain ⟨k, hk, rfl⟩ := List.mem_map.mp hw
  have hk := List.mem_range.mp hk
  match k, hk with
  | 0, _ => exact k_594
  | 1, _ => exact k_596
  | k + 2, hk => exact absurd hk (by omega)
theorem i_Com : ∀ w ∈ u_ws R_Com F_Com 4, w ∈ TW := by
  intro w hw
  obtain ⟨k, hk, rfl⟩ := List.mem_map.mp hw
  have hk := List.mem_range.mp hk
  match k, hk with
  | 0, _ => exact k_246
  | 1, _ => exact k_248
  | 2, _ => exact k_250
  | 3, _ => exact k_252
  | k + 4, hk => exact absurd hk (by omega)
theorem i_Tal : ∀ w ∈ u_ws R_Tal F_Tal 2, w ∈ TW := by
  intro w hw
  obtain ⟨k, hk, rfl⟩ := List.mem_map.mp hw
  have hk := List.mem_range.mp hk
  match k, hk with
  | 0, _ => exact k_263
  | 1, _ => exact k_265
  | k + 2, hk => exact absurd hk (by omega)
theorem i_TM : ∀ w ∈ u_ws R_TM F_TM 14, w ∈ TW := by
  intro w hw
  obtain ⟨k, hk, rfl⟩ := List.mem_map.mp hw
  have hk := List.mem_range.mp hk
  match k, hk with
  | 0, _ => exact k_282
  | 1, _ => exact k_284
  | 2, _ => exact k_286
  | 3, _ => exact k_288
  | 4, _ => exact k_290
  | 5, _ => exact k_292
  | 6, _ => exact k_294
  | 7, _ => exact k_296
  | 8, _ => exact k_298
  | 9, _ => exact k_300
  | 10, _ => exact k_302
  | 11, _ => exact k_304
  | 12, _ => exact k_306
  | 13, _ => exact k_308
  | k + 14, hk => exact absurd hk (by omega)
theorem i_Ref : ∀ w ∈ u_ws R_Ref F_Ref 49, w ∈ TW := by
  intro w hw
  obtain ⟨k, hk, rfl⟩ := List.mem_map.mp hw
  have hk := List.mem_range.mp hk
  match k, hk with
  | 0, _ => exact k_923
  | 1, _ => exact k_925
  | 2, _ => exact k_927
  | 3, _ => exact k_929
  | 4, _ => exact k_931
  | 5, _ => exact k_933
  | 6, _ => exact k_935
  | 7, _ => exact k_937
  | 8, _ => exact k_939
  | 9, _ => exact k_941
  | 10, _ => exact k_943
  | 11, _ => exact k_945
  | 12, _ => exact k_947
  | 13, _ => exact k_949
  | 14, _ => exact k_951
  | 15, _ => exact k_953
  | 16, _ => exact k_955
  | 17, _ => exact k_957
  | 18, _ => exact k_959
  | 19, _ => exact k_961
  | 20, _ => exact k_963
  | 21, _ => exact k_965
  | 22, _ => exact k_967
  | 23, _ => exact k_969
  | 24, _ => exact k_971
  | 25, _ => exact k_973
  | 26, _ => exact k_975
  | 27, _ => exact k_977
  | 28, _ => exact k_979
  | 29, _ => exact k_981
  | 30, _ => exact k_983
  | 31, _ => exact k_985
  | 32, _ => exact k_987
  | 33, _ => exact k_989
  | 34, _ => exact k_991
  | 35, _ => exact k_993
  | 36, _ => exact k_995
  | 37, _ => exact k_997
  | 38, _ => exact k_999
  | 39, _ => exact k_1001
  | 40, _ => exact k_1003
  | 41, _ => exact k_1005
  | 42, _ => exact k_1007
  | 43, _ => exact k_1009
  | 44, _ => exact k_1011
  | 45, _ => exact k_1013
  | 46, _ => exact k_1015
  | 47, _ => exact k_1017
  | 48, _ => exact k_1019
  | k + 49, hk => exact absurd hk (by omega)
