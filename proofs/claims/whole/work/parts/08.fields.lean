theorem i_Row : ∀ w ∈ u_ws R_Row F_Row 2, w ∈ TW := by
  intro w hw
  obtain ⟨k, hk, rfl⟩ := List.mem_map.mp hw
  have hk := List.mem_range.mp hk
  match k, hk with
  | 0, _ => exact k_105
  | 1, _ => exact k_107
  | k + 2, hk => exact absurd hk (by omega)
theorem i_Mac : ∀ w ∈ u_ws R_Mac F_Mac 4, w ∈ TW := by
  intro w hw
  obtain ⟨k, hk, rfl⟩ := List.mem_map.mp hw
  have hk := List.mem_range.mp hk
  match k, hk with
  | 0, _ => exact k_129
  | 1, _ => exact k_131
  | 2, _ => exact k_133
  | 3, _ => exact k_135
  | k + 4, hk => exact absurd hk (by omega)
theorem i_Pla : ∀ w ∈ u_ws R_Pla F_Pla 8, w ∈ TW := by
  intro w hw
  obtain ⟨k, hk, rfl⟩ := List.mem_map.mp hw
  have hk := List.mem_range.mp hk
  match k, hk with
  | 0, _ => exact k_153
  | 1, _ => exact k_155
  | 2, _ => exact k_157
  | 3, _ => exact k_159
  | 4, _ => exact k_161
  | 5, _ => exact k_163
  | 6, _ => exact k_165
  | 7, _ => exact k_167
  | k + 8, hk => exact absurd hk (by omega)
theorem i_Set : ∀ w ∈ u_ws R_Set F_Set 6, w ∈ TW := by
  intro w hw
  obtain ⟨k, hk, rfl⟩ := List.mem_map.mp hw
  have hk := List.mem_range.mp hk
  match k, hk with
  | 0, _ => exact k_187
  | 1, _ => exact k_189
  | 2, _ => exact k_191
  | 3, _ => exact k_193
  | 4, _ => exact k_195
  | 5, _ => exact k_197
  | k + 6, hk => exact absurd hk (by omega)
theorem i_Txt : ∀ w ∈ u_ws R_Txt F_Txt 3, w ∈ TW := by
  intro w hw
  obtain ⟨k, hk, rfl⟩ := List.mem_map.mp hw
  have hk := List.mem_range.mp hk
  match k, hk with
  | 0, _ => exact k_209
  | 1, _ => exact k_211
  | 2, _ => exact k_213
  | k + 3, hk => exact absurd hk (by omega)
theorem i_Num : ∀ w ∈ u_ws R_Num F_Num 3, w ∈ TW := by
  intro w hw
  obtain ⟨k, hk, rfl⟩ := List.mem_map.mp hw
  have hk := List.mem_range.mp hk
  match k, hk with
  | 0, _ => exact k_227
  | 1, _ => exact k_229
  | 2, _ => exact k_231
  | k + 3, hk => exact absurd hk (by omega)
theorem i_Pai : ∀ w ∈ u_ws R_Pai F_Pai 3, w ∈ TW := by
  intro w hw
  obtain ⟨k, hk, rfl⟩ := List.mem_map.mp hw
  have hk := List.mem_range.mp hk
  match k, hk with
  | 0, _ => exact k_560
  | 1, _ => exact k_562
  | 2, _ => exact k_564
  | k + 3, hk => exact absurd hk (by omega)
theorem i_Joi : ∀ w ∈ u_ws R_Joi F_Joi 2, w ∈ TW := by
  intro w hw
  obtain ⟨k, hk, rfl⟩ := List.mem_map.mp hw
  have hk := List.mem_range.mp hk
  match k, hk with
  | 0, _ => exact k_587
  | 1, _ => exact k_589
  | k + 2, hk => exact absurd hk (by omega)
theorem i_Com : ∀ w ∈ u_ws R_Com F_Com 4, w ∈ TW := by
  intro w hw
  obtain ⟨k, hk, rfl⟩ := List.mem_map.mp hw
  have hk := List.mem_range.mp hk
  match k, hk with
  | 0, _ => exact k_244
  | 1, _ => exact k_246
  | 2, _ => exact k_248
  | 3, _ => exact k_250
  | k + 4, hk => exact absurd hk (by omega)
theorem i_Tal : ∀ w ∈ u_ws R_Tal F_Tal 2, w ∈ TW := by
  intro w hw
  obtain ⟨k, hk, rfl⟩ := List.mem_map.mp hw
  have hk := List.mem_range.mp hk
  match k, hk with
  | 0, _ => exact k_261
  | 1, _ => exact k_263
  | k + 2, hk => exact absurd hk (by omega)
theorem i_TM : ∀ w ∈ u_ws R_TM F_TM 14, w ∈ TW := by
  intro w hw
  obtain ⟨k, hk, rfl⟩ := List.mem_map.mp hw
  have hk := List.mem_range.mp hk
  match k, hk with
  | 0, _ => exact k_280
  | 1, _ => exact k_282
  | 2, _ => exact k_284
  | 3, _ => exact k_286
  | 4, _ => exact k_288
  | 5, _ => exact k_290
  | 6, _ => exact k_292
  | 7, _ => exact k_294
  | 8, _ => exact k_296
  | 9, _ => exact k_298
  | 10, _ => exact k_300
  | 11, _ => exact k_302
  | 12, _ => exact k_304
  | 13, _ => exact k_306
  | k + 14, hk => exact absurd hk (by omega)
theorem i_Ref : ∀ w ∈ u_ws R_Ref F_Ref 49, w ∈ TW := by
  intro w hw
  obtain ⟨k, hk, rfl⟩ := List.mem_map.mp hw
  have hk := List.mem_range.mp hk
  match k, hk with
  | 0, _ => exact k_916
  | 1, _ => exact k_918
  | 2, _ => exact k_920
  | 3, _ => exact k_922
  | 4, _ => exact k_924
  | 5, _ => exact k_926
  | 6, _ => exact k_928
  | 7, _ => exact k_930
  | 8, _ => exact k_932
  | 9, _ => exact k_934
  | 10, _ => exact k_936
  | 11, _ => exact k_938
  | 12, _ => exact k_940
  | 13, _ => exact k_942
  | 14, _ => exact k_944
  | 15, _ => exact k_946
  | 16, _ => exact k_948
  | 17, _ => exact k_950
  | 18, _ => exact k_952
  | 19, _ => exact k_954
  | 20, _ => exact k_956
  | 21, _ => exact k_958
  | 22, _ => exact k_960
  | 23, _ => exact k_962
  | 24, _ => exact k_964
  | 25, _ => exact k_966
  | 26, _ => exact k_968
  | 27, _ => exact k_970
  | 28, _ => exact k_972
  | 29, _ => exact k_974
  | 30, _ => exact k_976
  | 31, _ => exact k_978
  | 32, _ => exact k_980
  | 33, _ => exact k_982
  | 34, _ => exact k_984
  | 35, _ => exact k_986
  | 36, _ => exact k_988
  | 37, _ => exact k_990
  | 38, _ => exact k_992
  | 39, _ => exact k_994
  | 40, _ => exact k_996
  | 41, _ => exact k_998
  | 42, _ => exact k_1000
  | 43, _ => exact k_1002
  | 44, _ => exact k_1004
  | 45, _ => exact k_1006
  | 46, _ => exact k_1008
  | 47, _ => exact k_1010
  | 48, _ => exact k_1012
  | k + 49, hk => exact absurd hk (by omega)
