/-! The classes whose objects the world holds, by their numbers in CL; each with its fields. -/
def T0 : u_T := fun k => match k with
  | 0 => ("RealmDesk", "written", "Ljava/lang/StringBuilder;", true)
  | 1 => ("RealmDesk", "archives", "Ljava/util/ArrayList;", true)
  | 2 => ("RealmDesk", "realms", "Ljava/util/ArrayList;", true)
  | 3 => ("RealmDesk", "toldRealms", "[I", true)
  | _ => ("RealmDesk", "timesAsked", "I", false)
def ty0 : Nat → FieldType := fun k => match k with
  | 0 => .object "java/lang/StringBuilder"
  | 1 => .object "java/util/ArrayList"
  | 2 => .object "java/util/ArrayList"
  | 3 => .array .int
  | _ => .int
theorem nm0 : ∀ a, a < 5 → ∀ b, b < 5 → a ≠ b → (T0 a).2.1 ≠ (T0 b).2.1 := by decide +kernel
theorem ty0_ok : ∀ k, k < 5 → parseFieldDescriptor (T0 k).2.2.1 = some (ty0 k) := by decide +kernel
theorem in0 : ∀ w ∈ u_ws "RealmDesk" T0 5, w ∈ lw_g := by
  intro w h
  obtain ⟨k, hk, rfl⟩ := List.mem_map.mp h
  have hk := List.mem_range.mp hk
  match k, hk with
  | 0, _ => exact t_101
  | 1, _ => exact t_103
  | 2, _ => exact t_105
  | 3, _ => exact t_107
  | 4, _ => exact t_109
def T1 : u_T := fun k => match k with
  | 0 => ("java/lang/AbstractStringBuilder", "value", "[B", false)
  | 1 => ("java/lang/AbstractStringBuilder", "coder", "B", false)
  | 2 => ("java/lang/AbstractStringBuilder", "maybeLatin1", "Z", false)
  | _ => ("java/lang/AbstractStringBuilder", "count", "I", false)
def ty1 : Nat → FieldType := fun k => match k with
  | 0 => .array .byte
  | 1 => .byte
  | 2 => .boolean
  | _ => .int
theorem nm1 : ∀ a, a < 4 → ∀ b, b < 4 → a ≠ b → (T1 a).2.1 ≠ (T1 b).2.1 := by decide +kernel
theorem ty1_ok : ∀ k, k < 4 → parseFieldDescriptor (T1 k).2.2.1 = some (ty1 k) := by decide +kernel
theorem in1 : ∀ w ∈ u_ws "java/lang/StringBuilder" T1 4, w ∈ lw_g := by
  intro w h
  obtain ⟨k, hk, rfl⟩ := List.mem_map.mp h
  have hk := List.mem_range.mp hk
  match k, hk with
  | 0, _ => exact t_60
  | 1, _ => exact t_62
  | 2, _ => exact t_64
  | 3, _ => exact t_66
def T2 : u_T := fun k => match k with
  | 0 => ("java/util/ArrayList", "elementData", "[Ljava/lang/Object;", false)
  | 1 => ("java/util/ArrayList", "size", "I", false)
  | _ => ("java/util/AbstractList", "modCount", "I", false)
def ty2 : Nat → FieldType := fun k => match k with
  | 0 => .array (.object "java/lang/Object")
  | 1 => .int
  | _ => .int
theorem nm2 : ∀ a, a < 3 → ∀ b, b < 3 → a ≠ b → (T2 a).2.1 ≠ (T2 b).2.1 := by decide +kernel
theorem ty2_ok : ∀ k, k < 3 → parseFieldDescriptor (T2 k).2.2.1 = some (ty2 k) := by decide +kernel
theorem in2 : ∀ w ∈ u_ws "java/util/ArrayList" T2 3, w ∈ lw_g := by
  intro w h
  obtain ⟨k, hk, rfl⟩ := List.mem_map.mp h
  have hk := List.mem_range.mp hk
  match k, hk with
  | 0, _ => exact t_89
  | 1, _ => exact t_91
  | 2, _ => exact t_93
def T3 : u_T := fun k => match k with
  | 0 => ("java/lang/String", "value", "[B", true)
  | 1 => ("java/lang/String", "coder", "B", true)
  | 2 => ("java/lang/String", "hash", "I", false)
  | _ => ("java/lang/String", "hashIsZero", "Z", false)
def ty3 : Nat → FieldType := fun k => match k with
  | 0 => .array .byte
  | 1 => .byte
  | 2 => .int
  | _ => .boolean
theorem nm3 : ∀ a, a < 4 → ∀ b, b < 4 → a ≠ b → (T3 a).2.1 ≠ (T3 b).2.1 := by decide +kernel
theorem ty3_ok : ∀ k, k < 4 → parseFieldDescriptor (T3 k).2.2.1 = some (ty3 k) := by decide +kernel
theorem in3 : ∀ w ∈ u_ws "java/lang/String" T3 4, w ∈ lw_g := by
  intro w h
  obtain ⟨k, hk, rfl⟩ := List.mem_map.mp h
  have hk := List.mem_range.mp hk
  match k, hk with
  | 0, _ => exact t_455
  | 1, _ => exact t_457
  | 2, _ => exact t_459
  | 3, _ => exact t_461
def T4 : u_T := fun k => match k with
  | _ => ("RealmDesk$Text", "characters", "Ljava/lang/String;", true)
def ty4 : Nat → FieldType := fun k => match k with
  | _ => .object "java/lang/String"
theorem nm4 : ∀ a, a < 1 → ∀ b, b < 1 → a ≠ b → (T4 a).2.1 ≠ (T4 b).2.1 := by decide +kernel
theorem ty4_ok : ∀ k, k < 1 → parseFieldDescriptor (T4 k).2.2.1 = some (ty4 k) := by decide +kernel
theorem in4 : ∀ w ∈ u_ws "RealmDesk$Text" T4 1, w ∈ lw_g := by
  intro w h
  obtain ⟨k, hk, rfl⟩ := List.mem_map.mp h
  have hk := List.mem_range.mp hk
  match k, hk with
  | 0, _ => exact t_568
def T5 : u_T := fun k => match k with
  | 0 => ("RealmDesk$Archive", "number", "I", true)
  | 1 => ("RealmDesk$Archive", "word", "Ljava/lang/String;", true)
  | 2 => ("RealmDesk$Archive", "names", "Ljava/util/ArrayList;", true)
  | _ => ("RealmDesk$Archive", "timesFound", "I", false)
def ty5 : Nat → FieldType := fun k => match k with
  | 0 => .int
  | 1 => .object "java/lang/String"
  | 2 => .object "java/util/ArrayList"
  | _ => .int
theorem nm5 : ∀ a, a < 4 → ∀ b, b < 4 → a ≠ b → (T5 a).2.1 ≠ (T5 b).2.1 := by decide +kernel
theorem ty5_ok : ∀ k, k < 4 → parseFieldDescriptor (T5 k).2.2.1 = some (ty5 k) := by decide +kernel
theorem in5 : ∀ w ∈ u_ws "RealmDesk$Archive" T5 4, w ∈ lw_g := by
  intro w h
  obtain ⟨k, hk, rfl⟩ := List.mem_map.mp h
  have hk := List.mem_range.mp hk
  match k, hk with
  | 0, _ => exact t_687
  | 1, _ => exact t_689
  | 2, _ => exact t_691
  | 3, _ => exact t_693
def T6 : u_T := fun k => match k with
  | 0 => ("RealmDesk$Realm", "number", "I", true)
  | 1 => ("RealmDesk$Realm", "word", "Ljava/lang/String;", true)
  | 2 => ("RealmDesk$Realm", "loaded", "Ljava/util/ArrayList;", true)
  | 3 => ("RealmDesk$Realm", "imports", "Ljava/util/ArrayList;", true)
  | 4 => ("RealmDesk$Realm", "finds", "Ljava/util/ArrayList;", true)
  | 5 => ("RealmDesk$Realm", "parent", "LRealmDesk$Realm;", false)
  | 6 => ("RealmDesk$Realm", "parentFirst", "Z", false)
  | 7 => ("RealmDesk$Realm", "went", "Z", false)
  | _ => ("RealmDesk$Realm", "beingAsked", "Z", false)
def ty6 : Nat → FieldType := fun k => match k with
  | 0 => .int
  | 1 => .object "java/lang/String"
  | 2 => .object "java/util/ArrayList"
  | 3 => .object "java/util/ArrayList"
  | 4 => .object "java/util/ArrayList"
  | 5 => .object "RealmDesk$Realm"
  | 6 => .boolean
  | 7 => .boolean
  | _ => .boolean
theorem nm6 : ∀ a, a < 9 → ∀ b, b < 9 → a ≠ b → (T6 a).2.1 ≠ (T6 b).2.1 := by decide +kernel
theorem ty6_ok : ∀ k, k < 9 → parseFieldDescriptor (T6 k).2.2.1 = some (ty6 k) := by decide +kernel
theorem in6 : ∀ w ∈ u_ws "RealmDesk$Realm" T6 9, w ∈ lw_g := by
  intro w h
  obtain ⟨k, hk, rfl⟩ := List.mem_map.mp h
  have hk := List.mem_range.mp hk
  match k, hk with
  | 0, _ => exact t_746
  | 1, _ => exact t_748
  | 2, _ => exact t_750
  | 3, _ => exact t_752
  | 4, _ => exact t_754
  | 5, _ => exact t_756
  | 6, _ => exact t_758
  | 7, _ => exact t_760
  | 8, _ => exact t_762
  | z + 9, hz => exact absurd hz (by omega)
def T7 : u_T := fun k => match k with
  | 0 => ("RealmDesk$Import", "pack", "Ljava/lang/String;", true)
  | _ => ("RealmDesk$Import", "source", "LRealmDesk$Realm;", true)
def ty7 : Nat → FieldType := fun k => match k with
  | 0 => .object "java/lang/String"
  | _ => .object "RealmDesk$Realm"
theorem nm7 : ∀ a, a < 2 → ∀ b, b < 2 → a ≠ b → (T7 a).2.1 ≠ (T7 b).2.1 := by decide +kernel
theorem ty7_ok : ∀ k, k < 2 → parseFieldDescriptor (T7 k).2.2.1 = some (ty7 k) := by decide +kernel
theorem in7 : ∀ w ∈ u_ws "RealmDesk$Import" T7 2, w ∈ lw_g := by
  intro w h
  obtain ⟨k, hk, rfl⟩ := List.mem_map.mp h
  have hk := List.mem_range.mp hk
  match k, hk with
  | 0, _ => exact t_802
  | 1, _ => exact t_804
def T8 : u_T := fun k => match k with
  | 0 => ("RealmDesk$Find", "name", "Ljava/lang/String;", true)
  | _ => ("RealmDesk$Find", "place", "I", true)
def ty8 : Nat → FieldType := fun k => match k with
  | 0 => .object "java/lang/String"
  | _ => .int
theorem nm8 : ∀ a, a < 2 → ∀ b, b < 2 → a ≠ b → (T8 a).2.1 ≠ (T8 b).2.1 := by decide +kernel
theorem ty8_ok : ∀ k, k < 2 → parseFieldDescriptor (T8 k).2.2.1 = some (ty8 k) := by decide +kernel
theorem in8 : ∀ w ∈ u_ws "RealmDesk$Find" T8 2, w ∈ lw_g := by
  intro w h
  obtain ⟨k, hk, rfl⟩ := List.mem_map.mp h
  have hk := List.mem_range.mp hk
  match k, hk with
  | 0, _ => exact t_872
  | 1, _ => exact t_874
def T9 : u_T := fun k => match k with
  | 0 => ("RealmDeskModel", "fault", "I", false)
  | 1 => ("RealmDeskModel", "text", "[C", true)
  | 2 => ("RealmDeskModel", "written", "I", false)
  | 3 => ("RealmDeskModel", "parts", "I", false)
  | 4 => ("RealmDeskModel", "begin", "[I", true)
  | 5 => ("RealmDeskModel", "end", "[I", true)
  | 6 => ("RealmDeskModel", "archives", "I", false)
  | 7 => ("RealmDeskModel", "archiveWord", "[I", true)
  | 8 => ("RealmDeskModel", "names", "[I", true)
  | 9 => ("RealmDeskModel", "used", "[I", true)
  | 10 => ("RealmDeskModel", "name", "[J", true)
  | 11 => ("RealmDeskModel", "realms", "I", false)
  | 12 => ("RealmDeskModel", "word", "[I", true)
  | 13 => ("RealmDeskModel", "loads", "[I", true)
  | 14 => ("RealmDeskModel", "load", "[I", true)
  | 15 => ("RealmDeskModel", "imports", "[I", true)
  | 16 => ("RealmDeskModel", "from", "[I", true)
  | 17 => ("RealmDeskModel", "parent", "[I", true)
  | 18 => ("RealmDeskModel", "keeps", "[I", true)
  | 19 => ("RealmDeskModel", "keptAt", "[I", true)
  | 20 => ("RealmDeskModel", "pack", "[J", true)
  | 21 => ("RealmDeskModel", "kept", "[J", true)
  | 22 => ("RealmDeskModel", "went", "[Z", true)
  | 23 => ("RealmDeskModel", "parentFirst", "[Z", true)
  | 24 => ("RealmDeskModel", "open", "I", false)
  | 25 => ("RealmDeskModel", "many", "I", false)
  | 26 => ("RealmDeskModel", "stack", "[I", true)
  | 27 => ("RealmDeskModel", "stage", "[I", true)
  | _ => ("RealmDeskModel", "asked", "[I", true)
def ty9 : Nat → FieldType := fun k => match k with
  | 0 => .int
  | 1 => .array .char
  | 2 => .int
  | 3 => .int
  | 4 => .array .int
  | 5 => .array .int
  | 6 => .int
  | 7 => .array .int
  | 8 => .array .int
  | 9 => .array .int
  | 10 => .array .long
  | 11 => .int
  | 12 => .array .int
  | 13 => .array .int
  | 14 => .array .int
  | 15 => .array .int
  | 16 => .array .int
  | 17 => .array .int
  | 18 => .array .int
  | 19 => .array .int
  | 20 => .array .long
  | 21 => .array .long
  | 22 => .array .boolean
  | 23 => .array .boolean
  | 24 => .int
  | 25 => .int
  | 26 => .array .int
  | 27 => .array .int
  | _ => .array .int
theorem nm9 : ∀ a, a < 29 → ∀ b, b < 29 → a ≠ b → (T9 a).2.1 ≠ (T9 b).2.1 := by decide +kernel
theorem ty9_ok : ∀ k, k < 29 → parseFieldDescriptor (T9 k).2.2.1 = some (ty9 k) := by decide +kernel
theorem in9 : ∀ w ∈ u_ws "RealmDeskModel" T9 29, w ∈ lw_g := by
  intro w h
  obtain ⟨k, hk, rfl⟩ := List.mem_map.mp h
  have hk := List.mem_range.mp hk
  match k, hk with
  | 0, _ => exact t_927
  | 1, _ => exact t_929
  | 2, _ => exact t_931
  | 3, _ => exact t_933
  | 4, _ => exact t_935
  | 5, _ => exact t_937
  | 6, _ => exact t_939
  | 7, _ => exact t_941
  | 8, _ => exact t_943
  | 9, _ => exact t_945
  | 10, _ => exact t_947
  | 11, _ => exact t_949
  | 12, _ => exact t_951
  | 13, _ => exact t_953
  | 14, _ => exact t_955
  | 15, _ => exact t_957
  | 16, _ => exact t_959
  | 17, _ => exact t_961
  | 18, _ => exact t_963
  | 19, _ => exact t_965
  | 20, _ => exact t_967
  | 21, _ => exact t_969
  | 22, _ => exact t_971
  | 23, _ => exact t_973
  | 24, _ => exact t_975
  | 25, _ => exact t_977
  | 26, _ => exact t_979
  | 27, _ => exact t_981
  | 28, _ => exact t_983
  | z + 29, hz => exact absurd hz (by omega)
def TX : u_T := fun _ => ("", "", "", false)
/-- the last three: what is thrown, without a word of their fields -/
abbrev CL : List vw_C := [("RealmDesk", T0, 5), ("java/lang/StringBuilder", T1, 4), ("java/util/ArrayList", T2, 3), ("java/lang/String", T3, 4), ("RealmDesk$Text", T4, 1), ("RealmDesk$Archive", T5, 4), ("RealmDesk$Realm", T6, 9), ("RealmDesk$Import", T7, 2), ("RealmDesk$Find", T8, 2), ("RealmDeskModel", T9, 29), ("java/lang/IllegalArgumentException", TX, 0), ("java/lang/IllegalStateException", TX, 0), ("java/util/NoSuchElementException", TX, 0)]
/-- the array classes, by numbers from 100 on -/
abbrev TY (D : va_G) : List (ClassId × FieldType) := [(D.1 100, .int), (D.1 101, .char), (D.1 102, .long), (D.1 103, .boolean), (D.1 104, .byte), (D.1 105, .object "java/lang/Object")]
