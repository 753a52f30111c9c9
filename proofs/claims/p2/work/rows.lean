section
/-! ===== BEGIN words of one list among another's, by their places ===== -/
theorem goodIn_r {big : List Cond} (ws : List Cond) (ps : List Nat) (hp : ws = ps.filterMap (fun i => big[i]?)) (h : ws.all goodWord = true) : GoodIn big ws := by
  intro w hw
  have h1 := List.all_eq_true.mp h w hw
  rw [hp] at hw
  obtain ⟨i, -, hi⟩ := List.mem_filterMap.mp hw
  have hm : w ∈ big := by first | exact List.mem_of_getElem? hi | exact List.getElem?_mem hi
  exact ⟨hm, good_of_word h1⟩
theorem goodIn_app {big a b : List Cond} (ha : GoodIn big a) (hb : GoodIn big b) : GoodIn big (a ++ b) := fun w h => (List.mem_append.mp h).elim (ha w) (hb w)
theorem goodIn_ca {big a b : List Cond} {c : Cond} (ha : GoodIn big (c :: a)) (hb : GoodIn big b) : GoodIn big (c :: (a ++ b)) := fun w h => (List.mem_cons.mp h).elim (fun e => ha w (List.mem_cons.mpr (Or.inl e))) (fun h => (List.mem_append.mp h).elim (fun h => ha w (List.mem_cons.mpr (Or.inr h))) (hb w))
theorem goodIn_sub {big ws : List Cond} (hm : ∀ w ∈ ws, w ∈ big) (h : ws.all goodWord = true) : GoodIn big ws := fun w hw => ⟨hm w hw, good_of_word (List.all_eq_true.mp h w hw)⟩
/-! ===== END ===== -/

-- ===== PART A: goes FIRST, ahead of the names: the tables' words, and 'selects' of the private methods out of them =====
/-- a private method of a class that the tables say can be made, by its rows of tables_1 -/
def lw_okq (q : MethodName × Nat) : Prop := (q.1.cls ≠ "java/lang/invoke/MethodHandle" ∧ q.1.cls ≠ "java/lang/invoke/VarHandle") ∧ Cond.instantiable q.1.cls q.2 ∈ tables_1 ∧ Cond.privateMethod q.1 ∈ tables_1 ∧ Cond.instanceMethod q.1 ∈ tables_1
theorem lw_p0 : lw_okq (⟨"RealmDesk", "isThere", "(I)Z"⟩, 5) := ⟨⟨by decide +kernel, by decide +kernel⟩, List.mem_of_getElem? (i := 30) (by decide +kernel), List.mem_of_getElem? (i := 232) (by decide +kernel), List.mem_of_getElem? (i := 233) (by decide +kernel)⟩
theorem lw_p1 : lw_okq (⟨"RealmDesk", "takeWritten", "()Ljava/lang/String;"⟩, 5) := ⟨⟨by decide +kernel, by decide +kernel⟩, List.mem_of_getElem? (i := 30) (by decide +kernel), List.mem_of_getElem? (i := 266) (by decide +kernel), List.mem_of_getElem? (i := 267) (by decide +kernel)⟩
theorem lw_p2 : lw_okq (⟨"java/lang/Throwable", "fillInStackTrace", "(I)Ljava/lang/Throwable;"⟩, 6) := ⟨⟨by decide +kernel, by decide +kernel⟩, List.mem_of_getElem? (i := 337) (by decide +kernel), List.mem_of_getElem? (i := 335) (by decide +kernel), List.mem_of_getElem? (i := 336) (by decide +kernel)⟩
theorem lw_p3 : lw_okq (⟨"RealmDesk", "realmWith", "(Ljava/lang/String;)LRealmDesk$Realm;"⟩, 5) := ⟨⟨by decide +kernel, by decide +kernel⟩, List.mem_of_getElem? (i := 30) (by decide +kernel), List.mem_of_getElem? (i := 488) (by decide +kernel), List.mem_of_getElem? (i := 489) (by decide +kernel)⟩
theorem lw_p4 : lw_okq (⟨"RealmDesk", "realmsThere", "()I"⟩, 5) := ⟨⟨by decide +kernel, by decide +kernel⟩, List.mem_of_getElem? (i := 30) (by decide +kernel), List.mem_of_getElem? (i := 504) (by decide +kernel), List.mem_of_getElem? (i := 505) (by decide +kernel)⟩
theorem lw_p5 : lw_okq (⟨"java/util/ArrayList", "add", "(Ljava/lang/Object;[Ljava/lang/Object;I)V"⟩, 3) := ⟨⟨by decide +kernel, by decide +kernel⟩, List.mem_of_getElem? (i := 71) (by decide +kernel), List.mem_of_getElem? (i := 576) (by decide +kernel), List.mem_of_getElem? (i := 577) (by decide +kernel)⟩
theorem lw_p6 : lw_okq (⟨"java/util/ArrayList", "grow", "()[Ljava/lang/Object;"⟩, 3) := ⟨⟨by decide +kernel, by decide +kernel⟩, List.mem_of_getElem? (i := 71) (by decide +kernel), List.mem_of_getElem? (i := 580) (by decide +kernel), List.mem_of_getElem? (i := 581) (by decide +kernel)⟩
theorem lw_p7 : lw_okq (⟨"java/util/ArrayList", "grow", "(I)[Ljava/lang/Object;"⟩, 3) := ⟨⟨by decide +kernel, by decide +kernel⟩, List.mem_of_getElem? (i := 71) (by decide +kernel), List.mem_of_getElem? (i := 584) (by decide +kernel), List.mem_of_getElem? (i := 585) (by decide +kernel)⟩
theorem lw_p8 : lw_okq (⟨"RealmDesk", "setOrder", "(Ljava/lang/String;)I"⟩, 5) := ⟨⟨by decide +kernel, by decide +kernel⟩, List.mem_of_getElem? (i := 30) (by decide +kernel), List.mem_of_getElem? (i := 617) (by decide +kernel), List.mem_of_getElem? (i := 618) (by decide +kernel)⟩
theorem lw_p9 : lw_okq (⟨"RealmDesk", "latestRealm", "()LRealmDesk$Realm;"⟩, 5) := ⟨⟨by decide +kernel, by decide +kernel⟩, List.mem_of_getElem? (i := 30) (by decide +kernel), List.mem_of_getElem? (i := 634) (by decide +kernel), List.mem_of_getElem? (i := 635) (by decide +kernel)⟩
theorem lw_p10 : lw_okq (⟨"RealmDesk", "readPair", "(Ljava/lang/String;Ljava/lang/String;)I"⟩, 5) := ⟨⟨by decide +kernel, by decide +kernel⟩, List.mem_of_getElem? (i := 30) (by decide +kernel), List.mem_of_getElem? (i := 657) (by decide +kernel), List.mem_of_getElem? (i := 658) (by decide +kernel)⟩
theorem lw_p11 : lw_okq (⟨"RealmDesk", "addArchive", "(Ljava/lang/String;)I"⟩, 5) := ⟨⟨by decide +kernel, by decide +kernel⟩, List.mem_of_getElem? (i := 30) (by decide +kernel), List.mem_of_getElem? (i := 662) (by decide +kernel), List.mem_of_getElem? (i := 663) (by decide +kernel)⟩
theorem lw_p12 : lw_okq (⟨"RealmDesk", "archiveWith", "(Ljava/lang/String;)LRealmDesk$Archive;"⟩, 5) := ⟨⟨by decide +kernel, by decide +kernel⟩, List.mem_of_getElem? (i := 30) (by decide +kernel), List.mem_of_getElem? (i := 669) (by decide +kernel), List.mem_of_getElem? (i := 670) (by decide +kernel)⟩
theorem lw_p13 : lw_okq (⟨"RealmDesk", "addName", "(Ljava/lang/String;)I"⟩, 5) := ⟨⟨by decide +kernel, by decide +kernel⟩, List.mem_of_getElem? (i := 30) (by decide +kernel), List.mem_of_getElem? (i := 698) (by decide +kernel), List.mem_of_getElem? (i := 699) (by decide +kernel)⟩
theorem lw_p14 : lw_okq (⟨"RealmDesk", "latestArchive", "()LRealmDesk$Archive;"⟩, 5) := ⟨⟨by decide +kernel, by decide +kernel⟩, List.mem_of_getElem? (i := 30) (by decide +kernel), List.mem_of_getElem? (i := 702) (by decide +kernel), List.mem_of_getElem? (i := 703) (by decide +kernel)⟩
theorem lw_p15 : lw_okq (⟨"RealmDesk", "addRealm", "(Ljava/lang/String;)I"⟩, 5) := ⟨⟨by decide +kernel, by decide +kernel⟩, List.mem_of_getElem? (i := 30) (by decide +kernel), List.mem_of_getElem? (i := 718) (by decide +kernel), List.mem_of_getElem? (i := 719) (by decide +kernel)⟩
def lw_privs_1 : List (MethodName × Nat) := [(⟨"RealmDesk", "isThere", "(I)Z"⟩, 5), (⟨"RealmDesk", "takeWritten", "()Ljava/lang/String;"⟩, 5), (⟨"java/lang/Throwable", "fillInStackTrace", "(I)Ljava/lang/Throwable;"⟩, 6), (⟨"RealmDesk", "realmWith", "(Ljava/lang/String;)LRealmDesk$Realm;"⟩, 5), (⟨"RealmDesk", "realmsThere", "()I"⟩, 5), (⟨"java/util/ArrayList", "add", "(Ljava/lang/Object;[Ljava/lang/Object;I)V"⟩, 3), (⟨"java/util/ArrayList", "grow", "()[Ljava/lang/Object;"⟩, 3), (⟨"java/util/ArrayList", "grow", "(I)[Ljava/lang/Object;"⟩, 3), (⟨"RealmDesk", "setOrder", "(Ljava/lang/String;)I"⟩, 5), (⟨"RealmDesk", "latestRealm", "()LRealmDesk$Realm;"⟩, 5), (⟨"RealmDesk", "readPair", "(Ljava/lang/String;Ljava/lang/String;)I"⟩, 5), (⟨"RealmDesk", "addArchive", "(Ljava/lang/String;)I"⟩, 5), (⟨"RealmDesk", "archiveWith", "(Ljava/lang/String;)LRealmDesk$Archive;"⟩, 5), (⟨"RealmDesk", "addName", "(Ljava/lang/String;)I"⟩, 5), (⟨"RealmDesk", "latestArchive", "()LRealmDesk$Archive;"⟩, 5), (⟨"RealmDesk", "addRealm", "(Ljava/lang/String;)I"⟩, 5)]
theorem lw_r1 : ∀ q ∈ lw_privs_1, lw_okq q := List.forall_mem_cons.mpr ⟨lw_p0, List.forall_mem_cons.mpr ⟨lw_p1, List.forall_mem_cons.mpr ⟨lw_p2, List.forall_mem_cons.mpr ⟨lw_p3, List.forall_mem_cons.mpr ⟨lw_p4, List.forall_mem_cons.mpr ⟨lw_p5, List.forall_mem_cons.mpr ⟨lw_p6, List.forall_mem_cons.mpr ⟨lw_p7, List.forall_mem_cons.mpr ⟨lw_p8, List.forall_mem_cons.mpr ⟨lw_p9, List.forall_mem_cons.mpr ⟨lw_p10, List.forall_mem_cons.mpr ⟨lw_p11, List.forall_mem_cons.mpr ⟨lw_p12, List.forall_mem_cons.mpr ⟨lw_p13, List.forall_mem_cons.mpr ⟨lw_p14, List.forall_mem_cons.mpr ⟨lw_p15, fun _ h => absurd h List.not_mem_nil⟩⟩⟩⟩⟩⟩⟩⟩⟩⟩⟩⟩⟩⟩⟩⟩
theorem lw_p16 : lw_okq (⟨"RealmDesk", "addLoaded", "(Ljava/lang/String;)I"⟩, 5) := ⟨⟨by decide +kernel, by decide +kernel⟩, List.mem_of_getElem? (i := 30) (by decide +kernel), List.mem_of_getElem? (i := 767) (by decide +kernel), List.mem_of_getElem? (i := 768) (by decide +kernel)⟩
theorem lw_p17 : lw_okq (⟨"RealmDesk", "setParent", "(Ljava/lang/String;)I"⟩, 5) := ⟨⟨by decide +kernel, by decide +kernel⟩, List.mem_of_getElem? (i := 30) (by decide +kernel), List.mem_of_getElem? (i := 778) (by decide +kernel), List.mem_of_getElem? (i := 779) (by decide +kernel)⟩
theorem lw_p18 : lw_okq (⟨"RealmDesk", "readFour", "(Ljava/util/ArrayList;)I"⟩, 5) := ⟨⟨by decide +kernel, by decide +kernel⟩, List.mem_of_getElem? (i := 30) (by decide +kernel), List.mem_of_getElem? (i := 782) (by decide +kernel), List.mem_of_getElem? (i := 783) (by decide +kernel)⟩
theorem lw_p19 : lw_okq (⟨"RealmDesk", "addImport", "(Ljava/lang/String;Ljava/lang/String;)I"⟩, 5) := ⟨⟨by decide +kernel, by decide +kernel⟩, List.mem_of_getElem? (i := 30) (by decide +kernel), List.mem_of_getElem? (i := 788) (by decide +kernel), List.mem_of_getElem? (i := 789) (by decide +kernel)⟩
theorem lw_p20 : lw_okq (⟨"java/util/ArrayList", "rangeCheckForAdd", "(I)V"⟩, 3) := ⟨⟨by decide +kernel, by decide +kernel⟩, List.mem_of_getElem? (i := 71) (by decide +kernel), List.mem_of_getElem? (i := 818) (by decide +kernel), List.mem_of_getElem? (i := 819) (by decide +kernel)⟩
theorem lw_p21 : lw_okq (⟨"RealmDesk", "lookFor", "(Ljava/lang/String;LRealmDesk$Realm;I)I"⟩, 5) := ⟨⟨by decide +kernel, by decide +kernel⟩, List.mem_of_getElem? (i := 30) (by decide +kernel), List.mem_of_getElem? (i := 831) (by decide +kernel), List.mem_of_getElem? (i := 832) (by decide +kernel)⟩
theorem lw_p22 : lw_okq (⟨"RealmDesk", "noteAsked", "(LRealmDesk$Realm;)V"⟩, 5) := ⟨⟨by decide +kernel, by decide +kernel⟩, List.mem_of_getElem? (i := 30) (by decide +kernel), List.mem_of_getElem? (i := 841) (by decide +kernel), List.mem_of_getElem? (i := 842) (by decide +kernel)⟩
theorem lw_p23 : lw_okq (⟨"RealmDesk", "lookInPlaces", "(Ljava/lang/String;LRealmDesk$Realm;I)I"⟩, 5) := ⟨⟨by decide +kernel, by decide +kernel⟩, List.mem_of_getElem? (i := 30) (by decide +kernel), List.mem_of_getElem? (i := 845) (by decide +kernel), List.mem_of_getElem? (i := 846) (by decide +kernel)⟩
theorem lw_p24 : lw_okq (⟨"RealmDesk", "lookInImports", "(Ljava/lang/String;LRealmDesk$Realm;)I"⟩, 5) := ⟨⟨by decide +kernel, by decide +kernel⟩, List.mem_of_getElem? (i := 30) (by decide +kernel), List.mem_of_getElem? (i := 849) (by decide +kernel), List.mem_of_getElem? (i := 850) (by decide +kernel)⟩
theorem lw_p25 : lw_okq (⟨"RealmDesk", "lookInParent", "(Ljava/lang/String;LRealmDesk$Realm;I)I"⟩, 5) := ⟨⟨by decide +kernel, by decide +kernel⟩, List.mem_of_getElem? (i := 30) (by decide +kernel), List.mem_of_getElem? (i := 859) (by decide +kernel), List.mem_of_getElem? (i := 860) (by decide +kernel)⟩
theorem lw_p26 : lw_okq (⟨"RealmDeskModel", "split", "()V"⟩, 29) := ⟨⟨by decide +kernel, by decide +kernel⟩, List.mem_of_getElem? (i := 893) (by decide +kernel), List.mem_of_getElem? (i := 998) (by decide +kernel), List.mem_of_getElem? (i := 999) (by decide +kernel)⟩
theorem lw_p27 : lw_okq (⟨"RealmDeskModel", "says", "(IIIII)Z"⟩, 29) := ⟨⟨by decide +kernel, by decide +kernel⟩, List.mem_of_getElem? (i := 893) (by decide +kernel), List.mem_of_getElem? (i := 1002) (by decide +kernel), List.mem_of_getElem? (i := 1003) (by decide +kernel)⟩
theorem lw_p28 : lw_okq (⟨"RealmDeskModel", "isLong", "(II)Z"⟩, 29) := ⟨⟨by decide +kernel, by decide +kernel⟩, List.mem_of_getElem? (i := 893) (by decide +kernel), List.mem_of_getElem? (i := 1006) (by decide +kernel), List.mem_of_getElem? (i := 1007) (by decide +kernel)⟩
theorem lw_p29 : lw_okq (⟨"RealmDeskModel", "ends", "(III)Z"⟩, 29) := ⟨⟨by decide +kernel, by decide +kernel⟩, List.mem_of_getElem? (i := 893) (by decide +kernel), List.mem_of_getElem? (i := 1010) (by decide +kernel), List.mem_of_getElem? (i := 1011) (by decide +kernel)⟩
theorem lw_p30 : lw_okq (⟨"RealmDeskModel", "newArchive", "()I"⟩, 29) := ⟨⟨by decide +kernel, by decide +kernel⟩, List.mem_of_getElem? (i := 893) (by decide +kernel), List.mem_of_getElem? (i := 1014) (by decide +kernel), List.mem_of_getElem? (i := 1015) (by decide +kernel)⟩
theorem lw_p31 : lw_okq (⟨"RealmDeskModel", "wordOf", "(I)I"⟩, 29) := ⟨⟨by decide +kernel, by decide +kernel⟩, List.mem_of_getElem? (i := 893) (by decide +kernel), List.mem_of_getElem? (i := 1018) (by decide +kernel), List.mem_of_getElem? (i := 1019) (by decide +kernel)⟩
def lw_privs_2 : List (MethodName × Nat) := [(⟨"RealmDesk", "addLoaded", "(Ljava/lang/String;)I"⟩, 5), (⟨"RealmDesk", "setParent", "(Ljava/lang/String;)I"⟩, 5), (⟨"RealmDesk", "readFour", "(Ljava/util/ArrayList;)I"⟩, 5), (⟨"RealmDesk", "addImport", "(Ljava/lang/String;Ljava/lang/String;)I"⟩, 5), (⟨"java/util/ArrayList", "rangeCheckForAdd", "(I)V"⟩, 3), (⟨"RealmDesk", "lookFor", "(Ljava/lang/String;LRealmDesk$Realm;I)I"⟩, 5), (⟨"RealmDesk", "noteAsked", "(LRealmDesk$Realm;)V"⟩, 5), (⟨"RealmDesk", "lookInPlaces", "(Ljava/lang/String;LRealmDesk$Realm;I)I"⟩, 5), (⟨"RealmDesk", "lookInImports", "(Ljava/lang/String;LRealmDesk$Realm;)I"⟩, 5), (⟨"RealmDesk", "lookInParent", "(Ljava/lang/String;LRealmDesk$Realm;I)I"⟩, 5), (⟨"RealmDeskModel", "split", "()V"⟩, 29), (⟨"RealmDeskModel", "says", "(IIIII)Z"⟩, 29), (⟨"RealmDeskModel", "isLong", "(II)Z"⟩, 29), (⟨"RealmDeskModel", "ends", "(III)Z"⟩, 29), (⟨"RealmDeskModel", "newArchive", "()I"⟩, 29), (⟨"RealmDeskModel", "wordOf", "(I)I"⟩, 29)]
theorem lw_r2 : ∀ q ∈ lw_privs_2, lw_okq q := List.forall_mem_cons.mpr ⟨lw_p16, List.forall_mem_cons.mpr ⟨lw_p17, List.forall_mem_cons.mpr ⟨lw_p18, List.forall_mem_cons.mpr ⟨lw_p19, List.forall_mem_cons.mpr ⟨lw_p20, List.forall_mem_cons.mpr ⟨lw_p21, List.forall_mem_cons.mpr ⟨lw_p22, List.forall_mem_cons.mpr ⟨lw_p23, List.forall_mem_cons.mpr ⟨lw_p24, List.forall_mem_cons.mpr ⟨lw_p25, List.forall_mem_cons.mpr ⟨lw_p26, List.forall_mem_cons.mpr ⟨lw_p27, List.forall_mem_cons.mpr ⟨lw_p28, List.forall_mem_cons.mpr ⟨lw_p29, List.forall_mem_cons.mpr ⟨lw_p30, List.forall_mem_cons.mpr ⟨lw_p31, fun _ h => absurd h List.not_mem_nil⟩⟩⟩⟩⟩⟩⟩⟩⟩⟩⟩⟩⟩⟩⟩⟩
theorem lw_p32 : lw_okq (⟨"RealmDeskModel", "nameOf", "(I)J"⟩, 29) := ⟨⟨by decide +kernel, by decide +kernel⟩, List.mem_of_getElem? (i := 893) (by decide +kernel), List.mem_of_getElem? (i := 1022) (by decide +kernel), List.mem_of_getElem? (i := 1023) (by decide +kernel)⟩
theorem lw_p33 : lw_okq (⟨"RealmDeskModel", "archiveOf", "(I)I"⟩, 29) := ⟨⟨by decide +kernel, by decide +kernel⟩, List.mem_of_getElem? (i := 893) (by decide +kernel), List.mem_of_getElem? (i := 1027) (by decide +kernel), List.mem_of_getElem? (i := 1028) (by decide +kernel)⟩
theorem lw_p34 : lw_okq (⟨"RealmDeskModel", "newName", "()I"⟩, 29) := ⟨⟨by decide +kernel, by decide +kernel⟩, List.mem_of_getElem? (i := 893) (by decide +kernel), List.mem_of_getElem? (i := 1031) (by decide +kernel), List.mem_of_getElem? (i := 1032) (by decide +kernel)⟩
theorem lw_p35 : lw_okq (⟨"RealmDeskModel", "isIn", "(IJ)Z"⟩, 29) := ⟨⟨by decide +kernel, by decide +kernel⟩, List.mem_of_getElem? (i := 893) (by decide +kernel), List.mem_of_getElem? (i := 1035) (by decide +kernel), List.mem_of_getElem? (i := 1036) (by decide +kernel)⟩
theorem lw_p36 : lw_okq (⟨"RealmDeskModel", "newRealm", "()I"⟩, 29) := ⟨⟨by decide +kernel, by decide +kernel⟩, List.mem_of_getElem? (i := 893) (by decide +kernel), List.mem_of_getElem? (i := 1039) (by decide +kernel), List.mem_of_getElem? (i := 1040) (by decide +kernel)⟩
theorem lw_p37 : lw_okq (⟨"RealmDeskModel", "realmOf", "(I)I"⟩, 29) := ⟨⟨by decide +kernel, by decide +kernel⟩, List.mem_of_getElem? (i := 893) (by decide +kernel), List.mem_of_getElem? (i := 1043) (by decide +kernel), List.mem_of_getElem? (i := 1044) (by decide +kernel)⟩
theorem lw_p38 : lw_okq (⟨"RealmDeskModel", "loads", "()I"⟩, 29) := ⟨⟨by decide +kernel, by decide +kernel⟩, List.mem_of_getElem? (i := 893) (by decide +kernel), List.mem_of_getElem? (i := 1047) (by decide +kernel), List.mem_of_getElem? (i := 1048) (by decide +kernel)⟩
theorem lw_p39 : lw_okq (⟨"RealmDeskModel", "isShut", "()Z"⟩, 29) := ⟨⟨by decide +kernel, by decide +kernel⟩, List.mem_of_getElem? (i := 893) (by decide +kernel), List.mem_of_getElem? (i := 1051) (by decide +kernel), List.mem_of_getElem? (i := 1052) (by decide +kernel)⟩
theorem lw_p40 : lw_okq (⟨"RealmDeskModel", "newImport", "()I"⟩, 29) := ⟨⟨by decide +kernel, by decide +kernel⟩, List.mem_of_getElem? (i := 893) (by decide +kernel), List.mem_of_getElem? (i := 1055) (by decide +kernel), List.mem_of_getElem? (i := 1056) (by decide +kernel)⟩
theorem lw_p41 : lw_okq (⟨"RealmDeskModel", "newParent", "()I"⟩, 29) := ⟨⟨by decide +kernel, by decide +kernel⟩, List.mem_of_getElem? (i := 893) (by decide +kernel), List.mem_of_getElem? (i := 1059) (by decide +kernel), List.mem_of_getElem? (i := 1060) (by decide +kernel)⟩
theorem lw_p42 : lw_okq (⟨"RealmDeskModel", "ordered", "(Z)I"⟩, 29) := ⟨⟨by decide +kernel, by decide +kernel⟩, List.mem_of_getElem? (i := 893) (by decide +kernel), List.mem_of_getElem? (i := 1063) (by decide +kernel), List.mem_of_getElem? (i := 1064) (by decide +kernel)⟩
theorem lw_p43 : lw_okq (⟨"RealmDeskModel", "fails", "(I)I"⟩, 29) := ⟨⟨by decide +kernel, by decide +kernel⟩, List.mem_of_getElem? (i := 893) (by decide +kernel), List.mem_of_getElem? (i := 1067) (by decide +kernel), List.mem_of_getElem? (i := 1068) (by decide +kernel)⟩
theorem lw_p44 : lw_okq (⟨"RealmDeskModel", "keptOf", "(IJ)I"⟩, 29) := ⟨⟨by decide +kernel, by decide +kernel⟩, List.mem_of_getElem? (i := 893) (by decide +kernel), List.mem_of_getElem? (i := 1075) (by decide +kernel), List.mem_of_getElem? (i := 1076) (by decide +kernel)⟩
theorem lw_p45 : lw_okq (⟨"RealmDeskModel", "search", "(IJ)I"⟩, 29) := ⟨⟨by decide +kernel, by decide +kernel⟩, List.mem_of_getElem? (i := 893) (by decide +kernel), List.mem_of_getElem? (i := 1079) (by decide +kernel), List.mem_of_getElem? (i := 1080) (by decide +kernel)⟩
theorem lw_p46 : lw_okq (⟨"RealmDeskModel", "push", "(I)V"⟩, 29) := ⟨⟨by decide +kernel, by decide +kernel⟩, List.mem_of_getElem? (i := 893) (by decide +kernel), List.mem_of_getElem? (i := 1083) (by decide +kernel), List.mem_of_getElem? (i := 1084) (by decide +kernel)⟩
theorem lw_p47 : lw_okq (⟨"RealmDeskModel", "note", "(I)V"⟩, 29) := ⟨⟨by decide +kernel, by decide +kernel⟩, List.mem_of_getElem? (i := 893) (by decide +kernel), List.mem_of_getElem? (i := 1087) (by decide +kernel), List.mem_of_getElem? (i := 1088) (by decide +kernel)⟩
def lw_privs_3 : List (MethodName × Nat) := [(⟨"RealmDeskModel", "nameOf", "(I)J"⟩, 29), (⟨"RealmDeskModel", "archiveOf", "(I)I"⟩, 29), (⟨"RealmDeskModel", "newName", "()I"⟩, 29), (⟨"RealmDeskModel", "isIn", "(IJ)Z"⟩, 29), (⟨"RealmDeskModel", "newRealm", "()I"⟩, 29), (⟨"RealmDeskModel", "realmOf", "(I)I"⟩, 29), (⟨"RealmDeskModel", "loads", "()I"⟩, 29), (⟨"RealmDeskModel", "isShut", "()Z"⟩, 29), (⟨"RealmDeskModel", "newImport", "()I"⟩, 29), (⟨"RealmDeskModel", "newParent", "()I"⟩, 29), (⟨"RealmDeskModel", "ordered", "(Z)I"⟩, 29), (⟨"RealmDeskModel", "fails", "(I)I"⟩, 29), (⟨"RealmDeskModel", "keptOf", "(IJ)I"⟩, 29), (⟨"RealmDeskModel", "search", "(IJ)I"⟩, 29), (⟨"RealmDeskModel", "push", "(I)V"⟩, 29), (⟨"RealmDeskModel", "note", "(I)V"⟩, 29)]
theorem lw_r3 : ∀ q ∈ lw_privs_3, lw_okq q := List.forall_mem_cons.mpr ⟨lw_p32, List.forall_mem_cons.mpr ⟨lw_p33, List.forall_mem_cons.mpr ⟨lw_p34, List.forall_mem_cons.mpr ⟨lw_p35, List.forall_mem_cons.mpr ⟨lw_p36, List.forall_mem_cons.mpr ⟨lw_p37, List.forall_mem_cons.mpr ⟨lw_p38, List.forall_mem_cons.mpr ⟨lw_p39, List.forall_mem_cons.mpr ⟨lw_p40, List.forall_mem_cons.mpr ⟨lw_p41, List.forall_mem_cons.mpr ⟨lw_p42, List.forall_mem_cons.mpr ⟨lw_p43, List.forall_mem_cons.mpr ⟨lw_p44, List.forall_mem_cons.mpr ⟨lw_p45, List.forall_mem_cons.mpr ⟨lw_p46, List.forall_mem_cons.mpr ⟨lw_p47, fun _ h => absurd h List.not_mem_nil⟩⟩⟩⟩⟩⟩⟩⟩⟩⟩⟩⟩⟩⟩⟩⟩
theorem lw_p48 : lw_okq (⟨"RealmDeskModel", "byImports", "(IJ)I"⟩, 29) := ⟨⟨by decide +kernel, by decide +kernel⟩, List.mem_of_getElem? (i := 893) (by decide +kernel), List.mem_of_getElem? (i := 1091) (by decide +kernel), List.mem_of_getElem? (i := 1092) (by decide +kernel)⟩
theorem lw_p49 : lw_okq (⟨"RealmDeskModel", "own", "(IJ)I"⟩, 29) := ⟨⟨by decide +kernel, by decide +kernel⟩, List.mem_of_getElem? (i := 893) (by decide +kernel), List.mem_of_getElem? (i := 1106) (by decide +kernel), List.mem_of_getElem? (i := 1107) (by decide +kernel)⟩
theorem lw_p50 : lw_okq (⟨"RealmDeskModel", "found", "(II)I"⟩, 29) := ⟨⟨by decide +kernel, by decide +kernel⟩, List.mem_of_getElem? (i := 893) (by decide +kernel), List.mem_of_getElem? (i := 1110) (by decide +kernel), List.mem_of_getElem? (i := 1111) (by decide +kernel)⟩
theorem lw_p51 : lw_okq (⟨"RealmDeskModel", "ownPlace", "(IJ)I"⟩, 29) := ⟨⟨by decide +kernel, by decide +kernel⟩, List.mem_of_getElem? (i := 893) (by decide +kernel), List.mem_of_getElem? (i := 1114) (by decide +kernel), List.mem_of_getElem? (i := 1115) (by decide +kernel)⟩
theorem lw_p52 : lw_okq (⟨"RealmDeskModel", "up", "(IJ)I"⟩, 29) := ⟨⟨by decide +kernel, by decide +kernel⟩, List.mem_of_getElem? (i := 893) (by decide +kernel), List.mem_of_getElem? (i := 1118) (by decide +kernel), List.mem_of_getElem? (i := 1119) (by decide +kernel)⟩
theorem lw_p53 : lw_okq (⟨"RealmDeskModel", "isOpen", "(I)Z"⟩, 29) := ⟨⟨by decide +kernel, by decide +kernel⟩, List.mem_of_getElem? (i := 893) (by decide +kernel), List.mem_of_getElem? (i := 1122) (by decide +kernel), List.mem_of_getElem? (i := 1123) (by decide +kernel)⟩
theorem lw_p54 : lw_okq (⟨"RealmDeskModel", "isRealm", "(I)Z"⟩, 29) := ⟨⟨by decide +kernel, by decide +kernel⟩, List.mem_of_getElem? (i := 893) (by decide +kernel), List.mem_of_getElem? (i := 1138) (by decide +kernel), List.mem_of_getElem? (i := 1139) (by decide +kernel)⟩
def lw_privs_4 : List (MethodName × Nat) := [(⟨"RealmDeskModel", "byImports", "(IJ)I"⟩, 29), (⟨"RealmDeskModel", "own", "(IJ)I"⟩, 29), (⟨"RealmDeskModel", "found", "(II)I"⟩, 29), (⟨"RealmDeskModel", "ownPlace", "(IJ)I"⟩, 29), (⟨"RealmDeskModel", "up", "(IJ)I"⟩, 29), (⟨"RealmDeskModel", "isOpen", "(I)Z"⟩, 29), (⟨"RealmDeskModel", "isRealm", "(I)Z"⟩, 29)]
theorem lw_r4 : ∀ q ∈ lw_privs_4, lw_okq q := List.forall_mem_cons.mpr ⟨lw_p48, List.forall_mem_cons.mpr ⟨lw_p49, List.forall_mem_cons.mpr ⟨lw_p50, List.forall_mem_cons.mpr ⟨lw_p51, List.forall_mem_cons.mpr ⟨lw_p52, List.forall_mem_cons.mpr ⟨lw_p53, List.forall_mem_cons.mpr ⟨lw_p54, fun _ h => absurd h List.not_mem_nil⟩⟩⟩⟩⟩⟩⟩
def lw_privs : List (MethodName × Nat) := lw_privs_1 ++ (lw_privs_2 ++ (lw_privs_3 ++ (lw_privs_4)))
def lw_tbl : List Cond := k2_sels lw_privs ++ tables_1
theorem lw_privs_ok : ∀ q ∈ lw_privs, lw_okq q := by
  show ∀ q ∈ lw_privs_1 ++ (lw_privs_2 ++ (lw_privs_3 ++ (lw_privs_4))), lw_okq q
  exact List.forall_mem_append.mpr ⟨lw_r1, List.forall_mem_append.mpr ⟨lw_r2, List.forall_mem_append.mpr ⟨lw_r3, lw_r4⟩⟩⟩
end
section
/-! Methods that return or throw: their contracts, the walk's end in a throw, calls of them. -/
section XT
variable {p : Program} {l : Launch} {e : Env} {R : Room} {s : State} {m : MethodId} {args : Array Value} {below : List Frame} {meth : Method} {c : Code} {T : State} {H : Heap} {locs : List Loc} {cells slots : Nat} {Q : State → Prop}
theorem xt_mono {Q' : State → Prop} {g : JFrame} (h : ∀ t, Q t → Q' t) (k : W p l e R s m args below meth c H locs cells slots Q g) : W p l e R s m args below meth c H locs cells slots Q' g := by
  intro T hT X
  obtain ⟨t, a, b⟩ := k T hT X
  exact ⟨t, a, h t b⟩
/-- the tables are warmer, nothing has moved but the slots L, at most k cells of n slots are new -/
def xt_End (first t : State) (L : List Loc) (k n : Nat) : Prop := first.WarmedH t.vm ∧ first.sameButNew ({ t with vm := first.vm } : State) L k n
/-- the contract of a method that returns or throws -/
def xt_Met (l : Launch) (y : MethodName) (ws : List Cond) (rm : Room) (Pc : Array Value → State → Prop) (Qc : Array Value → State → Outcome → State → Prop) (mc ms : Nat) (free : Addr → Prop) : Prop :=
  MetFree l y (headSpec ws rm) Pc (fun _ _ _ _ _ => True) (fun a st o t => Qc a st o t ∧ ∃ L, xt_End st t L mc ms ∧ ∀ q ∈ L, free q.base)
theorem xt_of_met {y : MethodName} {ws : List Cond} {rm : Room} {Pc : Array Value → State → Prop} {Qc : Array Value → State → Outcome → State → Prop} {mc ms : Nat} {free : Addr → Prop}
    (h : Met l y ws rm Pc Qc mc ms free) : xt_Met l y ws rm Pc Qc mc ms free := by
  intro p e ha hc hk s m args below hf happ hP hK
  obtain ⟨n, o, h1, h2, h3, h4, L, h5, h6⟩ := h p e ha hc hk s m args below hf happ hP hK
  exact ⟨n, o, h1, h2, h3, h4, L, h5.2, h6⟩
def xt_MQ (below : List Frame) (Qc : Array Value → State → Outcome → State → Prop) (a : Array Value) (s : State) (mc ms : Nat) (free : Addr → Prop) : State → Prop := fun t =>
  ∃ o, t.status = .running ∧ Ended t below o ∧ Qc a s o t ∧ ∃ L, xt_End s t L mc ms ∧ ∀ q ∈ L, free q.base
theorem xt_ofMQ {Qc : Array Value → State → Outcome → State → Prop} {mc ms : Nat} {free : Addr → Prop} (t : State) (h : MQ below Qc args s mc ms free t) : xt_MQ below Qc args s mc ms free t := by
  obtain ⟨o, h1, h2, h3, L, h4, h5⟩ := h
  exact ⟨o, h1, h2, h3, L, h4.2, h5⟩
theorem xt_ofW {y : MethodName} {ws ws' : List Cond} {rm : Room} {Pc : Array Value → State → Prop} {Qc : Array Value → State → Outcome → State → Prop} {mc ms : Nat} {free : Addr → Prop} {cc : ByteArray} {maxL : Nat} {ret : Option FieldType}
    (hy : plainName y.cls = true) (hw : ws = Cond.code y cc maxL ret :: ws')
    (body : ∀ p e s m args below meth c s₁, BodyLoose p l y (headSpec ws rm) cc maxL ret e s m args below meth c s₁ → c.maxLocals = maxL → Pc args s →
      W p l e (headSpec ws rm).room s m args below meth c s.heap [] 0 0 (xt_MQ below Qc args s mc ms free) (entryFrame m args maxL)) : xt_Met l y ws rm Pc Qc mc ms free := by
  refine MetFree.of_bodyS (code := cc) (maxLocals := maxL) (ret := ret) hy ?_ ?_
  · intro args s m h hn
    obtain ⟨meth, c, h1, h2, h3, h4, h5, h6, -, -⟩ := Cond.code_spec hn (atoms_spec (ws := ws) h _ (by rw [hw]; exact List.mem_cons_self))
    exact ⟨meth, c, h1, h2, h3, h4, h5, h6⟩
  · intro p e s m args below meth c s₁ B hml hP _
    have hh0 : s₁.heap = s.heap := by rw [B.state]; rfl
    obtain ⟨t, a1, o, b1, b2, b3⟩ := body p e s m args below meth c s₁ B hml hP s₁ hh0 (Stand.of_body B)
    exact ⟨t, o, a1, b1, b2, b3⟩
/-- the walk seen from here: the state before this instruction as if the method had just been invoked -/
theorem xt_here (X : Stand p l e R s m args below meth c T locs cells slots) {R' : Room} (hfr : R'.frames ≤ R.frames) (hlo : R'.locals ≤ R.locals) (hce : cells + R'.cells ≤ R.cells) (hsl : slots + R'.slots ≤ R.slots) :
    Stand p l e R' (T.setFrames (.invoking m args :: below)) m args below meth c T [] 0 0 := by
  obtain ⟨g₀, hf0⟩ := X.frames_eq
  have hcur : T.cur < T.threads.size := State.cur_lt_of_frames hf0
  have hF : (T.setFrames (.invoking m args :: below)).frames = .invoking m args :: below := State.frames_setFrames _ hcur
  obtain ⟨th, hth, -⟩ := State.frames_cons hf0
  have hroom : (T.setFrames (.invoking m args :: below)).hasRoom e.platform R' = true := by
    obtain ⟨r1, r2, r3, r4⟩ := State.hasRoom_stack X.room
    have r5 := State.hasRoom_real X.room
    have h := X.room
    simp only [State.hasRoom, Bool.and_eq_true, decide_eq_true_eq] at h
    rw [State.localsInUse_invoking X.frames X.method X.code] at r3 r4 r5
    rw [X.frames, List.length_cons] at r1 r2
    have hU := State.localsInUse_invoking hF (meth := meth) (c := c) X.method' X.code
    have hz := X.heapSize
    have hu := X.used
    have hb := X.book
    simp only [State.hasRoom, Bool.and_eq_true, decide_eq_true_eq, hF, hU, List.length_cons, State.stackLimits_setFrames, State.stackBytes_setFrames, X.limits, X.bytes]
    refine ⟨⟨⟨⟨by omega, by omega, by omega, by omega, by omega, h.1.1.1.2.2.2.2.2⟩, ?_⟩, ?_⟩, hb⟩
    · have := h.1.1.2
      show T.heap.size + R'.cells ≤ e.platform.maxCells
      omega
    · have := h.1.2
      show T.slotsUsed + R'.slots ≤ e.platform.maxSlots
      omega
  have hhears : (T.setFrames (.invoking m args :: below)).hears m below = true := by
    have h := X.hears
    have hal := X.warmed.alike
    rcases below with _ | ⟨y, r⟩
    · simp only [State.hears] at h ⊢
      rw [show (T.setFrames (.invoking m args :: [])).vm.method? m = s.vm.method? m from hal.method? m]
      exact h
    · cases y <;> simp only [State.hears, State.code?_eq] at h ⊢ <;> first | (rw [show (T.setFrames _).vm.method? _ = s.vm.method? _ from hal.method? _]; exact h) | exact h
  refine ⟨X.admits, X.cas, X.clock, hF, hroom, hhears, X.method', X.code, X.here, X.tail, State.WarmedH.refl T, ?_, ?_, ?_⟩
  · rw [State.stackLimits_setFrames]
  · rw [State.stackBytes_setFrames]
  · have h := (State.sameButNew.refl T hth)
    refine ⟨?_, Nat.le_refl _, Nat.le_refl _, ?_, ?_, fun a c h => ⟨c, h, rfl, rfl, fun _ _ => rfl⟩⟩
    · show T = { (T.setFrames (.invoking m args :: below)).setFrames T.frames with heap := T.heap, slotsUsed := T.slotsUsed }
      rw [State.setFrames_setFrames, State.setFrames_self hth]
    · exact h.2.2.2.1
    · exact h.2.2.2.2.1
end XT
end
section
section XC
variable {p : Program} {l : Launch} {e : Env} {R : Room} {s : State} {m : MethodId} {args : Array Value} {below : List Frame} {meth : Method} {c : Code} {T : State} {H : Heap} {locs : List Loc} {cells slots : Nat} {Q : State → Prop}
variable {y : MethodName} {ws : List Cond} {rm : Room} {Pc : Array Value → State → Prop} {Qc : Array Value → State → Outcome → State → Prop} {mc ms : Nat} {free : Addr → Prop} {bytes : ByteArray} {maxL : Nat} {ret : Option FieldType}
/-- a call of a method with such a contract: it comes back, or the note of what it threw lies on the caller's frame -/
theorem xt_back (X : Stand p l e R s m args below meth c T locs cells slots) {g : JFrame} (hg : g.method = m) (hsize : g.locals.size = c.maxLocals) {ig : Instr} {len : Nat} (hdg : decode c.code g.pc = .ok (ig, len))
    {mk : MethodId} {a : Array Value} (hM : xt_Met l y ws rm Pc Qc mc ms free) (hn : T.methodNamed? y = some mk) (hpre : ∀ w ∈ ws, w.before a T = true) (hcode : (Cond.code y bytes maxL ret).before a T = true) (hini : (Cond.initialized y.cls).before a T = true)
    (hrc : rm.cells = mc) (hrs : rm.slots = ms) (hframes : rm.frames + 1 ≤ R.frames) (hlocals : 2 * g.monitorRoom + (g.stack.map fun v => v.category).sum + (maxL + 11) + rm.locals ≤ R.locals) (hcells : cells + mc ≤ R.cells) (hslots : slots + ms ≤ R.slots)
    (hP : Pc a (T.calling g mk a)) :
    ∃ (o : Outcome) (t T' : State) (L : List Loc), Stand p l e R s m args below meth c T' (locs ++ L) (cells + mc) (slots + ms) ∧ T'.heap = t.heap ∧ T'.vm = t.vm ∧ (∀ q ∈ L, free q.base) ∧ Qc a (T.calling g mk a) o t ∧
      Steps p.tables e below (doInvoke e (T.setTop g) [] mk a).1 t ∧
      (∀ v, o = .returned v → t = T'.setTop { g with pc := g.pc + len, stack := v.toList ++ g.stack }) ∧ (∀ x, o = .threw x → t = (T'.setTop g).pushFrame (.throwing x)) := by
  obtain ⟨methY, cY, hmY, hcY, -, hlY, -, -, -, -⟩ := Cond.code_spec hn hcode
  obtain ⟨kY, hkY, -⟩ := className_of_methodNamed hn
  have hinitY : kY.init = .initialized := Cond.initialized_spec (findClass_of_methodNamed hn) hkY hini
  have h : At T g.method c below := by rw [hg]; exact X.here
  have happ : (headSpec ws rm).appliesLoose y e.platform (T.calling g mk a) = true :=
    Spec.appliesLoose_calling (g := g) h hdg hn hkY hinitY
      (X.room_calling (g := g) (R' := rm) hsize hmY hcY hframes (by rw [hlY]; exact hlocals) (by rw [hrc]; exact hcells) (by rw [hrs]; exact hslots)) (atoms_intro hpre)
  obtain ⟨mid, hmid⟩ := h.above
  have hfr : (T.setTop g).frames = (.java g :: mid) ++ below := by rw [State.frames_setTop' g h.top, hmid]; rfl
  obtain ⟨o, t, hsteps, -, hend, hq, L, ⟨hW, hsame⟩, hL⟩ := Steps.callFree hM p X.admits X.cas X.clock (acts := []) hfr happ hP trivial
  rw [State.frames_setTop' g h.top, X.tail] at hend
  have hq' : Qc a (T.calling g mk a) o t := hq
  cases o with
  | returned v =>
    obtain ⟨T', X', -, -, ht⟩ := X.outOf hg hdg (mk := mk) (a := a) hend hW hsame
    refine ⟨.returned v, t, T', L, X', ?_, ?_, hL, hq', hsteps, ?_, fun x h => by cases h⟩
    · rw [ht]; simp [State.setTop, State.modifyTopJava]
    · rw [ht]; simp [State.setTop, State.modifyTopJava]
    · intro v2 h2
      cases h2
      exact ht
  | threw x =>
    obtain ⟨T', X', -, -, ht⟩ := X.outOfThrown hg (mk := mk) (a := a) hend hW hsame
    refine ⟨.threw x, t, T', L, X', ?_, ?_, hL, hq', hsteps, (fun x h => by cases h), ?_⟩
    · rw [ht]; exact (Stand.throwing_heap T' g x).symm
    · rw [ht]; exact (Stand.throwing_vm T' g x).symm
    · intro v2 h2
      cases h2
      exact ht
/-- the walk with the note that x is being thrown on the method's frame g -/
def xt_X (p : Program) (l : Launch) (e : Env) (R : Room) (s : State) (m : MethodId) (args : Array Value) (below : List Frame) (meth : Method) (c : Code) (H : Heap) (locs : List Loc) (cells slots : Nat) (Q : State → Prop) (g : JFrame) (x : Addr) : Prop :=
  ∀ T : State, T.heap = H → Stand p l e R s m args below meth c T locs cells slots → ∃ t, Steps p.tables e below ((T.setTop g).pushFrame (.throwing x)) t ∧ Q t
/-- no handler: the method ends by it -/
theorem xt_out {x : Addr} {g : JFrame} (hg : g.method = m) (hlk : g.locked = none) (hen : g.entered = []) (hout : ∀ z ∈ c.exceptionTable.toList, covers z g.pc = false) (hlocks : meth.locks = false)
    (hq : ∀ t : State, t.heap = H → s.WarmedH t.vm → Qc args s (.threw x) t) (hf : ∀ q ∈ locs, free q.base) : xt_X p l e R s m args below meth c H locs cells slots (xt_MQ below Qc args s cells slots free) g x := by
  intro T hT X
  obtain ⟨hw, hrun, hend, hW, hsame⟩ := X.leaveThrown x hg hlk hen hout hlocks
  exact ⟨_, hw, .threw x, hrun, hend, hq _ hT hW, locs, ⟨hW, hsame⟩, hf⟩
end XC
section XV
variable {p : Program} {l : Launch} {e : Env} {R : Room} {s : State} {m : MethodId} {args : Array Value} {below : List Frame} {meth : Method} {c : Code} {H : Heap} {locs : List Loc} {cells slots : Nat} {Q : State → Prop}
variable {y : MethodName} {bytes cc : ByteArray} {maxL nL mc ms n index : Nat} {ret : Option FieldType} {ws : List Cond} {rm : Room} {Pc : Array Value → State → Prop} {Qc : Array Value → State → Outcome → State → Prop} {free : Addr → Prop} {Ts : List Cond} {own C : String} {b : Addr} {As rest : List Value} {pc : Nat} {ls : Array Slot} {A0 A1 : Nat → Prop} {H0 : Heap}
/-- an invokevirtual of a method that returns or throws -/
theorem xt_callV (S : CallFix p m c cc nL s args Ts own) (hM : xt_Met l y ws rm Pc Qc mc ms free) (cw : CallW R s args own C index y bytes maxL ret ws rm mc ms n) (hp : PreV s H C b Pc As)
    (hn : As.length = n) (hsize : ls.size = nL) (hW : (rest.map fun v => v.category).sum ≤ 8) (hdg : decode cc pc = .ok (.invokevirtual index, 3)) (hf : cells + mc ≤ R.cells ∧ slots + ms ≤ R.slots)
    (kr : ∀ (v : Option Value) (st t : State) (L : List Loc), st.heap = H → s.vm.Alike t.vm → (∀ q ∈ L, free q.base) → Qc (Value.ref b :: As).toArray st (.returned v) t → W p l e R s m args below meth c t.heap (locs ++ L) (cells + mc) (slots + ms) Q (F0 m (pc + 3) ls (v.toList ++ rest)))
    (kx : ∀ (x : Addr) (st t : State) (L : List Loc), st.heap = H → s.vm.Alike t.vm → (∀ q ∈ L, free q.base) → Qc (Value.ref b :: As).toArray st (.threw x) t → xt_X p l e R s m args below meth c t.heap (locs ++ L) (cells + mc) (slots + ms) Q (F0 m pc ls rest) x) :
    W p l e R s m args below meth c H locs cells slots Q (F0 m pc ls (As.reverse ++ .ref b :: rest)) := by
  obtain ⟨⟨hrc, hrs, hfr, hlo, hws, hcw, hcode, hini, hy, hlen, hl⟩, hin, hse⟩ := cw
  obtain ⟨hx, hb, hml, ho, -⟩ := S
  obtain ⟨hbl, ⟨cellB, hcB, hoB, hclB⟩, hPc⟩ := hp
  intro T hT X
  obtain ⟨mk, methM, hnamed, hmethM, hstM, habM⟩ := Cond.instanceMethod_spec hin
  obtain ⟨methM', cM, hmethM', -, -, -, -, -, -, hsigM⟩ := Cond.code_spec hnamed hcode
  cases hmethM.symm.trans hmethM'
  obtain ⟨c2, r2, m2, q1, q2, q3, q4, kP, hkP, hkPi⟩ := Cond.selects_spec hse
  cases hclB.symm.trans q1
  cases (State.methodFound?_of_named hnamed hy).symm.trans q2
  cases hnamed.symm.trans q3
  have hselP : selectMethod e.platform s.vm cellB.cls mk = .method mk := by rw [Launch.admits_selectMethod X.admits]; exact q4
  obtain ⟨vm₁, X₁, hstep₁⟩ := X.invokevirtual hx ho hl hnamed hmethM hstM hkP hkPi hy (a := b) (cell := cellB) (by rw [hT]; exact hcB)
    (fun z h => by rw [h] at hoB; cases hoB) hselP hmethM habM hkP hkPi (g := F0 m pc ls (As.reverse ++ .ref b :: rest)) rfl (argsL := As) (rest := rest) (hn.trans (hlen _ hsigM)) rfl (by rw [hb]; exact hdg)
  obtain ⟨o, t, T', L, X', e1, e2, hL, hq, hst, hr, hth⟩ := xt_back X₁ (g := F0 m pc ls rest) rfl (hsize.trans hml.symm) (by rw [hb]; exact hdg) hM (X₁.named hnamed) (fun w hw => hws w hw _ _ X₁.warmed) (hws _ hcw _ _ X₁.warmed)
    (word_at X₁.warmed (Or.inl (by first | rfl | simp [Cond.onTables, Cond.keeps, Cond.steady])) hini) hrc hrs hfr (by show 2 * 0 + (rest.map fun v => v.category).sum + (maxL + 11) + rm.locals ≤ R.locals; omega) hf.1 hf.2 (hbl _ _ _ _ (hPc (T.setVm vm₁) hT X₁.warmed))
  have hal : s.vm.Alike t.vm := by rw [← e2]; exact X'.warmed.alike
  cases o with
  | returned v =>
    obtain ⟨t2, a1, b1⟩ := kr v _ t L (by show T.heap = H; exact hT) hal hL hq T' e1 X'
    have h1 := hr v rfl
    exact ⟨t2, hstep₁ _ (fun acts => by rw [doInvoke_state]; exact hst.trans (by rw [h1]; exact a1)), b1⟩
  | threw x =>
    obtain ⟨t2, a1, b1⟩ := kx x _ t L (by show T.heap = H; exact hT) hal hL hq T' e1 X'
    have h1 := hth x rfl
    exact ⟨t2, hstep₁ _ (fun acts => by rw [doInvoke_state]; exact hst.trans (by rw [h1]; exact a1)), b1⟩
end XV
end
section
/-! A handler whose class may not be resolved yet; 'throw new X()' with nothing else changed. -/
section XH
variable {E : CtlPost} {e : Env} {d : Bool} {acts : List Action} {s : State} {f : JFrame} {a : Addr} {Q : Handler → Pre}
theorem xt_go {x : ExceptionTableEntry} {t : List ExceptionTableEntry} {cT : ClassId} {vm' : Vm} (hx : covers x f.pc = true) (h0 : x.catchType ≠ 0)
    (hg : (Jvm.resolveClass f.method.cls x.catchType).Gives e.toSetting s.vm (.ok cT) vm') (hr : vm'.classReady f.method.cls x.catchType cT) (hsz : vm'.classes.size ≤ s.vm.classes.size) :
    wp (findHandler.go f a (x :: t)) Q E e d acts s ↔ wp (findHandler.go f a (x :: t)) Q E e d acts (s.setVm vm') := by
  obtain ⟨ha, ht⟩ := hg.op (op := VmOp.resolveClass f.method.cls x.catchType) rfl
  simp only [covers] at hx
  obtain ⟨k, hkd, hres⟩ := hr
  simp [findHandler.go, hx, h0, ha, ht, hsz, resolveClass_memo e hkd hres, VmOp.dirties, VmOp.acts]
  exact Iff.rfl
theorem xt_step {r : List Frame} {pc : Nat} {vm' : Vm} (hfind : ∀ (Q : Handler → Pre) (E : CtlPost) (d : Bool) (acts : List Action), wp (findHandler f a) Q E e d acts s ↔ Q (.found pc) d acts (s.setVm vm')) :
    (stepThrowing e s a (.java f :: r)).Is ((s.setVm vm').setFrames (.java { f with pc := pc, stack := [.ref a] } :: r)) [] := by
  simp only [stepThrowing, searchFrame, vmDo]
  generalize hr : Sem.go _ e false [] s = res
  obtain ⟨as, rfl, ha⟩ := Sem.eq_ok_of hr (a := Handler.found pc) (s' := s.setVm vm') (acts' := []) (by simp [hfind _ _ _ _])
  exact ⟨rfl, ha⟩
end XH
section XK
variable {p : Program} {l : Launch} {e : Env} {R : Room} {s : State} {m : MethodId} {args : Array Value} {below : List Frame} {meth : Method} {c : Code} {H : Heap} {locs : List Loc} {cells slots : Nat} {Q : State → Prop}
/-- the exception's class fits the handler's: the walk goes on there -/
theorem xt_catch {x : Addr} {pc pcH ct : Nat} {ls : Array Slot} {rest : List Value} {own C : String} (hown : s.vm.findClass own = some m.cls) (hlink : (Cond.classLink own ct C).before args s = true)
    {ent : ExceptionTableEntry} {post : List ExceptionTableEntry} (pre : List ExceptionTableEntry) (hsplit : c.exceptionTable.toList = pre ++ ent :: post) (hskip : ∀ z ∈ pre, covers z pc = false) (hcov : covers ent pc = true) (hct : ent.catchType = ct) (h0 : ct ≠ 0) (hpc : ent.handlerPc = pcH)
    {cell : Cell} (hcell : H[x]? = some cell) (hobj : cell.vm.isStatics = false) {cT : ClassId} (hcT : s.vm.findClass C = some cT) (hasg : s.vm.assignable cell.cls cT = true)
    (k : W p l e R s m args below meth c H locs cells slots Q (F0 m pcH ls [.ref x])) : xt_X p l e R s m args below meth c H locs cells slots Q (F0 m pc ls rest) x := by
  intro T hT X
  subst hct
  have hpl : e.platform.magicAccessors = ({} : Platform).magicAccessors := by rw [X.admits.platform]
  obtain ⟨c', hc', hcl⟩ := Cond.classLink_spec hown hlink e.platform hpl
  cases hcT.symm.trans hc'
  obtain ⟨dk, _, _, kt, hd, _, _, _, _, hkt, _, hopen⟩ := hcl.here
  have hcl₀ := X.warmed.classLinks hcl
  have hW' : s.WarmedH (T.vm.noted m.cls ent.catchType (.cls cT)) := X.warmed.noted hd hopen (State.rightAt_cls hcl)
  have hTal : T.vm.Alike (T.vm.noted m.cls ent.catchType (.cls cT)) := alike_of X.warmed hW'
  obtain ⟨ks, hks⟩ : ∃ k, s.vm.classes[cell.cls]? = some k := Vm.classAt_of_assignable hasg ⟨_, hkt⟩
  obtain ⟨ks', hks', -⟩ := hW'.alike.2.2 _ _ hks
  obtain ⟨kt', hkt', -⟩ := hW'.alike.2.2 _ _ hkt
  generalize hvm' : T.vm.noted m.cls ent.catchType (.cls cT) = vm' at hW' hTal hks' hkt'
  have hgiv : (Jvm.resolveClass m.cls ent.catchType).Gives e.toSetting T.vm (.ok cT) vm' := by rw [← hvm']; exact resolveClass_links e.toSetting hcl₀
  have hrdy : vm'.classReady m.cls ent.catchType cT := by rw [← hvm']; exact hcl₀.ready
  have hsz : vm'.classes.size ≤ T.vm.classes.size := by rw [← hvm']; simp [Vm.noted]
  obtain ⟨t, a1, b1⟩ := k (T.setVm vm') hT (X.noted hW')
  refine ⟨t, ?_, b1⟩
  have h : At T (F0 m pc ls rest).method c below := X.here
  obtain ⟨hgo, hw⟩ := h.throwing x
  refine Steps.head hgo hw ?_
  have hfind : ∀ (Q : Handler → Pre) (E : CtlPost) (d : Bool) (acts : List Action), wp (findHandler (F0 m pc ls rest) x) Q E e d acts ((T.setTop (F0 m pc ls rest)).pushFrame (.throwing x)) ↔ Q (.found pcH) d acts (((T.setTop (F0 m pc ls rest)).pushFrame (.throwing x)).setVm vm') := by
    intro Q E d acts
    have hv : ((T.setTop (F0 m pc ls rest)).pushFrame (.throwing x)).vm = T.vm := Stand.throwing_vm T _ x
    have hh : ((T.setTop (F0 m pc ls rest)).pushFrame (.throwing x)).heap = T.heap := Stand.throwing_heap T _ x
    rw [W.findHandler_eq (meth := meth) (code := c) (by rw [hv]; exact X.method') X.code, hsplit]
    clear hsplit
    induction pre with
    | nil =>
      show wp (findHandler.go _ x (ent :: post)) Q E e d acts _ ↔ _
      rw [xt_go (cT := cT) (vm' := vm') hcov h0 (by rw [hv]; exact hgiv) hrdy (by rw [hv]; exact hsz)]
      rw [W.findHandler_go_class (c := cT) (cell := cell) hcov h0 hrdy (by show (State.heap _)[x]? = _; exact (congrArg (·[x]?) (hh.trans hT)).trans hcell) (VmData.ne_statics_of hobj) ⟨_, hks'⟩ ⟨_, hkt'⟩,
        if_pos (by show vm'.assignable _ _ = true; rw [hW'.alike.assignable]; exact hasg), hpc]
    | cons z zs ih =>
      rw [List.cons_append, W.findHandler_go_skip (hskip z List.mem_cons_self)]
      exact ih (fun y hy => hskip y (List.mem_cons_of_mem _ hy))
  rw [stepThread_throwing (frames_entered h.top _), (xt_step (s := (T.setTop (F0 m pc ls rest)).pushFrame (.throwing x)) hfind).1]
  obtain ⟨g₀, hr⟩ := X.frames_eq
  have hr' : (T.setVm vm').frames = .java g₀ :: below := hr
  have e1 : ((((T.setTop (F0 m pc ls rest)).pushFrame (.throwing x)).setVm vm').setFrames (.java { F0 m pc ls rest with pc := pcH, stack := [.ref x] } :: T.frames.tail)) = (T.setVm vm').setTop (F0 m pcH ls [.ref x]) := by
    rw [State.setTop_of_frames _ hr', X.tail, State.pushFrame, State.setTop_of_frames _ hr]
    show ((T.setFrames _).setFrames _ |>.setFrames _).setVm vm' = _
    rw [State.setFrames_setFrames, State.setFrames_setFrames]
    rfl
  rw [e1]
  exact a1
end XK
end
section
section XN
variable {p : Program} {l : Launch} {e : Env} {R : Room} {s : State} {m : MethodId} {args : Array Value} {below : List Frame} {meth : Method} {c : Code} {H : Heap} {locs : List Loc} {cells slots : Nat} {Q : State → Prop}
set_option maxHeartbeats 4000000 in
/-- 'throw new X()' where no handler of the method covers it: the method ends by it; one cell of six slots is new, every other one is as it was -/
theorem xt_throw {cc : ByteArray} {Qc : Array Value → State → Outcome → State → Prop} {free : Addr → Prop} (hexec : p.tables.exec = Jvm.exec) (hb : c.code = cc) (htr : l.stackTraces = false) {own cls : String} {names : List String} {ix ic pc : Nat} {ls : Array Slot} {rest : List Value}
    (hown : s.vm.findClass own = some m.cls) (hcls : Bundle.fit cls = true) (hnames : ∀ n ∈ names, Bundle.fit n = true)
    (hlink : (Cond.classLink own ix cls).before args s = true) (hins : (Cond.instantiable cls 6).before args s = true) (hinit : (Cond.initialized cls).before args s = true)
    (hw : ∀ a ∈ Bundle.ownAtoms0 own ic cls names, ∀ U : State, U.heap = H → s.WarmedH U.vm → a.before args U = true)
    (hsize : ls.size = c.maxLocals) (d0 : decode cc pc = .ok (.new ix, 3)) (d3 : decode cc (pc + 3) = .ok (.dup, 1)) (d4 : decode cc (pc + 4) = .ok (.invokespecial ic, 3)) (d7 : decode cc (pc + 7) = .ok (.athrow, 1))
    (hout : ∀ z ∈ c.exceptionTable.toList, covers z (pc + 7) = false) (hlocks : meth.locks = false)
    (hcells : cells + 1 ≤ R.cells) (hslots : slots + 6 ≤ R.slots) (hfr : names.length + 4 ≤ R.frames) (hlo : (rest.map fun v => v.category).sum + 1 + (13 * (names.length + 1) + 41) ≤ R.locals)
    (hq : ∀ (U : State), s.WarmedH U.vm → (∀ (q : Nat) (cq : Cell), H[q]? = some cq → U.heap[q]? = some cq) → (∃ ce : Cell, U.heap[H.size]? = some ce ∧ s.vm.findClass cls = some ce.cls ∧ ce.vm = .none) → Qc args s (.threw H.size) U)
    (hf : ∀ q ∈ locs, free q.base) : W p l e R s m args below meth c H locs cells slots (xt_MQ below Qc args s (cells + 1) (slots + 6) free) (F0 m pc ls rest) := by
  intro T hT X
  subst hT
  have Y := xt_here X (R' := { frames := R.frames, locals := R.locals, cells := 1, slots := 6 }) (Nat.le_refl _) (Nat.le_refl _) hcells hslots
  have hown' : (T.setFrames (.invoking m args :: below)).vm.findClass own = some m.cls := (X.warmed.alike.findClass own _).trans hown
  have htab : ∀ w : Cond, (w.onTables && w.keeps) = true → w.before args s = true → w.before args (T.setFrames (.invoking m args :: below)) = true := fun w h1 h2 => word_at (U := T.setFrames (.invoking m args :: below)) X.warmed (Or.inl h1) h2
  have key : W p l e { frames := R.frames, locals := R.locals, cells := 1, slots := 6 } (T.setFrames (.invoking m args :: below)) m args below meth c T.heap [] 0 0
      (fun U => U.status = .running ∧ Ended U below (.threw T.heap.size) ∧ T.WarmedH U.vm ∧ T.sameButNew ({ U with vm := T.vm } : State) [] 1 6 ∧ ∃ ce : Cell, U.heap[T.heap.size]? = some ce ∧ T.vm.findClass cls = some ce.cls ∧ ce.vm = .none) (F0 m pc ls rest) := by
    refine W.newc hexec hb hown' (htab _ rfl hlink) (htab _ rfl hins) (htab _ rfl hinit) rfl d0 (Nat.le_refl _) (Nat.le_refl _) (fun cC kC h1 h2 h3 h4 => ?_)
    refine lv_dup hexec hb d3 rfl ?_
    intro T2 hT2 X2
    subst hb
    obtain ⟨U, st, hrun, hend, hW, hsame, ce, hce, hoc⟩ := X2.ctorThrow0 hexec (by rw [X2.admits.platform]; exact htr) hown' hcls hnames (fun a ha => hw a ha _ rfl X.warmed) (fun x h => by cases h) h1 h2 (a := T.heap.size)
      (by rw [hT2]; simp) (Nat.le_refl _) (g := F0 m (pc + 3 + 1) ls (.ref T.heap.size :: .ref T.heap.size :: rest)) rfl hsize rfl rfl rfl d4 d7 hout
      (by show names.length + 3 < R.frames; omega) (by show 2 * 0 + ((Value.ref T.heap.size :: rest).map fun v => v.category).sum + (13 * (names.length + 1) + 41) ≤ R.locals; have h9 : ((Value.ref T.heap.size :: rest).map fun v => v.category).sum = 1 + (rest.map fun v => v.category).sum := rfl; omega) hlocks
    refine ⟨U, st, hrun, hend, hW, ⟨?_, hsame.2⟩, ce, hce, hoc.cls, hoc.vm⟩
    have h1 := hsame.1
    rw [State.setFrames_setFrames] at h1
    exact h1
  obtain ⟨t, a1, hrun, hend, hW, hsame, hce⟩ := key T rfl Y
  have hWs : s.WarmedH t.vm := State.WarmedH.trans X.warmed hW
  have hall := X.same.trans (hsame.setVm s.vm)
  rw [List.append_nil] at hall
  refine ⟨t, a1, .threw T.heap.size, hrun, hend, hq t hWs ?_ ?_, locs, ⟨hWs, hall⟩, hf⟩
  · intro q cq h
    obtain ⟨c', h1, h2, h3, h4⟩ := hsame.2.2.2.2.2 q cq h
    have h5 : c'.slots = cq.slots := Array.ext_getElem? (fun i => h4 i (by simp))
    rw [h5] at h2
    rw [h2] at h1
    exact h1
  · obtain ⟨ce, h1, h2, h3⟩ := hce
    exact ⟨ce, h1, by rw [← X.warmed.alike.findClass]; exact h2, h3⟩
end XN
end
section
/-! The tables' words that stay true while the tables grow warmer, in one list; each by a name. -/
def lw_g : List Cond := lw_tbl.filter goodWord
theorem xg_t (i : Nat) {w : Cond} (h : tables_1[i]? = some w) (g : goodWord w = true) : w ∈ lw_g := List.mem_filter.mpr ⟨List.mem_append_right _ (List.mem_of_getElem? h), g⟩
theorem xg_s (i : Nat) {w : Cond} (h : (k2_sels lw_privs)[i]? = some w) (g : goodWord w = true) : w ∈ lw_g := List.mem_filter.mpr ⟨List.mem_append_left _ (List.mem_of_getElem? h), g⟩
theorem lw_g_good : ∀ w ∈ lw_g, (w.onTables && w.keeps) = true ∨ ∃ ty, w = .arrayClass ty := fun w h => good_of_word (List.mem_filter.mp h).2
theorem lw_g_in : ∀ w ∈ lw_g, w ∈ lw_tbl := fun w h => (List.mem_filter.mp h).1
abbrev y_0 : MethodName := ⟨"RealmDesk", "<init>", "()V"⟩
abbrev y_1 : MethodName := ⟨"java/lang/Object", "<init>", "()V"⟩
abbrev y_2 : MethodName := ⟨"java/lang/StringBuilder", "<init>", "()V"⟩
abbrev y_3 : MethodName := ⟨"java/lang/AbstractStringBuilder", "<init>", "(I)V"⟩
abbrev y_4 : MethodName := ⟨"java/lang/StringUTF16", "newBytesFor", "(I)[B"⟩
abbrev y_5 : MethodName := ⟨"java/lang/StringUTF16", "newBytesLength", "(I)I"⟩
abbrev y_6 : MethodName := ⟨"java/util/ArrayList", "<init>", "()V"⟩
abbrev y_7 : MethodName := ⟨"java/util/AbstractList", "<init>", "()V"⟩
abbrev y_8 : MethodName := ⟨"java/util/AbstractCollection", "<init>", "()V"⟩
abbrev y_9 : MethodName := ⟨"RealmDesk", "write", "(C)Z"⟩
abbrev y_10 : MethodName := ⟨"java/lang/StringBuilder", "length", "()I"⟩
abbrev y_11 : MethodName := ⟨"java/lang/AbstractStringBuilder", "length", "()I"⟩
abbrev y_12 : MethodName := ⟨"java/lang/StringBuilder", "append", "(C)Ljava/lang/StringBuilder;"⟩
abbrev y_13 : MethodName := ⟨"java/lang/AbstractStringBuilder", "append", "(C)Ljava/lang/AbstractStringBuilder;"⟩
abbrev y_14 : MethodName := ⟨"java/lang/AbstractStringBuilder", "ensureCapacityInternal", "(I)V"⟩
abbrev y_15 : MethodName := ⟨"java/lang/AbstractStringBuilder", "newCapacity", "(I)I"⟩
abbrev y_16 : MethodName := ⟨"jdk/internal/util/ArraysSupport", "newLength", "(III)I"⟩
abbrev y_17 : MethodName := ⟨"java/lang/Math", "max", "(II)I"⟩
abbrev y_18 : MethodName := ⟨"jdk/internal/util/ArraysSupport", "hugeLength", "(II)I"⟩
abbrev y_19 : MethodName := ⟨"java/util/Arrays", "copyOf", "([BI)[B"⟩
abbrev y_20 : MethodName := ⟨"[B", "clone", "()Ljava/lang/Object;"⟩
abbrev y_21 : MethodName := ⟨"java/lang/Object", "clone", "()Ljava/lang/Object;"⟩
abbrev y_22 : MethodName := ⟨"java/lang/Math", "min", "(II)I"⟩
abbrev y_23 : MethodName := ⟨"java/lang/System", "arraycopy", "(Ljava/lang/Object;ILjava/lang/Object;II)V"⟩
abbrev y_24 : MethodName := ⟨"java/lang/AbstractStringBuilder", "isLatin1", "()Z"⟩
abbrev y_25 : MethodName := ⟨"java/lang/StringLatin1", "canEncode", "(C)Z"⟩
abbrev y_26 : MethodName := ⟨"java/lang/AbstractStringBuilder", "inflate", "()V"⟩
abbrev y_27 : MethodName := ⟨"java/lang/StringLatin1", "inflate", "([BI[BII)V"⟩
abbrev y_28 : MethodName := ⟨"java/lang/StringUTF16", "inflate", "([BI[BII)V"⟩
abbrev y_29 : MethodName := ⟨"java/lang/StringUTF16", "checkBoundsOffCount", "(II[B)V"⟩
abbrev y_30 : MethodName := ⟨"java/lang/StringUTF16", "length", "([B)I"⟩
abbrev y_31 : MethodName := ⟨"java/lang/String", "checkBoundsOffCount", "(III)I"⟩
abbrev y_32 : MethodName := ⟨"jdk/internal/util/Preconditions", "checkFromIndexSize", "(IIILjava/util/function/BiFunction;)I"⟩
abbrev y_33 : MethodName := ⟨"java/lang/StringUTF16", "putChar", "([BII)V"⟩
abbrev y_34 : MethodName := ⟨"java/lang/StringUTF16", "putCharSB", "([BII)V"⟩
abbrev y_35 : MethodName := ⟨"java/lang/StringUTF16", "checkIndex", "(I[B)V"⟩
abbrev y_36 : MethodName := ⟨"java/lang/String", "checkIndex", "(II)V"⟩
abbrev y_37 : MethodName := ⟨"jdk/internal/util/Preconditions", "checkIndex", "(IILjava/util/function/BiFunction;)I"⟩
abbrev y_38 : MethodName := ⟨"RealmDesk", "many", "()I"⟩
abbrev y_39 : MethodName := ⟨"RealmDesk", "asked", "(I)I"⟩
abbrev y_40 : MethodName := ⟨"RealmDesk", "kept", "(I)I"⟩
abbrev y_41 : MethodName := ⟨"RealmDesk", "isThere", "(I)Z"⟩
abbrev y_42 : MethodName := ⟨"java/util/ArrayList", "size", "()I"⟩
abbrev y_43 : MethodName := ⟨"java/util/ArrayList", "get", "(I)Ljava/lang/Object;"⟩
abbrev y_44 : MethodName := ⟨"java/util/Objects", "checkIndex", "(II)I"⟩
abbrev y_45 : MethodName := ⟨"java/util/ArrayList", "elementData", "(I)Ljava/lang/Object;"⟩
abbrev y_46 : MethodName := ⟨"RealmDesk", "used", "(I)I"⟩
abbrev y_47 : MethodName := ⟨"RealmDesk", "drop", "(I)Z"⟩
abbrev y_48 : MethodName := ⟨"RealmDesk", "realm", "()I"⟩
abbrev y_49 : MethodName := ⟨"RealmDesk", "takeWritten", "()Ljava/lang/String;"⟩
abbrev y_50 : MethodName := ⟨"java/lang/StringBuilder", "toString", "()Ljava/lang/String;"⟩
abbrev y_51 : MethodName := ⟨"java/lang/String", "<init>", "(Ljava/lang/StringBuilder;)V"⟩
abbrev y_52 : MethodName := ⟨"java/lang/String", "<init>", "(Ljava/lang/AbstractStringBuilder;Ljava/lang/Void;)V"⟩
abbrev y_53 : MethodName := ⟨"java/lang/AbstractStringBuilder", "getValue", "()[B"⟩
abbrev y_54 : MethodName := ⟨"java/util/Arrays", "copyOfRange", "([BII)[B"⟩
abbrev y_55 : MethodName := ⟨"java/util/Arrays", "copyOfRangeByte", "([BII)[B"⟩
abbrev y_56 : MethodName := ⟨"java/util/Arrays", "checkLength", "(II)V"⟩
abbrev y_57 : MethodName := ⟨"java/lang/RuntimeException", "<init>", "()V"⟩
abbrev y_58 : MethodName := ⟨"java/lang/RuntimeException", "<init>", "(Ljava/lang/String;)V"⟩
abbrev y_59 : MethodName := ⟨"java/lang/Exception", "<init>", "()V"⟩
abbrev y_60 : MethodName := ⟨"java/lang/Exception", "<init>", "(Ljava/lang/String;)V"⟩
abbrev y_61 : MethodName := ⟨"java/lang/Throwable", "<init>", "()V"⟩
abbrev y_62 : MethodName := ⟨"java/lang/Throwable", "<init>", "(Ljava/lang/String;)V"⟩
abbrev y_63 : MethodName := ⟨"java/lang/Throwable", "fillInStackTrace", "(I)Ljava/lang/Throwable;"⟩
abbrev y_64 : MethodName := ⟨"java/lang/Throwable", "fillInStackTrace", "()Ljava/lang/Throwable;"⟩
abbrev y_65 : MethodName := ⟨"java/lang/StringBuilder", "append", "(I)Ljava/lang/StringBuilder;"⟩
abbrev y_66 : MethodName := ⟨"java/lang/AbstractStringBuilder", "append", "(I)Ljava/lang/AbstractStringBuilder;"⟩
abbrev y_67 : MethodName := ⟨"java/lang/Integer", "stringSize", "(I)I"⟩
abbrev y_68 : MethodName := ⟨"java/lang/Integer", "getChars", "(II[B)I"⟩
abbrev y_69 : MethodName := ⟨"java/lang/StringUTF16", "getChars", "(III[B)I"⟩
abbrev y_70 : MethodName := ⟨"java/lang/StringUTF16", "checkBoundsBeginEnd", "(II[B)V"⟩
abbrev y_71 : MethodName := ⟨"java/lang/String", "checkBoundsBeginEnd", "(III)V"⟩
abbrev y_72 : MethodName := ⟨"jdk/internal/util/Preconditions", "checkFromToIndex", "(IIILjava/util/function/BiFunction;)I"⟩
abbrev y_73 : MethodName := ⟨"java/lang/StringUTF16", "getChars", "(II[B)I"⟩
abbrev y_74 : MethodName := ⟨"java/lang/StringBuilder", "append", "(Ljava/lang/String;)Ljava/lang/StringBuilder;"⟩
abbrev y_75 : MethodName := ⟨"java/lang/AbstractStringBuilder", "append", "(Ljava/lang/String;)Ljava/lang/AbstractStringBuilder;"⟩
abbrev y_76 : MethodName := ⟨"java/lang/AbstractStringBuilder", "appendNull", "()Ljava/lang/AbstractStringBuilder;"⟩
abbrev y_77 : MethodName := ⟨"java/lang/StringUTF16", "putCharsAt", "([BICCCC)I"⟩
abbrev y_78 : MethodName := ⟨"java/lang/String", "length", "()I"⟩
abbrev y_79 : MethodName := ⟨"java/lang/String", "coder", "()B"⟩
abbrev y_80 : MethodName := ⟨"java/lang/AbstractStringBuilder", "putStringAt", "(ILjava/lang/String;)V"⟩
abbrev y_81 : MethodName := ⟨"java/lang/AbstractStringBuilder", "inflateIfNeededFor", "(Ljava/lang/String;)V"⟩
abbrev y_82 : MethodName := ⟨"java/lang/String", "getBytes", "([BIB)V"⟩
abbrev y_83 : MethodName := ⟨"java/lang/IllegalArgumentException", "<init>", "(Ljava/lang/String;)V"⟩
abbrev y_84 : MethodName := ⟨"java/lang/StringUTF16", "compress", "([BII)[B"⟩
abbrev y_85 : MethodName := ⟨"java/lang/StringUTF16", "compress", "([BI[BII)I"⟩
abbrev y_86 : MethodName := ⟨"java/lang/StringUTF16", "getChar", "([BI)C"⟩
abbrev y_87 : MethodName := ⟨"java/lang/StringUTF16", "coderFromArrayLen", "([BI)B"⟩
abbrev y_88 : MethodName := ⟨"java/lang/StringBuilder", "setLength", "(I)V"⟩
abbrev y_89 : MethodName := ⟨"java/lang/AbstractStringBuilder", "setLength", "(I)V"⟩
abbrev y_90 : MethodName := ⟨"java/lang/StringLatin1", "fillNull", "([BII)V"⟩
abbrev y_91 : MethodName := ⟨"java/util/Arrays", "fill", "([BIIB)V"⟩
abbrev y_92 : MethodName := ⟨"java/util/Arrays", "rangeCheck", "(III)V"⟩
abbrev y_93 : MethodName := ⟨"java/lang/StringUTF16", "fillNull", "([BII)V"⟩
abbrev y_94 : MethodName := ⟨"RealmDesk", "realmWith", "(Ljava/lang/String;)LRealmDesk$Realm;"⟩
abbrev y_95 : MethodName := ⟨"java/lang/String", "equals", "(Ljava/lang/Object;)Z"⟩
abbrev y_96 : MethodName := ⟨"java/lang/StringLatin1", "equals", "([B[B)Z"⟩
abbrev y_97 : MethodName := ⟨"RealmDesk", "count", "(I)I"⟩
abbrev y_98 : MethodName := ⟨"RealmDesk", "realmsThere", "()I"⟩
abbrev y_99 : MethodName := ⟨"RealmDeskLaw", "line", "(LRealmDesk;[J)I"⟩
abbrev y_100 : MethodName := ⟨"RealmDesk", "line", "()I"⟩
abbrev y_101 : MethodName := ⟨"RealmDesk", "split", "(Ljava/lang/String;)Ljava/util/ArrayList;"⟩
abbrev y_102 : MethodName := ⟨"java/lang/String", "charAt", "(I)C"⟩
abbrev y_103 : MethodName := ⟨"java/lang/String", "isLatin1", "()Z"⟩
abbrev y_104 : MethodName := ⟨"java/lang/StringLatin1", "charAt", "([BI)C"⟩
abbrev y_105 : MethodName := ⟨"java/lang/StringUTF16", "charAt", "([BI)C"⟩
abbrev y_106 : MethodName := ⟨"java/lang/String", "substring", "(II)Ljava/lang/String;"⟩
abbrev y_107 : MethodName := ⟨"java/lang/StringLatin1", "newString", "([BII)Ljava/lang/String;"⟩
abbrev y_108 : MethodName := ⟨"java/lang/String", "<init>", "([BB)V"⟩
abbrev y_109 : MethodName := ⟨"java/lang/StringUTF16", "newString", "([BII)Ljava/lang/String;"⟩
abbrev y_110 : MethodName := ⟨"RealmDesk$Text", "<init>", "(Ljava/lang/String;)V"⟩
abbrev y_111 : MethodName := ⟨"java/util/ArrayList", "add", "(Ljava/lang/Object;)Z"⟩
abbrev y_112 : MethodName := ⟨"java/util/ArrayList", "add", "(Ljava/lang/Object;[Ljava/lang/Object;I)V"⟩
abbrev y_113 : MethodName := ⟨"java/util/ArrayList", "grow", "()[Ljava/lang/Object;"⟩
abbrev y_114 : MethodName := ⟨"java/util/ArrayList", "grow", "(I)[Ljava/lang/Object;"⟩
abbrev y_115 : MethodName := ⟨"java/util/Arrays", "copyOf", "([Ljava/lang/Object;I)[Ljava/lang/Object;"⟩
abbrev y_116 : MethodName := ⟨"java/lang/Object", "getClass", "()Ljava/lang/Class;"⟩
abbrev y_117 : MethodName := ⟨"java/util/Arrays", "copyOf", "([Ljava/lang/Object;ILjava/lang/Class;)[Ljava/lang/Object;"⟩
abbrev y_118 : MethodName := ⟨"RealmDesk", "setOrder", "(Ljava/lang/String;)I"⟩
abbrev y_119 : MethodName := ⟨"java/lang/IllegalArgumentException", "<init>", "()V"⟩
abbrev y_120 : MethodName := ⟨"RealmDesk", "latestRealm", "()LRealmDesk$Realm;"⟩
abbrev y_121 : MethodName := ⟨"java/util/ArrayList", "isEmpty", "()Z"⟩
abbrev y_122 : MethodName := ⟨"java/lang/IllegalStateException", "<init>", "()V"⟩
abbrev y_123 : MethodName := ⟨"RealmDesk", "readPair", "(Ljava/lang/String;Ljava/lang/String;)I"⟩
abbrev y_124 : MethodName := ⟨"RealmDesk", "addArchive", "(Ljava/lang/String;)I"⟩
abbrev y_125 : MethodName := ⟨"RealmDesk", "isWord", "(Ljava/lang/String;)Z"⟩
abbrev y_126 : MethodName := ⟨"RealmDesk", "archiveWith", "(Ljava/lang/String;)LRealmDesk$Archive;"⟩
abbrev y_127 : MethodName := ⟨"RealmDesk$Archive", "<init>", "(ILjava/lang/String;)V"⟩
abbrev y_128 : MethodName := ⟨"RealmDesk", "addName", "(Ljava/lang/String;)I"⟩
abbrev y_129 : MethodName := ⟨"RealmDesk", "latestArchive", "()LRealmDesk$Archive;"⟩
abbrev y_130 : MethodName := ⟨"RealmDesk", "isName", "(Ljava/lang/String;)Z"⟩
abbrev y_131 : MethodName := ⟨"RealmDesk$Archive", "has", "(Ljava/lang/String;)Z"⟩
abbrev y_132 : MethodName := ⟨"RealmDesk", "addRealm", "(Ljava/lang/String;)I"⟩
abbrev y_133 : MethodName := ⟨"RealmDesk$Realm", "<init>", "(ILjava/lang/String;)V"⟩
abbrev y_134 : MethodName := ⟨"RealmDesk", "addLoaded", "(Ljava/lang/String;)I"⟩
abbrev y_135 : MethodName := ⟨"RealmDesk$Realm", "hasLoaded", "(LRealmDesk$Archive;)Z"⟩
abbrev y_136 : MethodName := ⟨"RealmDesk", "setParent", "(Ljava/lang/String;)I"⟩
abbrev y_137 : MethodName := ⟨"RealmDesk", "readFour", "(Ljava/util/ArrayList;)I"⟩
abbrev y_138 : MethodName := ⟨"RealmDesk", "addImport", "(Ljava/lang/String;Ljava/lang/String;)I"⟩
abbrev y_139 : MethodName := ⟨"RealmDesk$Import", "<init>", "(Ljava/lang/String;LRealmDesk$Realm;)V"⟩
abbrev y_140 : MethodName := ⟨"RealmDesk$Realm", "insertImport", "(LRealmDesk$Import;)V"⟩
abbrev y_141 : MethodName := ⟨"java/util/ArrayList", "add", "(ILjava/lang/Object;)V"⟩
abbrev y_142 : MethodName := ⟨"java/util/ArrayList", "rangeCheckForAdd", "(I)V"⟩
abbrev y_143 : MethodName := ⟨"RealmDeskLaw", "look", "(LRealmDesk;I[J)I"⟩
abbrev y_144 : MethodName := ⟨"RealmDesk", "look", "(I)I"⟩
abbrev y_145 : MethodName := ⟨"RealmDesk", "lookFor", "(Ljava/lang/String;LRealmDesk$Realm;I)I"⟩
abbrev y_146 : MethodName := ⟨"RealmDesk$Realm", "keptPlace", "(Ljava/lang/String;)I"⟩
abbrev y_147 : MethodName := ⟨"RealmDesk", "noteAsked", "(LRealmDesk$Realm;)V"⟩
abbrev y_148 : MethodName := ⟨"RealmDesk", "lookInPlaces", "(Ljava/lang/String;LRealmDesk$Realm;I)I"⟩
abbrev y_149 : MethodName := ⟨"RealmDesk", "lookInImports", "(Ljava/lang/String;LRealmDesk$Realm;)I"⟩
abbrev y_150 : MethodName := ⟨"RealmDesk", "liesIn", "(Ljava/lang/String;Ljava/lang/String;)Z"⟩
abbrev y_151 : MethodName := ⟨"RealmDesk", "lookInItself", "(Ljava/lang/String;LRealmDesk$Realm;)I"⟩
abbrev y_152 : MethodName := ⟨"RealmDesk", "lookInParent", "(Ljava/lang/String;LRealmDesk$Realm;I)I"⟩
abbrev y_153 : MethodName := ⟨"RealmDesk$Find", "<init>", "(Ljava/lang/String;I)V"⟩
abbrev y_154 : MethodName := ⟨"java/util/NoSuchElementException", "<init>", "()V"⟩
abbrev y_155 : MethodName := ⟨"RealmDeskModel", "<init>", "()V"⟩
abbrev y_156 : MethodName := ⟨"RealmDeskModel", "write", "(C)Z"⟩
abbrev y_157 : MethodName := ⟨"RealmDeskModel", "line", "()I"⟩
abbrev y_158 : MethodName := ⟨"RealmDeskModel", "split", "()V"⟩
abbrev y_159 : MethodName := ⟨"RealmDeskModel", "says", "(IIIII)Z"⟩
abbrev y_160 : MethodName := ⟨"RealmDeskModel", "isLong", "(II)Z"⟩
abbrev y_161 : MethodName := ⟨"RealmDeskModel", "ends", "(III)Z"⟩
abbrev y_162 : MethodName := ⟨"RealmDeskModel", "newArchive", "()I"⟩
abbrev y_163 : MethodName := ⟨"RealmDeskModel", "wordOf", "(I)I"⟩
abbrev y_164 : MethodName := ⟨"RealmDeskModel", "nameOf", "(I)J"⟩
abbrev y_165 : MethodName := ⟨"RealmDeskModel", "archiveOf", "(I)I"⟩
abbrev y_166 : MethodName := ⟨"RealmDeskModel", "newName", "()I"⟩
abbrev y_167 : MethodName := ⟨"RealmDeskModel", "isIn", "(IJ)Z"⟩
abbrev y_168 : MethodName := ⟨"RealmDeskModel", "newRealm", "()I"⟩
abbrev y_169 : MethodName := ⟨"RealmDeskModel", "realmOf", "(I)I"⟩
abbrev y_170 : MethodName := ⟨"RealmDeskModel", "loads", "()I"⟩
abbrev y_171 : MethodName := ⟨"RealmDeskModel", "isShut", "()Z"⟩
abbrev y_172 : MethodName := ⟨"RealmDeskModel", "newImport", "()I"⟩
abbrev y_173 : MethodName := ⟨"RealmDeskModel", "newParent", "()I"⟩
abbrev y_174 : MethodName := ⟨"RealmDeskModel", "ordered", "(Z)I"⟩
abbrev y_175 : MethodName := ⟨"RealmDeskModel", "fails", "(I)I"⟩
abbrev y_176 : MethodName := ⟨"RealmDeskModel", "look", "(I)I"⟩
abbrev y_177 : MethodName := ⟨"RealmDeskModel", "keptOf", "(IJ)I"⟩
abbrev y_178 : MethodName := ⟨"RealmDeskModel", "search", "(IJ)I"⟩
abbrev y_179 : MethodName := ⟨"RealmDeskModel", "push", "(I)V"⟩
abbrev y_180 : MethodName := ⟨"RealmDeskModel", "note", "(I)V"⟩
abbrev y_181 : MethodName := ⟨"RealmDeskModel", "byImports", "(IJ)I"⟩
abbrev y_182 : MethodName := ⟨"RealmDeskModel", "size", "(J)I"⟩
abbrev y_183 : MethodName := ⟨"RealmDeskModel", "lettersOf", "(J)I"⟩
abbrev y_184 : MethodName := ⟨"RealmDeskModel", "liesIn", "(JJ)Z"⟩
abbrev y_185 : MethodName := ⟨"RealmDeskModel", "own", "(IJ)I"⟩
abbrev y_186 : MethodName := ⟨"RealmDeskModel", "found", "(II)I"⟩
abbrev y_187 : MethodName := ⟨"RealmDeskModel", "ownPlace", "(IJ)I"⟩
abbrev y_188 : MethodName := ⟨"RealmDeskModel", "up", "(IJ)I"⟩
abbrev y_189 : MethodName := ⟨"RealmDeskModel", "isOpen", "(I)Z"⟩
abbrev y_190 : MethodName := ⟨"RealmDeskModel", "many", "()I"⟩
abbrev y_191 : MethodName := ⟨"RealmDeskModel", "asked", "(I)I"⟩
abbrev y_192 : MethodName := ⟨"RealmDeskModel", "kept", "(I)I"⟩
abbrev y_193 : MethodName := ⟨"RealmDeskModel", "isRealm", "(I)Z"⟩
abbrev y_194 : MethodName := ⟨"RealmDeskModel", "used", "(I)I"⟩
abbrev y_195 : MethodName := ⟨"RealmDeskModel", "drop", "(I)Z"⟩
abbrev y_196 : MethodName := ⟨"RealmDeskModel", "realm", "()I"⟩
abbrev y_197 : MethodName := ⟨"RealmDeskModel", "count", "(I)I"⟩
theorem t_0 : Cond.initialized "RealmDeskLaw" ∈ lw_g := xg_t 0 (by decide +kernel) rfl
theorem t_1 : Cond.initialized "RealmDesk" ∈ lw_g := xg_t 1 (by decide +kernel) rfl
theorem t_2 : Cond.initialized "java/lang/AbstractStringBuilder" ∈ lw_g := xg_t 2 (by decide +kernel) rfl
theorem t_3 : Cond.initialized "java/lang/StringBuilder" ∈ lw_g := xg_t 3 (by decide +kernel) rfl
theorem t_4 : Cond.initialized "java/lang/String" ∈ lw_g := xg_t 4 (by decide +kernel) rfl
theorem t_6 : Cond.initialized "java/util/AbstractCollection" ∈ lw_g := xg_t 6 (by decide +kernel) rfl
theorem t_7 : Cond.initialized "java/util/AbstractList" ∈ lw_g := xg_t 7 (by decide +kernel) rfl
theorem t_8 : Cond.initialized "java/util/ArrayList" ∈ lw_g := xg_t 8 (by decide +kernel) rfl
theorem t_9 : Cond.initialized "RealmDeskModel" ∈ lw_g := xg_t 9 (by decide +kernel) rfl
theorem t_10 : Cond.initialized "jdk/internal/util/ArraysSupport" ∈ lw_g := xg_t 10 (by decide +kernel) rfl
theorem t_11 : Cond.initialized "java/lang/Math" ∈ lw_g := xg_t 11 (by decide +kernel) rfl
theorem t_12 : Cond.initialized "java/util/Arrays" ∈ lw_g := xg_t 12 (by decide +kernel) rfl
theorem t_13 : Cond.initialized "java/lang/System" ∈ lw_g := xg_t 13 (by decide +kernel) rfl
theorem t_14 : Cond.initialized "java/lang/StringLatin1" ∈ lw_g := xg_t 14 (by decide +kernel) rfl
theorem t_15 : Cond.initialized "jdk/internal/util/Preconditions" ∈ lw_g := xg_t 15 (by decide +kernel) rfl
theorem t_16 : Cond.initialized "java/lang/Throwable" ∈ lw_g := xg_t 16 (by decide +kernel) rfl
theorem t_17 : Cond.initialized "java/lang/Exception" ∈ lw_g := xg_t 17 (by decide +kernel) rfl
theorem t_18 : Cond.initialized "java/lang/RuntimeException" ∈ lw_g := xg_t 18 (by decide +kernel) rfl
theorem t_19 : Cond.initialized "java/lang/IllegalArgumentException" ∈ lw_g := xg_t 19 (by decide +kernel) rfl
theorem t_21 : Cond.initialized "RealmDesk$Text" ∈ lw_g := xg_t 21 (by decide +kernel) rfl
theorem t_22 : Cond.initialized "java/util/Objects" ∈ lw_g := xg_t 22 (by decide +kernel) rfl
theorem t_23 : Cond.initialized "java/lang/IllegalStateException" ∈ lw_g := xg_t 23 (by decide +kernel) rfl
theorem t_24 : Cond.initialized "RealmDesk$Archive" ∈ lw_g := xg_t 24 (by decide +kernel) rfl
theorem t_25 : Cond.initialized "RealmDesk$Realm" ∈ lw_g := xg_t 25 (by decide +kernel) rfl
theorem t_26 : Cond.initialized "RealmDesk$Import" ∈ lw_g := xg_t 26 (by decide +kernel) rfl
theorem t_27 : Cond.initialized "RealmDesk$Find" ∈ lw_g := xg_t 27 (by decide +kernel) rfl
theorem t_28 : Cond.initialized "java/util/NoSuchElementException" ∈ lw_g := xg_t 28 (by decide +kernel) rfl
theorem t_29 : Cond.classLink "RealmDeskLaw" 8 "RealmDesk" ∈ lw_g := xg_t 29 (by decide +kernel) rfl
theorem t_30 : Cond.instantiable "RealmDesk" 5 ∈ lw_g := xg_t 30 (by decide +kernel) rfl
theorem t_31 : Cond.methodLink "RealmDeskLaw" 23 y_0 ∈ lw_g := xg_t 31 (by decide +kernel) rfl
theorem t_32 : Cond.instanceMethod y_0 ∈ lw_g := xg_t 32 (by decide +kernel) rfl
theorem t_33 : Cond.code y_0 prog_1_method_1_code 1 Option.none ∈ lw_g := xg_t 33 (by decide +kernel) rfl
theorem t_34 : Cond.methodLink "RealmDesk" 1 y_1 ∈ lw_g := xg_t 34 (by decide +kernel) rfl
theorem t_35 : Cond.instanceMethod y_1 ∈ lw_g := xg_t 35 (by decide +kernel) rfl
theorem t_36 : Cond.code y_1 object_method_1_code 1 Option.none ∈ lw_g := xg_t 36 (by decide +kernel) rfl
theorem t_37 : Cond.classLink "RealmDesk" 7 "java/lang/StringBuilder" ∈ lw_g := xg_t 37 (by decide +kernel) rfl
theorem t_38 : Cond.instantiable "java/lang/StringBuilder" 4 ∈ lw_g := xg_t 38 (by decide +kernel) rfl
theorem t_39 : Cond.methodLink "RealmDesk" 9 y_2 ∈ lw_g := xg_t 39 (by decide +kernel) rfl
theorem t_40 : Cond.instanceMethod y_2 ∈ lw_g := xg_t 40 (by decide +kernel) rfl
theorem t_41 : Cond.code y_2 prog_20_method_1_code 1 Option.none ∈ lw_g := xg_t 41 (by decide +kernel) rfl
theorem t_42 : Cond.methodLink "java/lang/StringBuilder" 1 y_3 ∈ lw_g := xg_t 42 (by decide +kernel) rfl
theorem t_43 : Cond.instanceMethod y_3 ∈ lw_g := xg_t 43 (by decide +kernel) rfl
theorem t_44 : Cond.code y_3 prog_10_method_2_code 2 Option.none ∈ lw_g := xg_t 44 (by decide +kernel) rfl
theorem t_45 : Cond.methodLink "java/lang/AbstractStringBuilder" 3 y_1 ∈ lw_g := xg_t 45 (by decide +kernel) rfl
theorem t_46 : Cond.fieldLink "java/lang/AbstractStringBuilder" 18 "java/lang/String" "COMPACT_STRINGS" "Z" ∈ lw_g := xg_t 46 (by decide +kernel) rfl
theorem t_55 : Cond.fieldLink "java/lang/AbstractStringBuilder" 15 "java/lang/AbstractStringBuilder" "value" "[B" ∈ lw_g := xg_t 55 (by decide +kernel) rfl
theorem t_56 : Cond.fieldLink "java/lang/AbstractStringBuilder" 22 "java/lang/AbstractStringBuilder" "coder" "B" ∈ lw_g := xg_t 56 (by decide +kernel) rfl
theorem t_57 : Cond.fieldLink "java/lang/AbstractStringBuilder" 73 "java/lang/AbstractStringBuilder" "maybeLatin1" "Z" ∈ lw_g := xg_t 57 (by decide +kernel) rfl
theorem t_58 : Cond.fieldLink "java/lang/String" 1048 "java/lang/AbstractStringBuilder" "maybeLatin1" "Z" ∈ lw_g := xg_t 58 (by decide +kernel) rfl
theorem t_59 : Cond.fieldLink "java/lang/AbstractStringBuilder" 79 "java/lang/AbstractStringBuilder" "count" "I" ∈ lw_g := xg_t 59 (by decide +kernel) rfl
theorem t_60 : Cond.lays "java/lang/StringBuilder" "java/lang/AbstractStringBuilder" "value" "[B" ∈ lw_g := xg_t 60 (by decide +kernel) rfl
theorem t_61 : Cond.soleField "java/lang/AbstractStringBuilder" "value" ∈ lw_g := xg_t 61 (by decide +kernel) rfl
theorem t_62 : Cond.lays "java/lang/StringBuilder" "java/lang/AbstractStringBuilder" "coder" "B" ∈ lw_g := xg_t 62 (by decide +kernel) rfl
theorem t_63 : Cond.soleField "java/lang/AbstractStringBuilder" "coder" ∈ lw_g := xg_t 63 (by decide +kernel) rfl
theorem t_64 : Cond.lays "java/lang/StringBuilder" "java/lang/AbstractStringBuilder" "maybeLatin1" "Z" ∈ lw_g := xg_t 64 (by decide +kernel) rfl
theorem t_65 : Cond.soleField "java/lang/AbstractStringBuilder" "maybeLatin1" ∈ lw_g := xg_t 65 (by decide +kernel) rfl
theorem t_66 : Cond.lays "java/lang/StringBuilder" "java/lang/AbstractStringBuilder" "count" "I" ∈ lw_g := xg_t 66 (by decide +kernel) rfl
theorem t_67 : Cond.soleField "java/lang/AbstractStringBuilder" "count" ∈ lw_g := xg_t 67 (by decide +kernel) rfl
theorem t_68 : Cond.superclass "java/lang/StringBuilder" "java/lang/AbstractStringBuilder" ∈ lw_g := xg_t 68 (by decide +kernel) rfl
theorem t_69 : Cond.arrayClass Jvm.ClassFile.FieldType.byte ∈ lw_g := xg_t 69 (by decide +kernel) rfl
theorem t_70 : Cond.classLink "RealmDesk" 16 "java/util/ArrayList" ∈ lw_g := xg_t 70 (by decide +kernel) rfl
theorem t_71 : Cond.instantiable "java/util/ArrayList" 3 ∈ lw_g := xg_t 71 (by decide +kernel) rfl
theorem t_72 : Cond.methodLink "RealmDesk" 18 y_6 ∈ lw_g := xg_t 72 (by decide +kernel) rfl
theorem t_73 : Cond.instanceMethod y_6 ∈ lw_g := xg_t 73 (by decide +kernel) rfl
theorem t_74 : Cond.code y_6 prog_27_method_2_code 1 Option.none ∈ lw_g := xg_t 74 (by decide +kernel) rfl
theorem t_75 : Cond.methodLink "java/util/ArrayList" 1 y_7 ∈ lw_g := xg_t 75 (by decide +kernel) rfl
theorem t_76 : Cond.instanceMethod y_7 ∈ lw_g := xg_t 76 (by decide +kernel) rfl
theorem t_77 : Cond.code y_7 prog_26_method_1_code 1 Option.none ∈ lw_g := xg_t 77 (by decide +kernel) rfl
theorem t_78 : Cond.methodLink "java/util/AbstractList" 1 y_8 ∈ lw_g := xg_t 78 (by decide +kernel) rfl
theorem t_79 : Cond.instanceMethod y_8 ∈ lw_g := xg_t 79 (by decide +kernel) rfl
theorem t_80 : Cond.code y_8 prog_25_method_1_code 1 Option.none ∈ lw_g := xg_t 80 (by decide +kernel) rfl
theorem t_81 : Cond.methodLink "java/util/AbstractCollection" 1 y_1 ∈ lw_g := xg_t 81 (by decide +kernel) rfl
theorem t_82 : Cond.fieldLink "java/util/ArrayList" 39 "java/util/ArrayList" "DEFAULTCAPACITY_EMPTY_ELEMENTDATA" "[Ljava/lang/Object;" ∈ lw_g := xg_t 82 (by decide +kernel) rfl
theorem t_84 : Cond.fieldLink "java/util/ArrayList" 9 "java/util/ArrayList" "elementData" "[Ljava/lang/Object;" ∈ lw_g := xg_t 84 (by decide +kernel) rfl
theorem t_85 : Cond.fieldLink "java/util/ArrayList" 48 "java/util/ArrayList" "size" "I" ∈ lw_g := xg_t 85 (by decide +kernel) rfl
theorem t_86 : Cond.fieldLink "java/util/AbstractList" 7 "java/util/AbstractList" "modCount" "I" ∈ lw_g := xg_t 86 (by decide +kernel) rfl
theorem t_87 : Cond.fieldLink "java/util/ArrayList" 63 "java/util/ArrayList" "modCount" "I" ∈ lw_g := xg_t 87 (by decide +kernel) rfl
theorem t_88 : Cond.sameField "java/util/ArrayList" "java/util/AbstractList" "modCount" "I" ∈ lw_g := xg_t 88 (by decide +kernel) rfl
theorem t_89 : Cond.lays "java/util/ArrayList" "java/util/ArrayList" "elementData" "[Ljava/lang/Object;" ∈ lw_g := xg_t 89 (by decide +kernel) rfl
theorem t_90 : Cond.soleField "java/util/ArrayList" "elementData" ∈ lw_g := xg_t 90 (by decide +kernel) rfl
theorem t_91 : Cond.lays "java/util/ArrayList" "java/util/ArrayList" "size" "I" ∈ lw_g := xg_t 91 (by decide +kernel) rfl
theorem t_92 : Cond.soleField "java/util/ArrayList" "size" ∈ lw_g := xg_t 92 (by decide +kernel) rfl
theorem t_93 : Cond.lays "java/util/ArrayList" "java/util/AbstractList" "modCount" "I" ∈ lw_g := xg_t 93 (by decide +kernel) rfl
theorem t_94 : Cond.soleField "java/util/AbstractList" "modCount" ∈ lw_g := xg_t 94 (by decide +kernel) rfl
theorem t_95 : Cond.superclass "java/util/ArrayList" "java/util/AbstractList" ∈ lw_g := xg_t 95 (by decide +kernel) rfl
theorem t_96 : Cond.fieldLink "RealmDesk" 10 "RealmDesk" "written" "Ljava/lang/StringBuilder;" ∈ lw_g := xg_t 96 (by decide +kernel) rfl
theorem t_97 : Cond.fieldLink "RealmDesk" 19 "RealmDesk" "archives" "Ljava/util/ArrayList;" ∈ lw_g := xg_t 97 (by decide +kernel) rfl
theorem t_98 : Cond.fieldLink "RealmDesk" 23 "RealmDesk" "realms" "Ljava/util/ArrayList;" ∈ lw_g := xg_t 98 (by decide +kernel) rfl
theorem t_99 : Cond.fieldLink "RealmDesk" 26 "RealmDesk" "toldRealms" "[I" ∈ lw_g := xg_t 99 (by decide +kernel) rfl
theorem t_100 : Cond.fieldLink "RealmDesk" 30 "RealmDesk" "timesAsked" "I" ∈ lw_g := xg_t 100 (by decide +kernel) rfl
theorem t_101 : Cond.laysFinal "RealmDesk" "RealmDesk" "written" "Ljava/lang/StringBuilder;" ∈ lw_g := xg_t 101 (by decide +kernel) rfl
theorem t_102 : Cond.soleField "RealmDesk" "written" ∈ lw_g := xg_t 102 (by decide +kernel) rfl
theorem t_103 : Cond.laysFinal "RealmDesk" "RealmDesk" "archives" "Ljava/util/ArrayList;" ∈ lw_g := xg_t 103 (by decide +kernel) rfl
theorem t_104 : Cond.soleField "RealmDesk" "archives" ∈ lw_g := xg_t 104 (by decide +kernel) rfl
theorem t_105 : Cond.laysFinal "RealmDesk" "RealmDesk" "realms" "Ljava/util/ArrayList;" ∈ lw_g := xg_t 105 (by decide +kernel) rfl
theorem t_106 : Cond.soleField "RealmDesk" "realms" ∈ lw_g := xg_t 106 (by decide +kernel) rfl
theorem t_107 : Cond.laysFinal "RealmDesk" "RealmDesk" "toldRealms" "[I" ∈ lw_g := xg_t 107 (by decide +kernel) rfl
theorem t_108 : Cond.soleField "RealmDesk" "toldRealms" ∈ lw_g := xg_t 108 (by decide +kernel) rfl
theorem t_109 : Cond.lays "RealmDesk" "RealmDesk" "timesAsked" "I" ∈ lw_g := xg_t 109 (by decide +kernel) rfl
theorem t_110 : Cond.soleField "RealmDesk" "timesAsked" ∈ lw_g := xg_t 110 (by decide +kernel) rfl
theorem t_111 : Cond.superclass "RealmDesk" "java/lang/Object" ∈ lw_g := xg_t 111 (by decide +kernel) rfl
theorem t_112 : Cond.arrayClass Jvm.ClassFile.FieldType.int ∈ lw_g := xg_t 112 (by decide +kernel) rfl
theorem t_113 : Cond.methodLink "RealmDeskLaw" 27 y_9 ∈ lw_g := xg_t 113 (by decide +kernel) rfl
theorem t_114 : Cond.instanceMethod y_9 ∈ lw_g := xg_t 114 (by decide +kernel) rfl
theorem t_115 : Cond.selects "RealmDesk" y_9 y_9 ∈ lw_g := xg_t 115 (by decide +kernel) rfl
theorem t_116 : Cond.code y_9 prog_1_method_2_code 2 (Option.some Jvm.ClassFile.FieldType.boolean) ∈ lw_g := xg_t 116 (by decide +kernel) rfl
theorem t_117 : Cond.methodLink "RealmDesk" 34 y_10 ∈ lw_g := xg_t 117 (by decide +kernel) rfl
theorem t_118 : Cond.instanceMethod y_10 ∈ lw_g := xg_t 118 (by decide +kernel) rfl
theorem t_119 : Cond.selects "java/lang/StringBuilder" y_10 y_10 ∈ lw_g := xg_t 119 (by decide +kernel) rfl
theorem t_120 : Cond.code y_10 prog_20_method_93_code 1 (Option.some Jvm.ClassFile.FieldType.int) ∈ lw_g := xg_t 120 (by decide +kernel) rfl
theorem t_121 : Cond.methodLink "java/lang/StringBuilder" 343 y_11 ∈ lw_g := xg_t 121 (by decide +kernel) rfl
theorem t_122 : Cond.instanceMethod y_11 ∈ lw_g := xg_t 122 (by decide +kernel) rfl
theorem t_123 : Cond.code y_11 prog_10_method_6_code 1 (Option.some Jvm.ClassFile.FieldType.int) ∈ lw_g := xg_t 123 (by decide +kernel) rfl
theorem t_124 : Cond.methodLink "RealmDesk" 38 y_12 ∈ lw_g := xg_t 124 (by decide +kernel) rfl
theorem t_125 : Cond.instanceMethod y_12 ∈ lw_g := xg_t 125 (by decide +kernel) rfl
theorem t_126 : Cond.selects "java/lang/StringBuilder" y_12 y_12 ∈ lw_g := xg_t 126 (by decide +kernel) rfl
theorem t_127 : Cond.code y_12 prog_20_method_14_code 2 (Option.some (Jvm.ClassFile.FieldType.object "java/lang/StringBuilder")) ∈ lw_g := xg_t 127 (by decide +kernel) rfl
theorem t_128 : Cond.methodLink "java/lang/StringBuilder" 50 y_13 ∈ lw_g := xg_t 128 (by decide +kernel) rfl
theorem t_129 : Cond.instanceMethod y_13 ∈ lw_g := xg_t 129 (by decide +kernel) rfl
theorem t_130 : Cond.code y_13 prog_10_method_31_code 2 (Option.some (Jvm.ClassFile.FieldType.object "java/lang/AbstractStringBuilder")) ∈ lw_g := xg_t 130 (by decide +kernel) rfl
theorem t_131 : Cond.methodLink "java/lang/AbstractStringBuilder" 100 y_14 ∈ lw_g := xg_t 131 (by decide +kernel) rfl
theorem t_133 : Cond.instanceMethod y_14 ∈ lw_g := xg_t 133 (by decide +kernel) rfl
theorem t_134 : Cond.code y_14 prog_10_method_9_code 3 Option.none ∈ lw_g := xg_t 134 (by decide +kernel) rfl
theorem t_135 : Cond.methodLink "java/lang/AbstractStringBuilder" 104 y_15 ∈ lw_g := xg_t 135 (by decide +kernel) rfl
theorem t_137 : Cond.instanceMethod y_15 ∈ lw_g := xg_t 137 (by decide +kernel) rfl
theorem t_138 : Cond.code y_15 prog_10_method_10_code 6 (Option.some Jvm.ClassFile.FieldType.int) ∈ lw_g := xg_t 138 (by decide +kernel) rfl
theorem t_139 : Cond.methodLink "java/lang/AbstractStringBuilder" 114 y_16 ∈ lw_g := xg_t 139 (by decide +kernel) rfl
theorem t_140 : Cond.static y_16 ∈ lw_g := xg_t 140 (by decide +kernel) rfl
theorem t_141 : Cond.code y_16 prog_35_method_27_code 4 (Option.some Jvm.ClassFile.FieldType.int) ∈ lw_g := xg_t 141 (by decide +kernel) rfl
theorem t_142 : Cond.methodLink "jdk/internal/util/ArraysSupport" 194 y_17 ∈ lw_g := xg_t 142 (by decide +kernel) rfl
theorem t_143 : Cond.static y_17 ∈ lw_g := xg_t 143 (by decide +kernel) rfl
theorem t_144 : Cond.code y_17 prog_17_method_65_code 2 (Option.some Jvm.ClassFile.FieldType.int) ∈ lw_g := xg_t 144 (by decide +kernel) rfl
theorem t_145 : Cond.constant "jdk/internal/util/ArraysSupport" 200 2147483639 ∈ lw_g := xg_t 145 (by decide +kernel) rfl
theorem t_149 : Cond.constant "java/lang/AbstractStringBuilder" 39 2147483647 ∈ lw_g := xg_t 149 (by decide +kernel) rfl
theorem t_150 : Cond.methodLink "java/lang/AbstractStringBuilder" 108 y_19 ∈ lw_g := xg_t 150 (by decide +kernel) rfl
theorem t_151 : Cond.static y_19 ∈ lw_g := xg_t 151 (by decide +kernel) rfl
theorem t_152 : Cond.code y_19 prog_28_method_121_code 3 (Option.some (Jvm.ClassFile.FieldType.array Jvm.ClassFile.FieldType.byte)) ∈ lw_g := xg_t 152 (by decide +kernel) rfl
theorem t_153 : Cond.methodLink "java/util/Arrays" 310 y_20 ∈ lw_g := xg_t 153 (by decide +kernel) rfl
theorem t_154 : Cond.sameMethod "[B" "java/lang/Object" "clone" "()Ljava/lang/Object;" ∈ lw_g := xg_t 154 (by decide +kernel) rfl
theorem t_155 : Cond.native y_21 ∈ lw_g := xg_t 155 (by decide +kernel) rfl
theorem t_156 : Cond.instanceMethod y_21 ∈ lw_g := xg_t 156 (by decide +kernel) rfl
theorem t_157 : Cond.selects "[B" y_20 y_21 ∈ lw_g := xg_t 157 (by decide +kernel) rfl
theorem t_159 : Cond.classLink "java/util/Arrays" 311 "[B" ∈ lw_g := xg_t 159 (by decide +kernel) rfl
theorem t_160 : Cond.methodLink "java/util/Arrays" 304 y_22 ∈ lw_g := xg_t 160 (by decide +kernel) rfl
theorem t_161 : Cond.static y_22 ∈ lw_g := xg_t 161 (by decide +kernel) rfl
theorem t_162 : Cond.code y_22 prog_17_method_69_code 2 (Option.some Jvm.ClassFile.FieldType.int) ∈ lw_g := xg_t 162 (by decide +kernel) rfl
theorem t_163 : Cond.methodLink "java/util/Arrays" 150 y_23 ∈ lw_g := xg_t 163 (by decide +kernel) rfl
theorem t_164 : Cond.static y_23 ∈ lw_g := xg_t 164 (by decide +kernel) rfl
theorem t_165 : Cond.native y_23 ∈ lw_g := xg_t 165 (by decide +kernel) rfl
theorem t_166 : Cond.methodLink "java/lang/AbstractStringBuilder" 83 y_24 ∈ lw_g := xg_t 166 (by decide +kernel) rfl
theorem t_167 : Cond.instanceMethod y_24 ∈ lw_g := xg_t 167 (by decide +kernel) rfl
theorem t_168 : Cond.sameMethod "java/lang/AbstractStringBuilder" "java/lang/AbstractStringBuilder" "isLatin1" "()Z" ∈ lw_g := xg_t 168 (by decide +kernel) rfl
theorem t_169 : Cond.selects "java/lang/StringBuilder" y_24 y_24 ∈ lw_g := xg_t 169 (by decide +kernel) rfl
theorem t_170 : Cond.code y_24 prog_10_method_68_code 1 (Option.some Jvm.ClassFile.FieldType.boolean) ∈ lw_g := xg_t 170 (by decide +kernel) rfl
theorem t_171 : Cond.methodLink "java/lang/AbstractStringBuilder" 191 y_25 ∈ lw_g := xg_t 171 (by decide +kernel) rfl
theorem t_172 : Cond.static y_25 ∈ lw_g := xg_t 172 (by decide +kernel) rfl
theorem t_173 : Cond.code y_25 prog_21_method_3_code 1 (Option.some Jvm.ClassFile.FieldType.boolean) ∈ lw_g := xg_t 173 (by decide +kernel) rfl
theorem t_193 : Cond.fieldLink "java/lang/String" 1053 "jdk/internal/util/Preconditions" "SIOOBE_FORMATTER" "Ljava/util/function/BiFunction;" ∈ lw_g := xg_t 193 (by decide +kernel) rfl
theorem t_195 : Cond.methodLink "java/lang/String" 1065 y_32 ∈ lw_g := xg_t 195 (by decide +kernel) rfl
theorem t_196 : Cond.static y_32 ∈ lw_g := xg_t 196 (by decide +kernel) rfl
theorem t_197 : Cond.code y_32 prog_36_method_13_code 4 (Option.some Jvm.ClassFile.FieldType.int) ∈ lw_g := xg_t 197 (by decide +kernel) rfl
theorem t_214 : Cond.static y_36 ∈ lw_g := xg_t 214 (by decide +kernel) rfl
theorem t_215 : Cond.code y_36 prog_19_method_155_code 2 Option.none ∈ lw_g := xg_t 215 (by decide +kernel) rfl
theorem t_216 : Cond.methodLink "java/lang/String" 1059 y_37 ∈ lw_g := xg_t 216 (by decide +kernel) rfl
theorem t_217 : Cond.static y_37 ∈ lw_g := xg_t 217 (by decide +kernel) rfl
theorem t_218 : Cond.code y_37 prog_36_method_11_code 3 (Option.some Jvm.ClassFile.FieldType.int) ∈ lw_g := xg_t 218 (by decide +kernel) rfl
theorem t_219 : Cond.methodLink "RealmDeskLaw" 42 y_38 ∈ lw_g := xg_t 219 (by decide +kernel) rfl
theorem t_220 : Cond.instanceMethod y_38 ∈ lw_g := xg_t 220 (by decide +kernel) rfl
theorem t_221 : Cond.selects "RealmDesk" y_38 y_38 ∈ lw_g := xg_t 221 (by decide +kernel) rfl
theorem t_222 : Cond.code y_38 prog_1_method_5_code 1 (Option.some Jvm.ClassFile.FieldType.int) ∈ lw_g := xg_t 222 (by decide +kernel) rfl
theorem t_223 : Cond.methodLink "RealmDeskLaw" 46 y_39 ∈ lw_g := xg_t 223 (by decide +kernel) rfl
theorem t_224 : Cond.instanceMethod y_39 ∈ lw_g := xg_t 224 (by decide +kernel) rfl
theorem t_225 : Cond.selects "RealmDesk" y_39 y_39 ∈ lw_g := xg_t 225 (by decide +kernel) rfl
theorem t_226 : Cond.code y_39 prog_1_method_6_code 2 (Option.some Jvm.ClassFile.FieldType.int) ∈ lw_g := xg_t 226 (by decide +kernel) rfl
theorem t_227 : Cond.methodLink "RealmDeskLaw" 50 y_40 ∈ lw_g := xg_t 227 (by decide +kernel) rfl
theorem t_228 : Cond.instanceMethod y_40 ∈ lw_g := xg_t 228 (by decide +kernel) rfl
theorem t_229 : Cond.selects "RealmDesk" y_40 y_40 ∈ lw_g := xg_t 229 (by decide +kernel) rfl
theorem t_230 : Cond.code y_40 prog_1_method_7_code 2 (Option.some Jvm.ClassFile.FieldType.int) ∈ lw_g := xg_t 230 (by decide +kernel) rfl
theorem t_231 : Cond.methodLink "RealmDesk" 78 y_41 ∈ lw_g := xg_t 231 (by decide +kernel) rfl
theorem t_233 : Cond.instanceMethod y_41 ∈ lw_g := xg_t 233 (by decide +kernel) rfl
theorem t_234 : Cond.code y_41 prog_1_method_17_code 2 (Option.some Jvm.ClassFile.FieldType.boolean) ∈ lw_g := xg_t 234 (by decide +kernel) rfl
theorem t_235 : Cond.methodLink "RealmDesk" 50 y_42 ∈ lw_g := xg_t 235 (by decide +kernel) rfl
theorem t_236 : Cond.instanceMethod y_42 ∈ lw_g := xg_t 236 (by decide +kernel) rfl
theorem t_237 : Cond.selects "java/util/ArrayList" y_42 y_42 ∈ lw_g := xg_t 237 (by decide +kernel) rfl
theorem t_238 : Cond.code y_42 prog_27_method_8_code 1 (Option.some Jvm.ClassFile.FieldType.int) ∈ lw_g := xg_t 238 (by decide +kernel) rfl
theorem t_239 : Cond.methodLink "RealmDesk" 53 y_43 ∈ lw_g := xg_t 239 (by decide +kernel) rfl
theorem t_240 : Cond.instanceMethod y_43 ∈ lw_g := xg_t 240 (by decide +kernel) rfl
theorem t_241 : Cond.selects "java/util/ArrayList" y_43 y_43 ∈ lw_g := xg_t 241 (by decide +kernel) rfl
theorem t_242 : Cond.code y_43 prog_27_method_20_code 2 (Option.some (Jvm.ClassFile.FieldType.object "java/lang/Object")) ∈ lw_g := xg_t 242 (by decide +kernel) rfl
theorem t_243 : Cond.methodLink "java/util/ArrayList" 118 y_44 ∈ lw_g := xg_t 243 (by decide +kernel) rfl
theorem t_244 : Cond.static y_44 ∈ lw_g := xg_t 244 (by decide +kernel) rfl
theorem t_245 : Cond.code y_44 prog_32_method_17_code 2 (Option.some Jvm.ClassFile.FieldType.int) ∈ lw_g := xg_t 245 (by decide +kernel) rfl
theorem t_246 : Cond.methodLink "java/util/Objects" 105 y_37 ∈ lw_g := xg_t 246 (by decide +kernel) rfl
theorem t_247 : Cond.methodLink "java/util/ArrayList" 123 y_45 ∈ lw_g := xg_t 247 (by decide +kernel) rfl
theorem t_248 : Cond.instanceMethod y_45 ∈ lw_g := xg_t 248 (by decide +kernel) rfl
theorem t_249 : Cond.selects "java/util/ArrayList" y_45 y_45 ∈ lw_g := xg_t 249 (by decide +kernel) rfl
theorem t_250 : Cond.code y_45 prog_27_method_18_code 2 (Option.some (Jvm.ClassFile.FieldType.object "java/lang/Object")) ∈ lw_g := xg_t 250 (by decide +kernel) rfl
theorem t_251 : Cond.classLink "RealmDesk" 86 "RealmDesk$Realm" ∈ lw_g := xg_t 251 (by decide +kernel) rfl
theorem t_252 : Cond.methodLink "RealmDeskLaw" 54 y_46 ∈ lw_g := xg_t 252 (by decide +kernel) rfl
theorem t_253 : Cond.instanceMethod y_46 ∈ lw_g := xg_t 253 (by decide +kernel) rfl
theorem t_254 : Cond.selects "RealmDesk" y_46 y_46 ∈ lw_g := xg_t 254 (by decide +kernel) rfl
theorem t_255 : Cond.code y_46 prog_1_method_8_code 2 (Option.some Jvm.ClassFile.FieldType.int) ∈ lw_g := xg_t 255 (by decide +kernel) rfl
theorem t_256 : Cond.classLink "RealmDesk" 98 "RealmDesk$Archive" ∈ lw_g := xg_t 256 (by decide +kernel) rfl
theorem t_257 : Cond.methodLink "RealmDeskLaw" 58 y_47 ∈ lw_g := xg_t 257 (by decide +kernel) rfl
theorem t_258 : Cond.instanceMethod y_47 ∈ lw_g := xg_t 258 (by decide +kernel) rfl
theorem t_259 : Cond.selects "RealmDesk" y_47 y_47 ∈ lw_g := xg_t 259 (by decide +kernel) rfl
theorem t_260 : Cond.code y_47 prog_1_method_9_code 2 (Option.some Jvm.ClassFile.FieldType.boolean) ∈ lw_g := xg_t 260 (by decide +kernel) rfl
theorem t_261 : Cond.methodLink "RealmDeskLaw" 63 y_48 ∈ lw_g := xg_t 261 (by decide +kernel) rfl
theorem t_262 : Cond.instanceMethod y_48 ∈ lw_g := xg_t 262 (by decide +kernel) rfl
theorem t_263 : Cond.selects "RealmDesk" y_48 y_48 ∈ lw_g := xg_t 263 (by decide +kernel) rfl
theorem t_264 : Cond.code y_48 prog_1_method_10_code 2 (Option.some Jvm.ClassFile.FieldType.int) ∈ lw_g := xg_t 264 (by decide +kernel) rfl
theorem t_265 : Cond.methodLink "RealmDesk" 42 y_49 ∈ lw_g := xg_t 265 (by decide +kernel) rfl
theorem t_267 : Cond.instanceMethod y_49 ∈ lw_g := xg_t 267 (by decide +kernel) rfl
theorem t_268 : Cond.code y_49 prog_1_method_12_code 2 (Option.some (Jvm.ClassFile.FieldType.object "java/lang/String")) ∈ lw_g := xg_t 268 (by decide +kernel) rfl
theorem t_269 : Cond.methodLink "RealmDesk" 117 y_50 ∈ lw_g := xg_t 269 (by decide +kernel) rfl
theorem t_270 : Cond.instanceMethod y_50 ∈ lw_g := xg_t 270 (by decide +kernel) rfl
theorem t_271 : Cond.selects "java/lang/StringBuilder" y_50 y_50 ∈ lw_g := xg_t 271 (by decide +kernel) rfl
theorem t_272 : Cond.code y_50 prog_20_method_42_code 1 (Option.some (Jvm.ClassFile.FieldType.object "java/lang/String")) ∈ lw_g := xg_t 272 (by decide +kernel) rfl
theorem t_273 : Cond.classLink "java/lang/StringBuilder" 18 "java/lang/String" ∈ lw_g := xg_t 273 (by decide +kernel) rfl
theorem t_274 : Cond.instantiable "java/lang/String" 4 ∈ lw_g := xg_t 274 (by decide +kernel) rfl
theorem t_275 : Cond.methodLink "java/lang/StringBuilder" 137 y_51 ∈ lw_g := xg_t 275 (by decide +kernel) rfl
theorem t_276 : Cond.instanceMethod y_51 ∈ lw_g := xg_t 276 (by decide +kernel) rfl
theorem t_277 : Cond.code y_51 prog_19_method_53_code 2 Option.none ∈ lw_g := xg_t 277 (by decide +kernel) rfl
theorem t_278 : Cond.methodLink "java/lang/String" 489 y_52 ∈ lw_g := xg_t 278 (by decide +kernel) rfl
theorem t_279 : Cond.instanceMethod y_52 ∈ lw_g := xg_t 279 (by decide +kernel) rfl
theorem t_280 : Cond.code y_52 prog_19_method_150_code 5 Option.none ∈ lw_g := xg_t 280 (by decide +kernel) rfl
theorem t_281 : Cond.methodLink "java/lang/String" 1 y_1 ∈ lw_g := xg_t 281 (by decide +kernel) rfl
theorem t_282 : Cond.methodLink "java/lang/String" 552 y_53 ∈ lw_g := xg_t 282 (by decide +kernel) rfl
theorem t_283 : Cond.instanceMethod y_53 ∈ lw_g := xg_t 283 (by decide +kernel) rfl
theorem t_284 : Cond.sameMethod "java/lang/AbstractStringBuilder" "java/lang/AbstractStringBuilder" "getValue" "()[B" ∈ lw_g := xg_t 284 (by decide +kernel) rfl
theorem t_285 : Cond.selects "java/lang/StringBuilder" y_53 y_53 ∈ lw_g := xg_t 285 (by decide +kernel) rfl
theorem t_286 : Cond.code y_53 prog_10_method_64_code 1 (Option.some (Jvm.ClassFile.FieldType.array Jvm.ClassFile.FieldType.byte)) ∈ lw_g := xg_t 286 (by decide +kernel) rfl
theorem t_287 : Cond.methodLink "java/lang/String" 549 y_11 ∈ lw_g := xg_t 287 (by decide +kernel) rfl
theorem t_288 : Cond.methodLink "java/lang/String" 1047 y_24 ∈ lw_g := xg_t 288 (by decide +kernel) rfl
theorem t_289 : Cond.methodLink "java/lang/String" 54 y_54 ∈ lw_g := xg_t 289 (by decide +kernel) rfl
theorem t_290 : Cond.static y_54 ∈ lw_g := xg_t 290 (by decide +kernel) rfl
theorem t_291 : Cond.code y_54 prog_28_method_132_code 3 (Option.some (Jvm.ClassFile.FieldType.array Jvm.ClassFile.FieldType.byte)) ∈ lw_g := xg_t 291 (by decide +kernel) rfl
theorem t_292 : Cond.methodLink "java/util/Arrays" 339 y_55 ∈ lw_g := xg_t 292 (by decide +kernel) rfl
theorem t_293 : Cond.static y_55 ∈ lw_g := xg_t 293 (by decide +kernel) rfl
theorem t_294 : Cond.code y_55 prog_28_method_133_code 5 (Option.some (Jvm.ClassFile.FieldType.array Jvm.ClassFile.FieldType.byte)) ∈ lw_g := xg_t 294 (by decide +kernel) rfl
theorem t_295 : Cond.methodLink "java/util/Arrays" 343 y_56 ∈ lw_g := xg_t 295 (by decide +kernel) rfl
theorem t_296 : Cond.static y_56 ∈ lw_g := xg_t 296 (by decide +kernel) rfl
theorem t_297 : Cond.code y_56 prog_28_method_131_code 2 Option.none ∈ lw_g := xg_t 297 (by decide +kernel) rfl
theorem t_298 : Cond.classLink "java/util/Arrays" 43 "java/lang/IllegalArgumentException" ∈ lw_g := xg_t 298 (by decide +kernel) rfl
theorem t_299 : Cond.instantiable "java/lang/IllegalArgumentException" 6 ∈ lw_g := xg_t 299 (by decide +kernel) rfl
theorem t_307 : Cond.selects "java/lang/IllegalArgumentException" y_63 y_63 ∈ lw_g := xg_t 307 (by decide +kernel) rfl
theorem t_308 : Cond.selects "java/lang/IllegalArgumentException" y_64 y_64 ∈ lw_g := xg_t 308 (by decide +kernel) rfl
theorem t_309 : Cond.lays "java/lang/IllegalArgumentException" "java/lang/Throwable" "cause" "Ljava/lang/Throwable;" ∈ lw_g := xg_t 309 (by decide +kernel) rfl
theorem t_310 : Cond.lays "java/lang/Throwable" "java/lang/Throwable" "cause" "Ljava/lang/Throwable;" ∈ lw_g := xg_t 310 (by decide +kernel) rfl
theorem t_311 : Cond.lays "java/lang/IllegalArgumentException" "java/lang/Throwable" "stackTrace" "[Ljava/lang/StackTraceElement;" ∈ lw_g := xg_t 311 (by decide +kernel) rfl
theorem t_312 : Cond.lays "java/lang/Throwable" "java/lang/Throwable" "stackTrace" "[Ljava/lang/StackTraceElement;" ∈ lw_g := xg_t 312 (by decide +kernel) rfl
theorem t_315 : Cond.lays "java/lang/IllegalArgumentException" "java/lang/Throwable" "detailMessage" "Ljava/lang/String;" ∈ lw_g := xg_t 315 (by decide +kernel) rfl
theorem t_316 : Cond.lays "java/lang/Throwable" "java/lang/Throwable" "detailMessage" "Ljava/lang/String;" ∈ lw_g := xg_t 316 (by decide +kernel) rfl
theorem t_317 : Cond.lays "java/lang/IllegalArgumentException" "java/lang/Throwable" "backtrace" "Ljava/lang/Object;" ∈ lw_g := xg_t 317 (by decide +kernel) rfl
theorem t_318 : Cond.lays "java/lang/Throwable" "java/lang/Throwable" "backtrace" "Ljava/lang/Object;" ∈ lw_g := xg_t 318 (by decide +kernel) rfl
theorem t_319 : Cond.fieldLink "java/lang/Throwable" 198 "java/lang/Throwable" "backtrace" "Ljava/lang/Object;" ∈ lw_g := xg_t 319 (by decide +kernel) rfl
theorem t_320 : Cond.superclass "java/lang/Throwable" "java/lang/Object" ∈ lw_g := xg_t 320 (by decide +kernel) rfl
theorem t_321 : Cond.instanceMethod y_61 ∈ lw_g := xg_t 321 (by decide +kernel) rfl
theorem t_322 : Cond.code y_61 prog_24_method_1_code 1 Option.none ∈ lw_g := xg_t 322 (by decide +kernel) rfl
theorem t_323 : Cond.methodLink "java/lang/Throwable" 1 y_1 ∈ lw_g := xg_t 323 (by decide +kernel) rfl
theorem t_324 : Cond.fieldLink "java/lang/Throwable" 13 "java/lang/Throwable" "UNASSIGNED_STACK" "[Ljava/lang/StackTraceElement;" ∈ lw_g := xg_t 324 (by decide +kernel) rfl
theorem t_328 : Cond.methodLink "java/lang/Throwable" 27 y_64 ∈ lw_g := xg_t 328 (by decide +kernel) rfl
theorem t_329 : Cond.instanceMethod y_64 ∈ lw_g := xg_t 329 (by decide +kernel) rfl
theorem t_330 : Cond.sameMethod "java/lang/Throwable" "java/lang/Throwable" "fillInStackTrace" "()Ljava/lang/Throwable;" ∈ lw_g := xg_t 330 (by decide +kernel) rfl
theorem t_331 : Cond.selects "java/lang/IllegalStateException" y_64 y_64 ∈ lw_g := xg_t 331 (by decide +kernel) rfl
theorem t_332 : Cond.selects "java/util/NoSuchElementException" y_64 y_64 ∈ lw_g := xg_t 332 (by decide +kernel) rfl
theorem t_334 : Cond.methodLink "java/lang/Throwable" 202 y_63 ∈ lw_g := xg_t 334 (by decide +kernel) rfl
theorem t_336 : Cond.instanceMethod y_63 ∈ lw_g := xg_t 336 (by decide +kernel) rfl
theorem t_337 : Cond.instantiable "java/lang/Throwable" 6 ∈ lw_g := xg_t 337 (by decide +kernel) rfl
theorem t_338 : Cond.native y_63 ∈ lw_g := xg_t 338 (by decide +kernel) rfl
theorem t_339 : Cond.classLink "java/util/Arrays" 45 "java/lang/StringBuilder" ∈ lw_g := xg_t 339 (by decide +kernel) rfl
theorem t_340 : Cond.methodLink "java/util/Arrays" 47 y_2 ∈ lw_g := xg_t 340 (by decide +kernel) rfl
theorem t_341 : Cond.methodLink "java/util/Arrays" 54 y_65 ∈ lw_g := xg_t 341 (by decide +kernel) rfl
theorem t_342 : Cond.instanceMethod y_65 ∈ lw_g := xg_t 342 (by decide +kernel) rfl
theorem t_343 : Cond.selects "java/lang/StringBuilder" y_65 y_65 ∈ lw_g := xg_t 343 (by decide +kernel) rfl
theorem t_344 : Cond.code y_65 prog_20_method_15_code 2 (Option.some (Jvm.ClassFile.FieldType.object "java/lang/StringBuilder")) ∈ lw_g := xg_t 344 (by decide +kernel) rfl
theorem t_345 : Cond.methodLink "java/lang/StringBuilder" 53 y_66 ∈ lw_g := xg_t 345 (by decide +kernel) rfl
theorem t_346 : Cond.instanceMethod y_66 ∈ lw_g := xg_t 346 (by decide +kernel) rfl
theorem t_347 : Cond.code y_66 prog_10_method_32_code 4 (Option.some (Jvm.ClassFile.FieldType.object "java/lang/AbstractStringBuilder")) ∈ lw_g := xg_t 347 (by decide +kernel) rfl
theorem t_365 : Cond.static y_71 ∈ lw_g := xg_t 365 (by decide +kernel) rfl
theorem t_366 : Cond.code y_71 prog_19_method_158_code 3 Option.none ∈ lw_g := xg_t 366 (by decide +kernel) rfl
theorem t_367 : Cond.methodLink "java/lang/String" 1062 y_72 ∈ lw_g := xg_t 367 (by decide +kernel) rfl
theorem t_368 : Cond.static y_72 ∈ lw_g := xg_t 368 (by decide +kernel) rfl
theorem t_369 : Cond.code y_72 prog_36_method_12_code 4 (Option.some Jvm.ClassFile.FieldType.int) ∈ lw_g := xg_t 369 (by decide +kernel) rfl
theorem t_376 : Cond.methodLink "java/util/Arrays" 50 y_74 ∈ lw_g := xg_t 376 (by decide +kernel) rfl
theorem t_377 : Cond.instanceMethod y_74 ∈ lw_g := xg_t 377 (by decide +kernel) rfl
theorem t_378 : Cond.selects "java/lang/StringBuilder" y_74 y_74 ∈ lw_g := xg_t 378 (by decide +kernel) rfl
theorem t_379 : Cond.code y_74 prog_20_method_7_code 2 (Option.some (Jvm.ClassFile.FieldType.object "java/lang/StringBuilder")) ∈ lw_g := xg_t 379 (by decide +kernel) rfl
theorem t_380 : Cond.methodLink "java/lang/StringBuilder" 29 y_75 ∈ lw_g := xg_t 380 (by decide +kernel) rfl
theorem t_381 : Cond.instanceMethod y_75 ∈ lw_g := xg_t 381 (by decide +kernel) rfl
theorem t_382 : Cond.code y_75 prog_10_method_22_code 3 (Option.some (Jvm.ClassFile.FieldType.object "java/lang/AbstractStringBuilder")) ∈ lw_g := xg_t 382 (by decide +kernel) rfl
theorem t_390 : Cond.methodLink "java/lang/AbstractStringBuilder" 32 y_78 ∈ lw_g := xg_t 390 (by decide +kernel) rfl
theorem t_391 : Cond.instanceMethod y_78 ∈ lw_g := xg_t 391 (by decide +kernel) rfl
theorem t_392 : Cond.selects "java/lang/String" y_78 y_78 ∈ lw_g := xg_t 392 (by decide +kernel) rfl
theorem t_393 : Cond.code y_78 prog_19_method_54_code 1 (Option.some Jvm.ClassFile.FieldType.int) ∈ lw_g := xg_t 393 (by decide +kernel) rfl
theorem t_394 : Cond.methodLink "java/lang/String" 335 y_79 ∈ lw_g := xg_t 394 (by decide +kernel) rfl
theorem t_395 : Cond.instanceMethod y_79 ∈ lw_g := xg_t 395 (by decide +kernel) rfl
theorem t_396 : Cond.selects "java/lang/String" y_79 y_79 ∈ lw_g := xg_t 396 (by decide +kernel) rfl
theorem t_397 : Cond.code y_79 prog_19_method_152_code 1 (Option.some Jvm.ClassFile.FieldType.byte) ∈ lw_g := xg_t 397 (by decide +kernel) rfl
theorem t_398 : Cond.fieldLink "java/lang/String" 38 "java/lang/String" "COMPACT_STRINGS" "Z" ∈ lw_g := xg_t 398 (by decide +kernel) rfl
theorem t_407 : Cond.methodLink "java/lang/AbstractStringBuilder" 40 y_79 ∈ lw_g := xg_t 407 (by decide +kernel) rfl
theorem t_408 : Cond.methodLink "java/lang/AbstractStringBuilder" 399 y_82 ∈ lw_g := xg_t 408 (by decide +kernel) rfl
theorem t_409 : Cond.instanceMethod y_82 ∈ lw_g := xg_t 409 (by decide +kernel) rfl
theorem t_410 : Cond.selects "java/lang/String" y_82 y_82 ∈ lw_g := xg_t 410 (by decide +kernel) rfl
theorem t_411 : Cond.code y_82 prog_19_method_147_code 4 Option.none ∈ lw_g := xg_t 411 (by decide +kernel) rfl
theorem t_412 : Cond.methodLink "java/lang/String" 212 y_23 ∈ lw_g := xg_t 412 (by decide +kernel) rfl
theorem t_414 : Cond.methodLink "java/util/Arrays" 61 y_50 ∈ lw_g := xg_t 414 (by decide +kernel) rfl
theorem t_427 : Cond.fieldLink "java/lang/Throwable" 198 "java/lang/Throwable" "backtrace" "Ljava/lang/Object;" ∈ lw_g := xg_t 427 (by decide +kernel) rfl
theorem t_428 : Cond.fieldLink "java/lang/Throwable" 31 "java/lang/Throwable" "detailMessage" "Ljava/lang/String;" ∈ lw_g := xg_t 428 (by decide +kernel) rfl
theorem t_429 : Cond.fieldLink "java/lang/Throwable" 7 "java/lang/Throwable" "cause" "Ljava/lang/Throwable;" ∈ lw_g := xg_t 429 (by decide +kernel) rfl
theorem t_430 : Cond.fieldLink "java/lang/Throwable" 17 "java/lang/Throwable" "stackTrace" "[Ljava/lang/StackTraceElement;" ∈ lw_g := xg_t 430 (by decide +kernel) rfl
theorem t_432 : Cond.soleField "java/lang/Throwable" "backtrace" ∈ lw_g := xg_t 432 (by decide +kernel) rfl
theorem t_433 : Cond.soleField "java/lang/Throwable" "detailMessage" ∈ lw_g := xg_t 433 (by decide +kernel) rfl
theorem t_434 : Cond.soleField "java/lang/Throwable" "cause" ∈ lw_g := xg_t 434 (by decide +kernel) rfl
theorem t_435 : Cond.soleField "java/lang/Throwable" "stackTrace" ∈ lw_g := xg_t 435 (by decide +kernel) rfl
theorem t_436 : Cond.lays "java/lang/IllegalArgumentException" "java/lang/Throwable" "depth" "I" ∈ lw_g := xg_t 436 (by decide +kernel) rfl
theorem t_437 : Cond.soleField "java/lang/Throwable" "depth" ∈ lw_g := xg_t 437 (by decide +kernel) rfl
theorem t_438 : Cond.soleField "java/lang/Throwable" "suppressedExceptions" ∈ lw_g := xg_t 438 (by decide +kernel) rfl
theorem t_439 : Cond.superclass "java/lang/IllegalArgumentException" "java/lang/RuntimeException" ∈ lw_g := xg_t 439 (by decide +kernel) rfl
theorem t_453 : Cond.fieldLink "java/lang/String" 9 "java/lang/String" "value" "[B" ∈ lw_g := xg_t 453 (by decide +kernel) rfl
theorem t_454 : Cond.fieldLink "java/lang/String" 15 "java/lang/String" "coder" "B" ∈ lw_g := xg_t 454 (by decide +kernel) rfl
theorem t_455 : Cond.laysFinal "java/lang/String" "java/lang/String" "value" "[B" ∈ lw_g := xg_t 455 (by decide +kernel) rfl
theorem t_456 : Cond.soleField "java/lang/String" "value" ∈ lw_g := xg_t 456 (by decide +kernel) rfl
theorem t_457 : Cond.laysFinal "java/lang/String" "java/lang/String" "coder" "B" ∈ lw_g := xg_t 457 (by decide +kernel) rfl
theorem t_458 : Cond.soleField "java/lang/String" "coder" ∈ lw_g := xg_t 458 (by decide +kernel) rfl
theorem t_459 : Cond.lays "java/lang/String" "java/lang/String" "hash" "I" ∈ lw_g := xg_t 459 (by decide +kernel) rfl
theorem t_460 : Cond.soleField "java/lang/String" "hash" ∈ lw_g := xg_t 460 (by decide +kernel) rfl
theorem t_461 : Cond.lays "java/lang/String" "java/lang/String" "hashIsZero" "Z" ∈ lw_g := xg_t 461 (by decide +kernel) rfl
theorem t_462 : Cond.soleField "java/lang/String" "hashIsZero" ∈ lw_g := xg_t 462 (by decide +kernel) rfl
theorem t_463 : Cond.superclass "java/lang/String" "java/lang/Object" ∈ lw_g := xg_t 463 (by decide +kernel) rfl
theorem t_464 : Cond.methodLink "RealmDesk" 120 y_88 ∈ lw_g := xg_t 464 (by decide +kernel) rfl
theorem t_465 : Cond.instanceMethod y_88 ∈ lw_g := xg_t 465 (by decide +kernel) rfl
theorem t_466 : Cond.selects "java/lang/StringBuilder" y_88 y_88 ∈ lw_g := xg_t 466 (by decide +kernel) rfl
theorem t_467 : Cond.code y_88 prog_20_method_89_code 2 Option.none ∈ lw_g := xg_t 467 (by decide +kernel) rfl
theorem t_468 : Cond.methodLink "java/lang/StringBuilder" 333 y_89 ∈ lw_g := xg_t 468 (by decide +kernel) rfl
theorem t_469 : Cond.instanceMethod y_89 ∈ lw_g := xg_t 469 (by decide +kernel) rfl
theorem t_470 : Cond.code y_89 prog_10_method_13_code 2 Option.none ∈ lw_g := xg_t 470 (by decide +kernel) rfl
theorem t_471 : Cond.methodLink "java/lang/AbstractStringBuilder" 133 y_90 ∈ lw_g := xg_t 471 (by decide +kernel) rfl
theorem t_472 : Cond.static y_90 ∈ lw_g := xg_t 472 (by decide +kernel) rfl
theorem t_473 : Cond.code y_90 prog_21_method_48_code 3 Option.none ∈ lw_g := xg_t 473 (by decide +kernel) rfl
theorem t_474 : Cond.methodLink "java/lang/StringLatin1" 236 y_91 ∈ lw_g := xg_t 474 (by decide +kernel) rfl
theorem t_475 : Cond.static y_91 ∈ lw_g := xg_t 475 (by decide +kernel) rfl
theorem t_476 : Cond.code y_91 prog_28_method_110_code 5 Option.none ∈ lw_g := xg_t 476 (by decide +kernel) rfl
theorem t_487 : Cond.methodLink "RealmDesk" 107 y_94 ∈ lw_g := xg_t 487 (by decide +kernel) rfl
theorem t_489 : Cond.instanceMethod y_94 ∈ lw_g := xg_t 489 (by decide +kernel) rfl
theorem t_490 : Cond.code y_94 prog_1_method_20_code 3 (Option.some (Jvm.ClassFile.FieldType.object "RealmDesk$Realm")) ∈ lw_g := xg_t 490 (by decide +kernel) rfl
theorem t_491 : Cond.methodLink "RealmDesk" 145 y_95 ∈ lw_g := xg_t 491 (by decide +kernel) rfl
theorem t_492 : Cond.instanceMethod y_95 ∈ lw_g := xg_t 492 (by decide +kernel) rfl
theorem t_493 : Cond.selects "java/lang/String" y_95 y_95 ∈ lw_g := xg_t 493 (by decide +kernel) rfl
theorem t_494 : Cond.code y_95 prog_19_method_66_code 3 (Option.some Jvm.ClassFile.FieldType.boolean) ∈ lw_g := xg_t 494 (by decide +kernel) rfl
theorem t_495 : Cond.classLink "java/lang/String" 10 "java/lang/String" ∈ lw_g := xg_t 495 (by decide +kernel) rfl
theorem t_496 : Cond.methodLink "java/lang/String" 541 y_96 ∈ lw_g := xg_t 496 (by decide +kernel) rfl
theorem t_497 : Cond.static y_96 ∈ lw_g := xg_t 497 (by decide +kernel) rfl
theorem t_498 : Cond.code y_96 prog_21_method_13_code 3 (Option.some Jvm.ClassFile.FieldType.boolean) ∈ lw_g := xg_t 498 (by decide +kernel) rfl
theorem t_499 : Cond.methodLink "RealmDeskLaw" 67 y_97 ∈ lw_g := xg_t 499 (by decide +kernel) rfl
theorem t_500 : Cond.instanceMethod y_97 ∈ lw_g := xg_t 500 (by decide +kernel) rfl
theorem t_501 : Cond.selects "RealmDesk" y_97 y_97 ∈ lw_g := xg_t 501 (by decide +kernel) rfl
theorem t_502 : Cond.code y_97 prog_1_method_11_code 2 (Option.some Jvm.ClassFile.FieldType.int) ∈ lw_g := xg_t 502 (by decide +kernel) rfl
theorem t_503 : Cond.methodLink "RealmDesk" 114 y_98 ∈ lw_g := xg_t 503 (by decide +kernel) rfl
theorem t_505 : Cond.instanceMethod y_98 ∈ lw_g := xg_t 505 (by decide +kernel) rfl
theorem t_506 : Cond.code y_98 prog_1_method_18_code 3 (Option.some Jvm.ClassFile.FieldType.int) ∈ lw_g := xg_t 506 (by decide +kernel) rfl
theorem t_507 : Cond.methodLink "RealmDeskLaw" 32 y_99 ∈ lw_g := xg_t 507 (by decide +kernel) rfl
theorem t_508 : Cond.static y_99 ∈ lw_g := xg_t 508 (by decide +kernel) rfl
theorem t_509 : Cond.codeWith y_99 method_3_code 3 (Option.some Jvm.ClassFile.FieldType.int) ([((0 : Nat), (8 : Nat), (11 : Nat), (13 : Nat)), ((0 : Nat), (8 : Nat), (14 : Nat), (15 : Nat))]) ∈ lw_g := xg_t 509 (by decide +kernel) rfl
theorem t_510 : Cond.classLink "RealmDeskLaw" 13 "java/lang/IllegalArgumentException" ∈ lw_g := xg_t 510 (by decide +kernel) rfl
theorem t_511 : Cond.classLink "RealmDeskLaw" 15 "java/lang/IllegalStateException" ∈ lw_g := xg_t 511 (by decide +kernel) rfl
theorem t_512 : Cond.methodLink "RealmDeskLaw" 7 y_100 ∈ lw_g := xg_t 512 (by decide +kernel) rfl
theorem t_513 : Cond.instanceMethod y_100 ∈ lw_g := xg_t 513 (by decide +kernel) rfl
theorem t_514 : Cond.selects "RealmDesk" y_100 y_100 ∈ lw_g := xg_t 514 (by decide +kernel) rfl
theorem t_515 : Cond.code y_100 prog_1_method_3_code 2 (Option.some Jvm.ClassFile.FieldType.int) ∈ lw_g := xg_t 515 (by decide +kernel) rfl
theorem t_516 : Cond.methodLink "RealmDesk" 46 y_101 ∈ lw_g := xg_t 516 (by decide +kernel) rfl
theorem t_517 : Cond.static y_101 ∈ lw_g := xg_t 517 (by decide +kernel) rfl
theorem t_518 : Cond.code y_101 prog_1_method_13_code 4 (Option.some (Jvm.ClassFile.FieldType.object "java/util/ArrayList")) ∈ lw_g := xg_t 518 (by decide +kernel) rfl
theorem t_519 : Cond.methodLink "RealmDesk" 124 y_78 ∈ lw_g := xg_t 519 (by decide +kernel) rfl
theorem t_520 : Cond.methodLink "RealmDesk" 127 y_102 ∈ lw_g := xg_t 520 (by decide +kernel) rfl
theorem t_521 : Cond.instanceMethod y_102 ∈ lw_g := xg_t 521 (by decide +kernel) rfl
theorem t_522 : Cond.selects "java/lang/String" y_102 y_102 ∈ lw_g := xg_t 522 (by decide +kernel) rfl
theorem t_523 : Cond.code y_102 prog_19_method_56_code 2 (Option.some Jvm.ClassFile.FieldType.char) ∈ lw_g := xg_t 523 (by decide +kernel) rfl
theorem t_524 : Cond.methodLink "java/lang/String" 492 y_103 ∈ lw_g := xg_t 524 (by decide +kernel) rfl
theorem t_525 : Cond.instanceMethod y_103 ∈ lw_g := xg_t 525 (by decide +kernel) rfl
theorem t_526 : Cond.selects "java/lang/String" y_103 y_103 ∈ lw_g := xg_t 526 (by decide +kernel) rfl
theorem t_527 : Cond.code y_103 prog_19_method_154_code 1 (Option.some Jvm.ClassFile.FieldType.boolean) ∈ lw_g := xg_t 527 (by decide +kernel) rfl
theorem t_528 : Cond.methodLink "java/lang/String" 495 y_104 ∈ lw_g := xg_t 528 (by decide +kernel) rfl
theorem t_529 : Cond.static y_104 ∈ lw_g := xg_t 529 (by decide +kernel) rfl
theorem t_530 : Cond.code y_104 prog_21_method_2_code 2 (Option.some Jvm.ClassFile.FieldType.char) ∈ lw_g := xg_t 530 (by decide +kernel) rfl
theorem t_531 : Cond.methodLink "java/lang/StringLatin1" 9 y_36 ∈ lw_g := xg_t 531 (by decide +kernel) rfl
theorem t_535 : Cond.classLink "RealmDesk" 57 "RealmDesk$Text" ∈ lw_g := xg_t 535 (by decide +kernel) rfl
theorem t_536 : Cond.instantiable "RealmDesk$Text" 1 ∈ lw_g := xg_t 536 (by decide +kernel) rfl
theorem t_537 : Cond.methodLink "RealmDesk" 131 y_106 ∈ lw_g := xg_t 537 (by decide +kernel) rfl
theorem t_538 : Cond.instanceMethod y_106 ∈ lw_g := xg_t 538 (by decide +kernel) rfl
theorem t_539 : Cond.selects "java/lang/String" y_106 y_106 ∈ lw_g := xg_t 539 (by decide +kernel) rfl
theorem t_540 : Cond.code y_106 prog_19_method_92_code 5 (Option.some (Jvm.ClassFile.FieldType.object "java/lang/String")) ∈ lw_g := xg_t 540 (by decide +kernel) rfl
theorem t_541 : Cond.methodLink "java/lang/String" 505 y_78 ∈ lw_g := xg_t 541 (by decide +kernel) rfl
theorem t_542 : Cond.methodLink "java/lang/String" 521 y_71 ∈ lw_g := xg_t 542 (by decide +kernel) rfl
theorem t_543 : Cond.methodLink "java/lang/String" 685 y_107 ∈ lw_g := xg_t 543 (by decide +kernel) rfl
theorem t_544 : Cond.static y_107 ∈ lw_g := xg_t 544 (by decide +kernel) rfl
theorem t_545 : Cond.code y_107 prog_21_method_47_code 3 (Option.some (Jvm.ClassFile.FieldType.object "java/lang/String")) ∈ lw_g := xg_t 545 (by decide +kernel) rfl
theorem t_547 : Cond.classLink "java/lang/StringLatin1" 1 "java/lang/String" ∈ lw_g := xg_t 547 (by decide +kernel) rfl
theorem t_548 : Cond.methodLink "java/lang/StringLatin1" 232 y_54 ∈ lw_g := xg_t 548 (by decide +kernel) rfl
theorem t_549 : Cond.methodLink "java/lang/StringLatin1" 112 y_108 ∈ lw_g := xg_t 549 (by decide +kernel) rfl
theorem t_550 : Cond.instanceMethod y_108 ∈ lw_g := xg_t 550 (by decide +kernel) rfl
theorem t_551 : Cond.code y_108 prog_19_method_151_code 3 Option.none ∈ lw_g := xg_t 551 (by decide +kernel) rfl
theorem t_564 : Cond.methodLink "RealmDesk$Text" 1 y_1 ∈ lw_g := xg_t 564 (by decide +kernel) rfl
theorem t_565 : Cond.fieldLink "RealmDesk$Text" 7 "RealmDesk$Text" "characters" "Ljava/lang/String;" ∈ lw_g := xg_t 565 (by decide +kernel) rfl
theorem t_566 : Cond.fieldLink "RealmDesk$Archive" 37 "RealmDesk$Text" "characters" "Ljava/lang/String;" ∈ lw_g := xg_t 566 (by decide +kernel) rfl
theorem t_567 : Cond.fieldLink "RealmDesk" 59 "RealmDesk$Text" "characters" "Ljava/lang/String;" ∈ lw_g := xg_t 567 (by decide +kernel) rfl
theorem t_568 : Cond.laysFinal "RealmDesk$Text" "RealmDesk$Text" "characters" "Ljava/lang/String;" ∈ lw_g := xg_t 568 (by decide +kernel) rfl
theorem t_569 : Cond.soleField "RealmDesk$Text" "characters" ∈ lw_g := xg_t 569 (by decide +kernel) rfl
theorem t_570 : Cond.superclass "RealmDesk$Text" "java/lang/Object" ∈ lw_g := xg_t 570 (by decide +kernel) rfl
theorem t_571 : Cond.methodLink "RealmDesk" 138 y_111 ∈ lw_g := xg_t 571 (by decide +kernel) rfl
theorem t_572 : Cond.instanceMethod y_111 ∈ lw_g := xg_t 572 (by decide +kernel) rfl
theorem t_573 : Cond.selects "java/util/ArrayList" y_111 y_111 ∈ lw_g := xg_t 573 (by decide +kernel) rfl
theorem t_574 : Cond.code y_111 prog_27_method_25_code 2 (Option.some Jvm.ClassFile.FieldType.boolean) ∈ lw_g := xg_t 574 (by decide +kernel) rfl
theorem t_575 : Cond.methodLink "java/util/ArrayList" 131 y_112 ∈ lw_g := xg_t 575 (by decide +kernel) rfl
theorem t_577 : Cond.instanceMethod y_112 ∈ lw_g := xg_t 577 (by decide +kernel) rfl
theorem t_578 : Cond.code y_112 prog_27_method_24_code 4 Option.none ∈ lw_g := xg_t 578 (by decide +kernel) rfl
theorem t_579 : Cond.methodLink "java/util/ArrayList" 129 y_113 ∈ lw_g := xg_t 579 (by decide +kernel) rfl
theorem t_581 : Cond.instanceMethod y_113 ∈ lw_g := xg_t 581 (by decide +kernel) rfl
theorem t_582 : Cond.code y_113 prog_27_method_7_code 1 (Option.some (Jvm.ClassFile.FieldType.array (Jvm.ClassFile.FieldType.object "java/lang/Object"))) ∈ lw_g := xg_t 582 (by decide +kernel) rfl
theorem t_583 : Cond.methodLink "java/util/ArrayList" 69 y_114 ∈ lw_g := xg_t 583 (by decide +kernel) rfl
theorem t_585 : Cond.instanceMethod y_114 ∈ lw_g := xg_t 585 (by decide +kernel) rfl
theorem t_586 : Cond.code y_114 prog_27_method_6_code 4 (Option.some (Jvm.ClassFile.FieldType.array (Jvm.ClassFile.FieldType.object "java/lang/Object"))) ∈ lw_g := xg_t 586 (by decide +kernel) rfl
theorem t_587 : Cond.methodLink "java/util/ArrayList" 73 y_16 ∈ lw_g := xg_t 587 (by decide +kernel) rfl
theorem t_588 : Cond.methodLink "java/util/ArrayList" 66 y_115 ∈ lw_g := xg_t 588 (by decide +kernel) rfl
theorem t_589 : Cond.static y_115 ∈ lw_g := xg_t 589 (by decide +kernel) rfl
theorem t_590 : Cond.code y_115 prog_28_method_119_code 2 (Option.some (Jvm.ClassFile.FieldType.array (Jvm.ClassFile.FieldType.object "java/lang/Object"))) ∈ lw_g := xg_t 590 (by decide +kernel) rfl
theorem t_591 : Cond.methodLink "java/util/Arrays" 86 y_116 ∈ lw_g := xg_t 591 (by decide +kernel) rfl
theorem t_592 : Cond.instanceMethod y_116 ∈ lw_g := xg_t 592 (by decide +kernel) rfl
theorem t_593 : Cond.sameMethod "java/lang/Object" "java/lang/Object" "getClass" "()Ljava/lang/Class;" ∈ lw_g := xg_t 593 (by decide +kernel) rfl
theorem t_594 : Cond.selects "RealmDesk" y_116 y_116 ∈ lw_g := xg_t 594 (by decide +kernel) rfl
theorem t_595 : Cond.selects "RealmDesk$Archive" y_116 y_116 ∈ lw_g := xg_t 595 (by decide +kernel) rfl
theorem t_596 : Cond.selects "RealmDesk$Find" y_116 y_116 ∈ lw_g := xg_t 596 (by decide +kernel) rfl
theorem t_597 : Cond.selects "RealmDesk$Import" y_116 y_116 ∈ lw_g := xg_t 597 (by decide +kernel) rfl
theorem t_598 : Cond.selects "RealmDesk$Realm" y_116 y_116 ∈ lw_g := xg_t 598 (by decide +kernel) rfl
theorem t_599 : Cond.selects "RealmDesk$Text" y_116 y_116 ∈ lw_g := xg_t 599 (by decide +kernel) rfl
theorem t_600 : Cond.selects "RealmDeskModel" y_116 y_116 ∈ lw_g := xg_t 600 (by decide +kernel) rfl
theorem t_601 : Cond.selects "java/lang/IllegalArgumentException" y_116 y_116 ∈ lw_g := xg_t 601 (by decide +kernel) rfl
theorem t_602 : Cond.selects "java/lang/IllegalStateException" y_116 y_116 ∈ lw_g := xg_t 602 (by decide +kernel) rfl
theorem t_603 : Cond.selects "java/lang/String" y_116 y_116 ∈ lw_g := xg_t 603 (by decide +kernel) rfl
theorem t_604 : Cond.selects "java/lang/StringBuilder" y_116 y_116 ∈ lw_g := xg_t 604 (by decide +kernel) rfl
theorem t_605 : Cond.selects "java/util/ArrayList" y_116 y_116 ∈ lw_g := xg_t 605 (by decide +kernel) rfl
theorem t_606 : Cond.selects "java/util/NoSuchElementException" y_116 y_116 ∈ lw_g := xg_t 606 (by decide +kernel) rfl
theorem t_607 : Cond.native y_116 ∈ lw_g := xg_t 607 (by decide +kernel) rfl
theorem t_608 : Cond.methodLink "java/util/Arrays" 300 y_117 ∈ lw_g := xg_t 608 (by decide +kernel) rfl
theorem t_609 : Cond.static y_117 ∈ lw_g := xg_t 609 (by decide +kernel) rfl
theorem t_610 : Cond.code y_117 prog_28_method_120_code 4 (Option.some (Jvm.ClassFile.FieldType.array (Jvm.ClassFile.FieldType.object "java/lang/Object"))) ∈ lw_g := xg_t 610 (by decide +kernel) rfl
theorem t_611 : Cond.classLink "java/util/Arrays" 110 "[Ljava/lang/Object;" ∈ lw_g := xg_t 611 (by decide +kernel) rfl
theorem t_613 : Cond.classLink "java/util/Arrays" 2 "java/lang/Object" ∈ lw_g := xg_t 613 (by decide +kernel) rfl
theorem t_614 : Cond.methodLink "java/util/ArrayList" 79 y_17 ∈ lw_g := xg_t 614 (by decide +kernel) rfl
theorem t_615 : Cond.classLink "java/util/ArrayList" 7 "java/lang/Object" ∈ lw_g := xg_t 615 (by decide +kernel) rfl
theorem t_616 : Cond.methodLink "RealmDesk" 63 y_118 ∈ lw_g := xg_t 616 (by decide +kernel) rfl
theorem t_618 : Cond.instanceMethod y_118 ∈ lw_g := xg_t 618 (by decide +kernel) rfl
theorem t_619 : Cond.code y_118 prog_1_method_31_code 4 (Option.some Jvm.ClassFile.FieldType.int) ∈ lw_g := xg_t 619 (by decide +kernel) rfl
theorem t_622 : Cond.classLink "RealmDesk" 75 "java/lang/IllegalArgumentException" ∈ lw_g := xg_t 622 (by decide +kernel) rfl
theorem t_623 : Cond.methodLink "RealmDesk" 77 y_119 ∈ lw_g := xg_t 623 (by decide +kernel) rfl
theorem t_624 : Cond.instanceMethod y_119 ∈ lw_g := xg_t 624 (by decide +kernel) rfl
theorem t_625 : Cond.code y_119 prog_13_method_1_code 1 Option.none ∈ lw_g := xg_t 625 (by decide +kernel) rfl
theorem t_626 : Cond.methodLink "java/lang/IllegalArgumentException" 1 y_57 ∈ lw_g := xg_t 626 (by decide +kernel) rfl
theorem t_627 : Cond.instanceMethod y_57 ∈ lw_g := xg_t 627 (by decide +kernel) rfl
theorem t_628 : Cond.code y_57 prog_18_method_1_code 1 Option.none ∈ lw_g := xg_t 628 (by decide +kernel) rfl
theorem t_629 : Cond.methodLink "java/lang/RuntimeException" 1 y_59 ∈ lw_g := xg_t 629 (by decide +kernel) rfl
theorem t_630 : Cond.instanceMethod y_59 ∈ lw_g := xg_t 630 (by decide +kernel) rfl
theorem t_631 : Cond.code y_59 prog_12_method_1_code 1 Option.none ∈ lw_g := xg_t 631 (by decide +kernel) rfl
theorem t_632 : Cond.methodLink "java/lang/Exception" 1 y_61 ∈ lw_g := xg_t 632 (by decide +kernel) rfl
theorem t_633 : Cond.methodLink "RealmDesk" 209 y_120 ∈ lw_g := xg_t 633 (by decide +kernel) rfl
theorem t_635 : Cond.instanceMethod y_120 ∈ lw_g := xg_t 635 (by decide +kernel) rfl
theorem t_636 : Cond.code y_120 prog_1_method_22_code 1 (Option.some (Jvm.ClassFile.FieldType.object "RealmDesk$Realm")) ∈ lw_g := xg_t 636 (by decide +kernel) rfl
theorem t_637 : Cond.methodLink "RealmDesk" 152 y_121 ∈ lw_g := xg_t 637 (by decide +kernel) rfl
theorem t_638 : Cond.instanceMethod y_121 ∈ lw_g := xg_t 638 (by decide +kernel) rfl
theorem t_639 : Cond.selects "java/util/ArrayList" y_121 y_121 ∈ lw_g := xg_t 639 (by decide +kernel) rfl
theorem t_640 : Cond.code y_121 prog_27_method_9_code 1 (Option.some Jvm.ClassFile.FieldType.boolean) ∈ lw_g := xg_t 640 (by decide +kernel) rfl
theorem t_641 : Cond.classLink "RealmDesk" 192 "java/lang/IllegalStateException" ∈ lw_g := xg_t 641 (by decide +kernel) rfl
theorem t_642 : Cond.instantiable "java/lang/IllegalStateException" 6 ∈ lw_g := xg_t 642 (by decide +kernel) rfl
theorem t_644 : Cond.selects "java/lang/IllegalStateException" y_63 y_63 ∈ lw_g := xg_t 644 (by decide +kernel) rfl
theorem t_645 : Cond.lays "java/lang/IllegalStateException" "java/lang/Throwable" "cause" "Ljava/lang/Throwable;" ∈ lw_g := xg_t 645 (by decide +kernel) rfl
theorem t_646 : Cond.lays "java/lang/IllegalStateException" "java/lang/Throwable" "stackTrace" "[Ljava/lang/StackTraceElement;" ∈ lw_g := xg_t 646 (by decide +kernel) rfl
theorem t_648 : Cond.lays "java/lang/IllegalStateException" "java/lang/Throwable" "detailMessage" "Ljava/lang/String;" ∈ lw_g := xg_t 648 (by decide +kernel) rfl
theorem t_649 : Cond.lays "java/lang/IllegalStateException" "java/lang/Throwable" "backtrace" "Ljava/lang/Object;" ∈ lw_g := xg_t 649 (by decide +kernel) rfl
theorem t_650 : Cond.methodLink "RealmDesk" 194 y_122 ∈ lw_g := xg_t 650 (by decide +kernel) rfl
theorem t_651 : Cond.instanceMethod y_122 ∈ lw_g := xg_t 651 (by decide +kernel) rfl
theorem t_652 : Cond.code y_122 prog_14_method_1_code 1 Option.none ∈ lw_g := xg_t 652 (by decide +kernel) rfl
theorem t_653 : Cond.methodLink "java/lang/IllegalStateException" 1 y_57 ∈ lw_g := xg_t 653 (by decide +kernel) rfl
theorem t_654 : Cond.lays "java/lang/IllegalStateException" "java/lang/Throwable" "depth" "I" ∈ lw_g := xg_t 654 (by decide +kernel) rfl
theorem t_655 : Cond.superclass "java/lang/IllegalStateException" "java/lang/RuntimeException" ∈ lw_g := xg_t 655 (by decide +kernel) rfl
theorem t_656 : Cond.methodLink "RealmDesk" 67 y_123 ∈ lw_g := xg_t 656 (by decide +kernel) rfl
theorem t_658 : Cond.instanceMethod y_123 ∈ lw_g := xg_t 658 (by decide +kernel) rfl
theorem t_659 : Cond.code y_123 prog_1_method_23_code 3 (Option.some Jvm.ClassFile.FieldType.int) ∈ lw_g := xg_t 659 (by decide +kernel) rfl
theorem t_661 : Cond.methodLink "RealmDesk" 158 y_124 ∈ lw_g := xg_t 661 (by decide +kernel) rfl
theorem t_663 : Cond.instanceMethod y_124 ∈ lw_g := xg_t 663 (by decide +kernel) rfl
theorem t_664 : Cond.code y_124 prog_1_method_25_code 2 (Option.some Jvm.ClassFile.FieldType.int) ∈ lw_g := xg_t 664 (by decide +kernel) rfl
theorem t_665 : Cond.methodLink "RealmDesk" 142 y_125 ∈ lw_g := xg_t 665 (by decide +kernel) rfl
theorem t_666 : Cond.static y_125 ∈ lw_g := xg_t 666 (by decide +kernel) rfl
theorem t_667 : Cond.code y_125 prog_1_method_14_code 2 (Option.some Jvm.ClassFile.FieldType.boolean) ∈ lw_g := xg_t 667 (by decide +kernel) rfl
theorem t_668 : Cond.methodLink "RealmDesk" 188 y_126 ∈ lw_g := xg_t 668 (by decide +kernel) rfl
theorem t_670 : Cond.instanceMethod y_126 ∈ lw_g := xg_t 670 (by decide +kernel) rfl
theorem t_671 : Cond.code y_126 prog_1_method_19_code 3 (Option.some (Jvm.ClassFile.FieldType.object "RealmDesk$Archive")) ∈ lw_g := xg_t 671 (by decide +kernel) rfl
theorem t_672 : Cond.instantiable "RealmDesk$Archive" 4 ∈ lw_g := xg_t 672 (by decide +kernel) rfl
theorem t_673 : Cond.methodLink "RealmDesk" 195 y_127 ∈ lw_g := xg_t 673 (by decide +kernel) rfl
theorem t_674 : Cond.instanceMethod y_127 ∈ lw_g := xg_t 674 (by decide +kernel) rfl
theorem t_675 : Cond.code y_127 prog_2_method_1_code 3 Option.none ∈ lw_g := xg_t 675 (by decide +kernel) rfl
theorem t_676 : Cond.methodLink "RealmDesk$Archive" 1 y_1 ∈ lw_g := xg_t 676 (by decide +kernel) rfl
theorem t_677 : Cond.classLink "RealmDesk$Archive" 17 "java/util/ArrayList" ∈ lw_g := xg_t 677 (by decide +kernel) rfl
theorem t_678 : Cond.methodLink "RealmDesk$Archive" 19 y_6 ∈ lw_g := xg_t 678 (by decide +kernel) rfl
theorem t_679 : Cond.fieldLink "RealmDesk$Archive" 7 "RealmDesk$Archive" "number" "I" ∈ lw_g := xg_t 679 (by decide +kernel) rfl
theorem t_680 : Cond.fieldLink "RealmDesk" 280 "RealmDesk$Archive" "number" "I" ∈ lw_g := xg_t 680 (by decide +kernel) rfl
theorem t_681 : Cond.fieldLink "RealmDesk$Archive" 13 "RealmDesk$Archive" "word" "Ljava/lang/String;" ∈ lw_g := xg_t 681 (by decide +kernel) rfl
theorem t_682 : Cond.fieldLink "RealmDesk" 148 "RealmDesk$Archive" "word" "Ljava/lang/String;" ∈ lw_g := xg_t 682 (by decide +kernel) rfl
theorem t_683 : Cond.fieldLink "RealmDesk$Archive" 20 "RealmDesk$Archive" "names" "Ljava/util/ArrayList;" ∈ lw_g := xg_t 683 (by decide +kernel) rfl
theorem t_684 : Cond.fieldLink "RealmDesk" 205 "RealmDesk$Archive" "names" "Ljava/util/ArrayList;" ∈ lw_g := xg_t 684 (by decide +kernel) rfl
theorem t_685 : Cond.fieldLink "RealmDesk$Archive" 24 "RealmDesk$Archive" "timesFound" "I" ∈ lw_g := xg_t 685 (by decide +kernel) rfl
theorem t_686 : Cond.fieldLink "RealmDesk" 100 "RealmDesk$Archive" "timesFound" "I" ∈ lw_g := xg_t 686 (by decide +kernel) rfl
theorem t_687 : Cond.laysFinal "RealmDesk$Archive" "RealmDesk$Archive" "number" "I" ∈ lw_g := xg_t 687 (by decide +kernel) rfl
theorem t_688 : Cond.soleField "RealmDesk$Archive" "number" ∈ lw_g := xg_t 688 (by decide +kernel) rfl
theorem t_689 : Cond.laysFinal "RealmDesk$Archive" "RealmDesk$Archive" "word" "Ljava/lang/String;" ∈ lw_g := xg_t 689 (by decide +kernel) rfl
theorem t_690 : Cond.soleField "RealmDesk$Archive" "word" ∈ lw_g := xg_t 690 (by decide +kernel) rfl
theorem t_691 : Cond.laysFinal "RealmDesk$Archive" "RealmDesk$Archive" "names" "Ljava/util/ArrayList;" ∈ lw_g := xg_t 691 (by decide +kernel) rfl
theorem t_692 : Cond.soleField "RealmDesk$Archive" "names" ∈ lw_g := xg_t 692 (by decide +kernel) rfl
theorem t_693 : Cond.lays "RealmDesk$Archive" "RealmDesk$Archive" "timesFound" "I" ∈ lw_g := xg_t 693 (by decide +kernel) rfl
theorem t_694 : Cond.soleField "RealmDesk$Archive" "timesFound" ∈ lw_g := xg_t 694 (by decide +kernel) rfl
theorem t_695 : Cond.superclass "RealmDesk$Archive" "java/lang/Object" ∈ lw_g := xg_t 695 (by decide +kernel) rfl
theorem t_697 : Cond.methodLink "RealmDesk" 163 y_128 ∈ lw_g := xg_t 697 (by decide +kernel) rfl
theorem t_699 : Cond.instanceMethod y_128 ∈ lw_g := xg_t 699 (by decide +kernel) rfl
theorem t_700 : Cond.code y_128 prog_1_method_26_code 3 (Option.some Jvm.ClassFile.FieldType.int) ∈ lw_g := xg_t 700 (by decide +kernel) rfl
theorem t_701 : Cond.methodLink "RealmDesk" 198 y_129 ∈ lw_g := xg_t 701 (by decide +kernel) rfl
theorem t_703 : Cond.instanceMethod y_129 ∈ lw_g := xg_t 703 (by decide +kernel) rfl
theorem t_704 : Cond.code y_129 prog_1_method_21_code 1 (Option.some (Jvm.ClassFile.FieldType.object "RealmDesk$Archive")) ∈ lw_g := xg_t 704 (by decide +kernel) rfl
theorem t_705 : Cond.methodLink "RealmDesk" 82 y_130 ∈ lw_g := xg_t 705 (by decide +kernel) rfl
theorem t_706 : Cond.static y_130 ∈ lw_g := xg_t 706 (by decide +kernel) rfl
theorem t_707 : Cond.code y_130 prog_1_method_15_code 4 (Option.some Jvm.ClassFile.FieldType.boolean) ∈ lw_g := xg_t 707 (by decide +kernel) rfl
theorem t_708 : Cond.methodLink "RealmDesk" 202 y_131 ∈ lw_g := xg_t 708 (by decide +kernel) rfl
theorem t_709 : Cond.instanceMethod y_131 ∈ lw_g := xg_t 709 (by decide +kernel) rfl
theorem t_710 : Cond.selects "RealmDesk$Archive" y_131 y_131 ∈ lw_g := xg_t 710 (by decide +kernel) rfl
theorem t_711 : Cond.code y_131 prog_2_method_2_code 3 (Option.some Jvm.ClassFile.FieldType.boolean) ∈ lw_g := xg_t 711 (by decide +kernel) rfl
theorem t_712 : Cond.methodLink "RealmDesk$Archive" 27 y_42 ∈ lw_g := xg_t 712 (by decide +kernel) rfl
theorem t_713 : Cond.methodLink "RealmDesk$Archive" 31 y_43 ∈ lw_g := xg_t 713 (by decide +kernel) rfl
theorem t_714 : Cond.classLink "RealmDesk$Archive" 35 "RealmDesk$Text" ∈ lw_g := xg_t 714 (by decide +kernel) rfl
theorem t_715 : Cond.methodLink "RealmDesk$Archive" 40 y_95 ∈ lw_g := xg_t 715 (by decide +kernel) rfl
theorem t_717 : Cond.methodLink "RealmDesk" 168 y_132 ∈ lw_g := xg_t 717 (by decide +kernel) rfl
theorem t_719 : Cond.instanceMethod y_132 ∈ lw_g := xg_t 719 (by decide +kernel) rfl
theorem t_720 : Cond.code y_132 prog_1_method_27_code 2 (Option.some Jvm.ClassFile.FieldType.int) ∈ lw_g := xg_t 720 (by decide +kernel) rfl
theorem t_721 : Cond.instantiable "RealmDesk$Realm" 9 ∈ lw_g := xg_t 721 (by decide +kernel) rfl
theorem t_722 : Cond.methodLink "RealmDesk" 208 y_133 ∈ lw_g := xg_t 722 (by decide +kernel) rfl
theorem t_723 : Cond.instanceMethod y_133 ∈ lw_g := xg_t 723 (by decide +kernel) rfl
theorem t_724 : Cond.code y_133 prog_5_method_1_code 3 Option.none ∈ lw_g := xg_t 724 (by decide +kernel) rfl
theorem t_725 : Cond.methodLink "RealmDesk$Realm" 3 y_1 ∈ lw_g := xg_t 725 (by decide +kernel) rfl
theorem t_726 : Cond.classLink "RealmDesk$Realm" 19 "java/util/ArrayList" ∈ lw_g := xg_t 726 (by decide +kernel) rfl
theorem t_727 : Cond.methodLink "RealmDesk$Realm" 21 y_6 ∈ lw_g := xg_t 727 (by decide +kernel) rfl
theorem t_728 : Cond.fieldLink "RealmDesk$Realm" 9 "RealmDesk$Realm" "number" "I" ∈ lw_g := xg_t 728 (by decide +kernel) rfl
theorem t_729 : Cond.fieldLink "RealmDesk" 111 "RealmDesk$Realm" "number" "I" ∈ lw_g := xg_t 729 (by decide +kernel) rfl
theorem t_730 : Cond.fieldLink "RealmDesk$Realm" 15 "RealmDesk$Realm" "word" "Ljava/lang/String;" ∈ lw_g := xg_t 730 (by decide +kernel) rfl
theorem t_731 : Cond.fieldLink "RealmDesk" 151 "RealmDesk$Realm" "word" "Ljava/lang/String;" ∈ lw_g := xg_t 731 (by decide +kernel) rfl
theorem t_732 : Cond.fieldLink "RealmDesk$Realm" 22 "RealmDesk$Realm" "loaded" "Ljava/util/ArrayList;" ∈ lw_g := xg_t 732 (by decide +kernel) rfl
theorem t_733 : Cond.fieldLink "RealmDesk" 217 "RealmDesk$Realm" "loaded" "Ljava/util/ArrayList;" ∈ lw_g := xg_t 733 (by decide +kernel) rfl
theorem t_734 : Cond.fieldLink "RealmDesk$Realm" 26 "RealmDesk$Realm" "imports" "Ljava/util/ArrayList;" ∈ lw_g := xg_t 734 (by decide +kernel) rfl
theorem t_735 : Cond.fieldLink "RealmDesk" 220 "RealmDesk$Realm" "imports" "Ljava/util/ArrayList;" ∈ lw_g := xg_t 735 (by decide +kernel) rfl
theorem t_736 : Cond.fieldLink "RealmDesk$Realm" 29 "RealmDesk$Realm" "finds" "Ljava/util/ArrayList;" ∈ lw_g := xg_t 736 (by decide +kernel) rfl
theorem t_737 : Cond.fieldLink "RealmDesk" 95 "RealmDesk$Realm" "finds" "Ljava/util/ArrayList;" ∈ lw_g := xg_t 737 (by decide +kernel) rfl
theorem t_738 : Cond.fieldLink "RealmDesk$Realm" 32 "RealmDesk$Realm" "parent" "LRealmDesk$Realm;" ∈ lw_g := xg_t 738 (by decide +kernel) rfl
theorem t_739 : Cond.fieldLink "RealmDesk" 232 "RealmDesk$Realm" "parent" "LRealmDesk$Realm;" ∈ lw_g := xg_t 739 (by decide +kernel) rfl
theorem t_740 : Cond.fieldLink "RealmDesk$Realm" 36 "RealmDesk$Realm" "parentFirst" "Z" ∈ lw_g := xg_t 740 (by decide +kernel) rfl
theorem t_741 : Cond.fieldLink "RealmDesk" 239 "RealmDesk$Realm" "parentFirst" "Z" ∈ lw_g := xg_t 741 (by decide +kernel) rfl
theorem t_742 : Cond.fieldLink "RealmDesk$Realm" 40 "RealmDesk$Realm" "went" "Z" ∈ lw_g := xg_t 742 (by decide +kernel) rfl
theorem t_743 : Cond.fieldLink "RealmDesk" 103 "RealmDesk$Realm" "went" "Z" ∈ lw_g := xg_t 743 (by decide +kernel) rfl
theorem t_744 : Cond.fieldLink "RealmDesk$Realm" 43 "RealmDesk$Realm" "beingAsked" "Z" ∈ lw_g := xg_t 744 (by decide +kernel) rfl
theorem t_745 : Cond.fieldLink "RealmDesk" 249 "RealmDesk$Realm" "beingAsked" "Z" ∈ lw_g := xg_t 745 (by decide +kernel) rfl
theorem t_746 : Cond.laysFinal "RealmDesk$Realm" "RealmDesk$Realm" "number" "I" ∈ lw_g := xg_t 746 (by decide +kernel) rfl
theorem t_747 : Cond.soleField "RealmDesk$Realm" "number" ∈ lw_g := xg_t 747 (by decide +kernel) rfl
theorem t_748 : Cond.laysFinal "RealmDesk$Realm" "RealmDesk$Realm" "word" "Ljava/lang/String;" ∈ lw_g := xg_t 748 (by decide +kernel) rfl
theorem t_749 : Cond.soleField "RealmDesk$Realm" "word" ∈ lw_g := xg_t 749 (by decide +kernel) rfl
theorem t_750 : Cond.laysFinal "RealmDesk$Realm" "RealmDesk$Realm" "loaded" "Ljava/util/ArrayList;" ∈ lw_g := xg_t 750 (by decide +kernel) rfl
theorem t_751 : Cond.soleField "RealmDesk$Realm" "loaded" ∈ lw_g := xg_t 751 (by decide +kernel) rfl
theorem t_752 : Cond.laysFinal "RealmDesk$Realm" "RealmDesk$Realm" "imports" "Ljava/util/ArrayList;" ∈ lw_g := xg_t 752 (by decide +kernel) rfl
theorem t_753 : Cond.soleField "RealmDesk$Realm" "imports" ∈ lw_g := xg_t 753 (by decide +kernel) rfl
theorem t_754 : Cond.laysFinal "RealmDesk$Realm" "RealmDesk$Realm" "finds" "Ljava/util/ArrayList;" ∈ lw_g := xg_t 754 (by decide +kernel) rfl
theorem t_755 : Cond.soleField "RealmDesk$Realm" "finds" ∈ lw_g := xg_t 755 (by decide +kernel) rfl
theorem t_756 : Cond.lays "RealmDesk$Realm" "RealmDesk$Realm" "parent" "LRealmDesk$Realm;" ∈ lw_g := xg_t 756 (by decide +kernel) rfl
theorem t_757 : Cond.soleField "RealmDesk$Realm" "parent" ∈ lw_g := xg_t 757 (by decide +kernel) rfl
theorem t_758 : Cond.lays "RealmDesk$Realm" "RealmDesk$Realm" "parentFirst" "Z" ∈ lw_g := xg_t 758 (by decide +kernel) rfl
theorem t_759 : Cond.soleField "RealmDesk$Realm" "parentFirst" ∈ lw_g := xg_t 759 (by decide +kernel) rfl
theorem t_760 : Cond.lays "RealmDesk$Realm" "RealmDesk$Realm" "went" "Z" ∈ lw_g := xg_t 760 (by decide +kernel) rfl
theorem t_761 : Cond.soleField "RealmDesk$Realm" "went" ∈ lw_g := xg_t 761 (by decide +kernel) rfl
theorem t_762 : Cond.lays "RealmDesk$Realm" "RealmDesk$Realm" "beingAsked" "Z" ∈ lw_g := xg_t 762 (by decide +kernel) rfl
theorem t_763 : Cond.soleField "RealmDesk$Realm" "beingAsked" ∈ lw_g := xg_t 763 (by decide +kernel) rfl
theorem t_764 : Cond.superclass "RealmDesk$Realm" "java/lang/Object" ∈ lw_g := xg_t 764 (by decide +kernel) rfl
theorem t_766 : Cond.methodLink "RealmDesk" 173 y_134 ∈ lw_g := xg_t 766 (by decide +kernel) rfl
theorem t_768 : Cond.instanceMethod y_134 ∈ lw_g := xg_t 768 (by decide +kernel) rfl
theorem t_769 : Cond.code y_134 prog_1_method_28_code 4 (Option.some Jvm.ClassFile.FieldType.int) ∈ lw_g := xg_t 769 (by decide +kernel) rfl
theorem t_770 : Cond.methodLink "RealmDesk" 213 y_135 ∈ lw_g := xg_t 770 (by decide +kernel) rfl
theorem t_771 : Cond.instanceMethod y_135 ∈ lw_g := xg_t 771 (by decide +kernel) rfl
theorem t_772 : Cond.selects "RealmDesk$Realm" y_135 y_135 ∈ lw_g := xg_t 772 (by decide +kernel) rfl
theorem t_773 : Cond.code y_135 prog_5_method_2_code 3 (Option.some Jvm.ClassFile.FieldType.boolean) ∈ lw_g := xg_t 773 (by decide +kernel) rfl
theorem t_774 : Cond.methodLink "RealmDesk$Realm" 46 y_42 ∈ lw_g := xg_t 774 (by decide +kernel) rfl
theorem t_775 : Cond.methodLink "RealmDesk$Realm" 50 y_43 ∈ lw_g := xg_t 775 (by decide +kernel) rfl
theorem t_777 : Cond.methodLink "RealmDesk" 178 y_136 ∈ lw_g := xg_t 777 (by decide +kernel) rfl
theorem t_779 : Cond.instanceMethod y_136 ∈ lw_g := xg_t 779 (by decide +kernel) rfl
theorem t_780 : Cond.code y_136 prog_1_method_30_code 4 (Option.some Jvm.ClassFile.FieldType.int) ∈ lw_g := xg_t 780 (by decide +kernel) rfl
theorem t_781 : Cond.methodLink "RealmDesk" 71 y_137 ∈ lw_g := xg_t 781 (by decide +kernel) rfl
theorem t_783 : Cond.instanceMethod y_137 ∈ lw_g := xg_t 783 (by decide +kernel) rfl
theorem t_784 : Cond.code y_137 prog_1_method_24_code 2 (Option.some Jvm.ClassFile.FieldType.int) ∈ lw_g := xg_t 784 (by decide +kernel) rfl
theorem t_787 : Cond.methodLink "RealmDesk" 185 y_138 ∈ lw_g := xg_t 787 (by decide +kernel) rfl
theorem t_789 : Cond.instanceMethod y_138 ∈ lw_g := xg_t 789 (by decide +kernel) rfl
theorem t_790 : Cond.code y_138 prog_1_method_29_code 5 (Option.some Jvm.ClassFile.FieldType.int) ∈ lw_g := xg_t 790 (by decide +kernel) rfl
theorem t_791 : Cond.classLink "RealmDesk" 223 "RealmDesk$Import" ∈ lw_g := xg_t 791 (by decide +kernel) rfl
theorem t_792 : Cond.instantiable "RealmDesk$Import" 2 ∈ lw_g := xg_t 792 (by decide +kernel) rfl
theorem t_793 : Cond.methodLink "RealmDesk" 225 y_139 ∈ lw_g := xg_t 793 (by decide +kernel) rfl
theorem t_794 : Cond.instanceMethod y_139 ∈ lw_g := xg_t 794 (by decide +kernel) rfl
theorem t_795 : Cond.code y_139 prog_4_method_1_code 3 Option.none ∈ lw_g := xg_t 795 (by decide +kernel) rfl
theorem t_796 : Cond.methodLink "RealmDesk$Import" 1 y_1 ∈ lw_g := xg_t 796 (by decide +kernel) rfl
theorem t_797 : Cond.fieldLink "RealmDesk$Import" 7 "RealmDesk$Import" "pack" "Ljava/lang/String;" ∈ lw_g := xg_t 797 (by decide +kernel) rfl
theorem t_798 : Cond.fieldLink "RealmDesk$Realm" 56 "RealmDesk$Import" "pack" "Ljava/lang/String;" ∈ lw_g := xg_t 798 (by decide +kernel) rfl
theorem t_799 : Cond.fieldLink "RealmDesk" 273 "RealmDesk$Import" "pack" "Ljava/lang/String;" ∈ lw_g := xg_t 799 (by decide +kernel) rfl
theorem t_800 : Cond.fieldLink "RealmDesk$Import" 13 "RealmDesk$Import" "source" "LRealmDesk$Realm;" ∈ lw_g := xg_t 800 (by decide +kernel) rfl
theorem t_801 : Cond.fieldLink "RealmDesk" 270 "RealmDesk$Import" "source" "LRealmDesk$Realm;" ∈ lw_g := xg_t 801 (by decide +kernel) rfl
theorem t_802 : Cond.laysFinal "RealmDesk$Import" "RealmDesk$Import" "pack" "Ljava/lang/String;" ∈ lw_g := xg_t 802 (by decide +kernel) rfl
theorem t_803 : Cond.soleField "RealmDesk$Import" "pack" ∈ lw_g := xg_t 803 (by decide +kernel) rfl
theorem t_804 : Cond.laysFinal "RealmDesk$Import" "RealmDesk$Import" "source" "LRealmDesk$Realm;" ∈ lw_g := xg_t 804 (by decide +kernel) rfl
theorem t_805 : Cond.soleField "RealmDesk$Import" "source" ∈ lw_g := xg_t 805 (by decide +kernel) rfl
theorem t_806 : Cond.superclass "RealmDesk$Import" "java/lang/Object" ∈ lw_g := xg_t 806 (by decide +kernel) rfl
theorem t_807 : Cond.methodLink "RealmDesk" 228 y_140 ∈ lw_g := xg_t 807 (by decide +kernel) rfl
theorem t_808 : Cond.instanceMethod y_140 ∈ lw_g := xg_t 808 (by decide +kernel) rfl
theorem t_809 : Cond.selects "RealmDesk$Realm" y_140 y_140 ∈ lw_g := xg_t 809 (by decide +kernel) rfl
theorem t_810 : Cond.code y_140 prog_5_method_3_code 3 Option.none ∈ lw_g := xg_t 810 (by decide +kernel) rfl
theorem t_811 : Cond.classLink "RealmDesk$Realm" 54 "RealmDesk$Import" ∈ lw_g := xg_t 811 (by decide +kernel) rfl
theorem t_812 : Cond.methodLink "RealmDesk$Realm" 59 y_78 ∈ lw_g := xg_t 812 (by decide +kernel) rfl
theorem t_813 : Cond.methodLink "RealmDesk$Realm" 64 y_141 ∈ lw_g := xg_t 813 (by decide +kernel) rfl
theorem t_814 : Cond.instanceMethod y_141 ∈ lw_g := xg_t 814 (by decide +kernel) rfl
theorem t_815 : Cond.selects "java/util/ArrayList" y_141 y_141 ∈ lw_g := xg_t 815 (by decide +kernel) rfl
theorem t_816 : Cond.code y_141 prog_27_method_26_code 5 Option.none ∈ lw_g := xg_t 816 (by decide +kernel) rfl
theorem t_817 : Cond.methodLink "java/util/ArrayList" 135 y_142 ∈ lw_g := xg_t 817 (by decide +kernel) rfl
theorem t_819 : Cond.instanceMethod y_142 ∈ lw_g := xg_t 819 (by decide +kernel) rfl
theorem t_820 : Cond.code y_142 prog_27_method_45_code 2 Option.none ∈ lw_g := xg_t 820 (by decide +kernel) rfl
theorem t_821 : Cond.methodLink "java/util/ArrayList" 112 y_23 ∈ lw_g := xg_t 821 (by decide +kernel) rfl
theorem t_822 : Cond.methodLink "RealmDeskLaw" 38 y_143 ∈ lw_g := xg_t 822 (by decide +kernel) rfl
theorem t_823 : Cond.static y_143 ∈ lw_g := xg_t 823 (by decide +kernel) rfl
theorem t_824 : Cond.codeWith y_143 method_4_code 4 (Option.some Jvm.ClassFile.FieldType.int) ([((0 : Nat), (9 : Nat), (12 : Nat), (13 : Nat)), ((0 : Nat), (9 : Nat), (15 : Nat), (21 : Nat))]) ∈ lw_g := xg_t 824 (by decide +kernel) rfl
theorem t_825 : Cond.classLink "RealmDeskLaw" 21 "java/util/NoSuchElementException" ∈ lw_g := xg_t 825 (by decide +kernel) rfl
theorem t_826 : Cond.methodLink "RealmDeskLaw" 17 y_144 ∈ lw_g := xg_t 826 (by decide +kernel) rfl
theorem t_827 : Cond.instanceMethod y_144 ∈ lw_g := xg_t 827 (by decide +kernel) rfl
theorem t_828 : Cond.selects "RealmDesk" y_144 y_144 ∈ lw_g := xg_t 828 (by decide +kernel) rfl
theorem t_829 : Cond.code y_144 prog_1_method_4_code 4 (Option.some Jvm.ClassFile.FieldType.int) ∈ lw_g := xg_t 829 (by decide +kernel) rfl
theorem t_830 : Cond.methodLink "RealmDesk" 88 y_145 ∈ lw_g := xg_t 830 (by decide +kernel) rfl
theorem t_832 : Cond.instanceMethod y_145 ∈ lw_g := xg_t 832 (by decide +kernel) rfl
theorem t_833 : Cond.code y_145 prog_1_method_32_code 5 (Option.some Jvm.ClassFile.FieldType.int) ∈ lw_g := xg_t 833 (by decide +kernel) rfl
theorem t_834 : Cond.methodLink "RealmDesk" 242 y_146 ∈ lw_g := xg_t 834 (by decide +kernel) rfl
theorem t_835 : Cond.instanceMethod y_146 ∈ lw_g := xg_t 835 (by decide +kernel) rfl
theorem t_836 : Cond.selects "RealmDesk$Realm" y_146 y_146 ∈ lw_g := xg_t 836 (by decide +kernel) rfl
theorem t_837 : Cond.code y_146 prog_5_method_4_code 3 (Option.some Jvm.ClassFile.FieldType.int) ∈ lw_g := xg_t 837 (by decide +kernel) rfl
theorem t_838 : Cond.classLink "RealmDesk$Realm" 68 "RealmDesk$Find" ∈ lw_g := xg_t 838 (by decide +kernel) rfl
theorem t_839 : Cond.methodLink "RealmDesk$Realm" 73 y_95 ∈ lw_g := xg_t 839 (by decide +kernel) rfl
theorem t_840 : Cond.methodLink "RealmDesk" 245 y_147 ∈ lw_g := xg_t 840 (by decide +kernel) rfl
theorem t_842 : Cond.instanceMethod y_147 ∈ lw_g := xg_t 842 (by decide +kernel) rfl
theorem t_843 : Cond.code y_147 prog_1_method_37_code 2 Option.none ∈ lw_g := xg_t 843 (by decide +kernel) rfl
theorem t_844 : Cond.methodLink "RealmDesk" 252 y_148 ∈ lw_g := xg_t 844 (by decide +kernel) rfl
theorem t_846 : Cond.instanceMethod y_148 ∈ lw_g := xg_t 846 (by decide +kernel) rfl
theorem t_847 : Cond.code y_148 prog_1_method_33_code 5 (Option.some Jvm.ClassFile.FieldType.int) ∈ lw_g := xg_t 847 (by decide +kernel) rfl
theorem t_848 : Cond.methodLink "RealmDesk" 260 y_149 ∈ lw_g := xg_t 848 (by decide +kernel) rfl
theorem t_850 : Cond.instanceMethod y_149 ∈ lw_g := xg_t 850 (by decide +kernel) rfl
theorem t_851 : Cond.code y_149 prog_1_method_34_code 6 (Option.some Jvm.ClassFile.FieldType.int) ∈ lw_g := xg_t 851 (by decide +kernel) rfl
theorem t_852 : Cond.methodLink "RealmDesk" 276 y_150 ∈ lw_g := xg_t 852 (by decide +kernel) rfl
theorem t_853 : Cond.static y_150 ∈ lw_g := xg_t 853 (by decide +kernel) rfl
theorem t_854 : Cond.code y_150 prog_1_method_16_code 3 (Option.some Jvm.ClassFile.FieldType.boolean) ∈ lw_g := xg_t 854 (by decide +kernel) rfl
theorem t_855 : Cond.methodLink "RealmDesk" 267 y_151 ∈ lw_g := xg_t 855 (by decide +kernel) rfl
theorem t_856 : Cond.static y_151 ∈ lw_g := xg_t 856 (by decide +kernel) rfl
theorem t_857 : Cond.code y_151 prog_1_method_35_code 4 (Option.some Jvm.ClassFile.FieldType.int) ∈ lw_g := xg_t 857 (by decide +kernel) rfl
theorem t_858 : Cond.methodLink "RealmDesk" 264 y_152 ∈ lw_g := xg_t 858 (by decide +kernel) rfl
theorem t_860 : Cond.instanceMethod y_152 ∈ lw_g := xg_t 860 (by decide +kernel) rfl
theorem t_861 : Cond.code y_152 prog_1_method_36_code 5 (Option.some Jvm.ClassFile.FieldType.int) ∈ lw_g := xg_t 861 (by decide +kernel) rfl
theorem t_862 : Cond.classLink "RealmDesk" 255 "RealmDesk$Find" ∈ lw_g := xg_t 862 (by decide +kernel) rfl
theorem t_863 : Cond.instantiable "RealmDesk$Find" 2 ∈ lw_g := xg_t 863 (by decide +kernel) rfl
theorem t_864 : Cond.methodLink "RealmDesk" 257 y_153 ∈ lw_g := xg_t 864 (by decide +kernel) rfl
theorem t_865 : Cond.instanceMethod y_153 ∈ lw_g := xg_t 865 (by decide +kernel) rfl
theorem t_866 : Cond.code y_153 prog_3_method_1_code 3 Option.none ∈ lw_g := xg_t 866 (by decide +kernel) rfl
theorem t_867 : Cond.methodLink "RealmDesk$Find" 1 y_1 ∈ lw_g := xg_t 867 (by decide +kernel) rfl
theorem t_868 : Cond.fieldLink "RealmDesk$Find" 7 "RealmDesk$Find" "name" "Ljava/lang/String;" ∈ lw_g := xg_t 868 (by decide +kernel) rfl
theorem t_869 : Cond.fieldLink "RealmDesk$Realm" 70 "RealmDesk$Find" "name" "Ljava/lang/String;" ∈ lw_g := xg_t 869 (by decide +kernel) rfl
theorem t_870 : Cond.fieldLink "RealmDesk$Find" 13 "RealmDesk$Find" "place" "I" ∈ lw_g := xg_t 870 (by decide +kernel) rfl
theorem t_871 : Cond.fieldLink "RealmDesk$Realm" 77 "RealmDesk$Find" "place" "I" ∈ lw_g := xg_t 871 (by decide +kernel) rfl
theorem t_872 : Cond.laysFinal "RealmDesk$Find" "RealmDesk$Find" "name" "Ljava/lang/String;" ∈ lw_g := xg_t 872 (by decide +kernel) rfl
theorem t_873 : Cond.soleField "RealmDesk$Find" "name" ∈ lw_g := xg_t 873 (by decide +kernel) rfl
theorem t_874 : Cond.laysFinal "RealmDesk$Find" "RealmDesk$Find" "place" "I" ∈ lw_g := xg_t 874 (by decide +kernel) rfl
theorem t_875 : Cond.soleField "RealmDesk$Find" "place" ∈ lw_g := xg_t 875 (by decide +kernel) rfl
theorem t_876 : Cond.superclass "RealmDesk$Find" "java/lang/Object" ∈ lw_g := xg_t 876 (by decide +kernel) rfl
theorem t_877 : Cond.classLink "RealmDesk" 92 "java/util/NoSuchElementException" ∈ lw_g := xg_t 877 (by decide +kernel) rfl
theorem t_878 : Cond.instantiable "java/util/NoSuchElementException" 6 ∈ lw_g := xg_t 878 (by decide +kernel) rfl
theorem t_880 : Cond.selects "java/util/NoSuchElementException" y_63 y_63 ∈ lw_g := xg_t 880 (by decide +kernel) rfl
theorem t_881 : Cond.lays "java/util/NoSuchElementException" "java/lang/Throwable" "cause" "Ljava/lang/Throwable;" ∈ lw_g := xg_t 881 (by decide +kernel) rfl
theorem t_882 : Cond.lays "java/util/NoSuchElementException" "java/lang/Throwable" "stackTrace" "[Ljava/lang/StackTraceElement;" ∈ lw_g := xg_t 882 (by decide +kernel) rfl
theorem t_884 : Cond.lays "java/util/NoSuchElementException" "java/lang/Throwable" "detailMessage" "Ljava/lang/String;" ∈ lw_g := xg_t 884 (by decide +kernel) rfl
theorem t_885 : Cond.lays "java/util/NoSuchElementException" "java/lang/Throwable" "backtrace" "Ljava/lang/Object;" ∈ lw_g := xg_t 885 (by decide +kernel) rfl
theorem t_886 : Cond.methodLink "RealmDesk" 94 y_154 ∈ lw_g := xg_t 886 (by decide +kernel) rfl
theorem t_887 : Cond.instanceMethod y_154 ∈ lw_g := xg_t 887 (by decide +kernel) rfl
theorem t_888 : Cond.code y_154 prog_31_method_1_code 1 Option.none ∈ lw_g := xg_t 888 (by decide +kernel) rfl
theorem t_889 : Cond.methodLink "java/util/NoSuchElementException" 1 y_57 ∈ lw_g := xg_t 889 (by decide +kernel) rfl
theorem t_890 : Cond.lays "java/util/NoSuchElementException" "java/lang/Throwable" "depth" "I" ∈ lw_g := xg_t 890 (by decide +kernel) rfl
theorem t_891 : Cond.superclass "java/util/NoSuchElementException" "java/lang/RuntimeException" ∈ lw_g := xg_t 891 (by decide +kernel) rfl
theorem t_892 : Cond.classLink "RealmDeskLaw" 24 "RealmDeskModel" ∈ lw_g := xg_t 892 (by decide +kernel) rfl
theorem t_893 : Cond.instantiable "RealmDeskModel" 29 ∈ lw_g := xg_t 893 (by decide +kernel) rfl
theorem t_894 : Cond.methodLink "RealmDeskLaw" 26 y_155 ∈ lw_g := xg_t 894 (by decide +kernel) rfl
theorem t_895 : Cond.instanceMethod y_155 ∈ lw_g := xg_t 895 (by decide +kernel) rfl
theorem t_896 : Cond.code y_155 prog_8_method_1_code 1 Option.none ∈ lw_g := xg_t 896 (by decide +kernel) rfl
theorem t_897 : Cond.methodLink "RealmDeskModel" 1 y_1 ∈ lw_g := xg_t 897 (by decide +kernel) rfl
theorem t_898 : Cond.fieldLink "RealmDeskModel" 79 "RealmDeskModel" "fault" "I" ∈ lw_g := xg_t 898 (by decide +kernel) rfl
theorem t_899 : Cond.fieldLink "RealmDeskModel" 7 "RealmDeskModel" "text" "[C" ∈ lw_g := xg_t 899 (by decide +kernel) rfl
theorem t_900 : Cond.fieldLink "RealmDeskModel" 83 "RealmDeskModel" "written" "I" ∈ lw_g := xg_t 900 (by decide +kernel) rfl
theorem t_901 : Cond.fieldLink "RealmDeskModel" 86 "RealmDeskModel" "parts" "I" ∈ lw_g := xg_t 901 (by decide +kernel) rfl
theorem t_902 : Cond.fieldLink "RealmDeskModel" 13 "RealmDeskModel" "begin" "[I" ∈ lw_g := xg_t 902 (by decide +kernel) rfl
theorem t_903 : Cond.fieldLink "RealmDeskModel" 17 "RealmDeskModel" "end" "[I" ∈ lw_g := xg_t 903 (by decide +kernel) rfl
theorem t_904 : Cond.fieldLink "RealmDeskModel" 95 "RealmDeskModel" "archives" "I" ∈ lw_g := xg_t 904 (by decide +kernel) rfl
theorem t_905 : Cond.fieldLink "RealmDeskModel" 20 "RealmDeskModel" "archiveWord" "[I" ∈ lw_g := xg_t 905 (by decide +kernel) rfl
theorem t_906 : Cond.fieldLink "RealmDeskModel" 23 "RealmDeskModel" "names" "[I" ∈ lw_g := xg_t 906 (by decide +kernel) rfl
theorem t_907 : Cond.fieldLink "RealmDeskModel" 26 "RealmDeskModel" "used" "[I" ∈ lw_g := xg_t 907 (by decide +kernel) rfl
theorem t_908 : Cond.fieldLink "RealmDeskModel" 29 "RealmDeskModel" "name" "[J" ∈ lw_g := xg_t 908 (by decide +kernel) rfl
theorem t_909 : Cond.fieldLink "RealmDeskModel" 98 "RealmDeskModel" "realms" "I" ∈ lw_g := xg_t 909 (by decide +kernel) rfl
theorem t_910 : Cond.fieldLink "RealmDeskModel" 33 "RealmDeskModel" "word" "[I" ∈ lw_g := xg_t 910 (by decide +kernel) rfl
theorem t_911 : Cond.fieldLink "RealmDeskModel" 36 "RealmDeskModel" "loads" "[I" ∈ lw_g := xg_t 911 (by decide +kernel) rfl
theorem t_912 : Cond.fieldLink "RealmDeskModel" 39 "RealmDeskModel" "load" "[I" ∈ lw_g := xg_t 912 (by decide +kernel) rfl
theorem t_913 : Cond.fieldLink "RealmDeskModel" 42 "RealmDeskModel" "imports" "[I" ∈ lw_g := xg_t 913 (by decide +kernel) rfl
theorem t_914 : Cond.fieldLink "RealmDeskModel" 45 "RealmDeskModel" "from" "[I" ∈ lw_g := xg_t 914 (by decide +kernel) rfl
theorem t_915 : Cond.fieldLink "RealmDeskModel" 48 "RealmDeskModel" "parent" "[I" ∈ lw_g := xg_t 915 (by decide +kernel) rfl
theorem t_916 : Cond.fieldLink "RealmDeskModel" 51 "RealmDeskModel" "keeps" "[I" ∈ lw_g := xg_t 916 (by decide +kernel) rfl
theorem t_917 : Cond.fieldLink "RealmDeskModel" 54 "RealmDeskModel" "keptAt" "[I" ∈ lw_g := xg_t 917 (by decide +kernel) rfl
theorem t_918 : Cond.fieldLink "RealmDeskModel" 57 "RealmDeskModel" "pack" "[J" ∈ lw_g := xg_t 918 (by decide +kernel) rfl
theorem t_919 : Cond.fieldLink "RealmDeskModel" 60 "RealmDeskModel" "kept" "[J" ∈ lw_g := xg_t 919 (by decide +kernel) rfl
theorem t_920 : Cond.fieldLink "RealmDeskModel" 63 "RealmDeskModel" "went" "[Z" ∈ lw_g := xg_t 920 (by decide +kernel) rfl
theorem t_921 : Cond.fieldLink "RealmDeskModel" 67 "RealmDeskModel" "parentFirst" "[Z" ∈ lw_g := xg_t 921 (by decide +kernel) rfl
theorem t_922 : Cond.fieldLink "RealmDeskModel" 189 "RealmDeskModel" "open" "I" ∈ lw_g := xg_t 922 (by decide +kernel) rfl
theorem t_923 : Cond.fieldLink "RealmDeskModel" 167 "RealmDeskModel" "many" "I" ∈ lw_g := xg_t 923 (by decide +kernel) rfl
theorem t_924 : Cond.fieldLink "RealmDeskModel" 70 "RealmDeskModel" "stack" "[I" ∈ lw_g := xg_t 924 (by decide +kernel) rfl
theorem t_925 : Cond.fieldLink "RealmDeskModel" 73 "RealmDeskModel" "stage" "[I" ∈ lw_g := xg_t 925 (by decide +kernel) rfl
theorem t_926 : Cond.fieldLink "RealmDeskModel" 76 "RealmDeskModel" "asked" "[I" ∈ lw_g := xg_t 926 (by decide +kernel) rfl
theorem t_927 : Cond.lays "RealmDeskModel" "RealmDeskModel" "fault" "I" ∈ lw_g := xg_t 927 (by decide +kernel) rfl
theorem t_928 : Cond.soleField "RealmDeskModel" "fault" ∈ lw_g := xg_t 928 (by decide +kernel) rfl
theorem t_929 : Cond.laysFinal "RealmDeskModel" "RealmDeskModel" "text" "[C" ∈ lw_g := xg_t 929 (by decide +kernel) rfl
theorem t_930 : Cond.soleField "RealmDeskModel" "text" ∈ lw_g := xg_t 930 (by decide +kernel) rfl
theorem t_931 : Cond.lays "RealmDeskModel" "RealmDeskModel" "written" "I" ∈ lw_g := xg_t 931 (by decide +kernel) rfl
theorem t_932 : Cond.soleField "RealmDeskModel" "written" ∈ lw_g := xg_t 932 (by decide +kernel) rfl
theorem t_933 : Cond.lays "RealmDeskModel" "RealmDeskModel" "parts" "I" ∈ lw_g := xg_t 933 (by decide +kernel) rfl
theorem t_934 : Cond.soleField "RealmDeskModel" "parts" ∈ lw_g := xg_t 934 (by decide +kernel) rfl
theorem t_935 : Cond.laysFinal "RealmDeskModel" "RealmDeskModel" "begin" "[I" ∈ lw_g := xg_t 935 (by decide +kernel) rfl
theorem t_936 : Cond.soleField "RealmDeskModel" "begin" ∈ lw_g := xg_t 936 (by decide +kernel) rfl
theorem t_937 : Cond.laysFinal "RealmDeskModel" "RealmDeskModel" "end" "[I" ∈ lw_g := xg_t 937 (by decide +kernel) rfl
theorem t_938 : Cond.soleField "RealmDeskModel" "end" ∈ lw_g := xg_t 938 (by decide +kernel) rfl
theorem t_939 : Cond.lays "RealmDeskModel" "RealmDeskModel" "archives" "I" ∈ lw_g := xg_t 939 (by decide +kernel) rfl
theorem t_940 : Cond.soleField "RealmDeskModel" "archives" ∈ lw_g := xg_t 940 (by decide +kernel) rfl
theorem t_941 : Cond.laysFinal "RealmDeskModel" "RealmDeskModel" "archiveWord" "[I" ∈ lw_g := xg_t 941 (by decide +kernel) rfl
theorem t_942 : Cond.soleField "RealmDeskModel" "archiveWord" ∈ lw_g := xg_t 942 (by decide +kernel) rfl
theorem t_943 : Cond.laysFinal "RealmDeskModel" "RealmDeskModel" "names" "[I" ∈ lw_g := xg_t 943 (by decide +kernel) rfl
theorem t_944 : Cond.soleField "RealmDeskModel" "names" ∈ lw_g := xg_t 944 (by decide +kernel) rfl
theorem t_945 : Cond.laysFinal "RealmDeskModel" "RealmDeskModel" "used" "[I" ∈ lw_g := xg_t 945 (by decide +kernel) rfl
theorem t_946 : Cond.soleField "RealmDeskModel" "used" ∈ lw_g := xg_t 946 (by decide +kernel) rfl
theorem t_947 : Cond.laysFinal "RealmDeskModel" "RealmDeskModel" "name" "[J" ∈ lw_g := xg_t 947 (by decide +kernel) rfl
theorem t_948 : Cond.soleField "RealmDeskModel" "name" ∈ lw_g := xg_t 948 (by decide +kernel) rfl
theorem t_949 : Cond.lays "RealmDeskModel" "RealmDeskModel" "realms" "I" ∈ lw_g := xg_t 949 (by decide +kernel) rfl
theorem t_950 : Cond.soleField "RealmDeskModel" "realms" ∈ lw_g := xg_t 950 (by decide +kernel) rfl
theorem t_951 : Cond.laysFinal "RealmDeskModel" "RealmDeskModel" "word" "[I" ∈ lw_g := xg_t 951 (by decide +kernel) rfl
theorem t_952 : Cond.soleField "RealmDeskModel" "word" ∈ lw_g := xg_t 952 (by decide +kernel) rfl
theorem t_953 : Cond.laysFinal "RealmDeskModel" "RealmDeskModel" "loads" "[I" ∈ lw_g := xg_t 953 (by decide +kernel) rfl
theorem t_954 : Cond.soleField "RealmDeskModel" "loads" ∈ lw_g := xg_t 954 (by decide +kernel) rfl
theorem t_955 : Cond.laysFinal "RealmDeskModel" "RealmDeskModel" "load" "[I" ∈ lw_g := xg_t 955 (by decide +kernel) rfl
theorem t_956 : Cond.soleField "RealmDeskModel" "load" ∈ lw_g := xg_t 956 (by decide +kernel) rfl
theorem t_957 : Cond.laysFinal "RealmDeskModel" "RealmDeskModel" "imports" "[I" ∈ lw_g := xg_t 957 (by decide +kernel) rfl
theorem t_958 : Cond.soleField "RealmDeskModel" "imports" ∈ lw_g := xg_t 958 (by decide +kernel) rfl
theorem t_959 : Cond.laysFinal "RealmDeskModel" "RealmDeskModel" "from" "[I" ∈ lw_g := xg_t 959 (by decide +kernel) rfl
theorem t_960 : Cond.soleField "RealmDeskModel" "from" ∈ lw_g := xg_t 960 (by decide +kernel) rfl
theorem t_961 : Cond.laysFinal "RealmDeskModel" "RealmDeskModel" "parent" "[I" ∈ lw_g := xg_t 961 (by decide +kernel) rfl
theorem t_962 : Cond.soleField "RealmDeskModel" "parent" ∈ lw_g := xg_t 962 (by decide +kernel) rfl
theorem t_963 : Cond.laysFinal "RealmDeskModel" "RealmDeskModel" "keeps" "[I" ∈ lw_g := xg_t 963 (by decide +kernel) rfl
theorem t_964 : Cond.soleField "RealmDeskModel" "keeps" ∈ lw_g := xg_t 964 (by decide +kernel) rfl
theorem t_965 : Cond.laysFinal "RealmDeskModel" "RealmDeskModel" "keptAt" "[I" ∈ lw_g := xg_t 965 (by decide +kernel) rfl
theorem t_966 : Cond.soleField "RealmDeskModel" "keptAt" ∈ lw_g := xg_t 966 (by decide +kernel) rfl
theorem t_967 : Cond.laysFinal "RealmDeskModel" "RealmDeskModel" "pack" "[J" ∈ lw_g := xg_t 967 (by decide +kernel) rfl
theorem t_968 : Cond.soleField "RealmDeskModel" "pack" ∈ lw_g := xg_t 968 (by decide +kernel) rfl
theorem t_969 : Cond.laysFinal "RealmDeskModel" "RealmDeskModel" "kept" "[J" ∈ lw_g := xg_t 969 (by decide +kernel) rfl
theorem t_970 : Cond.soleField "RealmDeskModel" "kept" ∈ lw_g := xg_t 970 (by decide +kernel) rfl
theorem t_971 : Cond.laysFinal "RealmDeskModel" "RealmDeskModel" "went" "[Z" ∈ lw_g := xg_t 971 (by decide +kernel) rfl
theorem t_972 : Cond.soleField "RealmDeskModel" "went" ∈ lw_g := xg_t 972 (by decide +kernel) rfl
theorem t_973 : Cond.laysFinal "RealmDeskModel" "RealmDeskModel" "parentFirst" "[Z" ∈ lw_g := xg_t 973 (by decide +kernel) rfl
theorem t_974 : Cond.soleField "RealmDeskModel" "parentFirst" ∈ lw_g := xg_t 974 (by decide +kernel) rfl
theorem t_975 : Cond.lays "RealmDeskModel" "RealmDeskModel" "open" "I" ∈ lw_g := xg_t 975 (by decide +kernel) rfl
theorem t_976 : Cond.soleField "RealmDeskModel" "open" ∈ lw_g := xg_t 976 (by decide +kernel) rfl
theorem t_977 : Cond.lays "RealmDeskModel" "RealmDeskModel" "many" "I" ∈ lw_g := xg_t 977 (by decide +kernel) rfl
theorem t_978 : Cond.soleField "RealmDeskModel" "many" ∈ lw_g := xg_t 978 (by decide +kernel) rfl
theorem t_979 : Cond.laysFinal "RealmDeskModel" "RealmDeskModel" "stack" "[I" ∈ lw_g := xg_t 979 (by decide +kernel) rfl
theorem t_980 : Cond.soleField "RealmDeskModel" "stack" ∈ lw_g := xg_t 980 (by decide +kernel) rfl
theorem t_981 : Cond.laysFinal "RealmDeskModel" "RealmDeskModel" "stage" "[I" ∈ lw_g := xg_t 981 (by decide +kernel) rfl
theorem t_982 : Cond.soleField "RealmDeskModel" "stage" ∈ lw_g := xg_t 982 (by decide +kernel) rfl
theorem t_983 : Cond.laysFinal "RealmDeskModel" "RealmDeskModel" "asked" "[I" ∈ lw_g := xg_t 983 (by decide +kernel) rfl
theorem t_984 : Cond.soleField "RealmDeskModel" "asked" ∈ lw_g := xg_t 984 (by decide +kernel) rfl
theorem t_985 : Cond.superclass "RealmDeskModel" "java/lang/Object" ∈ lw_g := xg_t 985 (by decide +kernel) rfl
theorem t_986 : Cond.arrayClass Jvm.ClassFile.FieldType.char ∈ lw_g := xg_t 986 (by decide +kernel) rfl
theorem t_987 : Cond.arrayClass Jvm.ClassFile.FieldType.long ∈ lw_g := xg_t 987 (by decide +kernel) rfl
theorem t_988 : Cond.arrayClass Jvm.ClassFile.FieldType.boolean ∈ lw_g := xg_t 988 (by decide +kernel) rfl
theorem t_989 : Cond.methodLink "RealmDeskLaw" 31 y_156 ∈ lw_g := xg_t 989 (by decide +kernel) rfl
theorem t_990 : Cond.instanceMethod y_156 ∈ lw_g := xg_t 990 (by decide +kernel) rfl
theorem t_991 : Cond.selects "RealmDeskModel" y_156 y_156 ∈ lw_g := xg_t 991 (by decide +kernel) rfl
theorem t_992 : Cond.code y_156 prog_8_method_4_code 2 (Option.some Jvm.ClassFile.FieldType.boolean) ∈ lw_g := xg_t 992 (by decide +kernel) rfl
theorem t_993 : Cond.methodLink "RealmDeskLaw" 37 y_157 ∈ lw_g := xg_t 993 (by decide +kernel) rfl
theorem t_994 : Cond.instanceMethod y_157 ∈ lw_g := xg_t 994 (by decide +kernel) rfl
theorem t_995 : Cond.selects "RealmDeskModel" y_157 y_157 ∈ lw_g := xg_t 995 (by decide +kernel) rfl
theorem t_996 : Cond.code y_157 prog_8_method_13_code 2 (Option.some Jvm.ClassFile.FieldType.int) ∈ lw_g := xg_t 996 (by decide +kernel) rfl
theorem t_997 : Cond.methodLink "RealmDeskModel" 101 y_158 ∈ lw_g := xg_t 997 (by decide +kernel) rfl
theorem t_999 : Cond.instanceMethod y_158 ∈ lw_g := xg_t 999 (by decide +kernel) rfl
theorem t_1000 : Cond.code y_158 prog_8_method_5_code 2 Option.none ∈ lw_g := xg_t 1000 (by decide +kernel) rfl
theorem t_1001 : Cond.methodLink "RealmDeskModel" 104 y_159 ∈ lw_g := xg_t 1001 (by decide +kernel) rfl
theorem t_1003 : Cond.instanceMethod y_159 ∈ lw_g := xg_t 1003 (by decide +kernel) rfl
theorem t_1004 : Cond.code y_159 prog_8_method_8_code 7 (Option.some Jvm.ClassFile.FieldType.boolean) ∈ lw_g := xg_t 1004 (by decide +kernel) rfl
theorem t_1005 : Cond.methodLink "RealmDeskModel" 108 y_160 ∈ lw_g := xg_t 1005 (by decide +kernel) rfl
theorem t_1007 : Cond.instanceMethod y_160 ∈ lw_g := xg_t 1007 (by decide +kernel) rfl
theorem t_1008 : Cond.code y_160 prog_8_method_9_code 3 (Option.some Jvm.ClassFile.FieldType.boolean) ∈ lw_g := xg_t 1008 (by decide +kernel) rfl
theorem t_1009 : Cond.methodLink "RealmDeskModel" 112 y_161 ∈ lw_g := xg_t 1009 (by decide +kernel) rfl
theorem t_1011 : Cond.instanceMethod y_161 ∈ lw_g := xg_t 1011 (by decide +kernel) rfl
theorem t_1012 : Cond.code y_161 prog_8_method_10_code 4 (Option.some Jvm.ClassFile.FieldType.boolean) ∈ lw_g := xg_t 1012 (by decide +kernel) rfl
theorem t_1013 : Cond.methodLink "RealmDeskModel" 116 y_162 ∈ lw_g := xg_t 1013 (by decide +kernel) rfl
theorem t_1015 : Cond.instanceMethod y_162 ∈ lw_g := xg_t 1015 (by decide +kernel) rfl
theorem t_1016 : Cond.code y_162 prog_8_method_14_code 2 (Option.some Jvm.ClassFile.FieldType.int) ∈ lw_g := xg_t 1016 (by decide +kernel) rfl
theorem t_1017 : Cond.methodLink "RealmDeskModel" 142 y_163 ∈ lw_g := xg_t 1017 (by decide +kernel) rfl
theorem t_1019 : Cond.instanceMethod y_163 ∈ lw_g := xg_t 1019 (by decide +kernel) rfl
theorem t_1020 : Cond.code y_163 prog_8_method_7_code 4 (Option.some Jvm.ClassFile.FieldType.int) ∈ lw_g := xg_t 1020 (by decide +kernel) rfl
theorem t_1021 : Cond.methodLink "RealmDeskModel" 89 y_164 ∈ lw_g := xg_t 1021 (by decide +kernel) rfl
theorem t_1023 : Cond.instanceMethod y_164 ∈ lw_g := xg_t 1023 (by decide +kernel) rfl
theorem t_1024 : Cond.code y_164 prog_8_method_6_code 10 (Option.some Jvm.ClassFile.FieldType.long) ∈ lw_g := xg_t 1024 (by decide +kernel) rfl
theorem t_1025 : Cond.constantLong "RealmDeskModel" 93 1099511627775 ∈ lw_g := xg_t 1025 (by decide +kernel) rfl
theorem t_1026 : Cond.methodLink "RealmDeskModel" 145 y_165 ∈ lw_g := xg_t 1026 (by decide +kernel) rfl
theorem t_1028 : Cond.instanceMethod y_165 ∈ lw_g := xg_t 1028 (by decide +kernel) rfl
theorem t_1029 : Cond.code y_165 prog_8_method_11_code 3 (Option.some Jvm.ClassFile.FieldType.int) ∈ lw_g := xg_t 1029 (by decide +kernel) rfl
theorem t_1030 : Cond.methodLink "RealmDeskModel" 120 y_166 ∈ lw_g := xg_t 1030 (by decide +kernel) rfl
theorem t_1032 : Cond.instanceMethod y_166 ∈ lw_g := xg_t 1032 (by decide +kernel) rfl
theorem t_1033 : Cond.code y_166 prog_8_method_16_code 4 (Option.some Jvm.ClassFile.FieldType.int) ∈ lw_g := xg_t 1033 (by decide +kernel) rfl
theorem t_1034 : Cond.methodLink "RealmDeskModel" 148 y_167 ∈ lw_g := xg_t 1034 (by decide +kernel) rfl
theorem t_1036 : Cond.instanceMethod y_167 ∈ lw_g := xg_t 1036 (by decide +kernel) rfl
theorem t_1037 : Cond.code y_167 prog_8_method_15_code 6 (Option.some Jvm.ClassFile.FieldType.boolean) ∈ lw_g := xg_t 1037 (by decide +kernel) rfl
theorem t_1038 : Cond.methodLink "RealmDeskModel" 123 y_168 ∈ lw_g := xg_t 1038 (by decide +kernel) rfl
theorem t_1040 : Cond.instanceMethod y_168 ∈ lw_g := xg_t 1040 (by decide +kernel) rfl
theorem t_1041 : Cond.code y_168 prog_8_method_17_code 2 (Option.some Jvm.ClassFile.FieldType.int) ∈ lw_g := xg_t 1041 (by decide +kernel) rfl
theorem t_1042 : Cond.methodLink "RealmDeskModel" 152 y_169 ∈ lw_g := xg_t 1042 (by decide +kernel) rfl
theorem t_1044 : Cond.instanceMethod y_169 ∈ lw_g := xg_t 1044 (by decide +kernel) rfl
theorem t_1045 : Cond.code y_169 prog_8_method_12_code 3 (Option.some Jvm.ClassFile.FieldType.int) ∈ lw_g := xg_t 1045 (by decide +kernel) rfl
theorem t_1046 : Cond.methodLink "RealmDeskModel" 126 y_170 ∈ lw_g := xg_t 1046 (by decide +kernel) rfl
theorem t_1048 : Cond.instanceMethod y_170 ∈ lw_g := xg_t 1048 (by decide +kernel) rfl
theorem t_1049 : Cond.code y_170 prog_8_method_19_code 6 (Option.some Jvm.ClassFile.FieldType.int) ∈ lw_g := xg_t 1049 (by decide +kernel) rfl
theorem t_1050 : Cond.methodLink "RealmDeskModel" 155 y_171 ∈ lw_g := xg_t 1050 (by decide +kernel) rfl
theorem t_1052 : Cond.instanceMethod y_171 ∈ lw_g := xg_t 1052 (by decide +kernel) rfl
theorem t_1053 : Cond.code y_171 prog_8_method_18_code 1 (Option.some Jvm.ClassFile.FieldType.boolean) ∈ lw_g := xg_t 1053 (by decide +kernel) rfl
theorem t_1054 : Cond.methodLink "RealmDeskModel" 128 y_172 ∈ lw_g := xg_t 1054 (by decide +kernel) rfl
theorem t_1056 : Cond.instanceMethod y_172 ∈ lw_g := xg_t 1056 (by decide +kernel) rfl
theorem t_1057 : Cond.code y_172 prog_8_method_20_code 6 (Option.some Jvm.ClassFile.FieldType.int) ∈ lw_g := xg_t 1057 (by decide +kernel) rfl
theorem t_1058 : Cond.methodLink "RealmDeskModel" 131 y_173 ∈ lw_g := xg_t 1058 (by decide +kernel) rfl
theorem t_1060 : Cond.instanceMethod y_173 ∈ lw_g := xg_t 1060 (by decide +kernel) rfl
theorem t_1061 : Cond.code y_173 prog_8_method_21_code 3 (Option.some Jvm.ClassFile.FieldType.int) ∈ lw_g := xg_t 1061 (by decide +kernel) rfl
theorem t_1062 : Cond.methodLink "RealmDeskModel" 134 y_174 ∈ lw_g := xg_t 1062 (by decide +kernel) rfl
theorem t_1064 : Cond.instanceMethod y_174 ∈ lw_g := xg_t 1064 (by decide +kernel) rfl
theorem t_1065 : Cond.code y_174 prog_8_method_22_code 2 (Option.some Jvm.ClassFile.FieldType.int) ∈ lw_g := xg_t 1065 (by decide +kernel) rfl
theorem t_1066 : Cond.methodLink "RealmDeskModel" 138 y_175 ∈ lw_g := xg_t 1066 (by decide +kernel) rfl
theorem t_1068 : Cond.instanceMethod y_175 ∈ lw_g := xg_t 1068 (by decide +kernel) rfl
theorem t_1069 : Cond.code y_175 prog_8_method_3_code 2 (Option.some Jvm.ClassFile.FieldType.int) ∈ lw_g := xg_t 1069 (by decide +kernel) rfl
theorem t_1070 : Cond.methodLink "RealmDeskLaw" 41 y_176 ∈ lw_g := xg_t 1070 (by decide +kernel) rfl
theorem t_1071 : Cond.instanceMethod y_176 ∈ lw_g := xg_t 1071 (by decide +kernel) rfl
theorem t_1072 : Cond.selects "RealmDeskModel" y_176 y_176 ∈ lw_g := xg_t 1072 (by decide +kernel) rfl
theorem t_1073 : Cond.code y_176 prog_8_method_36_code 5 (Option.some Jvm.ClassFile.FieldType.int) ∈ lw_g := xg_t 1073 (by decide +kernel) rfl
theorem t_1074 : Cond.methodLink "RealmDeskModel" 208 y_177 ∈ lw_g := xg_t 1074 (by decide +kernel) rfl
theorem t_1076 : Cond.instanceMethod y_177 ∈ lw_g := xg_t 1076 (by decide +kernel) rfl
theorem t_1077 : Cond.code y_177 prog_8_method_31_code 5 (Option.some Jvm.ClassFile.FieldType.int) ∈ lw_g := xg_t 1077 (by decide +kernel) rfl
theorem t_1078 : Cond.methodLink "RealmDeskModel" 211 y_178 ∈ lw_g := xg_t 1078 (by decide +kernel) rfl
theorem t_1080 : Cond.instanceMethod y_178 ∈ lw_g := xg_t 1080 (by decide +kernel) rfl
theorem t_1081 : Cond.code y_178 prog_8_method_34_code 7 (Option.some Jvm.ClassFile.FieldType.int) ∈ lw_g := xg_t 1081 (by decide +kernel) rfl
theorem t_1082 : Cond.methodLink "RealmDeskModel" 192 y_179 ∈ lw_g := xg_t 1082 (by decide +kernel) rfl
theorem t_1084 : Cond.instanceMethod y_179 ∈ lw_g := xg_t 1084 (by decide +kernel) rfl
theorem t_1085 : Cond.code y_179 prog_8_method_33_code 2 Option.none ∈ lw_g := xg_t 1085 (by decide +kernel) rfl
theorem t_1086 : Cond.methodLink "RealmDeskModel" 177 y_180 ∈ lw_g := xg_t 1086 (by decide +kernel) rfl
theorem t_1088 : Cond.instanceMethod y_180 ∈ lw_g := xg_t 1088 (by decide +kernel) rfl
theorem t_1089 : Cond.code y_180 prog_8_method_27_code 2 Option.none ∈ lw_g := xg_t 1089 (by decide +kernel) rfl
theorem t_1090 : Cond.methodLink "RealmDeskModel" 195 y_181 ∈ lw_g := xg_t 1090 (by decide +kernel) rfl
theorem t_1092 : Cond.instanceMethod y_181 ∈ lw_g := xg_t 1092 (by decide +kernel) rfl
theorem t_1093 : Cond.code y_181 prog_8_method_28_code 7 (Option.some Jvm.ClassFile.FieldType.int) ∈ lw_g := xg_t 1093 (by decide +kernel) rfl
theorem t_1094 : Cond.methodLink "RealmDeskModel" 170 y_182 ∈ lw_g := xg_t 1094 (by decide +kernel) rfl
theorem t_1095 : Cond.static y_182 ∈ lw_g := xg_t 1095 (by decide +kernel) rfl
theorem t_1096 : Cond.code y_182 prog_8_method_24_code 6 (Option.some Jvm.ClassFile.FieldType.int) ∈ lw_g := xg_t 1096 (by decide +kernel) rfl
theorem t_1097 : Cond.constantLong "RealmDeskModel" 161 1048575 ∈ lw_g := xg_t 1097 (by decide +kernel) rfl
theorem t_1098 : Cond.methodLink "RealmDeskModel" 163 y_183 ∈ lw_g := xg_t 1098 (by decide +kernel) rfl
theorem t_1099 : Cond.static y_183 ∈ lw_g := xg_t 1099 (by decide +kernel) rfl
theorem t_1100 : Cond.code y_183 prog_8_method_23_code 4 (Option.some Jvm.ClassFile.FieldType.int) ∈ lw_g := xg_t 1100 (by decide +kernel) rfl
theorem t_1101 : Cond.constantLong "RealmDeskModel" 159 31 ∈ lw_g := xg_t 1101 (by decide +kernel) rfl
theorem t_1102 : Cond.methodLink "RealmDeskModel" 173 y_184 ∈ lw_g := xg_t 1102 (by decide +kernel) rfl
theorem t_1103 : Cond.static y_184 ∈ lw_g := xg_t 1103 (by decide +kernel) rfl
theorem t_1104 : Cond.code y_184 prog_8_method_25_code 6 (Option.some Jvm.ClassFile.FieldType.boolean) ∈ lw_g := xg_t 1104 (by decide +kernel) rfl
theorem t_1105 : Cond.methodLink "RealmDeskModel" 181 y_185 ∈ lw_g := xg_t 1105 (by decide +kernel) rfl
theorem t_1107 : Cond.instanceMethod y_185 ∈ lw_g := xg_t 1107 (by decide +kernel) rfl
theorem t_1108 : Cond.code y_185 prog_8_method_26_code 5 (Option.some Jvm.ClassFile.FieldType.int) ∈ lw_g := xg_t 1108 (by decide +kernel) rfl
theorem t_1109 : Cond.methodLink "RealmDeskModel" 185 y_186 ∈ lw_g := xg_t 1109 (by decide +kernel) rfl
theorem t_1111 : Cond.instanceMethod y_186 ∈ lw_g := xg_t 1111 (by decide +kernel) rfl
theorem t_1112 : Cond.code y_186 prog_8_method_29_code 3 (Option.some Jvm.ClassFile.FieldType.int) ∈ lw_g := xg_t 1112 (by decide +kernel) rfl
theorem t_1113 : Cond.methodLink "RealmDeskModel" 198 y_187 ∈ lw_g := xg_t 1113 (by decide +kernel) rfl
theorem t_1115 : Cond.instanceMethod y_187 ∈ lw_g := xg_t 1115 (by decide +kernel) rfl
theorem t_1116 : Cond.code y_187 prog_8_method_30_code 5 (Option.some Jvm.ClassFile.FieldType.int) ∈ lw_g := xg_t 1116 (by decide +kernel) rfl
theorem t_1117 : Cond.methodLink "RealmDeskModel" 201 y_188 ∈ lw_g := xg_t 1117 (by decide +kernel) rfl
theorem t_1119 : Cond.instanceMethod y_188 ∈ lw_g := xg_t 1119 (by decide +kernel) rfl
theorem t_1120 : Cond.code y_188 prog_8_method_35_code 5 (Option.some Jvm.ClassFile.FieldType.int) ∈ lw_g := xg_t 1120 (by decide +kernel) rfl
theorem t_1121 : Cond.methodLink "RealmDeskModel" 204 y_189 ∈ lw_g := xg_t 1121 (by decide +kernel) rfl
theorem t_1123 : Cond.instanceMethod y_189 ∈ lw_g := xg_t 1123 (by decide +kernel) rfl
theorem t_1124 : Cond.code y_189 prog_8_method_32_code 4 (Option.some Jvm.ClassFile.FieldType.boolean) ∈ lw_g := xg_t 1124 (by decide +kernel) rfl
theorem t_1125 : Cond.methodLink "RealmDeskLaw" 45 y_190 ∈ lw_g := xg_t 1125 (by decide +kernel) rfl
theorem t_1126 : Cond.instanceMethod y_190 ∈ lw_g := xg_t 1126 (by decide +kernel) rfl
theorem t_1127 : Cond.selects "RealmDeskModel" y_190 y_190 ∈ lw_g := xg_t 1127 (by decide +kernel) rfl
theorem t_1128 : Cond.code y_190 prog_8_method_37_code 1 (Option.some Jvm.ClassFile.FieldType.int) ∈ lw_g := xg_t 1128 (by decide +kernel) rfl
theorem t_1129 : Cond.methodLink "RealmDeskLaw" 49 y_191 ∈ lw_g := xg_t 1129 (by decide +kernel) rfl
theorem t_1130 : Cond.instanceMethod y_191 ∈ lw_g := xg_t 1130 (by decide +kernel) rfl
theorem t_1131 : Cond.selects "RealmDeskModel" y_191 y_191 ∈ lw_g := xg_t 1131 (by decide +kernel) rfl
theorem t_1132 : Cond.code y_191 prog_8_method_38_code 2 (Option.some Jvm.ClassFile.FieldType.int) ∈ lw_g := xg_t 1132 (by decide +kernel) rfl
theorem t_1133 : Cond.methodLink "RealmDeskLaw" 53 y_192 ∈ lw_g := xg_t 1133 (by decide +kernel) rfl
theorem t_1134 : Cond.instanceMethod y_192 ∈ lw_g := xg_t 1134 (by decide +kernel) rfl
theorem t_1135 : Cond.selects "RealmDeskModel" y_192 y_192 ∈ lw_g := xg_t 1135 (by decide +kernel) rfl
theorem t_1136 : Cond.code y_192 prog_8_method_40_code 2 (Option.some Jvm.ClassFile.FieldType.int) ∈ lw_g := xg_t 1136 (by decide +kernel) rfl
theorem t_1137 : Cond.methodLink "RealmDeskModel" 214 y_193 ∈ lw_g := xg_t 1137 (by decide +kernel) rfl
theorem t_1139 : Cond.instanceMethod y_193 ∈ lw_g := xg_t 1139 (by decide +kernel) rfl
theorem t_1140 : Cond.code y_193 prog_8_method_39_code 2 (Option.some Jvm.ClassFile.FieldType.boolean) ∈ lw_g := xg_t 1140 (by decide +kernel) rfl
theorem t_1141 : Cond.methodLink "RealmDeskLaw" 57 y_194 ∈ lw_g := xg_t 1141 (by decide +kernel) rfl
theorem t_1142 : Cond.instanceMethod y_194 ∈ lw_g := xg_t 1142 (by decide +kernel) rfl
theorem t_1143 : Cond.selects "RealmDeskModel" y_194 y_194 ∈ lw_g := xg_t 1143 (by decide +kernel) rfl
theorem t_1144 : Cond.code y_194 prog_8_method_41_code 2 (Option.some Jvm.ClassFile.FieldType.int) ∈ lw_g := xg_t 1144 (by decide +kernel) rfl
theorem t_1145 : Cond.methodLink "RealmDeskLaw" 62 y_195 ∈ lw_g := xg_t 1145 (by decide +kernel) rfl
theorem t_1146 : Cond.instanceMethod y_195 ∈ lw_g := xg_t 1146 (by decide +kernel) rfl
theorem t_1147 : Cond.selects "RealmDeskModel" y_195 y_195 ∈ lw_g := xg_t 1147 (by decide +kernel) rfl
theorem t_1148 : Cond.code y_195 prog_8_method_42_code 2 (Option.some Jvm.ClassFile.FieldType.boolean) ∈ lw_g := xg_t 1148 (by decide +kernel) rfl
theorem t_1149 : Cond.methodLink "RealmDeskLaw" 66 y_196 ∈ lw_g := xg_t 1149 (by decide +kernel) rfl
theorem t_1150 : Cond.instanceMethod y_196 ∈ lw_g := xg_t 1150 (by decide +kernel) rfl
theorem t_1151 : Cond.selects "RealmDeskModel" y_196 y_196 ∈ lw_g := xg_t 1151 (by decide +kernel) rfl
theorem t_1152 : Cond.code y_196 prog_8_method_43_code 2 (Option.some Jvm.ClassFile.FieldType.int) ∈ lw_g := xg_t 1152 (by decide +kernel) rfl
theorem t_1153 : Cond.methodLink "RealmDeskLaw" 70 y_197 ∈ lw_g := xg_t 1153 (by decide +kernel) rfl
theorem t_1154 : Cond.instanceMethod y_197 ∈ lw_g := xg_t 1154 (by decide +kernel) rfl
theorem t_1155 : Cond.selects "RealmDeskModel" y_197 y_197 ∈ lw_g := xg_t 1155 (by decide +kernel) rfl
theorem t_1156 : Cond.code y_197 prog_8_method_44_code 4 (Option.some Jvm.ClassFile.FieldType.int) ∈ lw_g := xg_t 1156 (by decide +kernel) rfl
theorem t_1157 : Cond.sameMethod "java/lang/AbstractStringBuilder" "java/lang/AbstractStringBuilder" "length" "()I" ∈ lw_g := xg_t 1157 (by decide +kernel) rfl
theorem t_1158 : Cond.sameMethod "java/lang/AbstractStringBuilder" "java/lang/AbstractStringBuilder" "append" "(C)Ljava/lang/AbstractStringBuilder;" ∈ lw_g := xg_t 1158 (by decide +kernel) rfl
theorem t_1159 : Cond.sameMethod "java/lang/AbstractStringBuilder" "java/lang/AbstractStringBuilder" "ensureCapacityInternal" "(I)V" ∈ lw_g := xg_t 1159 (by decide +kernel) rfl
theorem t_1160 : Cond.sameMethod "java/lang/AbstractStringBuilder" "java/lang/AbstractStringBuilder" "newCapacity" "(I)I" ∈ lw_g := xg_t 1160 (by decide +kernel) rfl
theorem t_1162 : Cond.selects "java/lang/StringBuilder" y_11 y_10 ∈ lw_g := xg_t 1162 (by decide +kernel) rfl
theorem t_1163 : Cond.sameMethod "java/lang/Throwable" "java/lang/Throwable" "fillInStackTrace" "(I)Ljava/lang/Throwable;" ∈ lw_g := xg_t 1163 (by decide +kernel) rfl
theorem t_1164 : Cond.sameMethod "java/lang/AbstractStringBuilder" "java/lang/AbstractStringBuilder" "append" "(I)Ljava/lang/AbstractStringBuilder;" ∈ lw_g := xg_t 1164 (by decide +kernel) rfl
theorem t_1165 : Cond.sameMethod "java/lang/AbstractStringBuilder" "java/lang/AbstractStringBuilder" "append" "(Ljava/lang/String;)Ljava/lang/AbstractStringBuilder;" ∈ lw_g := xg_t 1165 (by decide +kernel) rfl
theorem t_1169 : Cond.sameMethod "java/lang/AbstractStringBuilder" "java/lang/AbstractStringBuilder" "setLength" "(I)V" ∈ lw_g := xg_t 1169 (by decide +kernel) rfl
theorem t_1175 : Cond.sameMethod "[Ljava/lang/Object;" "java/lang/Object" "getClass" "()Ljava/lang/Class;" ∈ lw_g := xg_t 1175 (by decide +kernel) rfl
theorem t_1176 : Cond.selects "[Ljava/lang/Object;" y_116 y_116 ∈ lw_g := xg_t 1176 (by decide +kernel) rfl
theorem ts_0 : Cond.selects "RealmDesk" y_41 y_41 ∈ lw_g := xg_s 0 (by decide +kernel) rfl
theorem ts_1 : Cond.selects "RealmDesk" y_49 y_49 ∈ lw_g := xg_s 1 (by decide +kernel) rfl
theorem ts_2 : Cond.selects "java/lang/Throwable" y_63 y_63 ∈ lw_g := xg_s 2 (by decide +kernel) rfl
theorem ts_3 : Cond.selects "RealmDesk" y_94 y_94 ∈ lw_g := xg_s 3 (by decide +kernel) rfl
theorem ts_4 : Cond.selects "RealmDesk" y_98 y_98 ∈ lw_g := xg_s 4 (by decide +kernel) rfl
theorem ts_5 : Cond.selects "java/util/ArrayList" y_112 y_112 ∈ lw_g := xg_s 5 (by decide +kernel) rfl
theorem ts_6 : Cond.selects "java/util/ArrayList" y_113 y_113 ∈ lw_g := xg_s 6 (by decide +kernel) rfl
theorem ts_7 : Cond.selects "java/util/ArrayList" y_114 y_114 ∈ lw_g := xg_s 7 (by decide +kernel) rfl
theorem ts_8 : Cond.selects "RealmDesk" y_118 y_118 ∈ lw_g := xg_s 8 (by decide +kernel) rfl
theorem ts_9 : Cond.selects "RealmDesk" y_120 y_120 ∈ lw_g := xg_s 9 (by decide +kernel) rfl
theorem ts_10 : Cond.selects "RealmDesk" y_123 y_123 ∈ lw_g := xg_s 10 (by decide +kernel) rfl
theorem ts_11 : Cond.selects "RealmDesk" y_124 y_124 ∈ lw_g := xg_s 11 (by decide +kernel) rfl
theorem ts_12 : Cond.selects "RealmDesk" y_126 y_126 ∈ lw_g := xg_s 12 (by decide +kernel) rfl
theorem ts_13 : Cond.selects "RealmDesk" y_128 y_128 ∈ lw_g := xg_s 13 (by decide +kernel) rfl
theorem ts_14 : Cond.selects "RealmDesk" y_129 y_129 ∈ lw_g := xg_s 14 (by decide +kernel) rfl
theorem ts_15 : Cond.selects "RealmDesk" y_132 y_132 ∈ lw_g := xg_s 15 (by decide +kernel) rfl
theorem ts_16 : Cond.selects "RealmDesk" y_134 y_134 ∈ lw_g := xg_s 16 (by decide +kernel) rfl
theorem ts_17 : Cond.selects "RealmDesk" y_136 y_136 ∈ lw_g := xg_s 17 (by decide +kernel) rfl
theorem ts_18 : Cond.selects "RealmDesk" y_137 y_137 ∈ lw_g := xg_s 18 (by decide +kernel) rfl
theorem ts_19 : Cond.selects "RealmDesk" y_138 y_138 ∈ lw_g := xg_s 19 (by decide +kernel) rfl
theorem ts_20 : Cond.selects "java/util/ArrayList" y_142 y_142 ∈ lw_g := xg_s 20 (by decide +kernel) rfl
theorem ts_21 : Cond.selects "RealmDesk" y_145 y_145 ∈ lw_g := xg_s 21 (by decide +kernel) rfl
theorem ts_22 : Cond.selects "RealmDesk" y_147 y_147 ∈ lw_g := xg_s 22 (by decide +kernel) rfl
theorem ts_23 : Cond.selects "RealmDesk" y_148 y_148 ∈ lw_g := xg_s 23 (by decide +kernel) rfl
theorem ts_24 : Cond.selects "RealmDesk" y_149 y_149 ∈ lw_g := xg_s 24 (by decide +kernel) rfl
theorem ts_25 : Cond.selects "RealmDesk" y_152 y_152 ∈ lw_g := xg_s 25 (by decide +kernel) rfl
theorem ts_26 : Cond.selects "RealmDeskModel" y_158 y_158 ∈ lw_g := xg_s 26 (by decide +kernel) rfl
theorem ts_27 : Cond.selects "RealmDeskModel" y_159 y_159 ∈ lw_g := xg_s 27 (by decide +kernel) rfl
theorem ts_28 : Cond.selects "RealmDeskModel" y_160 y_160 ∈ lw_g := xg_s 28 (by decide +kernel) rfl
theorem ts_29 : Cond.selects "RealmDeskModel" y_161 y_161 ∈ lw_g := xg_s 29 (by decide +kernel) rfl
theorem ts_30 : Cond.selects "RealmDeskModel" y_162 y_162 ∈ lw_g := xg_s 30 (by decide +kernel) rfl
theorem ts_31 : Cond.selects "RealmDeskModel" y_163 y_163 ∈ lw_g := xg_s 31 (by decide +kernel) rfl
theorem ts_32 : Cond.selects "RealmDeskModel" y_164 y_164 ∈ lw_g := xg_s 32 (by decide +kernel) rfl
theorem ts_33 : Cond.selects "RealmDeskModel" y_165 y_165 ∈ lw_g := xg_s 33 (by decide +kernel) rfl
theorem ts_34 : Cond.selects "RealmDeskModel" y_166 y_166 ∈ lw_g := xg_s 34 (by decide +kernel) rfl
theorem ts_35 : Cond.selects "RealmDeskModel" y_167 y_167 ∈ lw_g := xg_s 35 (by decide +kernel) rfl
theorem ts_36 : Cond.selects "RealmDeskModel" y_168 y_168 ∈ lw_g := xg_s 36 (by decide +kernel) rfl
theorem ts_37 : Cond.selects "RealmDeskModel" y_169 y_169 ∈ lw_g := xg_s 37 (by decide +kernel) rfl
theorem ts_38 : Cond.selects "RealmDeskModel" y_170 y_170 ∈ lw_g := xg_s 38 (by decide +kernel) rfl
theorem ts_39 : Cond.selects "RealmDeskModel" y_171 y_171 ∈ lw_g := xg_s 39 (by decide +kernel) rfl
theorem ts_40 : Cond.selects "RealmDeskModel" y_172 y_172 ∈ lw_g := xg_s 40 (by decide +kernel) rfl
theorem ts_41 : Cond.selects "RealmDeskModel" y_173 y_173 ∈ lw_g := xg_s 41 (by decide +kernel) rfl
theorem ts_42 : Cond.selects "RealmDeskModel" y_174 y_174 ∈ lw_g := xg_s 42 (by decide +kernel) rfl
theorem ts_43 : Cond.selects "RealmDeskModel" y_175 y_175 ∈ lw_g := xg_s 43 (by decide +kernel) rfl
theorem ts_44 : Cond.selects "RealmDeskModel" y_177 y_177 ∈ lw_g := xg_s 44 (by decide +kernel) rfl
theorem ts_45 : Cond.selects "RealmDeskModel" y_178 y_178 ∈ lw_g := xg_s 45 (by decide +kernel) rfl
theorem ts_46 : Cond.selects "RealmDeskModel" y_179 y_179 ∈ lw_g := xg_s 46 (by decide +kernel) rfl
theorem ts_47 : Cond.selects "RealmDeskModel" y_180 y_180 ∈ lw_g := xg_s 47 (by decide +kernel) rfl
theorem ts_48 : Cond.selects "RealmDeskModel" y_181 y_181 ∈ lw_g := xg_s 48 (by decide +kernel) rfl
theorem ts_49 : Cond.selects "RealmDeskModel" y_185 y_185 ∈ lw_g := xg_s 49 (by decide +kernel) rfl
theorem ts_50 : Cond.selects "RealmDeskModel" y_186 y_186 ∈ lw_g := xg_s 50 (by decide +kernel) rfl
theorem ts_51 : Cond.selects "RealmDeskModel" y_187 y_187 ∈ lw_g := xg_s 51 (by decide +kernel) rfl
theorem ts_52 : Cond.selects "RealmDeskModel" y_188 y_188 ∈ lw_g := xg_s 52 (by decide +kernel) rfl
theorem ts_53 : Cond.selects "RealmDeskModel" y_189 y_189 ∈ lw_g := xg_s 53 (by decide +kernel) rfl
theorem ts_54 : Cond.selects "RealmDeskModel" y_193 y_193 ∈ lw_g := xg_s 54 (by decide +kernel) rfl
end
section
/-! The classes whose objects the world holds, by their numbers in CL; each with its fields. -/
def T0 : u_T := fun k => match k with
  | 0 => ("RealmDesk", "written", "Ljava/lang/StringBuilder;", true)
  | 1 => ("RealmDesk", "archives", "Ljava/util/ArrayList;", true)
  | 2 => ("RealmDesk", "realms", "Ljava/util/ArrayList;", true)
  | 3 => ("RealmDesk", "toldRealms", "[I", true)
  | _ => ("RealmDesk", "timesAsked", "I", false)
def ty0 : Nat → FieldType := fun k => match k with
  | 0 => .object "java/lang/StringBuilder"
  | 1 => .object "java/util/ArrayList"
  | 2 => .object "java/util/ArrayList"
  | 3 => .array .int
  | _ => .int
theorem nm0 : ∀ a, a < 5 → ∀ b, b < 5 → a ≠ b → (T0 a).2.1 ≠ (T0 b).2.1 := by decide +kernel
theorem ty0_ok : ∀ k, k < 5 → parseFieldDescriptor (T0 k).2.2.1 = some (ty0 k) := by decide +kernel
theorem in0 : ∀ w ∈ u_ws "RealmDesk" T0 5, w ∈ lw_g := by
  intro w h
  obtain ⟨k, hk, rfl⟩ := List.mem_map.mp h
  have hk := List.mem_range.mp hk
  match k, hk with
  | 0, _ => exact t_101
  | 1, _ => exact t_103
  | 2, _ => exact t_105
  | 3, _ => exact t_107
  | 4, _ => exact t_109
def T1 : u_T := fun k => match k with
  | 0 => ("java/lang/AbstractStringBuilder", "value", "[B", false)
  | 1 => ("java/lang/AbstractStringBuilder", "coder", "B", false)
  | 2 => ("java/lang/AbstractStringBuilder", "maybeLatin1", "Z", false)
  | _ => ("java/lang/AbstractStringBuilder", "count", "I", false)
def ty1 : Nat → FieldType := fun k => match k with
  | 0 => .array .byte
  | 1 => .byte
  | 2 => .boolean
  | _ => .int
theorem nm1 : ∀ a, a < 4 → ∀ b, b < 4 → a ≠ b → (T1 a).2.1 ≠ (T1 b).2.1 := by decide +kernel
theorem ty1_ok : ∀ k, k < 4 → parseFieldDescriptor (T1 k).2.2.1 = some (ty1 k) := by decide +kernel
theorem in1 : ∀ w ∈ u_ws "java/lang/StringBuilder" T1 4, w ∈ lw_g := by
  intro w h
  obtain ⟨k, hk, rfl⟩ := List.mem_map.mp h
  have hk := List.mem_range.mp hk
  match k, hk with
  | 0, _ => exact t_60
  | 1, _ => exact t_62
  | 2, _ => exact t_64
  | 3, _ => exact t_66
def T2 : u_T := fun k => match k with
  | 0 => ("java/util/ArrayList", "elementData", "[Ljava/lang/Object;", false)
  | 1 => ("java/util/ArrayList", "size", "I", false)
  | _ => ("java/util/AbstractList", "modCount", "I", false)
def ty2 : Nat → FieldType := fun k => match k with
  | 0 => .array (.object "java/lang/Object")
  | 1 => .int
  | _ => .int
theorem nm2 : ∀ a, a < 3 → ∀ b, b < 3 → a ≠ b → (T2 a).2.1 ≠ (T2 b).2.1 := by decide +kernel
theorem ty2_ok : ∀ k, k < 3 → parseFieldDescriptor (T2 k).2.2.1 = some (ty2 k) := by decide +kernel
theorem in2 : ∀ w ∈ u_ws "java/util/ArrayList" T2 3, w ∈ lw_g := by
  intro w h
  obtain ⟨k, hk, rfl⟩ := List.mem_map.mp h
  have hk := List.mem_range.mp hk
  match k, hk with
  | 0, _ => exact t_89
  | 1, _ => exact t_91
  | 2, _ => exact t_93
def T3 : u_T := fun k => match k with
  | 0 => ("java/lang/String", "value", "[B", true)
  | 1 => ("java/lang/String", "coder", "B", true)
  | 2 => ("java/lang/String", "hash", "I", false)
  | _ => ("java/lang/String", "hashIsZero", "Z", false)
def ty3 : Nat → FieldType := fun k => match k with
  | 0 => .array .byte
  | 1 => .byte
  | 2 => .int
  | _ => .boolean
theorem nm3 : ∀ a, a < 4 → ∀ b, b < 4 → a ≠ b → (T3 a).2.1 ≠ (T3 b).2.1 := by decide +kernel
theorem ty3_ok : ∀ k, k < 4 → parseFieldDescriptor (T3 k).2.2.1 = some (ty3 k) := by decide +kernel
theorem in3 : ∀ w ∈ u_ws "java/lang/String" T3 4, w ∈ lw_g := by
  intro w h
  obtain ⟨k, hk, rfl⟩ := List.mem_map.mp h
  have hk := List.mem_range.mp hk
  match k, hk with
  | 0, _ => exact t_455
  | 1, _ => exact t_457
  | 2, _ => exact t_459
  | 3, _ => exact t_461
def T4 : u_T := fun k => match k with
  | _ => ("RealmDesk$Text", "characters", "Ljava/lang/String;", true)
def ty4 : Nat → FieldType := fun k => match k with
  | _ => .object "java/lang/String"
theorem nm4 : ∀ a, a < 1 → ∀ b, b < 1 → a ≠ b → (T4 a).2.1 ≠ (T4 b).2.1 := by decide +kernel
theorem ty4_ok : ∀ k, k < 1 → parseFieldDescriptor (T4 k).2.2.1 = some (ty4 k) := by decide +kernel
theorem in4 : ∀ w ∈ u_ws "RealmDesk$Text" T4 1, w ∈ lw_g := by
  intro w h
  obtain ⟨k, hk, rfl⟩ := List.mem_map.mp h
  have hk := List.mem_range.mp hk
  match k, hk with
  | 0, _ => exact t_568
def T5 : u_T := fun k => match k with
  | 0 => ("RealmDesk$Archive", "number", "I", true)
  | 1 => ("RealmDesk$Archive", "word", "Ljava/lang/String;", true)
  | 2 => ("RealmDesk$Archive", "names", "Ljava/util/ArrayList;", true)
  | _ => ("RealmDesk$Archive", "timesFound", "I", false)
def ty5 : Nat → FieldType := fun k => match k with
  | 0 => .int
  | 1 => .object "java/lang/String"
  | 2 => .object "java/util/ArrayList"
  | _ => .int
theorem nm5 : ∀ a, a < 4 → ∀ b, b < 4 → a ≠ b → (T5 a).2.1 ≠ (T5 b).2.1 := by decide +kernel
theorem ty5_ok : ∀ k, k < 4 → parseFieldDescriptor (T5 k).2.2.1 = some (ty5 k) := by decide +kernel
theorem in5 : ∀ w ∈ u_ws "RealmDesk$Archive" T5 4, w ∈ lw_g := by
  intro w h
  obtain ⟨k, hk, rfl⟩ := List.mem_map.mp h
  have hk := List.mem_range.mp hk
  match k, hk with
  | 0, _ => exact t_687
  | 1, _ => exact t_689
  | 2, _ => exact t_691
  | 3, _ => exact t_693
def T6 : u_T := fun k => match k with
  | 0 => ("RealmDesk$Realm", "number", "I", true)
  | 1 => ("RealmDesk$Realm", "word", "Ljava/lang/String;", true)
  | 2 => ("RealmDesk$Realm", "loaded", "Ljava/util/ArrayList;", true)
  | 3 => ("RealmDesk$Realm", "imports", "Ljava/util/ArrayList;", true)
  | 4 => ("RealmDesk$Realm", "finds", "Ljava/util/ArrayList;", true)
  | 5 => ("RealmDesk$Realm", "parent", "LRealmDesk$Realm;", false)
  | 6 => ("RealmDesk$Realm", "parentFirst", "Z", false)
  | 7 => ("RealmDesk$Realm", "went", "Z", false)
  | _ => ("RealmDesk$Realm", "beingAsked", "Z", false)
def ty6 : Nat → FieldType := fun k => match k with
  | 0 => .int
  | 1 => .object "java/lang/String"
  | 2 => .object "java/util/ArrayList"
  | 3 => .object "java/util/ArrayList"
  | 4 => .object "java/util/ArrayList"
  | 5 => .object "RealmDesk$Realm"
  | 6 => .boolean
  | 7 => .boolean
  | _ => .boolean
theorem nm6 : ∀ a, a < 9 → ∀ b, b < 9 → a ≠ b → (T6 a).2.1 ≠ (T6 b).2.1 := by decide +kernel
theorem ty6_ok : ∀ k, k < 9 → parseFieldDescriptor (T6 k).2.2.1 = some (ty6 k) := by decide +kernel
theorem in6 : ∀ w ∈ u_ws "RealmDesk$Realm" T6 9, w ∈ lw_g := by
  intro w h
  obtain ⟨k, hk, rfl⟩ := List.mem_map.mp h
  have hk := List.mem_range.mp hk
  match k, hk with
  | 0, _ => exact t_746
  | 1, _ => exact t_748
  | 2, _ => exact t_750
  | 3, _ => exact t_752
  | 4, _ => exact t_754
  | 5, _ => exact t_756
  | 6, _ => exact t_758
  | 7, _ => exact t_760
  | 8, _ => exact t_762
  | z + 9, hz => exact absurd hz (by omega)
def T7 : u_T := fun k => match k with
  | 0 => ("RealmDesk$Import", "pack", "Ljava/lang/String;", true)
  | _ => ("RealmDesk$Import", "source", "LRealmDesk$Realm;", true)
def ty7 : Nat → FieldType := fun k => match k with
  | 0 => .object "java/lang/String"
  | _ => .object "RealmDesk$Realm"
theorem nm7 : ∀ a, a < 2 → ∀ b, b < 2 → a ≠ b → (T7 a).2.1 ≠ (T7 b).2.1 := by decide +kernel
theorem ty7_ok : ∀ k, k < 2 → parseFieldDescriptor (T7 k).2.2.1 = some (ty7 k) := by decide +kernel
theorem in7 : ∀ w ∈ u_ws "RealmDesk$Import" T7 2, w ∈ lw_g := by
  intro w h
  obtain ⟨k, hk, rfl⟩ := List.mem_map.mp h
  have hk := List.mem_range.mp hk
  match k, hk with
  | 0, _ => exact t_802
  | 1, _ => exact t_804
def T8 : u_T := fun k => match k with
  | 0 => ("RealmDesk$Find", "name", "Ljava/lang/String;", true)
  | _ => ("RealmDesk$Find", "place", "I", true)
def ty8 : Nat → FieldType := fun k => match k with
  | 0 => .object "java/lang/String"
  | _ => .int
theorem nm8 : ∀ a, a < 2 → ∀ b, b < 2 → a ≠ b → (T8 a).2.1 ≠ (T8 b).2.1 := by decide +kernel
theorem ty8_ok : ∀ k, k < 2 → parseFieldDescriptor (T8 k).2.2.1 = some (ty8 k) := by decide +kernel
theorem in8 : ∀ w ∈ u_ws "RealmDesk$Find" T8 2, w ∈ lw_g := by
  intro w h
  obtain ⟨k, hk, rfl⟩ := List.mem_map.mp h
  have hk := List.mem_range.mp hk
  match k, hk with
  | 0, _ => exact t_872
  | 1, _ => exact t_874
def T9 : u_T := fun k => match k with
  | 0 => ("RealmDeskModel", "fault", "I", false)
  | 1 => ("RealmDeskModel", "text", "[C", true)
  | 2 => ("RealmDeskModel", "written", "I", false)
  | 3 => ("RealmDeskModel", "parts", "I", false)
  | 4 => ("RealmDeskModel", "begin", "[I", true)
  | 5 => ("RealmDeskModel", "end", "[I", true)
  | 6 => ("RealmDeskModel", "archives", "I", false)
  | 7 => ("RealmDeskModel", "archiveWord", "[I", true)
  | 8 => ("RealmDeskModel", "names", "[I", true)
  | 9 => ("RealmDeskModel", "used", "[I", true)
  | 10 => ("RealmDeskModel", "name", "[J", true)
  | 11 => ("RealmDeskModel", "realms", "I", false)
  | 12 => ("RealmDeskModel", "word", "[I", true)
  | 13 => ("RealmDeskModel", "loads", "[I", true)
  | 14 => ("RealmDeskModel", "load", "[I", true)
  | 15 => ("RealmDeskModel", "imports", "[I", true)
  | 16 => ("RealmDeskModel", "from", "[I", true)
  | 17 => ("RealmDeskModel", "parent", "[I", true)
  | 18 => ("RealmDeskModel", "keeps", "[I", true)
  | 19 => ("RealmDeskModel", "keptAt", "[I", true)
  | 20 => ("RealmDeskModel", "pack", "[J", true)
  | 21 => ("RealmDeskModel", "kept", "[J", true)
  | 22 => ("RealmDeskModel", "went", "[Z", true)
  | 23 => ("RealmDeskModel", "parentFirst", "[Z", true)
  | 24 => ("RealmDeskModel", "open", "I", false)
  | 25 => ("RealmDeskModel", "many", "I", false)
  | 26 => ("RealmDeskModel", "stack", "[I", true)
  | 27 => ("RealmDeskModel", "stage", "[I", true)
  | _ => ("RealmDeskModel", "asked", "[I", true)
def ty9 : Nat → FieldType := fun k => match k with
  | 0 => .int
  | 1 => .array .char
  | 2 => .int
  | 3 => .int
  | 4 => .array .int
  | 5 => .array .int
  | 6 => .int
  | 7 => .array .int
  | 8 => .array .int
  | 9 => .array .int
  | 10 => .array .long
  | 11 => .int
  | 12 => .array .int
  | 13 => .array .int
  | 14 => .array .int
  | 15 => .array .int
  | 16 => .array .int
  | 17 => .array .int
  | 18 => .array .int
  | 19 => .array .int
  | 20 => .array .long
  | 21 => .array .long
  | 22 => .array .boolean
  | 23 => .array .boolean
  | 24 => .int
  | 25 => .int
  | 26 => .array .int
  | 27 => .array .int
  | _ => .array .int
theorem nm9 : ∀ a, a < 29 → ∀ b, b < 29 → a ≠ b → (T9 a).2.1 ≠ (T9 b).2.1 := by decide +kernel
theorem ty9_ok : ∀ k, k < 29 → parseFieldDescriptor (T9 k).2.2.1 = some (ty9 k) := by decide +kernel
theorem in9 : ∀ w ∈ u_ws "RealmDeskModel" T9 29, w ∈ lw_g := by
  intro w h
  obtain ⟨k, hk, rfl⟩ := List.mem_map.mp h
  have hk := List.mem_range.mp hk
  match k, hk with
  | 0, _ => exact t_927
  | 1, _ => exact t_929
  | 2, _ => exact t_931
  | 3, _ => exact t_933
  | 4, _ => exact t_935
  | 5, _ => exact t_937
  | 6, _ => exact t_939
  | 7, _ => exact t_941
  | 8, _ => exact t_943
  | 9, _ => exact t_945
  | 10, _ => exact t_947
  | 11, _ => exact t_949
  | 12, _ => exact t_951
  | 13, _ => exact t_953
  | 14, _ => exact t_955
  | 15, _ => exact t_957
  | 16, _ => exact t_959
  | 17, _ => exact t_961
  | 18, _ => exact t_963
  | 19, _ => exact t_965
  | 20, _ => exact t_967
  | 21, _ => exact t_969
  | 22, _ => exact t_971
  | 23, _ => exact t_973
  | 24, _ => exact t_975
  | 25, _ => exact t_977
  | 26, _ => exact t_979
  | 27, _ => exact t_981
  | 28, _ => exact t_983
  | z + 29, hz => exact absurd hz (by omega)
def TX : u_T := fun _ => ("", "", "", false)
/-- the last three: what is thrown, without a word of their fields -/
abbrev CL : List vw_C := [("RealmDesk", T0, 5), ("java/lang/StringBuilder", T1, 4), ("java/util/ArrayList", T2, 3), ("java/lang/String", T3, 4), ("RealmDesk$Text", T4, 1), ("RealmDesk$Archive", T5, 4), ("RealmDesk$Realm", T6, 9), ("RealmDesk$Import", T7, 2), ("RealmDesk$Find", T8, 2), ("RealmDeskModel", T9, 29), ("java/lang/IllegalArgumentException", TX, 0), ("java/lang/IllegalStateException", TX, 0), ("java/util/NoSuchElementException", TX, 0)]
/-- the array classes, by numbers from 100 on -/
abbrev TY (D : va_G) : List (ClassId × FieldType) := [(D.1 100, .int), (D.1 101, .char), (D.1 102, .long), (D.1 103, .boolean), (D.1 104, .byte), (D.1 105, .object "java/lang/Object")]
end
section
/-! A walk over a pool of cells: every cell that the program has made since the law's start lies at an address from z0 on, and is told by a list of addresses and what lies at each. -/
abbrev hp : Type := List Nat × (Nat → va_E)
abbrev AA (z0 : Nat) : Nat → Prop := fun q => z0 ≤ q
def Wd (z0 : Nat) (D : va_G) (h : hp) (H : Heap) : Prop := va_P D CL (va_pl h.1 h.2) H ∧ va_D (AA z0) (va_pl h.1 h.2)
/-- what a state predicate must bear: warmer tables, new cells, changes from z0 on -/
def Stb (z0 : Nat) (E : State → Prop) : Prop := ∀ u U : State, u.WarmedH U.vm → u.heap.size ≤ U.heap.size → (∀ q : Nat, q < z0 → U.heap[q]? = u.heap[q]?) → E u → E U
def World (z0 : Nat) (D : va_G) (E : State → Prop) (h : hp) (U : State) : Prop := Wd z0 D h U.heap ∧ va_K D CL (TY D) U ∧ z0 ≤ U.heap.size ∧ E U
def Fr (z0 : Nat) (u U : State) : Prop := u.heap.size ≤ U.heap.size ∧ ∀ q : Nat, q < z0 → U.heap[q]? = u.heap[q]?
def QcO (z0 : Nat) (D : va_G) (E : State → Prop) (Qp : Outcome → hp → Prop) : Array Value → State → Outcome → State → Prop := fun _ st o t => ∃ h', Qp o h' ∧ World z0 D E h' t ∧ Fr z0 st t
def Cx (p : Program) (R : Room) (s : State) (m : MethodId) (args : Array Value) (meth : Method) (c : Code) (cc : ByteArray) (own : String) (nL : Nat) (ret : Option FieldType) (D : va_G) (z0 : Nat) (E : State → Prop) (mc ms : Nat) : Prop :=
  p.tables.exec = Jvm.exec ∧ c.code = cc ∧ c.maxLocals = nL ∧ s.vm.findClass own = some m.cls ∧ (∀ w ∈ lw_g, w.before args s = true) ∧ va_K D CL (TY D) s ∧ meth.locks = false ∧ z0 ≤ s.heap.size ∧ E s ∧ Stb z0 E ∧ meth.sig.returnType = ret ∧ (∀ z ∈ c.exceptionTable.toList, False) ∧ R.cells = mc ∧ R.slots = ms
def G (p : Program) (l : Launch) (e : Env) (R : Room) (s : State) (m : MethodId) (args : Array Value) (below : List Frame) (meth : Method) (c : Code) (nL : Nat) (D : va_G) (z0 : Nat) (E : State → Prop) (Qp : Outcome → hp → Prop) (mc ms pc : Nat) (lv : List (Nat × Value)) (st : List Value) (h : hp) (rc rs : Nat) : Prop :=
  ∀ (ls : Array Slot) (H : Heap) (locs : List Loc) (cells slots : Nat), lv_has ls nL lv → Wd z0 D h H → va_S (AA z0) s.heap H locs → cells + rc ≤ mc → slots + rs ≤ ms → W p l e R s m args below meth c H locs cells slots (xt_MQ below (QcO z0 D E Qp) args s mc ms (AA z0)) (F0 m pc ls st)
section GR
variable {p : Program} {l : Launch} {e : Env} {R : Room} {s : State} {m : MethodId} {args : Array Value} {below : List Frame} {meth : Method} {c : Code} {cc : ByteArray} {own : String} {nL : Nat} {ret : Option FieldType} {D : va_G} {z0 : Nat} {E : State → Prop} {Qp : Outcome → hp → Prop} {mc ms pc : Nat} {lv lv' : List (Nat × Value)} {st rest : List Value} {h : hp} {rc rs : Nat}
theorem Cx.world (C : Cx p R s m args meth c cc own nL ret D z0 E mc ms) {H : Heap} {locs : List Loc} (h2 : Wd z0 D h H) (h3 : va_S (AA z0) s.heap H locs) (t : State) (ht : t.heap = H) (hW : s.WarmedH t.vm) : World z0 D E h t ∧ Fr z0 s t := by
  obtain ⟨-, -, -, -, -, hK, -, hz, hE, hSt, -⟩ := C
  have hF : Fr z0 s t := ⟨by rw [ht]; exact h3.1, fun q hq => by rw [ht]; exact h3.2.1 q (Nat.lt_of_lt_of_le hq hz) (Nat.not_le.mpr hq)⟩
  exact ⟨⟨by rw [ht]; exact h2, va_K.moved hW.alike hK, Nat.le_trans hz hF.1, hSt s t hW hF.1 hF.2 hE⟩, hF⟩
theorem g_iconst (C : Cx p R s m args meth c cc own nL ret D z0 E mc ms) {n : Int} {v : Int32} (hd : decode cc pc = .ok (.iconst n, 1)) (hv : Int32.ofInt n = v) (k : G p l e R s m args below meth c nL D z0 E Qp mc ms (pc + 1) lv (.int v :: rest) h rc rs) : G p l e R s m args below meth c nL D z0 E Qp mc ms pc lv (rest) h rc rs := fun ls H locs cells slots h1 h2 h3 h4 h5 => lv_iconst C.1 C.2.1 hd hv (k ls H locs cells slots h1 h2 h3 h4 h5)
theorem g_bipush (C : Cx p R s m args meth c cc own nL ret D z0 E mc ms) {n : Int} {v : Int32} (hd : decode cc pc = .ok (.bipush n, 2)) (hv : (Int8.ofInt n).toInt32 = v) (k : G p l e R s m args below meth c nL D z0 E Qp mc ms (pc + 2) lv (.int v :: rest) h rc rs) : G p l e R s m args below meth c nL D z0 E Qp mc ms pc lv (rest) h rc rs := fun ls H locs cells slots h1 h2 h3 h4 h5 => lv_bipush C.1 C.2.1 hd hv (k ls H locs cells slots h1 h2 h3 h4 h5)
theorem g_sipush (C : Cx p R s m args meth c cc own nL ret D z0 E mc ms) {n : Int} {v : Int32} (hd : decode cc pc = .ok (.sipush n, 3)) (hv : (Int16.ofInt n).toInt32 = v) (k : G p l e R s m args below meth c nL D z0 E Qp mc ms (pc + 3) lv (.int v :: rest) h rc rs) : G p l e R s m args below meth c nL D z0 E Qp mc ms pc lv (rest) h rc rs := fun ls H locs cells slots h1 h2 h3 h4 h5 => lv_sipush C.1 C.2.1 hd hv (k ls H locs cells slots h1 h2 h3 h4 h5)
theorem g_lconst (C : Cx p R s m args meth c cc own nL ret D z0 E mc ms) {n : Fin 2} {v : Int64} (hd : decode cc pc = .ok (.lconst n, 1)) (hv : Int64.ofNat (n : Nat) = v) (k : G p l e R s m args below meth c nL D z0 E Qp mc ms (pc + 1) lv (.long v :: rest) h rc rs) : G p l e R s m args below meth c nL D z0 E Qp mc ms pc lv (rest) h rc rs := fun ls H locs cells slots h1 h2 h3 h4 h5 => lv_lconst C.1 C.2.1 hd hv (k ls H locs cells slots h1 h2 h3 h4 h5)
theorem g_null (C : Cx p R s m args meth c cc own nL ret D z0 E mc ms)  (hd : decode cc pc = .ok (.aconst_null, 1))  (k : G p l e R s m args below meth c nL D z0 E Qp mc ms (pc + 1) lv (.null :: rest) h rc rs) : G p l e R s m args below meth c nL D z0 E Qp mc ms pc lv (rest) h rc rs := fun ls H locs cells slots h1 h2 h3 h4 h5 => lv_null C.1 C.2.1 hd  (k ls H locs cells slots h1 h2 h3 h4 h5)
theorem g_iadd (C : Cx p R s m args meth c cc own nL ret D z0 E mc ms) {x y : Int32} (hd : decode cc pc = .ok (.iadd, 1))  (k : G p l e R s m args below meth c nL D z0 E Qp mc ms (pc + 1) lv (.int (x + y) :: rest) h rc rs) : G p l e R s m args below meth c nL D z0 E Qp mc ms pc lv (.int y :: .int x :: rest) h rc rs := fun ls H locs cells slots h1 h2 h3 h4 h5 => lv_iadd C.1 C.2.1 hd  (k ls H locs cells slots h1 h2 h3 h4 h5)
theorem g_isub (C : Cx p R s m args meth c cc own nL ret D z0 E mc ms) {x y : Int32} (hd : decode cc pc = .ok (.isub, 1))  (k : G p l e R s m args below meth c nL D z0 E Qp mc ms (pc + 1) lv (.int (x - y) :: rest) h rc rs) : G p l e R s m args below meth c nL D z0 E Qp mc ms pc lv (.int y :: .int x :: rest) h rc rs := fun ls H locs cells slots h1 h2 h3 h4 h5 => lv_isub C.1 C.2.1 hd  (k ls H locs cells slots h1 h2 h3 h4 h5)
theorem g_imul (C : Cx p R s m args meth c cc own nL ret D z0 E mc ms) {x y : Int32} (hd : decode cc pc = .ok (.imul, 1))  (k : G p l e R s m args below meth c nL D z0 E Qp mc ms (pc + 1) lv (.int (x * y) :: rest) h rc rs) : G p l e R s m args below meth c nL D z0 E Qp mc ms pc lv (.int y :: .int x :: rest) h rc rs := fun ls H locs cells slots h1 h2 h3 h4 h5 => lv_imul C.1 C.2.1 hd  (k ls H locs cells slots h1 h2 h3 h4 h5)
theorem g_iand (C : Cx p R s m args meth c cc own nL ret D z0 E mc ms) {x y : Int32} (hd : decode cc pc = .ok (.iand, 1))  (k : G p l e R s m args below meth c nL D z0 E Qp mc ms (pc + 1) lv (.int (x &&& y) :: rest) h rc rs) : G p l e R s m args below meth c nL D z0 E Qp mc ms pc lv (.int y :: .int x :: rest) h rc rs := fun ls H locs cells slots h1 h2 h3 h4 h5 => lv_iand C.1 C.2.1 hd  (k ls H locs cells slots h1 h2 h3 h4 h5)
theorem g_ior (C : Cx p R s m args meth c cc own nL ret D z0 E mc ms) {x y : Int32} (hd : decode cc pc = .ok (.ior, 1))  (k : G p l e R s m args below meth c nL D z0 E Qp mc ms (pc + 1) lv (.int (x ||| y) :: rest) h rc rs) : G p l e R s m args below meth c nL D z0 E Qp mc ms pc lv (.int y :: .int x :: rest) h rc rs := fun ls H locs cells slots h1 h2 h3 h4 h5 => lv_ior C.1 C.2.1 hd  (k ls H locs cells slots h1 h2 h3 h4 h5)
theorem g_ixor (C : Cx p R s m args meth c cc own nL ret D z0 E mc ms) {x y : Int32} (hd : decode cc pc = .ok (.ixor, 1))  (k : G p l e R s m args below meth c nL D z0 E Qp mc ms (pc + 1) lv (.int (x ^^^ y) :: rest) h rc rs) : G p l e R s m args below meth c nL D z0 E Qp mc ms pc lv (.int y :: .int x :: rest) h rc rs := fun ls H locs cells slots h1 h2 h3 h4 h5 => lv_ixor C.1 C.2.1 hd  (k ls H locs cells slots h1 h2 h3 h4 h5)
theorem g_ishl (C : Cx p R s m args meth c cc own nL ret D z0 E mc ms) {x y : Int32} (hd : decode cc pc = .ok (.ishl, 1))  (k : G p l e R s m args below meth c nL D z0 E Qp mc ms (pc + 1) lv (.int (x <<< (y &&& 31)) :: rest) h rc rs) : G p l e R s m args below meth c nL D z0 E Qp mc ms pc lv (.int y :: .int x :: rest) h rc rs := fun ls H locs cells slots h1 h2 h3 h4 h5 => lv_ishl C.1 C.2.1 hd  (k ls H locs cells slots h1 h2 h3 h4 h5)
theorem g_ishr (C : Cx p R s m args meth c cc own nL ret D z0 E mc ms) {x y : Int32} (hd : decode cc pc = .ok (.ishr, 1))  (k : G p l e R s m args below meth c nL D z0 E Qp mc ms (pc + 1) lv (.int (x >>> (y &&& 31)) :: rest) h rc rs) : G p l e R s m args below meth c nL D z0 E Qp mc ms pc lv (.int y :: .int x :: rest) h rc rs := fun ls H locs cells slots h1 h2 h3 h4 h5 => lv_ishr C.1 C.2.1 hd  (k ls H locs cells slots h1 h2 h3 h4 h5)
theorem g_ladd (C : Cx p R s m args meth c cc own nL ret D z0 E mc ms) {x y : Int64} (hd : decode cc pc = .ok (.ladd, 1))  (k : G p l e R s m args below meth c nL D z0 E Qp mc ms (pc + 1) lv (.long (x + y) :: rest) h rc rs) : G p l e R s m args below meth c nL D z0 E Qp mc ms pc lv (.long y :: .long x :: rest) h rc rs := fun ls H locs cells slots h1 h2 h3 h4 h5 => lv_ladd C.1 C.2.1 hd  (k ls H locs cells slots h1 h2 h3 h4 h5)
theorem g_lsub (C : Cx p R s m args meth c cc own nL ret D z0 E mc ms) {x y : Int64} (hd : decode cc pc = .ok (.lsub, 1))  (k : G p l e R s m args below meth c nL D z0 E Qp mc ms (pc + 1) lv (.long (x - y) :: rest) h rc rs) : G p l e R s m args below meth c nL D z0 E Qp mc ms pc lv (.long y :: .long x :: rest) h rc rs := fun ls H locs cells slots h1 h2 h3 h4 h5 => lv_lsub C.1 C.2.1 hd  (k ls H locs cells slots h1 h2 h3 h4 h5)
theorem g_lmul (C : Cx p R s m args meth c cc own nL ret D z0 E mc ms) {x y : Int64} (hd : decode cc pc = .ok (.lmul, 1))  (k : G p l e R s m args below meth c nL D z0 E Qp mc ms (pc + 1) lv (.long (x * y) :: rest) h rc rs) : G p l e R s m args below meth c nL D z0 E Qp mc ms pc lv (.long y :: .long x :: rest) h rc rs := fun ls H locs cells slots h1 h2 h3 h4 h5 => lv_lmul C.1 C.2.1 hd  (k ls H locs cells slots h1 h2 h3 h4 h5)
theorem g_land (C : Cx p R s m args meth c cc own nL ret D z0 E mc ms) {x y : Int64} (hd : decode cc pc = .ok (.land, 1))  (k : G p l e R s m args below meth c nL D z0 E Qp mc ms (pc + 1) lv (.long (x &&& y) :: rest) h rc rs) : G p l e R s m args below meth c nL D z0 E Qp mc ms pc lv (.long y :: .long x :: rest) h rc rs := fun ls H locs cells slots h1 h2 h3 h4 h5 => lv_land C.1 C.2.1 hd  (k ls H locs cells slots h1 h2 h3 h4 h5)
theorem g_lor (C : Cx p R s m args meth c cc own nL ret D z0 E mc ms) {x y : Int64} (hd : decode cc pc = .ok (.lor, 1))  (k : G p l e R s m args below meth c nL D z0 E Qp mc ms (pc + 1) lv (.long (x ||| y) :: rest) h rc rs) : G p l e R s m args below meth c nL D z0 E Qp mc ms pc lv (.long y :: .long x :: rest) h rc rs := fun ls H locs cells slots h1 h2 h3 h4 h5 => lv_lor C.1 C.2.1 hd  (k ls H locs cells slots h1 h2 h3 h4 h5)
theorem g_ineg (C : Cx p R s m args meth c cc own nL ret D z0 E mc ms) {x : Int32} (hd : decode cc pc = .ok (.ineg, 1))  (k : G p l e R s m args below meth c nL D z0 E Qp mc ms (pc + 1) lv (.int (-x) :: rest) h rc rs) : G p l e R s m args below meth c nL D z0 E Qp mc ms pc lv (.int x :: rest) h rc rs := fun ls H locs cells slots h1 h2 h3 h4 h5 => lv_ineg C.1 C.2.1 hd  (k ls H locs cells slots h1 h2 h3 h4 h5)
theorem g_i2l (C : Cx p R s m args meth c cc own nL ret D z0 E mc ms) {x : Int32} (hd : decode cc pc = .ok (.i2l, 1))  (k : G p l e R s m args below meth c nL D z0 E Qp mc ms (pc + 1) lv (.long x.toInt64 :: rest) h rc rs) : G p l e R s m args below meth c nL D z0 E Qp mc ms pc lv (.int x :: rest) h rc rs := fun ls H locs cells slots h1 h2 h3 h4 h5 => lv_i2l C.1 C.2.1 hd rfl (k ls H locs cells slots h1 h2 h3 h4 h5)
theorem g_l2i (C : Cx p R s m args meth c cc own nL ret D z0 E mc ms) {x : Int64} (hd : decode cc pc = .ok (.l2i, 1))  (k : G p l e R s m args below meth c nL D z0 E Qp mc ms (pc + 1) lv (.int x.toInt32 :: rest) h rc rs) : G p l e R s m args below meth c nL D z0 E Qp mc ms pc lv (.long x :: rest) h rc rs := fun ls H locs cells slots h1 h2 h3 h4 h5 => lv_l2i C.1 C.2.1 hd rfl (k ls H locs cells slots h1 h2 h3 h4 h5)
theorem g_i2b (C : Cx p R s m args meth c cc own nL ret D z0 E mc ms) {x : Int32} (hd : decode cc pc = .ok (.i2b, 1))  (k : G p l e R s m args below meth c nL D z0 E Qp mc ms (pc + 1) lv (.int x.toInt8.toInt32 :: rest) h rc rs) : G p l e R s m args below meth c nL D z0 E Qp mc ms pc lv (.int x :: rest) h rc rs := fun ls H locs cells slots h1 h2 h3 h4 h5 => lv_i2b C.1 C.2.1 hd rfl (k ls H locs cells slots h1 h2 h3 h4 h5)
theorem g_i2c (C : Cx p R s m args meth c cc own nL ret D z0 E mc ms) {x : Int32} (hd : decode cc pc = .ok (.i2c, 1))  (k : G p l e R s m args below meth c nL D z0 E Qp mc ms (pc + 1) lv (.int (x.toUInt32 % 65536).toInt32 :: rest) h rc rs) : G p l e R s m args below meth c nL D z0 E Qp mc ms pc lv (.int x :: rest) h rc rs := fun ls H locs cells slots h1 h2 h3 h4 h5 => lv_i2c C.1 C.2.1 hd rfl (k ls H locs cells slots h1 h2 h3 h4 h5)
theorem g_lshl (C : Cx p R s m args meth c cc own nL ret D z0 E mc ms) {x : Int64} {y : Int32} (hd : decode cc pc = .ok (.lshl, 1))  (k : G p l e R s m args below meth c nL D z0 E Qp mc ms (pc + 1) lv (.long (x <<< (y.toInt64 &&& 63)) :: rest) h rc rs) : G p l e R s m args below meth c nL D z0 E Qp mc ms pc lv (.int y :: .long x :: rest) h rc rs := fun ls H locs cells slots h1 h2 h3 h4 h5 => lv_lshl C.1 C.2.1 hd rfl (k ls H locs cells slots h1 h2 h3 h4 h5)
theorem g_lshr (C : Cx p R s m args meth c cc own nL ret D z0 E mc ms) {x : Int64} {y : Int32} (hd : decode cc pc = .ok (.lshr, 1))  (k : G p l e R s m args below meth c nL D z0 E Qp mc ms (pc + 1) lv (.long (x >>> (y.toInt64 &&& 63)) :: rest) h rc rs) : G p l e R s m args below meth c nL D z0 E Qp mc ms pc lv (.int y :: .long x :: rest) h rc rs := fun ls H locs cells slots h1 h2 h3 h4 h5 => lv_lshr C.1 C.2.1 hd rfl (k ls H locs cells slots h1 h2 h3 h4 h5)
theorem g_lcmp (C : Cx p R s m args meth c cc own nL ret D z0 E mc ms) {x y : Int64} (hd : decode cc pc = .ok (.lcmp, 1))  (k : G p l e R s m args below meth c nL D z0 E Qp mc ms (pc + 1) lv (.int (lg_cmp x y) :: rest) h rc rs) : G p l e R s m args below meth c nL D z0 E Qp mc ms pc lv (.long y :: .long x :: rest) h rc rs := fun ls H locs cells slots h1 h2 h3 h4 h5 => W.lcmp C.1 C.2.1 hd  (k ls H locs cells slots h1 h2 h3 h4 h5)
theorem g_dup (C : Cx p R s m args meth c cc own nL ret D z0 E mc ms) {va : Value} (hd : decode cc pc = .ok (.dup, 1)) (hva : va.category = 1) (k : G p l e R s m args below meth c nL D z0 E Qp mc ms (pc + 1) lv (va :: va :: rest) h rc rs) : G p l e R s m args below meth c nL D z0 E Qp mc ms pc lv (va :: rest) h rc rs := fun ls H locs cells slots h1 h2 h3 h4 h5 => lv_dup C.1 C.2.1 hd hva (k ls H locs cells slots h1 h2 h3 h4 h5)
theorem g_pop (C : Cx p R s m args meth c cc own nL ret D z0 E mc ms) {va : Value} (hd : decode cc pc = .ok (.pop, 1)) (hva : va.category = 1) (k : G p l e R s m args below meth c nL D z0 E Qp mc ms (pc + 1) lv (rest) h rc rs) : G p l e R s m args below meth c nL D z0 E Qp mc ms pc lv (va :: rest) h rc rs := fun ls H locs cells slots h1 h2 h3 h4 h5 => lv_pop C.1 C.2.1 hd hva (k ls H locs cells slots h1 h2 h3 h4 h5)
theorem g_dup_x1 (C : Cx p R s m args meth c cc own nL ret D z0 E mc ms) {va vb : Value} (hd : decode cc pc = .ok (.dup_x1, 1)) (hva : va.category = 1) (hvb : vb.category = 1) (k : G p l e R s m args below meth c nL D z0 E Qp mc ms (pc + 1) lv (va :: vb :: va :: rest) h rc rs) : G p l e R s m args below meth c nL D z0 E Qp mc ms pc lv (va :: vb :: rest) h rc rs := fun ls H locs cells slots h1 h2 h3 h4 h5 => lv_dup_x1 C.1 C.2.1 hd hva hvb (k ls H locs cells slots h1 h2 h3 h4 h5)
theorem g_dup2_11 (C : Cx p R s m args meth c cc own nL ret D z0 E mc ms) {va vb : Value} (hd : decode cc pc = .ok (.dup2, 1)) (hva : va.category = 1) (hvb : vb.category = 1) (k : G p l e R s m args below meth c nL D z0 E Qp mc ms (pc + 1) lv (va :: vb :: va :: vb :: rest) h rc rs) : G p l e R s m args below meth c nL D z0 E Qp mc ms pc lv (va :: vb :: rest) h rc rs := fun ls H locs cells slots h1 h2 h3 h4 h5 => lv_dup2_11 C.1 C.2.1 hd hva hvb (k ls H locs cells slots h1 h2 h3 h4 h5)
theorem g_iload_n (C : Cx p R s m args meth c cc own nL ret D z0 E mc ms) {i : Nat} {x : Int32} {j : Fin 4} (q : Nat) (hd : decode cc pc = .ok (.iload_n j, 1)) (hi : (j : Nat) = i) (hl : lv[q]? = some (i, .int x)) (k : G p l e R s m args below meth c nL D z0 E Qp mc ms (pc + 1) lv (.int x :: rest) h rc rs) : G p l e R s m args below meth c nL D z0 E Qp mc ms pc lv rest h rc rs := fun ls H locs cells slots h1 h2 h3 h4 h5 => lv_iload_n C.1 C.2.1 hd hi (lv_at h1 q hl) (k ls H locs cells slots h1 h2 h3 h4 h5)
theorem g_iload (C : Cx p R s m args meth c cc own nL ret D z0 E mc ms) {i : Nat} {x : Int32} (q : Nat) (hd : decode cc pc = .ok (.iload i, 2)) (hl : lv[q]? = some (i, .int x)) (k : G p l e R s m args below meth c nL D z0 E Qp mc ms (pc + 2) lv (.int x :: rest) h rc rs) : G p l e R s m args below meth c nL D z0 E Qp mc ms pc lv rest h rc rs := fun ls H locs cells slots h1 h2 h3 h4 h5 => lv_iload C.1 C.2.1 hd (lv_at h1 q hl) (k ls H locs cells slots h1 h2 h3 h4 h5)
theorem g_lload_n (C : Cx p R s m args meth c cc own nL ret D z0 E mc ms) {i : Nat} {x : Int64} {j : Fin 4} (q : Nat) (hd : decode cc pc = .ok (.lload_n j, 1)) (hi : (j : Nat) = i) (hl : lv[q]? = some (i, .long x)) (k : G p l e R s m args below meth c nL D z0 E Qp mc ms (pc + 1) lv (.long x :: rest) h rc rs) : G p l e R s m args below meth c nL D z0 E Qp mc ms pc lv rest h rc rs := fun ls H locs cells slots h1 h2 h3 h4 h5 => lv_lload_n C.1 C.2.1 hd hi (lv_at h1 q hl) (k ls H locs cells slots h1 h2 h3 h4 h5)
theorem g_lload (C : Cx p R s m args meth c cc own nL ret D z0 E mc ms) {i : Nat} {x : Int64} (q : Nat) (hd : decode cc pc = .ok (.lload i, 2)) (hl : lv[q]? = some (i, .long x)) (k : G p l e R s m args below meth c nL D z0 E Qp mc ms (pc + 2) lv (.long x :: rest) h rc rs) : G p l e R s m args below meth c nL D z0 E Qp mc ms pc lv rest h rc rs := fun ls H locs cells slots h1 h2 h3 h4 h5 => lv_lload C.1 C.2.1 hd (lv_at h1 q hl) (k ls H locs cells slots h1 h2 h3 h4 h5)
theorem g_aload_n (C : Cx p R s m args meth c cc own nL ret D z0 E mc ms) {i : Nat} {x : Nat} {j : Fin 4} (q : Nat) (hd : decode cc pc = .ok (.aload_n j, 1)) (hi : (j : Nat) = i) (hl : lv[q]? = some (i, .ref x)) (k : G p l e R s m args below meth c nL D z0 E Qp mc ms (pc + 1) lv (.ref x :: rest) h rc rs) : G p l e R s m args below meth c nL D z0 E Qp mc ms pc lv rest h rc rs := fun ls H locs cells slots h1 h2 h3 h4 h5 => lv_aload_n C.1 C.2.1 hd hi (lv_at h1 q hl) (k ls H locs cells slots h1 h2 h3 h4 h5)
theorem g_aload (C : Cx p R s m args meth c cc own nL ret D z0 E mc ms) {i : Nat} {x : Nat} (q : Nat) (hd : decode cc pc = .ok (.aload i, 2)) (hl : lv[q]? = some (i, .ref x)) (k : G p l e R s m args below meth c nL D z0 E Qp mc ms (pc + 2) lv (.ref x :: rest) h rc rs) : G p l e R s m args below meth c nL D z0 E Qp mc ms pc lv rest h rc rs := fun ls H locs cells slots h1 h2 h3 h4 h5 => lv_aload C.1 C.2.1 hd (lv_at h1 q hl) (k ls H locs cells slots h1 h2 h3 h4 h5)
theorem g_aload_nN (C : Cx p R s m args meth c cc own nL ret D z0 E mc ms) {i : Nat} {j : Fin 4} (q : Nat) (hd : decode cc pc = .ok (.aload_n j, 1)) (hi : (j : Nat) = i) (hl : lv[q]? = some (i, .null)) (k : G p l e R s m args below meth c nL D z0 E Qp mc ms (pc + 1) lv (.null :: rest) h rc rs) : G p l e R s m args below meth c nL D z0 E Qp mc ms pc lv rest h rc rs := fun ls H locs cells slots h1 h2 h3 h4 h5 => lv_aload_nN C.1 C.2.1 hd hi (lv_at h1 q hl) (k ls H locs cells slots h1 h2 h3 h4 h5)
theorem g_istore_n (C : Cx p R s m args meth c cc own nL ret D z0 E mc ms) {i : Nat} {x : Int32} {j : Fin 4} (hd : decode cc pc = .ok (.istore_n j, 1)) (hi : (j : Nat) = i) (hn : i < nL) (hl : (i, Value.int x) :: lv.filter (fun q => !(q.1 == i) && !(q.1 + 1 == i && q.2.category == 2)) = lv') (k : G p l e R s m args below meth c nL D z0 E Qp mc ms (pc + 1) lv' rest h rc rs) : G p l e R s m args below meth c nL D z0 E Qp mc ms pc lv (.int x :: rest) h rc rs := fun ls H locs cells slots h1 h2 h3 h4 h5 => lv_istore_n C.1 C.2.1 hd hi h1 hn hl (fun ls' h1' => k ls' H locs cells slots h1' h2 h3 h4 h5)
theorem g_istore (C : Cx p R s m args meth c cc own nL ret D z0 E mc ms) {i : Nat} {x : Int32} (hd : decode cc pc = .ok (.istore i, 2)) (hn : i < nL) (hl : (i, Value.int x) :: lv.filter (fun q => !(q.1 == i) && !(q.1 + 1 == i && q.2.category == 2)) = lv') (k : G p l e R s m args below meth c nL D z0 E Qp mc ms (pc + 2) lv' rest h rc rs) : G p l e R s m args below meth c nL D z0 E Qp mc ms pc lv (.int x :: rest) h rc rs := fun ls H locs cells slots h1 h2 h3 h4 h5 => lv_istore C.1 C.2.1 hd h1 hn hl (fun ls' h1' => k ls' H locs cells slots h1' h2 h3 h4 h5)
theorem g_lstore_n (C : Cx p R s m args meth c cc own nL ret D z0 E mc ms) {i : Nat} {x : Int64} {j : Fin 4} (hd : decode cc pc = .ok (.lstore_n j, 1)) (hi : (j : Nat) = i) (hn : i + 1 < nL) (hl : (i, Value.long x) :: lv.filter (fun q => !(q.1 == i) && (!(q.1 == i + 1) && !(q.1 + 1 == i && q.2.category == 2))) = lv') (k : G p l e R s m args below meth c nL D z0 E Qp mc ms (pc + 1) lv' rest h rc rs) : G p l e R s m args below meth c nL D z0 E Qp mc ms pc lv (.long x :: rest) h rc rs := fun ls H locs cells slots h1 h2 h3 h4 h5 => lv_lstore_n C.1 C.2.1 hd hi h1 hn hl (fun ls' h1' => k ls' H locs cells slots h1' h2 h3 h4 h5)
theorem g_lstore (C : Cx p R s m args meth c cc own nL ret D z0 E mc ms) {i : Nat} {x : Int64} (hd : decode cc pc = .ok (.lstore i, 2)) (hn : i + 1 < nL) (hl : (i, Value.long x) :: lv.filter (fun q => !(q.1 == i) && (!(q.1 == i + 1) && !(q.1 + 1 == i && q.2.category == 2))) = lv') (k : G p l e R s m args below meth c nL D z0 E Qp mc ms (pc + 2) lv' rest h rc rs) : G p l e R s m args below meth c nL D z0 E Qp mc ms pc lv (.long x :: rest) h rc rs := fun ls H locs cells slots h1 h2 h3 h4 h5 => lv_lstore C.1 C.2.1 hd h1 hn hl (fun ls' h1' => k ls' H locs cells slots h1' h2 h3 h4 h5)
theorem g_astore_n (C : Cx p R s m args meth c cc own nL ret D z0 E mc ms) {i : Nat} {x : Nat} {j : Fin 4} (hd : decode cc pc = .ok (.astore_n j, 1)) (hi : (j : Nat) = i) (hn : i < nL) (hl : (i, Value.ref x) :: lv.filter (fun q => !(q.1 == i) && !(q.1 + 1 == i && q.2.category == 2)) = lv') (k : G p l e R s m args below meth c nL D z0 E Qp mc ms (pc + 1) lv' rest h rc rs) : G p l e R s m args below meth c nL D z0 E Qp mc ms pc lv (.ref x :: rest) h rc rs := fun ls H locs cells slots h1 h2 h3 h4 h5 => lv_astore_n C.1 C.2.1 hd hi h1 hn hl (fun ls' h1' => k ls' H locs cells slots h1' h2 h3 h4 h5)
theorem g_astore (C : Cx p R s m args meth c cc own nL ret D z0 E mc ms) {i : Nat} {x : Nat} (hd : decode cc pc = .ok (.astore i, 2)) (hn : i < nL) (hl : (i, Value.ref x) :: lv.filter (fun q => !(q.1 == i) && !(q.1 + 1 == i && q.2.category == 2)) = lv') (k : G p l e R s m args below meth c nL D z0 E Qp mc ms (pc + 2) lv' rest h rc rs) : G p l e R s m args below meth c nL D z0 E Qp mc ms pc lv (.ref x :: rest) h rc rs := fun ls H locs cells slots h1 h2 h3 h4 h5 => lv_astore C.1 C.2.1 hd h1 hn hl (fun ls' h1' => k ls' H locs cells slots h1' h2 h3 h4 h5)
theorem g_iinc (C : Cx p R s m args meth c cc own nL ret D z0 E mc ms) {i : Nat} {x v : Int32} {n : Int} (q : Nat) (hd : decode cc pc = .ok (.iinc i n, 3)) (hk : lv[q]? = some (i, .int x)) (hv : x + Int32.ofInt n = v) (hn : i < nL) (hl : (i, Value.int v) :: lv.filter (fun q => !(q.1 == i) && !(q.1 + 1 == i && q.2.category == 2)) = lv') (k : G p l e R s m args below meth c nL D z0 E Qp mc ms (pc + 3) lv' rest h rc rs) : G p l e R s m args below meth c nL D z0 E Qp mc ms pc lv rest h rc rs := fun ls H locs cells slots h1 h2 h3 h4 h5 => lv_iinc C.1 C.2.1 hd h1 hk hv hn hl (fun ls' h1' => k ls' H locs cells slots h1' h2 h3 h4 h5)
theorem g_icmp_eq (C : Cx p R s m args meth c cc own nL ret D z0 E mc ms) {x y : Int32} {off : Int} {tgt : Nat} (hd : decode cc pc = .ok (.if_icmp .eq off, 3)) (ht : (pc : Int) + off = (tgt : Int)) (kt : x = y → G p l e R s m args below meth c nL D z0 E Qp mc ms tgt lv rest h rc rs) (kf : ¬ x = y → G p l e R s m args below meth c nL D z0 E Qp mc ms (pc + 3) lv rest h rc rs) : G p l e R s m args below meth c nL D z0 E Qp mc ms pc lv (.int y :: .int x :: rest) h rc rs := fun ls H locs cells slots h1 h2 h3 h4 h5 => lv_icmp_eq C.1 C.2.1 hd ht (fun z => kt z ls H locs cells slots h1 h2 h3 h4 h5) (fun z => kf z ls H locs cells slots h1 h2 h3 h4 h5)
theorem g_if_eq (C : Cx p R s m args meth c cc own nL ret D z0 E mc ms) {x : Int32} {off : Int} {tgt : Nat} (hd : decode cc pc = .ok (.ifCond .eq off, 3)) (ht : (pc : Int) + off = (tgt : Int)) (kt : x = 0 → G p l e R s m args below meth c nL D z0 E Qp mc ms tgt lv rest h rc rs) (kf : ¬ x = 0 → G p l e R s m args below meth c nL D z0 E Qp mc ms (pc + 3) lv rest h rc rs) : G p l e R s m args below meth c nL D z0 E Qp mc ms pc lv (.int x :: rest) h rc rs := fun ls H locs cells slots h1 h2 h3 h4 h5 => lv_if_eq C.1 C.2.1 hd ht (fun z => kt z ls H locs cells slots h1 h2 h3 h4 h5) (fun z => kf z ls H locs cells slots h1 h2 h3 h4 h5)
theorem g_icmp_ne (C : Cx p R s m args meth c cc own nL ret D z0 E mc ms) {x y : Int32} {off : Int} {tgt : Nat} (hd : decode cc pc = .ok (.if_icmp .ne off, 3)) (ht : (pc : Int) + off = (tgt : Int)) (kt : ¬ x = y → G p l e R s m args below meth c nL D z0 E Qp mc ms tgt lv rest h rc rs) (kf : x = y → G p l e R s m args below meth c nL D z0 E Qp mc ms (pc + 3) lv rest h rc rs) : G p l e R s m args below meth c nL D z0 E Qp mc ms pc lv (.int y :: .int x :: rest) h rc rs := fun ls H locs cells slots h1 h2 h3 h4 h5 => lv_icmp_ne C.1 C.2.1 hd ht (fun z => kt z ls H locs cells slots h1 h2 h3 h4 h5) (fun z => kf z ls H locs cells slots h1 h2 h3 h4 h5)
theorem g_if_ne (C : Cx p R s m args meth c cc own nL ret D z0 E mc ms) {x : Int32} {off : Int} {tgt : Nat} (hd : decode cc pc = .ok (.ifCond .ne off, 3)) (ht : (pc : Int) + off = (tgt : Int)) (kt : ¬ x = 0 → G p l e R s m args below meth c nL D z0 E Qp mc ms tgt lv rest h rc rs) (kf : x = 0 → G p l e R s m args below meth c nL D z0 E Qp mc ms (pc + 3) lv rest h rc rs) : G p l e R s m args below meth c nL D z0 E Qp mc ms pc lv (.int x :: rest) h rc rs := fun ls H locs cells slots h1 h2 h3 h4 h5 => lv_if_ne C.1 C.2.1 hd ht (fun z => kt z ls H locs cells slots h1 h2 h3 h4 h5) (fun z => kf z ls H locs cells slots h1 h2 h3 h4 h5)
theorem g_icmp_lt (C : Cx p R s m args meth c cc own nL ret D z0 E mc ms) {x y : Int32} {off : Int} {tgt : Nat} (hd : decode cc pc = .ok (.if_icmp .lt off, 3)) (ht : (pc : Int) + off = (tgt : Int)) (kt : x < y → G p l e R s m args below meth c nL D z0 E Qp mc ms tgt lv rest h rc rs) (kf : ¬ x < y → G p l e R s m args below meth c nL D z0 E Qp mc ms (pc + 3) lv rest h rc rs) : G p l e R s m args below meth c nL D z0 E Qp mc ms pc lv (.int y :: .int x :: rest) h rc rs := fun ls H locs cells slots h1 h2 h3 h4 h5 => lv_icmp_lt C.1 C.2.1 hd ht (fun z => kt z ls H locs cells slots h1 h2 h3 h4 h5) (fun z => kf z ls H locs cells slots h1 h2 h3 h4 h5)
theorem g_if_lt (C : Cx p R s m args meth c cc own nL ret D z0 E mc ms) {x : Int32} {off : Int} {tgt : Nat} (hd : decode cc pc = .ok (.ifCond .lt off, 3)) (ht : (pc : Int) + off = (tgt : Int)) (kt : x < 0 → G p l e R s m args below meth c nL D z0 E Qp mc ms tgt lv rest h rc rs) (kf : ¬ x < 0 → G p l e R s m args below meth c nL D z0 E Qp mc ms (pc + 3) lv rest h rc rs) : G p l e R s m args below meth c nL D z0 E Qp mc ms pc lv (.int x :: rest) h rc rs := fun ls H locs cells slots h1 h2 h3 h4 h5 => lv_if_lt C.1 C.2.1 hd ht (fun z => kt z ls H locs cells slots h1 h2 h3 h4 h5) (fun z => kf z ls H locs cells slots h1 h2 h3 h4 h5)
theorem g_icmp_ge (C : Cx p R s m args meth c cc own nL ret D z0 E mc ms) {x y : Int32} {off : Int} {tgt : Nat} (hd : decode cc pc = .ok (.if_icmp .ge off, 3)) (ht : (pc : Int) + off = (tgt : Int)) (kt : y ≤ x → G p l e R s m args below meth c nL D z0 E Qp mc ms tgt lv rest h rc rs) (kf : ¬ y ≤ x → G p l e R s m args below meth c nL D z0 E Qp mc ms (pc + 3) lv rest h rc rs) : G p l e R s m args below meth c nL D z0 E Qp mc ms pc lv (.int y :: .int x :: rest) h rc rs := fun ls H locs cells slots h1 h2 h3 h4 h5 => lv_icmp_ge C.1 C.2.1 hd ht (fun z => kt z ls H locs cells slots h1 h2 h3 h4 h5) (fun z => kf z ls H locs cells slots h1 h2 h3 h4 h5)
theorem g_if_ge (C : Cx p R s m args meth c cc own nL ret D z0 E mc ms) {x : Int32} {off : Int} {tgt : Nat} (hd : decode cc pc = .ok (.ifCond .ge off, 3)) (ht : (pc : Int) + off = (tgt : Int)) (kt : 0 ≤ x → G p l e R s m args below meth c nL D z0 E Qp mc ms tgt lv rest h rc rs) (kf : ¬ 0 ≤ x → G p l e R s m args below meth c nL D z0 E Qp mc ms (pc + 3) lv rest h rc rs) : G p l e R s m args below meth c nL D z0 E Qp mc ms pc lv (.int x :: rest) h rc rs := fun ls H locs cells slots h1 h2 h3 h4 h5 => lv_if_ge C.1 C.2.1 hd ht (fun z => kt z ls H locs cells slots h1 h2 h3 h4 h5) (fun z => kf z ls H locs cells slots h1 h2 h3 h4 h5)
theorem g_icmp_gt (C : Cx p R s m args meth c cc own nL ret D z0 E mc ms) {x y : Int32} {off : Int} {tgt : Nat} (hd : decode cc pc = .ok (.if_icmp .gt off, 3)) (ht : (pc : Int) + off = (tgt : Int)) (kt : y < x → G p l e R s m args below meth c nL D z0 E Qp mc ms tgt lv rest h rc rs) (kf : ¬ y < x → G p l e R s m args below meth c nL D z0 E Qp mc ms (pc + 3) lv rest h rc rs) : G p l e R s m args below meth c nL D z0 E Qp mc ms pc lv (.int y :: .int x :: rest) h rc rs := fun ls H locs cells slots h1 h2 h3 h4 h5 => lv_icmp_gt C.1 C.2.1 hd ht (fun z => kt z ls H locs cells slots h1 h2 h3 h4 h5) (fun z => kf z ls H locs cells slots h1 h2 h3 h4 h5)
theorem g_if_gt (C : Cx p R s m args meth c cc own nL ret D z0 E mc ms) {x : Int32} {off : Int} {tgt : Nat} (hd : decode cc pc = .ok (.ifCond .gt off, 3)) (ht : (pc : Int) + off = (tgt : Int)) (kt : 0 < x → G p l e R s m args below meth c nL D z0 E Qp mc ms tgt lv rest h rc rs) (kf : ¬ 0 < x → G p l e R s m args below meth c nL D z0 E Qp mc ms (pc + 3) lv rest h rc rs) : G p l e R s m args below meth c nL D z0 E Qp mc ms pc lv (.int x :: rest) h rc rs := fun ls H locs cells slots h1 h2 h3 h4 h5 => lv_if_gt C.1 C.2.1 hd ht (fun z => kt z ls H locs cells slots h1 h2 h3 h4 h5) (fun z => kf z ls H locs cells slots h1 h2 h3 h4 h5)
theorem g_icmp_le (C : Cx p R s m args meth c cc own nL ret D z0 E mc ms) {x y : Int32} {off : Int} {tgt : Nat} (hd : decode cc pc = .ok (.if_icmp .le off, 3)) (ht : (pc : Int) + off = (tgt : Int)) (kt : x ≤ y → G p l e R s m args below meth c nL D z0 E Qp mc ms tgt lv rest h rc rs) (kf : ¬ x ≤ y → G p l e R s m args below meth c nL D z0 E Qp mc ms (pc + 3) lv rest h rc rs) : G p l e R s m args below meth c nL D z0 E Qp mc ms pc lv (.int y :: .int x :: rest) h rc rs := fun ls H locs cells slots h1 h2 h3 h4 h5 => lv_icmp_le C.1 C.2.1 hd ht (fun z => kt z ls H locs cells slots h1 h2 h3 h4 h5) (fun z => kf z ls H locs cells slots h1 h2 h3 h4 h5)
theorem g_if_le (C : Cx p R s m args meth c cc own nL ret D z0 E mc ms) {x : Int32} {off : Int} {tgt : Nat} (hd : decode cc pc = .ok (.ifCond .le off, 3)) (ht : (pc : Int) + off = (tgt : Int)) (kt : x ≤ 0 → G p l e R s m args below meth c nL D z0 E Qp mc ms tgt lv rest h rc rs) (kf : ¬ x ≤ 0 → G p l e R s m args below meth c nL D z0 E Qp mc ms (pc + 3) lv rest h rc rs) : G p l e R s m args below meth c nL D z0 E Qp mc ms pc lv (.int x :: rest) h rc rs := fun ls H locs cells slots h1 h2 h3 h4 h5 => lv_if_le C.1 C.2.1 hd ht (fun z => kt z ls H locs cells slots h1 h2 h3 h4 h5) (fun z => kf z ls H locs cells slots h1 h2 h3 h4 h5)
theorem g_goto (C : Cx p R s m args meth c cc own nL ret D z0 E mc ms) {off : Int} {tgt : Nat} (hd : decode cc pc = .ok (.goto off, 3)) (ht : (pc : Int) + off = (tgt : Int)) (k : G p l e R s m args below meth c nL D z0 E Qp mc ms tgt lv st h rc rs) : G p l e R s m args below meth c nL D z0 E Qp mc ms pc lv st h rc rs := fun ls H locs cells slots h1 h2 h3 h4 h5 => lv_goto C.1 C.2.1 hd ht (k ls H locs cells slots h1 h2 h3 h4 h5)
theorem g_topi {x : Int32} (k : ∀ y : Int32, y = x → G p l e R s m args below meth c nL D z0 E Qp mc ms pc lv (.int y :: rest) h rc rs) : G p l e R s m args below meth c nL D z0 E Qp mc ms pc lv (.int x :: rest) h rc rs := k x rfl
theorem g_topl {x : Int64} (k : ∀ y : Int64, y = x → G p l e R s m args below meth c nL D z0 E Qp mc ms pc lv (.long y :: rest) h rc rs) : G p l e R s m args below meth c nL D z0 E Qp mc ms pc lv (.long x :: rest) h rc rs := k x rfl
theorem g_loc (ks : List Nat) (hl : lv_pick lv ks = lv') (k : G p l e R s m args below meth c nL D z0 E Qp mc ms pc lv' st h rc rs) : G p l e R s m args below meth c nL D z0 E Qp mc ms pc lv st h rc rs := fun ls H locs cells slots h1 h2 h3 h4 h5 => k ls H locs cells slots (lv_sub h1 ks hl) h2 h3 h4 h5
theorem g_ldc2 (C : Cx p R s m args meth c cc own nL ret D z0 E mc ms) {i : Nat} {v : Int64} (hd : decode cc pc = .ok (.ldc2_w i, 3)) (hw : Cond.constantLong own i v ∈ lw_g) (k : G p l e R s m args below meth c nL D z0 E Qp mc ms (pc + 3) lv (.long v :: rest) h rc rs) : G p l e R s m args below meth c nL D z0 E Qp mc ms pc lv rest h rc rs := fun ls H locs cells slots h1 h2 h3 h4 h5 => lv_ldc2 C.1 C.2.1 C.2.2.2.1 (C.2.2.2.2.1 _ hw) hd (k ls H locs cells slots h1 h2 h3 h4 h5)
theorem g_iret (C : Cx p R s m args meth c cc own nL ret D z0 E mc ms) {v : Int32} {ty : FieldType} (hd : decode cc pc = .ok (.ireturn, 1)) (hr : ret = some ty) (hn : narrow ty (.int v) = .int v) (hq : Qp (.returned (some (.int v))) h) : G p l e R s m args below meth c nL D z0 E Qp mc ms pc lv [.int v] h rc rs := by
  intro ls H locs cells slots h1 h2 h3 h4 h5
  refine W.widen (k := mc) (n := ms) (by omega) (by omega) ?_
  refine xt_mono xt_ofMQ (W.zret C.1 C.2.1 (C.2.2.2.2.2.2.2.2.2.2.1.trans hr) hn (fun t ht hW => ?_) h3.2.2 hd C.2.2.2.2.2.2.1)
  obtain ⟨w1, w2⟩ := C.world h2 h3 t ht hW
  exact ⟨h, hq, w1, w2⟩
theorem g_lret (C : Cx p R s m args meth c cc own nL ret D z0 E mc ms) {v : Int64} (hd : decode cc pc = .ok (.lreturn, 1)) (hr : ret = some .long) (hq : Qp (.returned (some (.long v))) h) : G p l e R s m args below meth c nL D z0 E Qp mc ms pc lv [.long v] h rc rs := by
  intro ls H locs cells slots h1 h2 h3 h4 h5
  refine W.widen (k := mc) (n := ms) (by omega) (by omega) ?_
  refine xt_mono xt_ofMQ (W.lret C.1 C.2.1 (C.2.2.2.2.2.2.2.2.2.2.1.trans hr) (fun t ht hW => ?_) h3.2.2 hd C.2.2.2.2.2.2.1)
  obtain ⟨w1, w2⟩ := C.world h2 h3 t ht hW
  exact ⟨h, hq, w1, w2⟩
theorem g_vret (C : Cx p R s m args meth c cc own nL ret D z0 E mc ms) (hd : decode cc pc = .ok (.return_, 1)) (hr : ret = none) (hq : Qp (.returned none) h) : G p l e R s m args below meth c nL D z0 E Qp mc ms pc lv [] h rc rs := by
  intro ls H locs cells slots h1 h2 h3 h4 h5
  refine W.widen (k := mc) (n := ms) (by omega) (by omega) ?_
  refine xt_mono xt_ofMQ (W.vret C.1 C.2.1 (C.2.2.2.2.2.2.2.2.2.2.1.trans hr) (fun t ht hW => ?_) h3.2.2 hd C.2.2.2.2.2.2.1)
  obtain ⟨w1, w2⟩ := C.world h2 h3 t ht hW
  exact ⟨h, hq, w1, w2⟩
theorem g_aret (C : Cx p R s m args meth c cc own nL ret D z0 E mc ms) {v : Value} {rt : FieldType} (hd : decode cc pc = .ok (.areturn, 1)) (hr : ret = some rt) (hrt : (∃ n, rt = .object n) ∨ ∃ t, rt = .array t) (hv : v = .null ∨ ∃ a, v = .ref a) (hq : Qp (.returned (some v)) h) : G p l e R s m args below meth c nL D z0 E Qp mc ms pc lv [v] h rc rs := by
  intro ls H locs cells slots h1 h2 h3 h4 h5
  refine W.widen (k := mc) (n := ms) (by omega) (by omega) ?_
  refine xt_mono xt_ofMQ (W.aret C.1 C.2.1 (C.2.2.2.2.2.2.2.2.2.2.1.trans hr) hrt hv (fun t ht hW => ?_) h3.2.2 hd C.2.2.2.2.2.2.1)
  obtain ⟨w1, w2⟩ := C.world h2 h3 t ht hW
  exact ⟨h, hq, w1, w2⟩
end GR
end
section
/-! Contracts over the pool; calls; fields and arrays of the pool. -/
def Ctr (l : Launch) (y : MethodName) (cc : ByteArray) (maxL : Nat) (ret : Option FieldType) (rm : Room) (D : va_G) (z0 : Nat) (E : State → Prop) (pre : List Value → hp → Prop) (post : List Value → hp → Outcome → hp → Prop) : Prop :=
  ∀ (as : List Value) (h : hp), pre as h → xt_Met l y (Cond.code y cc maxL ret :: lw_g) rm (fun a U => a = as.toArray ∧ World z0 D E h U) (QcO z0 D E (post as h)) rm.cells rm.slots (AA z0)
theorem ctr_of {l : Launch} {y : MethodName} {cc : ByteArray} {maxL : Nat} {ret : Option FieldType} {rm : Room} {D : va_G} {z0 : Nat} {E : State → Prop} {pre : List Value → hp → Prop} {post : List Value → hp → Outcome → hp → Prop} (hSt : Stb z0 E) (hy : plainName y.cls = true) (hsz : ∀ as h, pre as h → (lg_sl as).length ≤ maxL)
    (body : ∀ (as : List Value) (h : hp), pre as h → ∀ (p : Program) (e : Env) (s : State) (m : MethodId) (args : Array Value) (below : List Frame) (meth : Method) (c : Code), Cx p rm s m args meth c cc y.cls maxL ret D z0 E rm.cells rm.slots →
      G p l e rm s m args below meth c maxL D z0 E (post as h) rm.cells rm.slots 0 (lv_args 0 as) [] h rm.cells rm.slots) : Ctr l y cc maxL ret rm D z0 E pre post := by
  intro as h hpre
  refine xt_ofW (cc := cc) (maxL := maxL) (ret := ret) hy rfl ?_
  intro p e s m args below meth c s₁ B hml hv
  obtain ⟨rfl, hW⟩ := hv
  have hts := atoms_spec (ws := Cond.code y cc maxL ret :: lw_g) B.pre
  have hno := BodyLoose.noHandlers B (hts _ List.mem_cons_self)
  have hno2 : ∀ z ∈ c.exceptionTable.toList, False := by
    intro z hz
    have h0 : c.exceptionTable = #[] := Array.isEmpty_iff.mp hno
    rw [h0] at hz
    cases hz
  have cx : Cx p rm s m as.toArray meth c cc y.cls maxL ret D z0 E rm.cells rm.slots :=
    ⟨B.exec, B.bytes, hml, findClass_of_methodNamed B.named, fun w h => hts w (List.mem_cons_of_mem _ h), hW.2.1, B.notSynchronized, hW.2.2.1, hW.2.2.2, hSt, B.returns, hno2, rfl, rfl⟩
  rw [lg_entry_eq]
  exact body as h hpre p e s m as.toArray below meth c cx _ s.heap [] 0 0 (lv_entry as (hsz as h hpre)) hW.1 va_S.rf (by omega) (by omega)
theorem pl_at {h : hp} {a : Nat} (ha : a ∈ h.1) : ∃ k : Nat, (va_pl h.1 h.2)[k]? = some (a, h.2 a) := by
  obtain ⟨k, hk⟩ := va_pl_get (X := []) (f := h.2) ha
  exact ⟨k, hk⟩
theorem pl_set {A : Nat → Prop} {h : hp} {a k : Nat} {e : va_E} (hD : va_D A (va_pl h.1 h.2)) (ha : a ∈ h.1) (hk : (va_pl h.1 h.2)[k]? = some (a, h.2 a)) : (va_pl h.1 h.2).set k (a, e) = va_pl h.1 (va_up h.2 a e) := va_pl_set (X := []) hD ha hk
theorem goodV {own : String} {idx : Nat} {y : MethodName} {cc : ByteArray} {maxL : Nat} {ret : Option FieldType} (w1 : Cond.methodLink own idx y ∈ lw_g) (w2 : Cond.instanceMethod y ∈ lw_g) (w3 : Cond.selects y.cls y y ∈ lw_g) (w4 : Cond.initialized y.cls ∈ lw_g) (w5 : Cond.code y cc maxL ret ∈ lw_g) : GoodIn lw_g (wsV own idx y.cls y (Cond.code y cc maxL ret :: lw_g)) := by
  intro w hw
  have hm : w ∈ lw_g := by
    simp only [wsV, List.mem_append, List.mem_cons, List.not_mem_nil, or_false] at hw
    rcases hw with (rfl | rfl | rfl | rfl) | (rfl | hw)
    · exact w1
    · exact w2
    · exact w3
    · exact w4
    · exact w5
    · exact hw
  exact ⟨hm, lw_g_good w hm⟩
theorem goodC {y : MethodName} {cc : ByteArray} {maxL : Nat} {ret : Option FieldType} (w5 : Cond.code y cc maxL ret ∈ lw_g) : GoodIn lw_g (Cond.code y cc maxL ret :: lw_g) := by
  intro w hw
  have hm : w ∈ lw_g := by
    rcases List.mem_cons.mp hw with rfl | hw
    · exact w5
    · exact hw
  exact ⟨hm, lw_g_good w hm⟩
section XS
variable {p : Program} {l : Launch} {e : Env} {R : Room} {s : State} {m : MethodId} {args : Array Value} {below : List Frame} {meth : Method} {c : Code} {H : Heap} {locs : List Loc} {cells slots : Nat} {Q : State → Prop}
variable {y : MethodName} {bytes cc : ByteArray} {maxL nL mc ms n index : Nat} {ret : Option FieldType} {ws : List Cond} {rm : Room} {Pc : Array Value → State → Prop} {Qc : Array Value → State → Outcome → State → Prop} {free : Addr → Prop} {Ts : List Cond} {own C : String} {b : Addr} {As rest : List Value} {pc : Nat} {ls : Array Slot}
theorem xt_Xwiden {g : JFrame} {x : Addr} {k n : Nat} (h1 : cells ≤ k) (h2 : slots ≤ n) (kk : xt_X p l e R s m args below meth c H locs k n Q g x) : xt_X p l e R s m args below meth c H locs cells slots Q g x := fun T hT X => kk T hT (stand_widen X h1 h2)
theorem xt_callS (S : CallFix p m c cc nL s args Ts own) (hM : xt_Met l y ws rm Pc Qc mc ms free) (cw : CallB R s args own index y bytes maxL ret ws rm mc ms n ∧ (Cond.static y).before args s = true) (hp : PreS s H Pc As)
    (hn : As.length = n) (hsize : ls.size = nL) (hW : (rest.map fun v => v.category).sum ≤ 8) (hdg : decode cc pc = .ok (.invokestatic index, 3)) (hf : cells + mc ≤ R.cells ∧ slots + ms ≤ R.slots)
    (kr : ∀ (v : Option Value) (st t : State) (L : List Loc), st.heap = H → s.vm.Alike t.vm → (∀ q ∈ L, free q.base) → Qc As.toArray st (.returned v) t → W p l e R s m args below meth c t.heap (locs ++ L) (cells + mc) (slots + ms) Q (F0 m (pc + 3) ls (v.toList ++ rest)))
    (kx : ∀ (x : Addr) (st t : State) (L : List Loc), st.heap = H → s.vm.Alike t.vm → (∀ q ∈ L, free q.base) → Qc As.toArray st (.threw x) t → xt_X p l e R s m args below meth c t.heap (locs ++ L) (cells + mc) (slots + ms) Q (F0 m pc ls rest) x) :
    W p l e R s m args below meth c H locs cells slots Q (F0 m pc ls (As.reverse ++ rest)) := by
  obtain ⟨⟨hrc, hrs, hfr, hlo, hws, hcw, hcode, hini, hy, hlen, hl⟩, hst0⟩ := cw
  obtain ⟨hx, hb, hml, ho, -⟩ := S
  obtain ⟨hbl, hPc⟩ := hp
  intro T hT X
  obtain ⟨mk, hnamed⟩ := Cond.code_named hcode
  obtain ⟨methM, cM, hmethM, -, -, -, -, -, -, hsigM⟩ := Cond.code_spec hnamed hcode
  have hstatic : methM.isStatic = true := Cond.static_spec hnamed hmethM hst0
  obtain ⟨kP, hkP, -⟩ := className_of_methodNamed hnamed
  have hinitP : kP.init = .initialized := Cond.initialized_spec (findClass_of_methodNamed hnamed) hkP hini
  obtain ⟨vm₁, X₁, hstep₁⟩ := X.invokestatic hx ho hl hnamed hmethM hstatic hkP hinitP hy (g := F0 m pc ls (As.reverse ++ rest)) rfl (argsL := As) (rest := rest) (hn.trans (hlen _ hsigM)) rfl (by rw [hb]; exact hdg)
  obtain ⟨o, t, T', L, X', e1, e2, hL, hq, hst, hr, hth⟩ := xt_back X₁ (g := F0 m pc ls rest) rfl (hsize.trans hml.symm) (by rw [hb]; exact hdg) hM (X₁.named hnamed) (fun w hw => hws w hw _ _ X₁.warmed) (hws _ hcw _ _ X₁.warmed)
    (word_at X₁.warmed (Or.inl (by first | rfl | simp [Cond.onTables, Cond.keeps, Cond.steady])) hini) hrc hrs hfr (by show 2 * 0 + (rest.map fun v => v.category).sum + (maxL + 11) + rm.locals ≤ R.locals; omega) hf.1 hf.2 (hbl _ _ _ _ (hPc (T.setVm vm₁) hT X₁.warmed))
  have hal : s.vm.Alike t.vm := by rw [← e2]; exact X'.warmed.alike
  cases o with
  | returned v =>
    obtain ⟨t2, a1, b1⟩ := kr v _ t L (by show T.heap = H; exact hT) hal hL hq T' e1 X'
    have h1 := hr v rfl
    exact ⟨t2, hstep₁ _ (fun acts => by rw [doInvoke_state]; exact hst.trans (by rw [h1]; exact a1)), b1⟩
  | threw x =>
    obtain ⟨t2, a1, b1⟩ := kx x _ t L (by show T.heap = H; exact hT) hal hL hq T' e1 X'
    have h1 := hth x rfl
    exact ⟨t2, hstep₁ _ (fun acts => by rw [doInvoke_state]; exact hst.trans (by rw [h1]; exact a1)), b1⟩
theorem xt_callI (S : CallFix p m c cc nL s args Ts own) (hM : xt_Met l y ws rm Pc Qc mc ms free) (cw : CallB R s args own index y bytes maxL none ws rm mc ms n ∧ y.name = "<init>" ∧ (Cond.instanceMethod y).before args s = true) (hp : PreS s H Pc (.ref b :: As))
    (hn : As.length = n) (hsize : ls.size = nL) (hW : (rest.map fun v => v.category).sum ≤ 8) (hdg : decode cc pc = .ok (.invokespecial index, 3)) (hf : cells + mc ≤ R.cells ∧ slots + ms ≤ R.slots)
    (kr : ∀ (v : Option Value) (st t : State) (L : List Loc), st.heap = H → s.vm.Alike t.vm → (∀ q ∈ L, free q.base) → Qc (Value.ref b :: As).toArray st (.returned v) t → W p l e R s m args below meth c t.heap (locs ++ L) (cells + mc) (slots + ms) Q (F0 m (pc + 3) ls (v.toList ++ rest)))
    (kx : ∀ (x : Addr) (st t : State) (L : List Loc), st.heap = H → s.vm.Alike t.vm → (∀ q ∈ L, free q.base) → Qc (Value.ref b :: As).toArray st (.threw x) t → xt_X p l e R s m args below meth c t.heap (locs ++ L) (cells + mc) (slots + ms) Q (F0 m pc ls rest) x) :
    W p l e R s m args below meth c H locs cells slots Q (F0 m pc ls (As.reverse ++ .ref b :: rest)) := by
  obtain ⟨⟨hrc, hrs, hfr, hlo, hws, hcw, hcode, hini, hy, hlen, hl⟩, hy1, hin⟩ := cw
  obtain ⟨hx, hb, hml, ho, -⟩ := S
  obtain ⟨hbl, hPc⟩ := hp
  intro T hT X
  have hpl : e.platform.magicAccessors = ({} : Platform).magicAccessors := by rw [X.admits.platform]
  obtain ⟨mk, methM, cM, kP, vm₁, hnamed, hmethM, hcodeM, -, hlocalsM, -, hkP, -, hW₁, hstep₁⟩ := Steps.initColdArgs (e := e) X.here hx X.warmed hpl ho hy1 hy hl hin hcode (f := F0 m pc ls (As.reverse ++ .ref b :: rest)) rfl (argsL := As) (rest := rest) (fun sig h => hn.trans (hlen sig h)) rfl (by rw [hb]; exact hdg)
  have X₁ := X.noted hW₁
  obtain ⟨o, t, T', L, X', e1, e2, hL, hq, hst, hr, hth⟩ := xt_back X₁ (g := F0 m pc ls rest) rfl (hsize.trans hml.symm) (by rw [hb]; exact hdg) hM (X₁.named hnamed) (fun w hw => hws w hw _ _ X₁.warmed) (hws _ hcw _ _ X₁.warmed)
    (word_at X₁.warmed (Or.inl (by first | rfl | simp [Cond.onTables, Cond.keeps, Cond.steady])) hini) hrc hrs hfr (by show 2 * 0 + (rest.map fun v => v.category).sum + (maxL + 11) + rm.locals ≤ R.locals; omega) hf.1 hf.2 (hbl _ _ _ _ (hPc (T.setVm vm₁) hT X₁.warmed))
  have hal : s.vm.Alike t.vm := by rw [← e2]; exact X'.warmed.alike
  cases o with
  | returned v =>
    obtain ⟨t2, a1, b1⟩ := kr v _ t L (by show T.heap = H; exact hT) hal hL hq T' e1 X'
    have h1 := hr v rfl
    exact ⟨t2, hstep₁ _ (fun acts => by rw [doInvoke_state]; exact hst.trans (by rw [h1]; exact a1)), b1⟩
  | threw x =>
    obtain ⟨t2, a1, b1⟩ := kx x _ t L (by show T.heap = H; exact hT) hal hL hq T' e1 X'
    have h1 := hth x rfl
    exact ⟨t2, hstep₁ _ (fun acts => by rw [doInvoke_state]; exact hst.trans (by rw [h1]; exact a1)), b1⟩
end XS
section GC
variable {p : Program} {l : Launch} {e : Env} {R : Room} {s : State} {m : MethodId} {args : Array Value} {below : List Frame} {meth : Method} {c : Code} {cc : ByteArray} {own : String} {nL : Nat} {ret : Option FieldType} {D : va_G} {z0 : Nat} {E : State → Prop} {Qp : Outcome → hp → Prop} {mc ms pc : Nat} {lv lv' : List (Nat × Value)} {st rest : List Value} {h : hp} {rc rs : Nat}
theorem World.blind {U : State} {g : JFrame} {mk : MethodId} {a : Array Value} (hSt : Stb z0 E) (hW : World z0 D E h U) : World z0 D E h (U.calling g mk a) :=
  ⟨hW.1, va_K.moved (u := U) (U := U.calling g mk a) (Vm.Alike.refl U.vm) hW.2.1, hW.2.2.1, hSt U (U.calling g mk a) (State.WarmedH.refl U) (Nat.le_refl _) (fun _ _ => rfl) hW.2.2.2⟩
theorem va_S.call {H : Heap} {locs L : List Loc} {st t : State} (hz : z0 ≤ s.heap.size) (h3 : va_S (AA z0) s.heap H locs) (hst : st.heap = H) (hL : ∀ q ∈ L, AA z0 q.base) (hF : Fr z0 st t) : va_S (AA z0) s.heap t.heap (locs ++ L) := by
  obtain ⟨f1, f2⟩ := hF
  rw [hst] at f1 f2
  refine ⟨Nat.le_trans h3.1 f1, fun q hq hA => ?_, fun q hq => ?_⟩
  · rw [f2 q (Nat.not_le.mp hA)]
    exact h3.2.1 q hq hA
  · rcases List.mem_append.mp hq with h | h
    · exact h3.2.2 q h
    · exact hL q h
theorem g_callV (C : Cx p R s m args meth c cc own nL ret D z0 E mc ms) {idx n maxL' : Nat} {y : MethodName} {cc' : ByteArray} {ret' : Option FieldType} {rm' : Room} {pre : List Value → hp → Prop} {post : List Value → hp → Outcome → hp → Prop} {As : List Value} {a : Nat} (hc : Ctr l y cc' maxL' ret' rm' D z0 E pre post) (hd : decode cc pc = .ok (.invokevirtual idx, 3)) (w1 : Cond.methodLink own idx y ∈ lw_g) (w2 : Cond.instanceMethod y ∈ lw_g) (w3 : Cond.selects y.cls y y ∈ lw_g) (w4 : Cond.initialized y.cls ∈ lw_g) (w5 : Cond.code y cc' maxL' ret' ∈ lw_g) (hy : y.cls ≠ "java/lang/invoke/MethodHandle" ∧ y.cls ≠ "java/lang/invoke/VarHandle" ∧ (parseMethodDescriptor y.desc).map (fun d => d.parameters.length) = some n) (hn : As.length = n) {ci N : Nat} {T : u_T} {fs : List Value} (hci : CL[ci]? = some (y.cls, T, N)) (ha : a ∈ h.1) (hF : h.2 a = .inr (ci, fs)) (hpre : pre (.ref a :: As) h) (hR : rm'.frames + 1 ≤ R.frames ∧ 8 + (maxL' + 11) + rm'.locals ≤ R.locals) (hW : (rest.map fun v => v.category).sum ≤ 8) (hcost : rm'.cells ≤ rc ∧ rm'.slots ≤ rs)
    (kr : ∀ (v : Option Value) (h' : hp), post (.ref a :: As) h (.returned v) h' → G p l e R s m args below meth c nL D z0 E Qp mc ms (pc + 3) lv (v.toList ++ rest) h' (rc - rm'.cells) (rs - rm'.slots)) (kx : ∀ (x : Addr) (h' : hp), post (.ref a :: As) h (.threw x) h' → Qp (.threw x) h') : G p l e R s m args below meth c nL D z0 E Qp mc ms pc lv (As.reverse ++ .ref a :: rest) h rc rs := by
  intro ls H locs cells slots h1 h2 h3 h4 h5
  have hb9 : FrameBlind (fun a9 U => a9 = (.ref a :: As).toArray ∧ World z0 D E h U) := fun a9 U g mk q => ⟨q.1, World.blind C.2.2.2.2.2.2.2.2.2.1 q.2⟩
  have hw9 : ∀ U : State, U.heap = H → s.WarmedH U.vm → World z0 D E h U := fun U hU hWm => (C.world h2 h3 U hU hWm).1
  obtain ⟨q0, hq0⟩ := pl_at ha
  rw [hF] at hq0
  have hr9 := va_recv C.2.2.2.2.2.1 h2.1 hci hq0
  refine xt_callV (As := As) (rest := rest) ⟨C.1, C.2.1, C.2.2.1, C.2.2.2.1, C.2.2.2.2.1⟩ (hc (.ref a :: As) h hpre) (cwV (C := y.cls) n C.2.2.2.2.1 (goodV w1 w2 w3 w4 w5) rfl rfl rfl ⟨rfl, hy⟩ hR) ⟨hb9, hr9, fun U hU hWm => ⟨rfl, hw9 U hU hWm⟩⟩ hn h1.1 hW hd ⟨by have := C.2.2.2.2.2.2.2.2.2.2.2.2.1; omega, by have := C.2.2.2.2.2.2.2.2.2.2.2.2.2; omega⟩ ?_ ?_
  · intro v st t L hst hal hL hq
    obtain ⟨h', hp', ⟨w1', -, -, -⟩, hF'⟩ := hq
    exact kr v h' hp' ls t.heap (locs ++ L) _ _ h1 w1' (va_S.call C.2.2.2.2.2.2.2.1 h3 hst hL hF') (by omega) (by omega)
  · intro x st t L hst hal hL hq
    obtain ⟨h', hp', ⟨w1', -, -, -⟩, hF'⟩ := hq
    have hS' := va_S.call C.2.2.2.2.2.2.2.1 h3 hst hL hF'
    refine xt_Xwiden (k := mc) (n := ms) (by omega) (by omega) ?_
    refine xt_out rfl rfl rfl (fun z hz => absurd (C.2.2.2.2.2.2.2.2.2.2.2.1 z hz) id) C.2.2.2.2.2.2.1 (fun t' ht' hW' => ?_) hS'.2.2
    obtain ⟨u1, u2⟩ := C.world w1' hS' t' ht' hW'
    exact ⟨h', kx x h' hp', u1, u2⟩
theorem g_callS (C : Cx p R s m args meth c cc own nL ret D z0 E mc ms) {idx n maxL' : Nat} {y : MethodName} {cc' : ByteArray} {ret' : Option FieldType} {rm' : Room} {pre : List Value → hp → Prop} {post : List Value → hp → Outcome → hp → Prop} {As : List Value} (hc : Ctr l y cc' maxL' ret' rm' D z0 E pre post) (hd : decode cc pc = .ok (.invokestatic idx, 3)) (w1 : Cond.methodLink own idx y ∈ lw_g) (w2 : Cond.static y ∈ lw_g) (w4 : Cond.initialized y.cls ∈ lw_g) (w5 : Cond.code y cc' maxL' ret' ∈ lw_g) (hy : y.cls ≠ "java/lang/invoke/MethodHandle" ∧ y.cls ≠ "java/lang/invoke/VarHandle" ∧ (parseMethodDescriptor y.desc).map (fun d => d.parameters.length) = some n) (hn : As.length = n) (hpre : pre As h) (hR : rm'.frames + 1 ≤ R.frames ∧ 8 + (maxL' + 11) + rm'.locals ≤ R.locals) (hW : (rest.map fun v => v.category).sum ≤ 8) (hcost : rm'.cells ≤ rc ∧ rm'.slots ≤ rs)
    (kr : ∀ (v : Option Value) (h' : hp), post As h (.returned v) h' → G p l e R s m args below meth c nL D z0 E Qp mc ms (pc + 3) lv (v.toList ++ rest) h' (rc - rm'.cells) (rs - rm'.slots)) (kx : ∀ (x : Addr) (h' : hp), post As h (.threw x) h' → Qp (.threw x) h') : G p l e R s m args below meth c nL D z0 E Qp mc ms pc lv (As.reverse ++ rest) h rc rs := by
  intro ls H locs cells slots h1 h2 h3 h4 h5
  have hb9 : FrameBlind (fun a9 U => a9 = As.toArray ∧ World z0 D E h U) := fun a9 U g mk q => ⟨q.1, World.blind C.2.2.2.2.2.2.2.2.2.1 q.2⟩
  have hw9 : ∀ U : State, U.heap = H → s.WarmedH U.vm → World z0 D E h U := fun U hU hWm => (C.world h2 h3 U hU hWm).1
  refine xt_callS (As := As) (rest := rest) ⟨C.1, C.2.1, C.2.2.1, C.2.2.2.1, C.2.2.2.2.1⟩ (hc As h hpre) ⟨callB_of n C.2.2.2.2.1 (goodC w5) rfl rfl rfl (C.2.2.2.2.1 _ w4) (C.2.2.2.2.1 _ w1) hy hR, C.2.2.2.2.1 _ w2⟩ ⟨hb9, fun U hU hWm => ⟨rfl, hw9 U hU hWm⟩⟩ hn h1.1 hW hd ⟨by have := C.2.2.2.2.2.2.2.2.2.2.2.2.1; omega, by have := C.2.2.2.2.2.2.2.2.2.2.2.2.2; omega⟩ ?_ ?_
  · intro v st t L hst hal hL hq
    obtain ⟨h', hp', ⟨w1', -, -, -⟩, hF'⟩ := hq
    exact kr v h' hp' ls t.heap (locs ++ L) _ _ h1 w1' (va_S.call C.2.2.2.2.2.2.2.1 h3 hst hL hF') (by omega) (by omega)
  · intro x st t L hst hal hL hq
    obtain ⟨h', hp', ⟨w1', -, -, -⟩, hF'⟩ := hq
    have hS' := va_S.call C.2.2.2.2.2.2.2.1 h3 hst hL hF'
    refine xt_Xwiden (k := mc) (n := ms) (by omega) (by omega) ?_
    refine xt_out rfl rfl rfl (fun z hz => absurd (C.2.2.2.2.2.2.2.2.2.2.2.1 z hz) id) C.2.2.2.2.2.2.1 (fun t' ht' hW' => ?_) hS'.2.2
    obtain ⟨u1, u2⟩ := C.world w1' hS' t' ht' hW'
    exact ⟨h', kx x h' hp', u1, u2⟩
theorem g_callI (C : Cx p R s m args meth c cc own nL ret D z0 E mc ms) {idx n maxL' : Nat} {y : MethodName} {cc' : ByteArray} {ret' : Option FieldType} {rm' : Room} {pre : List Value → hp → Prop} {post : List Value → hp → Outcome → hp → Prop} {As : List Value} {a : Nat} (hc : Ctr l y cc' maxL' none rm' D z0 E pre post) (hd : decode cc pc = .ok (.invokespecial idx, 3)) (w1 : Cond.methodLink own idx y ∈ lw_g) (w2 : Cond.instanceMethod y ∈ lw_g) (w4 : Cond.initialized y.cls ∈ lw_g) (w5 : Cond.code y cc' maxL' none ∈ lw_g) (hy1 : y.name = "<init>") (hy : y.cls ≠ "java/lang/invoke/MethodHandle" ∧ y.cls ≠ "java/lang/invoke/VarHandle" ∧ (parseMethodDescriptor y.desc).map (fun d => d.parameters.length) = some n) (hn : As.length = n) (hpre : pre (.ref a :: As) h) (hR : rm'.frames + 1 ≤ R.frames ∧ 8 + (maxL' + 11) + rm'.locals ≤ R.locals) (hW : (rest.map fun v => v.category).sum ≤ 8) (hcost : rm'.cells ≤ rc ∧ rm'.slots ≤ rs)
    (kr : ∀ (v : Option Value) (h' : hp), post (.ref a :: As) h (.returned v) h' → G p l e R s m args below meth c nL D z0 E Qp mc ms (pc + 3) lv (v.toList ++ rest) h' (rc - rm'.cells) (rs - rm'.slots)) (kx : ∀ (x : Addr) (h' : hp), post (.ref a :: As) h (.threw x) h' → Qp (.threw x) h') : G p l e R s m args below meth c nL D z0 E Qp mc ms pc lv (As.reverse ++ .ref a :: rest) h rc rs := by
  intro ls H locs cells slots h1 h2 h3 h4 h5
  have hb9 : FrameBlind (fun a9 U => a9 = (.ref a :: As).toArray ∧ World z0 D E h U) := fun a9 U g mk q => ⟨q.1, World.blind C.2.2.2.2.2.2.2.2.2.1 q.2⟩
  have hw9 : ∀ U : State, U.heap = H → s.WarmedH U.vm → World z0 D E h U := fun U hU hWm => (C.world h2 h3 U hU hWm).1
  refine xt_callI (As := As) (rest := rest) ⟨C.1, C.2.1, C.2.2.1, C.2.2.2.1, C.2.2.2.2.1⟩ (hc (.ref a :: As) h hpre) ⟨callB_of n C.2.2.2.2.1 (goodC w5) rfl rfl rfl (C.2.2.2.2.1 _ w4) (C.2.2.2.2.1 _ w1) hy hR, hy1, C.2.2.2.2.1 _ w2⟩ ⟨hb9, fun U hU hWm => ⟨rfl, hw9 U hU hWm⟩⟩ hn h1.1 hW hd ⟨by have := C.2.2.2.2.2.2.2.2.2.2.2.2.1; omega, by have := C.2.2.2.2.2.2.2.2.2.2.2.2.2; omega⟩ ?_ ?_
  · intro v st t L hst hal hL hq
    obtain ⟨h', hp', ⟨w1', -, -, -⟩, hF'⟩ := hq
    exact kr v h' hp' ls t.heap (locs ++ L) _ _ h1 w1' (va_S.call C.2.2.2.2.2.2.2.1 h3 hst hL hF') (by omega) (by omega)
  · intro x st t L hst hal hL hq
    obtain ⟨h', hp', ⟨w1', -, -, -⟩, hF'⟩ := hq
    have hS' := va_S.call C.2.2.2.2.2.2.2.1 h3 hst hL hF'
    refine xt_Xwiden (k := mc) (n := ms) (by omega) (by omega) ?_
    refine xt_out rfl rfl rfl (fun z hz => absurd (C.2.2.2.2.2.2.2.2.2.2.2.1 z hz) id) C.2.2.2.2.2.2.1 (fun t' ht' hW' => ?_) hS'.2.2
    obtain ⟨u1, u2⟩ := C.world w1' hS' t' ht' hW'
    exact ⟨h', kx x h' hp', u1, u2⟩
theorem g_getf (C : Cx p R s m args meth c cc own nL ret D z0 E mc ms) {a idx ci k N : Nat} {cls ref : String} {T : u_T} {fs : List Value} {v : Value} (hd : decode cc pc = .ok (.getfield idx, 3)) (hin : ∀ w ∈ u_ws cls T N, w ∈ lw_g) (hci : CL[ci]? = some (cls, T, N)) (hk : k < N) (hw : Cond.fieldLink own idx ref (T k).2.1 (T k).2.2.1 ∈ lw_g) (hsm : ref = (T k).1 ∨ Cond.sameField ref (T k).1 (T k).2.1 (T k).2.2.1 ∈ lw_g) (ha : a ∈ h.1) (hF : h.2 a = .inr (ci, fs)) (hv : fs[k]? = some v) (kk : G p l e R s m args below meth c nL D z0 E Qp mc ms (pc + 3) lv (v :: rest) h rc rs) : G p l e R s m args below meth c nL D z0 E Qp mc ms pc lv (.ref a :: rest) h rc rs := by
  intro ls H locs cells slots h1 h2 h3 h4 h5
  obtain ⟨q0, hq0⟩ := pl_at ha
  rw [hF] at hq0
  refine va_get C.1 C.2.1 C.2.2.2.2.1 hin C.2.2.2.1 C.2.2.2.2.2.1 h2.1 q0 hq0 hci k hk (C.2.2.2.2.1 _ hw) (fun x hx => ?_) hv hd (kk ls H locs cells slots h1 h2 h3 h4 h5)
  rcases hsm with rfl | hs
  · exact hx
  · exact u_same (C.2.2.2.2.1 _ hs) x hx
theorem g_putf (C : Cx p R s m args meth c cc own nL ret D z0 E mc ms) {a idx ci k N : Nat} {cls ref : String} {T : u_T} {ty0 : Nat → FieldType} {ty : FieldType} {fs : List Value} {v : Value} (hd : decode cc pc = .ok (.putfield idx, 3)) (hin : ∀ w ∈ u_ws cls T N, w ∈ lw_g) (hty : ∀ k, k < N → parseFieldDescriptor (T k).2.2.1 = some (ty0 k)) (hnm : ∀ a, a < N → ∀ b, b < N → a ≠ b → (T a).2.1 ≠ (T b).2.1) (hci : CL[ci]? = some (cls, T, N)) (hk : k < N) (hw : Cond.fieldLink own idx ref (T k).2.1 (T k).2.2.1 ∈ lw_g) (hsm : ref = (T k).1 ∨ Cond.sameField ref (T k).1 (T k).2.1 (T k).2.2.1 ∈ lw_g) (hfin : (T k).2.2.2 = false) (hdt : parseFieldDescriptor (T k).2.2.1 = some ty) (hn : narrow ty v = v) (hfit : fits ty v = true) (ha : a ∈ h.1) (hF : h.2 a = .inr (ci, fs)) (hl : k < fs.length) (kk : G p l e R s m args below meth c nL D z0 E Qp mc ms (pc + 3) lv rest (h.1, va_up h.2 a (.inr (ci, fs.set k v))) rc rs) : G p l e R s m args below meth c nL D z0 E Qp mc ms pc lv (v :: .ref a :: rest) h rc rs := by
  intro ls H locs cells slots h1 h2 h3 h4 h5
  obtain ⟨q0, hq0⟩ := pl_at ha
  have hq1 := hq0
  rw [hF] at hq0
  refine va_put C.1 C.2.1 C.2.2.2.2.1 hin ty0 hty hnm C.2.2.2.1 C.2.2.2.2.2.1 h2.1 h2.2 h3 q0 hq0 hci k hk (C.2.2.2.2.1 _ hw) (fun x hx => ?_) hfin hdt hn hfit hl hd (fun H1 locs1 hP1 hD1 hS1 => ?_)
  · rcases hsm with rfl | hs
    · exact hx
    · exact u_same (C.2.2.2.2.1 _ hs) x hx
  · rw [pl_set h2.2 ha hq1] at hP1 hD1
    exact kk ls H1 locs1 cells slots h1 ⟨hP1, hD1⟩ hS1 h4 h5
theorem g_putF (C : Cx p R s m args meth c cc own nL ret D z0 E mc ms) {a idx ci k N : Nat} {cls : String} {T : u_T} {ty0 : Nat → FieldType} {ty : FieldType} {fs : List Value} {v : Value} (hini : meth.name = "<init>") (hd : decode cc pc = .ok (.putfield idx, 3)) (hin : ∀ w ∈ u_ws cls T N, w ∈ lw_g) (hty : ∀ k, k < N → parseFieldDescriptor (T k).2.2.1 = some (ty0 k)) (hnm : ∀ a, a < N → ∀ b, b < N → a ≠ b → (T a).2.1 ≠ (T b).2.1) (hci : CL[ci]? = some (cls, T, N)) (hk : k < N) (hw : Cond.fieldLink own idx (T k).1 (T k).2.1 (T k).2.2.1 ∈ lw_g) (hfin : (T k).2.2.2 = true) (hdec : (T k).1 = own) (hdt : parseFieldDescriptor (T k).2.2.1 = some ty) (hn : narrow ty v = v) (hfit : fits ty v = true) (ha : a ∈ h.1) (hF : h.2 a = .inr (ci, fs)) (hl : k < fs.length) (kk : G p l e R s m args below meth c nL D z0 E Qp mc ms (pc + 3) lv rest (h.1, va_up h.2 a (.inr (ci, fs.set k v))) rc rs) : G p l e R s m args below meth c nL D z0 E Qp mc ms pc lv (v :: .ref a :: rest) h rc rs := by
  intro ls H locs cells slots h1 h2 h3 h4 h5
  obtain ⟨q0, hq0⟩ := pl_at ha
  have hq1 := hq0
  rw [hF] at hq0
  refine va_putF C.1 C.2.1 C.2.2.2.2.1 hin ty0 hty hnm C.2.2.2.1 C.2.2.2.2.2.1 h2.1 h2.2 h3 q0 hq0 hci k hk (C.2.2.2.2.1 _ hw) (fun x hx => hx) hfin hini hdec hdt hn hfit hl hd (fun H1 locs1 hP1 hD1 hS1 => ?_)
  rw [pl_set h2.2 ha hq1] at hP1 hD1
  exact kk ls H1 locs1 cells slots h1 ⟨hP1, hD1⟩ hS1 h4 h5
theorem g_iald (C : Cx p R s m args meth c cc own nL ret D z0 E mc ms) {a n : Nat} {f : Nat → Int32} {i : Int32} (hd : decode cc pc = .ok (.iaload, 1)) (ha : a ∈ h.1) (hF : h.2 a = .inl (D.1 100, n, .inl f)) (hin : vp_in i n) (kk : G p l e R s m args below meth c nL D z0 E Qp mc ms (pc + 1) lv (.int (f i.toNatClampNeg) :: rest) h rc rs) : G p l e R s m args below meth c nL D z0 E Qp mc ms pc lv (.int i :: .ref a :: rest) h rc rs := by
  intro ls H locs cells slots h1 h2 h3 h4 h5
  obtain ⟨q0, hq0⟩ := pl_at ha
  rw [hF] at hq0
  exact va_iald C.1 C.2.1 C.2.2.2.2.2.1 h2.1 q0 0 hq0 rfl hin hd (kk ls H locs cells slots h1 h2 h3 h4 h5)
theorem g_cald (C : Cx p R s m args meth c cc own nL ret D z0 E mc ms) {a n : Nat} {f : Nat → Int32} {i : Int32} (hd : decode cc pc = .ok (.caload, 1)) (ha : a ∈ h.1) (hF : h.2 a = .inl (D.1 101, n, .inl f)) (hin : vp_in i n) (kk : G p l e R s m args below meth c nL D z0 E Qp mc ms (pc + 1) lv (.int (f i.toNatClampNeg) :: rest) h rc rs) : G p l e R s m args below meth c nL D z0 E Qp mc ms pc lv (.int i :: .ref a :: rest) h rc rs := by
  intro ls H locs cells slots h1 h2 h3 h4 h5
  obtain ⟨q0, hq0⟩ := pl_at ha
  rw [hF] at hq0
  exact va_cald C.1 C.2.1 C.2.2.2.2.2.1 h2.1 q0 1 hq0 rfl hin hd (kk ls H locs cells slots h1 h2 h3 h4 h5)
theorem g_lald (C : Cx p R s m args meth c cc own nL ret D z0 E mc ms) {a n : Nat} {f : Nat → Int64} {i : Int32} (hd : decode cc pc = .ok (.laload, 1)) (ha : a ∈ h.1) (hF : h.2 a = .inl (D.1 102, n, .inr (.inl f))) (hin : vp_in i n) (kk : G p l e R s m args below meth c nL D z0 E Qp mc ms (pc + 1) lv (.long (f i.toNatClampNeg) :: rest) h rc rs) : G p l e R s m args below meth c nL D z0 E Qp mc ms pc lv (.int i :: .ref a :: rest) h rc rs := by
  intro ls H locs cells slots h1 h2 h3 h4 h5
  obtain ⟨q0, hq0⟩ := pl_at ha
  rw [hF] at hq0
  exact va_lald C.1 C.2.1 C.2.2.2.2.2.1 h2.1 q0 2 hq0 rfl hin hd (kk ls H locs cells slots h1 h2 h3 h4 h5)
theorem g_zald (C : Cx p R s m args meth c cc own nL ret D z0 E mc ms) {a n : Nat} {f : Nat → Int32} {i : Int32} (hd : decode cc pc = .ok (.baload, 1)) (ha : a ∈ h.1) (hF : h.2 a = .inl (D.1 103, n, .inl f)) (hin : vp_in i n) (kk : G p l e R s m args below meth c nL D z0 E Qp mc ms (pc + 1) lv (.int (f i.toNatClampNeg) :: rest) h rc rs) : G p l e R s m args below meth c nL D z0 E Qp mc ms pc lv (.int i :: .ref a :: rest) h rc rs := by
  intro ls H locs cells slots h1 h2 h3 h4 h5
  obtain ⟨q0, hq0⟩ := pl_at ha
  rw [hF] at hq0
  exact va_zald C.1 C.2.1 C.2.2.2.2.2.1 h2.1 q0 3 hq0 rfl hin hd (kk ls H locs cells slots h1 h2 h3 h4 h5)
theorem g_bald (C : Cx p R s m args meth c cc own nL ret D z0 E mc ms) {a n : Nat} {f : Nat → Int32} {i : Int32} (hd : decode cc pc = .ok (.baload, 1)) (ha : a ∈ h.1) (hF : h.2 a = .inl (D.1 104, n, .inl f)) (hin : vp_in i n) (kk : G p l e R s m args below meth c nL D z0 E Qp mc ms (pc + 1) lv (.int (f i.toNatClampNeg) :: rest) h rc rs) : G p l e R s m args below meth c nL D z0 E Qp mc ms pc lv (.int i :: .ref a :: rest) h rc rs := by
  intro ls H locs cells slots h1 h2 h3 h4 h5
  obtain ⟨q0, hq0⟩ := pl_at ha
  rw [hF] at hq0
  exact va_bald C.1 C.2.1 C.2.2.2.2.2.1 h2.1 q0 4 hq0 rfl hin hd (kk ls H locs cells slots h1 h2 h3 h4 h5)
theorem g_iast (C : Cx p R s m args meth c cc own nL ret D z0 E mc ms) {a n : Nat} {f : Nat → Int32} {i : Int32} {x : Int32} (hd : decode cc pc = .ok (.iastore, 1)) (ha : a ∈ h.1) (hF : h.2 a = .inl (D.1 100, n, .inl f)) (hin : vp_in i n) (kk : G p l e R s m args below meth c nL D z0 E Qp mc ms (pc + 1) lv rest (h.1, va_up h.2 a (.inl (D.1 100, n, .inl (upd f i.toNatClampNeg x)))) rc rs) : G p l e R s m args below meth c nL D z0 E Qp mc ms pc lv (.int x :: .int i :: .ref a :: rest) h rc rs := by
  intro ls H locs cells slots h1 h2 h3 h4 h5
  obtain ⟨q0, hq0⟩ := pl_at ha
  have hq1 := hq0
  rw [hF] at hq0
  refine va_iast C.1 C.2.1 C.2.2.2.2.2.1 h2.1 h2.2 h3 q0 0 hq0 rfl hin hd (fun H1 locs1 hP1 hD1 hS1 => ?_)
  rw [pl_set h2.2 ha hq1] at hP1 hD1
  exact kk ls H1 locs1 cells slots h1 ⟨hP1, hD1⟩ hS1 h4 h5
theorem g_cast (C : Cx p R s m args meth c cc own nL ret D z0 E mc ms) {a n : Nat} {f : Nat → Int32} {i : Int32} {x : Int32} (hd : decode cc pc = .ok (.castore, 1)) (ha : a ∈ h.1) (hF : h.2 a = .inl (D.1 101, n, .inl f)) (hin : vp_in i n) (kk : G p l e R s m args below meth c nL D z0 E Qp mc ms (pc + 1) lv rest (h.1, va_up h.2 a (.inl (D.1 101, n, .inl (upd f i.toNatClampNeg (vp_nar .char x))))) rc rs) : G p l e R s m args below meth c nL D z0 E Qp mc ms pc lv (.int x :: .int i :: .ref a :: rest) h rc rs := by
  intro ls H locs cells slots h1 h2 h3 h4 h5
  obtain ⟨q0, hq0⟩ := pl_at ha
  have hq1 := hq0
  rw [hF] at hq0
  refine va_cast C.1 C.2.1 C.2.2.2.2.2.1 h2.1 h2.2 h3 q0 1 hq0 rfl hin hd (fun H1 locs1 hP1 hD1 hS1 => ?_)
  rw [pl_set h2.2 ha hq1] at hP1 hD1
  exact kk ls H1 locs1 cells slots h1 ⟨hP1, hD1⟩ hS1 h4 h5
theorem g_last (C : Cx p R s m args meth c cc own nL ret D z0 E mc ms) {a n : Nat} {f : Nat → Int64} {i : Int32} {x : Int64} (hd : decode cc pc = .ok (.lastore, 1)) (ha : a ∈ h.1) (hF : h.2 a = .inl (D.1 102, n, .inr (.inl f))) (hin : vp_in i n) (kk : G p l e R s m args below meth c nL D z0 E Qp mc ms (pc + 1) lv rest (h.1, va_up h.2 a (.inl (D.1 102, n, .inr (.inl (vp_updL f i.toNatClampNeg x))))) rc rs) : G p l e R s m args below meth c nL D z0 E Qp mc ms pc lv (.long x :: .int i :: .ref a :: rest) h rc rs := by
  intro ls H locs cells slots h1 h2 h3 h4 h5
  obtain ⟨q0, hq0⟩ := pl_at ha
  have hq1 := hq0
  rw [hF] at hq0
  refine va_last C.1 C.2.1 C.2.2.2.2.2.1 h2.1 h2.2 h3 q0 2 hq0 rfl hin hd (fun H1 locs1 hP1 hD1 hS1 => ?_)
  rw [pl_set h2.2 ha hq1] at hP1 hD1
  exact kk ls H1 locs1 cells slots h1 ⟨hP1, hD1⟩ hS1 h4 h5
theorem g_zast (C : Cx p R s m args meth c cc own nL ret D z0 E mc ms) {a n : Nat} {f : Nat → Int32} {i : Int32} {x : Int32} (hd : decode cc pc = .ok (.bastore, 1)) (ha : a ∈ h.1) (hF : h.2 a = .inl (D.1 103, n, .inl f)) (hin : vp_in i n) (kk : G p l e R s m args below meth c nL D z0 E Qp mc ms (pc + 1) lv rest (h.1, va_up h.2 a (.inl (D.1 103, n, .inl (upd f i.toNatClampNeg (vp_nar .boolean x))))) rc rs) : G p l e R s m args below meth c nL D z0 E Qp mc ms pc lv (.int x :: .int i :: .ref a :: rest) h rc rs := by
  intro ls H locs cells slots h1 h2 h3 h4 h5
  obtain ⟨q0, hq0⟩ := pl_at ha
  have hq1 := hq0
  rw [hF] at hq0
  refine va_zast C.1 C.2.1 C.2.2.2.2.2.1 h2.1 h2.2 h3 q0 3 hq0 rfl hin hd (fun H1 locs1 hP1 hD1 hS1 => ?_)
  rw [pl_set h2.2 ha hq1] at hP1 hD1
  exact kk ls H1 locs1 cells slots h1 ⟨hP1, hD1⟩ hS1 h4 h5
theorem g_bast (C : Cx p R s m args meth c cc own nL ret D z0 E mc ms) {a n : Nat} {f : Nat → Int32} {i : Int32} {x : Int32} (hd : decode cc pc = .ok (.bastore, 1)) (ha : a ∈ h.1) (hF : h.2 a = .inl (D.1 104, n, .inl f)) (hin : vp_in i n) (kk : G p l e R s m args below meth c nL D z0 E Qp mc ms (pc + 1) lv rest (h.1, va_up h.2 a (.inl (D.1 104, n, .inl (upd f i.toNatClampNeg (vp_nar .byte x))))) rc rs) : G p l e R s m args below meth c nL D z0 E Qp mc ms pc lv (.int x :: .int i :: .ref a :: rest) h rc rs := by
  intro ls H locs cells slots h1 h2 h3 h4 h5
  obtain ⟨q0, hq0⟩ := pl_at ha
  have hq1 := hq0
  rw [hF] at hq0
  refine va_bast C.1 C.2.1 C.2.2.2.2.2.1 h2.1 h2.2 h3 q0 4 hq0 rfl hin hd (fun H1 locs1 hP1 hD1 hS1 => ?_)
  rw [pl_set h2.2 ha hq1] at hP1 hD1
  exact kk ls H1 locs1 cells slots h1 ⟨hP1, hD1⟩ hS1 h4 h5
end GC
end
section
/-! The reference's object in the pool: x.1 its whole numbers, x.2.1 its arrays of ints, chars and booleans, x.2.2 its arrays of longs, each by the number of the field. -/
abbrev MS : Type := (Nat → Int32) × (Nat → Nat → Int32) × (Nat → Nat → Int64)
def mkd : Nat → Nat := fun k => match k with
  | 0 => 0
  | 1 => 2
  | 2 => 0
  | 3 => 0
  | 4 => 1
  | 5 => 1
  | 6 => 0
  | 7 => 1
  | 8 => 1
  | 9 => 1
  | 10 => 3
  | 11 => 0
  | 12 => 1
  | 13 => 1
  | 14 => 1
  | 15 => 1
  | 16 => 1
  | 17 => 1
  | 18 => 1
  | 19 => 1
  | 20 => 3
  | 21 => 3
  | 22 => 4
  | 23 => 4
  | 24 => 0
  | 25 => 0
  | 26 => 1
  | 27 => 1
  | _ => 1
def mln : Nat → Nat := fun k => match k with
  | 0 => 0
  | 1 => 30
  | 2 => 0
  | 3 => 0
  | 4 => 15
  | 5 => 15
  | 6 => 0
  | 7 => 6
  | 8 => 6
  | 9 => 6
  | 10 => 36
  | 11 => 0
  | 12 => 8
  | 13 => 8
  | 14 => 32
  | 15 => 8
  | 16 => 32
  | 17 => 8
  | 18 => 8
  | 19 => 288
  | 20 => 32
  | 21 => 288
  | 22 => 8
  | 23 => 8
  | 24 => 0
  | 25 => 0
  | 26 => 8
  | 27 => 8
  | _ => 20
def mfs (ad : Nat → Nat) (x : MS) : List Value := [.int (x.1 0), .ref (ad 1), .int (x.1 2), .int (x.1 3), .ref (ad 4), .ref (ad 5), .int (x.1 6), .ref (ad 7), .ref (ad 8), .ref (ad 9), .ref (ad 10), .int (x.1 11), .ref (ad 12), .ref (ad 13), .ref (ad 14), .ref (ad 15), .ref (ad 16), .ref (ad 17), .ref (ad 18), .ref (ad 19), .ref (ad 20), .ref (ad 21), .ref (ad 22), .ref (ad 23), .int (x.1 24), .int (x.1 25), .ref (ad 26), .ref (ad 27), .ref (ad 28)]
def mcell (D : va_G) (x : MS) (k : Nat) : va_E := match mkd k with
  | 1 => .inl (D.1 100, mln k, .inl (x.2.1 k))
  | 2 => .inl (D.1 101, mln k, .inl (x.2.1 k))
  | 3 => .inl (D.1 102, mln k, .inr (.inl (x.2.2 k)))
  | _ => .inl (D.1 103, mln k, .inl (x.2.1 k))
def Mo (D : va_G) (am : Nat) (ad : Nat → Nat) (x : MS) (h : hp) : Prop := am ∈ h.1 ∧ h.2 am = .inr (9, mfs ad x) ∧ ∀ k, k < 29 → mkd k ≠ 0 → ad k ∈ h.1 ∧ h.2 (ad k) = mcell D x k
def Ad (am : Nat) (ad : Nat → Nat) : Prop := (∀ i j, i < 29 → j < 29 → mkd i ≠ 0 → mkd j ≠ 0 → ad i = ad j → i = j) ∧ ∀ k, k < 29 → mkd k ≠ 0 → ad k ≠ am
def Mi (am : Nat) (ad : Nat → Nat) (b : Nat) : Prop := b = am ∨ ∃ k, k < 29 ∧ mkd k ≠ 0 ∧ b = ad k
/-- nothing but the reference's own cells has changed -/
def Sm (am : Nat) (ad : Nat → Nat) (h0 h : hp) : Prop := h.1 = h0.1 ∧ ∀ b, ¬ Mi am ad b → h.2 b = h0.2 b
theorem Sm.rf {am : Nat} {ad : Nat → Nat} {h : hp} : Sm am ad h h := ⟨rfl, fun _ _ => rfl⟩
theorem Sm.tr {am : Nat} {ad : Nat → Nat} {h0 h1 h2 : hp} (a : Sm am ad h0 h1) (b : Sm am ad h1 h2) : Sm am ad h0 h2 := ⟨b.1.trans a.1, fun q hq => (b.2 q hq).trans (a.2 q hq)⟩
def seti (x : MS) (k : Nat) (v : Int32) : MS := (va_up x.1 k v, x.2)
def seta (x : MS) (k n : Nat) (v : Int32) : MS := (x.1, va_up x.2.1 k (upd (x.2.1 k) n v), x.2.2)
def setl (x : MS) (k n : Nat) (v : Int64) : MS := (x.1, x.2.1, va_up x.2.2 k (vp_updL (x.2.2 k) n v))
theorem mfs_set (ad : Nat → Nat) (x : MS) (v : Int32) (k : Nat) (hk : k < 29) (h0 : mkd k = 0) : (mfs ad x).set k (.int v) = mfs ad (seti x k v) := by
  match k, hk with
  | 0, _ => exact rfl
  | 1, _ => exact absurd h0 (by decide)
  | 2, _ => exact rfl
  | 3, _ => exact rfl
  | 4, _ => exact absurd h0 (by decide)
  | 5, _ => exact absurd h0 (by decide)
  | 6, _ => exact rfl
  | 7, _ => exact absurd h0 (by decide)
  | 8, _ => exact absurd h0 (by decide)
  | 9, _ => exact absurd h0 (by decide)
  | 10, _ => exact absurd h0 (by decide)
  | 11, _ => exact rfl
  | 12, _ => exact absurd h0 (by decide)
  | 13, _ => exact absurd h0 (by decide)
  | 14, _ => exact absurd h0 (by decide)
  | 15, _ => exact absurd h0 (by decide)
  | 16, _ => exact absurd h0 (by decide)
  | 17, _ => exact absurd h0 (by decide)
  | 18, _ => exact absurd h0 (by decide)
  | 19, _ => exact absurd h0 (by decide)
  | 20, _ => exact absurd h0 (by decide)
  | 21, _ => exact absurd h0 (by decide)
  | 22, _ => exact absurd h0 (by decide)
  | 23, _ => exact absurd h0 (by decide)
  | 24, _ => exact rfl
  | 25, _ => exact rfl
  | 26, _ => exact absurd h0 (by decide)
  | 27, _ => exact absurd h0 (by decide)
  | 28, _ => exact absurd h0 (by decide)
  | z + 29, hz => exact absurd hz (by omega)
theorem Mo.puti {D : va_G} {am : Nat} {ad : Nat → Nat} {x : MS} {h h0 : hp} {k : Nat} {v : Int32} (hA : Ad am ad) (hk : k < 29) (hk0 : mkd k = 0) (hm : Mo D am ad x h) (hs : Sm am ad h0 h) : Mo D am ad (seti x k v) (h.1, va_up h.2 am (.inr (9, (mfs ad x).set k (.int v)))) ∧ Sm am ad h0 (h.1, va_up h.2 am (.inr (9, (mfs ad x).set k (.int v)))) := by
  refine ⟨⟨hm.1, ?_, fun j hj hj0 => ⟨(hm.2.2 j hj hj0).1, ?_⟩⟩, hs.1, fun b hb => ?_⟩
  · show va_up h.2 am _ am = _
    rw [mfs_set ad x v k hk hk0]
    simp [va_up]
  · show va_up h.2 am _ (ad j) = _
    rw [va_up_ne _ _ (hA.2 j hj hj0), (hm.2.2 j hj hj0).2]
    rfl
  · show va_up h.2 am _ b = _
    rw [va_up_ne _ _ (fun e => hb (Or.inl e))]
    exact hs.2 b hb
theorem Mo.puta {D : va_G} {am : Nat} {ad : Nat → Nat} {x : MS} {h h0 : hp} {k n : Nat} {v : Int32} (hA : Ad am ad) (hk : k < 29) (hk0 : mkd k = 1 ∨ mkd k = 2 ∨ mkd k = 4) (hm : Mo D am ad x h) (hs : Sm am ad h0 h) : Mo D am ad (seta x k n v) (h.1, va_up h.2 (ad k) (mcell D (seta x k n v) k)) ∧ Sm am ad h0 (h.1, va_up h.2 (ad k) (mcell D (seta x k n v) k)) := by
  have hk1 : mkd k ≠ 0 := by omega
  refine ⟨⟨hm.1, ?_, fun j hj hj0 => ⟨(hm.2.2 j hj hj0).1, ?_⟩⟩, hs.1, fun b hb => ?_⟩
  · show va_up h.2 (ad k) _ am = _
    rw [va_up_ne _ _ (Ne.symm (hA.2 k hk hk1)), hm.2.1]
    rfl
  · show va_up h.2 (ad k) _ (ad j) = _
    by_cases hjk : j = k
    · subst hjk
      simp [va_up]
    · rw [va_up_ne _ _ (fun e => hjk (hA.1 j k hj hk hj0 hk1 e)), (hm.2.2 j hj hj0).2]
      simp [mcell, seta, va_up, hjk]
  · show va_up h.2 (ad k) _ b = _
    rw [va_up_ne _ _ (fun e => hb (Or.inr ⟨k, hk, hk1, e⟩))]
    exact hs.2 b hb
theorem Mo.putl {D : va_G} {am : Nat} {ad : Nat → Nat} {x : MS} {h h0 : hp} {k n : Nat} {v : Int64} (hA : Ad am ad) (hk : k < 29) (hk0 : mkd k = 3) (hm : Mo D am ad x h) (hs : Sm am ad h0 h) : Mo D am ad (setl x k n v) (h.1, va_up h.2 (ad k) (mcell D (setl x k n v) k)) ∧ Sm am ad h0 (h.1, va_up h.2 (ad k) (mcell D (setl x k n v) k)) := by
  have hk1 : mkd k ≠ 0 := by omega
  refine ⟨⟨hm.1, ?_, fun j hj hj0 => ⟨(hm.2.2 j hj hj0).1, ?_⟩⟩, hs.1, fun b hb => ?_⟩
  · show va_up h.2 (ad k) _ am = _
    rw [va_up_ne _ _ (Ne.symm (hA.2 k hk hk1)), hm.2.1]
    rfl
  · show va_up h.2 (ad k) _ (ad j) = _
    by_cases hjk : j = k
    · subst hjk
      simp [va_up]
    · rw [va_up_ne _ _ (fun e => hjk (hA.1 j k hj hk hj0 hk1 e)), (hm.2.2 j hj hj0).2]
      simp [mcell, setl, va_up, hjk]
  · show va_up h.2 (ad k) _ b = _
    rw [va_up_ne _ _ (fun e => hb (Or.inr ⟨k, hk, hk1, e⟩))]
    exact hs.2 b hb
section MR
variable {p : Program} {l : Launch} {e : Env} {R : Room} {s : State} {m : MethodId} {args : Array Value} {below : List Frame} {meth : Method} {c : Code} {cc : ByteArray} {own : String} {nL : Nat} {ret : Option FieldType} {D : va_G} {z0 : Nat} {E : State → Prop} {Qp : Outcome → hp → Prop} {mc ms pc : Nat} {lv lv' : List (Nat × Value)} {st rest : List Value} {h : hp} {rc rs : Nat}
variable {am : Nat} {ad : Nat → Nat} {x : MS} {h0 : hp}
theorem m_get (C : Cx p R s m args meth c cc "RealmDeskModel" nL ret D z0 E mc ms) {k idx : Nat} {v : Value} (hd : decode cc pc = .ok (.getfield idx, 3)) (hw : Cond.fieldLink "RealmDeskModel" idx "RealmDeskModel" (T9 k).2.1 (T9 k).2.2.1 ∈ lw_g) (hk : k < 29 ∧ (T9 k).1 = "RealmDeskModel") (hm : Mo D am ad x h) (hv : (mfs ad x)[k]? = some v) (kk : G p l e R s m args below meth c nL D z0 E Qp mc ms (pc + 3) lv (v :: rest) h rc rs) : G p l e R s m args below meth c nL D z0 E Qp mc ms pc lv (.ref am :: rest) h rc rs := g_getf C hd in9 rfl hk.1 hw (Or.inl hk.2.symm) hm.1 hm.2.1 hv kk
theorem m_put (C : Cx p R s m args meth c cc "RealmDeskModel" nL ret D z0 E mc ms) {k idx : Nat} {v : Int32} (hA : Ad am ad) (hd : decode cc pc = .ok (.putfield idx, 3)) (hw : Cond.fieldLink "RealmDeskModel" idx "RealmDeskModel" (T9 k).2.1 (T9 k).2.2.1 ∈ lw_g) (hk : k < 29 ∧ (T9 k).1 = "RealmDeskModel" ∧ mkd k = 0 ∧ (T9 k).2.2.2 = false ∧ parseFieldDescriptor (T9 k).2.2.1 = some .int) (hm : Mo D am ad x h) (hs : Sm am ad h0 h) (kk : ∀ h : hp, Mo D am ad (seti x k v) h → Sm am ad h0 h → G p l e R s m args below meth c nL D z0 E Qp mc ms (pc + 3) lv rest h rc rs) : G p l e R s m args below meth c nL D z0 E Qp mc ms pc lv (.int v :: .ref am :: rest) h rc rs :=
  g_putf C hd in9 ty9_ok nm9 rfl hk.1 hw (Or.inl hk.2.1.symm) hk.2.2.2.1 hk.2.2.2.2 rfl rfl hm.1 hm.2.1 (by rw [show (mfs ad x).length = 29 from rfl]; exact hk.1) (kk _ (Mo.puti hA hk.1 hk.2.2.1 hm hs).1 (Mo.puti hA hk.1 hk.2.2.1 hm hs).2)
theorem m_ld1 (C : Cx p R s m args meth c cc own nL ret D z0 E mc ms) {k n : Nat} {i : Int32} (hd : decode cc pc = .ok (.iaload, 1)) (hk : k < 29 ∧ mkd k = 1) (hm : Mo D am ad x h) (hi : i = nI n) (hn : n < mln k ∧ mln k < 2 ^ 31) (kk : G p l e R s m args below meth c nL D z0 E Qp mc ms (pc + 1) lv (.int (x.2.1 k n) :: rest) h rc rs) : G p l e R s m args below meth c nL D z0 E Qp mc ms pc lv (.int i :: .ref (ad k) :: rest) h rc rs := by
  subst hi
  obtain ⟨ha, hF⟩ := hm.2.2 k hk.1 (by rw [hk.2]; decide)
  rw [mcell, hk.2] at hF
  refine g_iald C hd ha hF (vp_in_nI hn.1 hn.2) ?_
  rw [nI_clamp (Nat.lt_trans hn.1 hn.2)]
  exact kk
theorem m_st1 (C : Cx p R s m args meth c cc own nL ret D z0 E mc ms) {k n : Nat} {i : Int32} {v : Int32} (hA : Ad am ad) (hd : decode cc pc = .ok (.iastore, 1)) (hk : k < 29 ∧ mkd k = 1) (hm : Mo D am ad x h) (hs : Sm am ad h0 h) (hi : i = nI n) (hn : n < mln k ∧ mln k < 2 ^ 31) (kk : ∀ h : hp, Mo D am ad (seta x k n v) h → Sm am ad h0 h → G p l e R s m args below meth c nL D z0 E Qp mc ms (pc + 1) lv rest h rc rs) : G p l e R s m args below meth c nL D z0 E Qp mc ms pc lv (.int v :: .int i :: .ref (ad k) :: rest) h rc rs := by
  subst hi
  obtain ⟨ha, hF⟩ := hm.2.2 k hk.1 (by rw [hk.2]; decide)
  rw [mcell, hk.2] at hF
  refine g_iast C hd ha hF (vp_in_nI hn.1 hn.2) ?_
  rw [nI_clamp (Nat.lt_trans hn.1 hn.2)]
  have h9 := Mo.puta (n := n) (v := v) hA hk.1 (by omega) hm hs
  have e9 : mcell D (seta x k n v) k = .inl (D.1 100, mln k, .inl (upd (x.2.1 k) n v)) := by simp [mcell, hk.2, seta, va_up]
  rw [e9] at h9
  exact kk _ h9.1 h9.2
theorem m_ld2 (C : Cx p R s m args meth c cc own nL ret D z0 E mc ms) {k n : Nat} {i : Int32} (hd : decode cc pc = .ok (.caload, 1)) (hk : k < 29 ∧ mkd k = 2) (hm : Mo D am ad x h) (hi : i = nI n) (hn : n < mln k ∧ mln k < 2 ^ 31) (kk : G p l e R s m args below meth c nL D z0 E Qp mc ms (pc + 1) lv (.int (x.2.1 k n) :: rest) h rc rs) : G p l e R s m args below meth c nL D z0 E Qp mc ms pc lv (.int i :: .ref (ad k) :: rest) h rc rs := by
  subst hi
  obtain ⟨ha, hF⟩ := hm.2.2 k hk.1 (by rw [hk.2]; decide)
  rw [mcell, hk.2] at hF
  refine g_cald C hd ha hF (vp_in_nI hn.1 hn.2) ?_
  rw [nI_clamp (Nat.lt_trans hn.1 hn.2)]
  exact kk
theorem m_st2 (C : Cx p R s m args meth c cc own nL ret D z0 E mc ms) {k n : Nat} {i : Int32} {v : Int32} (hA : Ad am ad) (hd : decode cc pc = .ok (.castore, 1)) (hk : k < 29 ∧ mkd k = 2) (hm : Mo D am ad x h) (hs : Sm am ad h0 h) (hi : i = nI n) (hn : n < mln k ∧ mln k < 2 ^ 31) (kk : ∀ h : hp, Mo D am ad (seta x k n (vp_nar .char v)) h → Sm am ad h0 h → G p l e R s m args below meth c nL D z0 E Qp mc ms (pc + 1) lv rest h rc rs) : G p l e R s m args below meth c nL D z0 E Qp mc ms pc lv (.int v :: .int i :: .ref (ad k) :: rest) h rc rs := by
  subst hi
  obtain ⟨ha, hF⟩ := hm.2.2 k hk.1 (by rw [hk.2]; decide)
  rw [mcell, hk.2] at hF
  refine g_cast C hd ha hF (vp_in_nI hn.1 hn.2) ?_
  rw [nI_clamp (Nat.lt_trans hn.1 hn.2)]
  have h9 := Mo.puta (n := n) (v := (vp_nar .char v)) hA hk.1 (by omega) hm hs
  have e9 : mcell D (seta x k n (vp_nar .char v)) k = .inl (D.1 101, mln k, .inl (upd (x.2.1 k) n (vp_nar .char v))) := by simp [mcell, hk.2, seta, va_up]
  rw [e9] at h9
  exact kk _ h9.1 h9.2
theorem m_ld3 (C : Cx p R s m args meth c cc own nL ret D z0 E mc ms) {k n : Nat} {i : Int32} (hd : decode cc pc = .ok (.laload, 1)) (hk : k < 29 ∧ mkd k = 3) (hm : Mo D am ad x h) (hi : i = nI n) (hn : n < mln k ∧ mln k < 2 ^ 31) (kk : G p l e R s m args below meth c nL D z0 E Qp mc ms (pc + 1) lv (.long (x.2.2 k n) :: rest) h rc rs) : G p l e R s m args below meth c nL D z0 E Qp mc ms pc lv (.int i :: .ref (ad k) :: rest) h rc rs := by
  subst hi
  obtain ⟨ha, hF⟩ := hm.2.2 k hk.1 (by rw [hk.2]; decide)
  rw [mcell, hk.2] at hF
  refine g_lald C hd ha hF (vp_in_nI hn.1 hn.2) ?_
  rw [nI_clamp (Nat.lt_trans hn.1 hn.2)]
  exact kk
theorem m_st3 (C : Cx p R s m args meth c cc own nL ret D z0 E mc ms) {k n : Nat} {i : Int32} {v : Int64} (hA : Ad am ad) (hd : decode cc pc = .ok (.lastore, 1)) (hk : k < 29 ∧ mkd k = 3) (hm : Mo D am ad x h) (hs : Sm am ad h0 h) (hi : i = nI n) (hn : n < mln k ∧ mln k < 2 ^ 31) (kk : ∀ h : hp, Mo D am ad (setl x k n v) h → Sm am ad h0 h → G p l e R s m args below meth c nL D z0 E Qp mc ms (pc + 1) lv rest h rc rs) : G p l e R s m args below meth c nL D z0 E Qp mc ms pc lv (.long v :: .int i :: .ref (ad k) :: rest) h rc rs := by
  subst hi
  obtain ⟨ha, hF⟩ := hm.2.2 k hk.1 (by rw [hk.2]; decide)
  rw [mcell, hk.2] at hF
  refine g_last C hd ha hF (vp_in_nI hn.1 hn.2) ?_
  rw [nI_clamp (Nat.lt_trans hn.1 hn.2)]
  have h9 := Mo.putl (n := n) (v := v) hA hk.1 (by omega) hm hs
  have e9 : mcell D (setl x k n v) k = .inl (D.1 102, mln k, .inr (.inl (vp_updL (x.2.2 k) n v))) := by simp [mcell, hk.2, setl, va_up]
  rw [e9] at h9
  exact kk _ h9.1 h9.2
theorem m_ld4 (C : Cx p R s m args meth c cc own nL ret D z0 E mc ms) {k n : Nat} {i : Int32} (hd : decode cc pc = .ok (.baload, 1)) (hk : k < 29 ∧ mkd k = 4) (hm : Mo D am ad x h) (hi : i = nI n) (hn : n < mln k ∧ mln k < 2 ^ 31) (kk : G p l e R s m args below meth c nL D z0 E Qp mc ms (pc + 1) lv (.int (x.2.1 k n) :: rest) h rc rs) : G p l e R s m args below meth c nL D z0 E Qp mc ms pc lv (.int i :: .ref (ad k) :: rest) h rc rs := by
  subst hi
  obtain ⟨ha, hF⟩ := hm.2.2 k hk.1 (by rw [hk.2]; decide)
  rw [mcell, hk.2] at hF
  refine g_zald C hd ha hF (vp_in_nI hn.1 hn.2) ?_
  rw [nI_clamp (Nat.lt_trans hn.1 hn.2)]
  exact kk
theorem m_st4 (C : Cx p R s m args meth c cc own nL ret D z0 E mc ms) {k n : Nat} {i : Int32} {v : Int32} (hA : Ad am ad) (hd : decode cc pc = .ok (.bastore, 1)) (hk : k < 29 ∧ mkd k = 4) (hm : Mo D am ad x h) (hs : Sm am ad h0 h) (hi : i = nI n) (hn : n < mln k ∧ mln k < 2 ^ 31) (kk : ∀ h : hp, Mo D am ad (seta x k n (vp_nar .boolean v)) h → Sm am ad h0 h → G p l e R s m args below meth c nL D z0 E Qp mc ms (pc + 1) lv rest h rc rs) : G p l e R s m args below meth c nL D z0 E Qp mc ms pc lv (.int v :: .int i :: .ref (ad k) :: rest) h rc rs := by
  subst hi
  obtain ⟨ha, hF⟩ := hm.2.2 k hk.1 (by rw [hk.2]; decide)
  rw [mcell, hk.2] at hF
  refine g_zast C hd ha hF (vp_in_nI hn.1 hn.2) ?_
  rw [nI_clamp (Nat.lt_trans hn.1 hn.2)]
  have h9 := Mo.puta (n := n) (v := (vp_nar .boolean v)) hA hk.1 (by omega) hm hs
  have e9 : mcell D (seta x k n (vp_nar .boolean v)) k = .inl (D.1 103, mln k, .inl (upd (x.2.1 k) n (vp_nar .boolean v))) := by simp [mcell, hk.2, seta, va_up]
  rw [e9] at h9
  exact kk _ h9.1 h9.2
end MR
def rmL (n : Nat) : Room := { frames := n, locals := 60 * n, cells := 0, slots := 0 }
/-- a contract of the reference's method on the state x: it returns, with an answer and a state so related -/
def MC (l : Launch) (y : MethodName) (cc : ByteArray) (maxL : Nat) (ret : Option FieldType) (lev : Nat) (D : va_G) (z0 : Nat) (E : State → Prop) (am : Nat) (ad : Nat → Nat) (as' : List Value) (x : MS) (Rel : Option Value → MS → Prop) : Prop :=
  Ctr l y cc maxL ret (rmL lev) D z0 E (fun as h => as = .ref am :: as' ∧ Mo D am ad x h) (fun _ h o h' => ∃ r x', o = .returned r ∧ Mo D am ad x' h' ∧ Sm am ad h h' ∧ Rel r x')
abbrev MQp (D : va_G) (am : Nat) (ad : Nat → Nat) (h0 : hp) (Rel : Option Value → MS → Prop) : Outcome → hp → Prop := fun o h' => ∃ r x', o = .returned r ∧ Mo D am ad x' h' ∧ Sm am ad h0 h' ∧ Rel r x'
theorem mc_of {l : Launch} {y : MethodName} {cc : ByteArray} {maxL lev : Nat} {ret : Option FieldType} {D : va_G} {z0 : Nat} {E : State → Prop} {am : Nat} {ad : Nat → Nat} {as' : List Value} {x : MS} {Rel : Option Value → MS → Prop} (hSt : Stb z0 E) (hy : y.cls = "RealmDeskModel") (hsz : (lg_sl (.ref am :: as')).length ≤ maxL)
    (body : ∀ (h0 h : hp) (p : Program) (e : Env) (s : State) (m : MethodId) (args : Array Value) (below : List Frame) (meth : Method) (c : Code), Cx p (rmL lev) s m args meth c cc "RealmDeskModel" maxL ret D z0 E 0 0 → Mo D am ad x h → Sm am ad h0 h →
      G p l e (rmL lev) s m args below meth c maxL D z0 E (MQp D am ad h0 Rel) 0 0 0 (lv_args 0 (.ref am :: as')) [] h 0 0) : MC l y cc maxL ret lev D z0 E am ad as' x Rel := by
  refine ctr_of hSt (by rw [hy]; decide) (fun as h q => by rw [q.1]; exact hsz) ?_
  intro as h q p e s m args below meth c cx
  obtain ⟨rfl, hm⟩ := q
  rw [hy] at cx
  exact body h h p e s m args below meth c cx hm Sm.rf
section MK
variable {p : Program} {l : Launch} {e : Env} {R : Room} {s : State} {m : MethodId} {args : Array Value} {below : List Frame} {meth : Method} {c : Code} {cc : ByteArray} {own : String} {nL : Nat} {ret : Option FieldType} {D : va_G} {z0 : Nat} {E : State → Prop} {Qp : Outcome → hp → Prop} {mc ms pc : Nat} {lv lv' : List (Nat × Value)} {st rest : List Value} {h : hp} {rc rs : Nat}
variable {am : Nat} {ad : Nat → Nat} {x : MS} {h0 : hp} {Rel : Option Value → MS → Prop}
theorem m_iret (C : Cx p R s m args meth c cc own nL ret D z0 E mc ms) {v : Int32} {ty : FieldType} (hd : decode cc pc = .ok (.ireturn, 1)) (hr : ret = some ty) (hn : narrow ty (.int v) = .int v) (hm : Mo D am ad x h) (hs : Sm am ad h0 h) (hq : Rel (some (.int v)) x) : G p l e R s m args below meth c nL D z0 E (MQp D am ad h0 Rel) mc ms pc lv [.int v] h rc rs := g_iret C hd hr hn ⟨_, x, rfl, hm, hs, hq⟩
theorem m_lret (C : Cx p R s m args meth c cc own nL ret D z0 E mc ms) {v : Int64} (hd : decode cc pc = .ok (.lreturn, 1)) (hr : ret = some .long) (hm : Mo D am ad x h) (hs : Sm am ad h0 h) (hq : Rel (some (.long v)) x) : G p l e R s m args below meth c nL D z0 E (MQp D am ad h0 Rel) mc ms pc lv [.long v] h rc rs := g_lret C hd hr ⟨_, x, rfl, hm, hs, hq⟩
theorem m_vret (C : Cx p R s m args meth c cc own nL ret D z0 E mc ms) (hd : decode cc pc = .ok (.return_, 1)) (hr : ret = none) (hm : Mo D am ad x h) (hs : Sm am ad h0 h) (hq : Rel none x) : G p l e R s m args below meth c nL D z0 E (MQp D am ad h0 Rel) mc ms pc lv [] h rc rs := g_vret C hd hr ⟨_, x, rfl, hm, hs, hq⟩
theorem m_call (lev : Nat) (C : Cx p R s m args meth c cc "RealmDeskModel" nL ret D z0 E mc ms) {idx n maxL' lev' : Nat} {y : MethodName} {cc' : ByteArray} {ret' : Option FieldType} {As : List Value} {Rel' : Option Value → MS → Prop} (hc : MC l y cc' maxL' ret' lev' D z0 E am ad As x Rel') (hd : decode cc pc = .ok (.invokevirtual idx, 3)) (w1 : Cond.methodLink "RealmDeskModel" idx y ∈ lw_g) (w2 : Cond.instanceMethod y ∈ lw_g) (w3 : Cond.selects y.cls y y ∈ lw_g) (w5 : Cond.code y cc' maxL' ret' ∈ lw_g) (hy : y.cls = "RealmDeskModel") (hn : As.length = n ∧ (parseMethodDescriptor y.desc).map (fun d => d.parameters.length) = some n) (hR : R = rmL lev) (hlev : lev' + 1 ≤ lev ∧ maxL' ≤ 41) (hW : (rest.map fun v => v.category).sum ≤ 8) (hm : Mo D am ad x h) (hs : Sm am ad h0 h)
    (kr : ∀ (v : Option Value) (x' : MS) (h' : hp), Mo D am ad x' h' → Sm am ad h0 h' → Rel' v x' → G p l e R s m args below meth c nL D z0 E (MQp D am ad h0 Rel) mc ms (pc + 3) lv (v.toList ++ rest) h' rc rs) : G p l e R s m args below meth c nL D z0 E (MQp D am ad h0 Rel) mc ms pc lv (As.reverse ++ .ref am :: rest) h rc rs := by
  subst hR
  refine g_callV C (ci := 9) (T := T9) (N := 29) hc hd w1 w2 w3 (by rw [hy]; exact t_9) w5 ⟨by rw [hy]; decide, by rw [hy]; decide, hn.2⟩ hn.1 (by rw [hy]; rfl) hm.1 hm.2.1 ⟨rfl, hm⟩ ⟨hlev.1, by show 8 + (maxL' + 11) + 60 * lev' ≤ 60 * lev; omega⟩ hW ⟨Nat.zero_le _, Nat.zero_le _⟩ ?_ ?_
  · intro v h' hq
    obtain ⟨r, x', e, hm', hs', hrel⟩ := hq
    cases e
    exact kr v x' h' hm' (hs.tr hs') hrel
  · intro z h' hq
    obtain ⟨r, x', e, -⟩ := hq
    cases e
end MK
end
section
/-! What stands at each pc of the reference's methods. -/
theorem d_8_1_0 : decode prog_8_method_1_code 0 = .ok (.aload_n 0, 1) := by decide +kernel
theorem d_8_1_1 : decode prog_8_method_1_code 1 = .ok (.invokespecial 1, 3) := by decide +kernel
theorem d_8_1_4 : decode prog_8_method_1_code 4 = .ok (.aload_n 0, 1) := by decide +kernel
theorem d_8_1_5 : decode prog_8_method_1_code 5 = .ok (.bipush 30, 2) := by decide +kernel
theorem d_8_1_7 : decode prog_8_method_1_code 7 = .ok (.newarray .char, 2) := by decide +kernel
theorem d_8_1_9 : decode prog_8_method_1_code 9 = .ok (.putfield 7, 3) := by decide +kernel
theorem d_8_1_12 : decode prog_8_method_1_code 12 = .ok (.aload_n 0, 1) := by decide +kernel
theorem d_8_1_13 : decode prog_8_method_1_code 13 = .ok (.bipush 15, 2) := by decide +kernel
theorem d_8_1_15 : decode prog_8_method_1_code 15 = .ok (.newarray .int, 2) := by decide +kernel
theorem d_8_1_17 : decode prog_8_method_1_code 17 = .ok (.putfield 13, 3) := by decide +kernel
theorem d_8_1_20 : decode prog_8_method_1_code 20 = .ok (.aload_n 0, 1) := by decide +kernel
theorem d_8_1_21 : decode prog_8_method_1_code 21 = .ok (.bipush 15, 2) := by decide +kernel
theorem d_8_1_23 : decode prog_8_method_1_code 23 = .ok (.newarray .int, 2) := by decide +kernel
theorem d_8_1_25 : decode prog_8_method_1_code 25 = .ok (.putfield 17, 3) := by decide +kernel
theorem d_8_1_28 : decode prog_8_method_1_code 28 = .ok (.aload_n 0, 1) := by decide +kernel
theorem d_8_1_29 : decode prog_8_method_1_code 29 = .ok (.bipush 6, 2) := by decide +kernel
theorem d_8_1_31 : decode prog_8_method_1_code 31 = .ok (.newarray .int, 2) := by decide +kernel
theorem d_8_1_33 : decode prog_8_method_1_code 33 = .ok (.putfield 20, 3) := by decide +kernel
theorem d_8_1_36 : decode prog_8_method_1_code 36 = .ok (.aload_n 0, 1) := by decide +kernel
theorem d_8_1_37 : decode prog_8_method_1_code 37 = .ok (.bipush 6, 2) := by decide +kernel
theorem d_8_1_39 : decode prog_8_method_1_code 39 = .ok (.newarray .int, 2) := by decide +kernel
theorem d_8_1_41 : decode prog_8_method_1_code 41 = .ok (.putfield 23, 3) := by decide +kernel
theorem d_8_1_44 : decode prog_8_method_1_code 44 = .ok (.aload_n 0, 1) := by decide +kernel
theorem d_8_1_45 : decode prog_8_method_1_code 45 = .ok (.bipush 6, 2) := by decide +kernel
theorem d_8_1_47 : decode prog_8_method_1_code 47 = .ok (.newarray .int, 2) := by decide +kernel
theorem d_8_1_49 : decode prog_8_method_1_code 49 = .ok (.putfield 26, 3) := by decide +kernel
theorem d_8_1_52 : decode prog_8_method_1_code 52 = .ok (.aload_n 0, 1) := by decide +kernel
theorem d_8_1_53 : decode prog_8_method_1_code 53 = .ok (.bipush 36, 2) := by decide +kernel
theorem d_8_1_55 : decode prog_8_method_1_code 55 = .ok (.newarray .long, 2) := by decide +kernel
theorem d_8_1_57 : decode prog_8_method_1_code 57 = .ok (.putfield 29, 3) := by decide +kernel
theorem d_8_1_60 : decode prog_8_method_1_code 60 = .ok (.aload_n 0, 1) := by decide +kernel
theorem d_8_1_61 : decode prog_8_method_1_code 61 = .ok (.bipush 8, 2) := by decide +kernel
theorem d_8_1_63 : decode prog_8_method_1_code 63 = .ok (.newarray .int, 2) := by decide +kernel
theorem d_8_1_65 : decode prog_8_method_1_code 65 = .ok (.putfield 33, 3) := by decide +kernel
theorem d_8_1_68 : decode prog_8_method_1_code 68 = .ok (.aload_n 0, 1) := by decide +kernel
theorem d_8_1_69 : decode prog_8_method_1_code 69 = .ok (.bipush 8, 2) := by decide +kernel
theorem d_8_1_71 : decode prog_8_method_1_code 71 = .ok (.newarray .int, 2) := by decide +kernel
theorem d_8_1_73 : decode prog_8_method_1_code 73 = .ok (.putfield 36, 3) := by decide +kernel
theorem d_8_1_76 : decode prog_8_method_1_code 76 = .ok (.aload_n 0, 1) := by decide +kernel
theorem d_8_1_77 : decode prog_8_method_1_code 77 = .ok (.bipush 32, 2) := by decide +kernel
theorem d_8_1_79 : decode prog_8_method_1_code 79 = .ok (.newarray .int, 2) := by decide +kernel
theorem d_8_1_81 : decode prog_8_method_1_code 81 = .ok (.putfield 39, 3) := by decide +kernel
theorem d_8_1_84 : decode prog_8_method_1_code 84 = .ok (.aload_n 0, 1) := by decide +kernel
theorem d_8_1_85 : decode prog_8_method_1_code 85 = .ok (.bipush 8, 2) := by decide +kernel
theorem d_8_1_87 : decode prog_8_method_1_code 87 = .ok (.newarray .int, 2) := by decide +kernel
theorem d_8_1_89 : decode prog_8_method_1_code 89 = .ok (.putfield 42, 3) := by decide +kernel
theorem d_8_1_92 : decode prog_8_method_1_code 92 = .ok (.aload_n 0, 1) := by decide +kernel
theorem d_8_1_93 : decode prog_8_method_1_code 93 = .ok (.bipush 32, 2) := by decide +kernel
theorem d_8_1_95 : decode prog_8_method_1_code 95 = .ok (.newarray .int, 2) := by decide +kernel
theorem d_8_1_97 : decode prog_8_method_1_code 97 = .ok (.putfield 45, 3) := by decide +kernel
theorem d_8_1_100 : decode prog_8_method_1_code 100 = .ok (.aload_n 0, 1) := by decide +kernel
theorem d_8_1_101 : decode prog_8_method_1_code 101 = .ok (.bipush 8, 2) := by decide +kernel
theorem d_8_1_103 : decode prog_8_method_1_code 103 = .ok (.newarray .int, 2) := by decide +kernel
theorem d_8_1_105 : decode prog_8_method_1_code 105 = .ok (.putfield 48, 3) := by decide +kernel
theorem d_8_1_108 : decode prog_8_method_1_code 108 = .ok (.aload_n 0, 1) := by decide +kernel
theorem d_8_1_109 : decode prog_8_method_1_code 109 = .ok (.bipush 8, 2) := by decide +kernel
theorem d_8_1_111 : decode prog_8_method_1_code 111 = .ok (.newarray .int, 2) := by decide +kernel
theorem d_8_1_113 : decode prog_8_method_1_code 113 = .ok (.putfield 51, 3) := by decide +kernel
theorem d_8_1_116 : decode prog_8_method_1_code 116 = .ok (.aload_n 0, 1) := by decide +kernel
theorem d_8_1_117 : decode prog_8_method_1_code 117 = .ok (.sipush 288, 3) := by decide +kernel
theorem d_8_1_120 : decode prog_8_method_1_code 120 = .ok (.newarray .int, 2) := by decide +kernel
theorem d_8_1_122 : decode prog_8_method_1_code 122 = .ok (.putfield 54, 3) := by decide +kernel
theorem d_8_1_125 : decode prog_8_method_1_code 125 = .ok (.aload_n 0, 1) := by decide +kernel
theorem d_8_1_126 : decode prog_8_method_1_code 126 = .ok (.bipush 32, 2) := by decide +kernel
theorem d_8_1_128 : decode prog_8_method_1_code 128 = .ok (.newarray .long, 2) := by decide +kernel
theorem d_8_1_130 : decode prog_8_method_1_code 130 = .ok (.putfield 57, 3) := by decide +kernel
theorem d_8_1_133 : decode prog_8_method_1_code 133 = .ok (.aload_n 0, 1) := by decide +kernel
theorem d_8_1_134 : decode prog_8_method_1_code 134 = .ok (.sipush 288, 3) := by decide +kernel
theorem d_8_1_137 : decode prog_8_method_1_code 137 = .ok (.newarray .long, 2) := by decide +kernel
theorem d_8_1_139 : decode prog_8_method_1_code 139 = .ok (.putfield 60, 3) := by decide +kernel
theorem d_8_1_142 : decode prog_8_method_1_code 142 = .ok (.aload_n 0, 1) := by decide +kernel
theorem d_8_1_143 : decode prog_8_method_1_code 143 = .ok (.bipush 8, 2) := by decide +kernel
theorem d_8_1_145 : decode prog_8_method_1_code 145 = .ok (.newarray .boolean, 2) := by decide +kernel
theorem d_8_1_147 : decode prog_8_method_1_code 147 = .ok (.putfield 63, 3) := by decide +kernel
theorem d_8_1_150 : decode prog_8_method_1_code 150 = .ok (.aload_n 0, 1) := by decide +kernel
theorem d_8_1_151 : decode prog_8_method_1_code 151 = .ok (.bipush 8, 2) := by decide +kernel
theorem d_8_1_153 : decode prog_8_method_1_code 153 = .ok (.newarray .boolean, 2) := by decide +kernel
theorem d_8_1_155 : decode prog_8_method_1_code 155 = .ok (.putfield 67, 3) := by decide +kernel
theorem d_8_1_158 : decode prog_8_method_1_code 158 = .ok (.aload_n 0, 1) := by decide +kernel
theorem d_8_1_159 : decode prog_8_method_1_code 159 = .ok (.bipush 8, 2) := by decide +kernel
theorem d_8_1_161 : decode prog_8_method_1_code 161 = .ok (.newarray .int, 2) := by decide +kernel
theorem d_8_1_163 : decode prog_8_method_1_code 163 = .ok (.putfield 70, 3) := by decide +kernel
theorem d_8_1_166 : decode prog_8_method_1_code 166 = .ok (.aload_n 0, 1) := by decide +kernel
theorem d_8_1_167 : decode prog_8_method_1_code 167 = .ok (.bipush 8, 2) := by decide +kernel
theorem d_8_1_169 : decode prog_8_method_1_code 169 = .ok (.newarray .int, 2) := by decide +kernel
theorem d_8_1_171 : decode prog_8_method_1_code 171 = .ok (.putfield 73, 3) := by decide +kernel
theorem d_8_1_174 : decode prog_8_method_1_code 174 = .ok (.aload_n 0, 1) := by decide +kernel
theorem d_8_1_175 : decode prog_8_method_1_code 175 = .ok (.bipush 20, 2) := by decide +kernel
theorem d_8_1_177 : decode prog_8_method_1_code 177 = .ok (.newarray .int, 2) := by decide +kernel
theorem d_8_1_179 : decode prog_8_method_1_code 179 = .ok (.putfield 76, 3) := by decide +kernel
theorem d_8_1_182 : decode prog_8_method_1_code 182 = .ok (.return_, 1) := by decide +kernel
theorem d_8_4_0 : decode prog_8_method_4_code 0 = .ok (.aload_n 0, 1) := by decide +kernel
theorem d_8_4_1 : decode prog_8_method_4_code 1 = .ok (.iconst 0, 1) := by decide +kernel
theorem d_8_4_2 : decode prog_8_method_4_code 2 = .ok (.putfield 79, 3) := by decide +kernel
theorem d_8_4_5 : decode prog_8_method_4_code 5 = .ok (.iload_n 1, 1) := by decide +kernel
theorem d_8_4_6 : decode prog_8_method_4_code 6 = .ok (.bipush 32, 2) := by decide +kernel
theorem d_8_4_8 : decode prog_8_method_4_code 8 = .ok (.if_icmp .lt 18, 3) := by decide +kernel
theorem d_8_4_11 : decode prog_8_method_4_code 11 = .ok (.iload_n 1, 1) := by decide +kernel
theorem d_8_4_12 : decode prog_8_method_4_code 12 = .ok (.bipush 126, 2) := by decide +kernel
theorem d_8_4_14 : decode prog_8_method_4_code 14 = .ok (.if_icmp .gt 12, 3) := by decide +kernel
theorem d_8_4_17 : decode prog_8_method_4_code 17 = .ok (.aload_n 0, 1) := by decide +kernel
theorem d_8_4_18 : decode prog_8_method_4_code 18 = .ok (.getfield 83, 3) := by decide +kernel
theorem d_8_4_21 : decode prog_8_method_4_code 21 = .ok (.bipush 30, 2) := by decide +kernel
theorem d_8_4_23 : decode prog_8_method_4_code 23 = .ok (.if_icmp .lt 5, 3) := by decide +kernel
theorem d_8_4_26 : decode prog_8_method_4_code 26 = .ok (.iconst 0, 1) := by decide +kernel
theorem d_8_4_27 : decode prog_8_method_4_code 27 = .ok (.ireturn, 1) := by decide +kernel
theorem d_8_4_28 : decode prog_8_method_4_code 28 = .ok (.aload_n 0, 1) := by decide +kernel
theorem d_8_4_29 : decode prog_8_method_4_code 29 = .ok (.getfield 7, 3) := by decide +kernel
theorem d_8_4_32 : decode prog_8_method_4_code 32 = .ok (.aload_n 0, 1) := by decide +kernel
theorem d_8_4_33 : decode prog_8_method_4_code 33 = .ok (.getfield 83, 3) := by decide +kernel
theorem d_8_4_36 : decode prog_8_method_4_code 36 = .ok (.iload_n 1, 1) := by decide +kernel
theorem d_8_4_37 : decode prog_8_method_4_code 37 = .ok (.castore, 1) := by decide +kernel
theorem d_8_4_38 : decode prog_8_method_4_code 38 = .ok (.aload_n 0, 1) := by decide +kernel
theorem d_8_4_39 : decode prog_8_method_4_code 39 = .ok (.dup, 1) := by decide +kernel
theorem d_8_4_40 : decode prog_8_method_4_code 40 = .ok (.getfield 83, 3) := by decide +kernel
theorem d_8_4_43 : decode prog_8_method_4_code 43 = .ok (.iconst 1, 1) := by decide +kernel
theorem d_8_4_44 : decode prog_8_method_4_code 44 = .ok (.iadd, 1) := by decide +kernel
theorem d_8_4_45 : decode prog_8_method_4_code 45 = .ok (.putfield 83, 3) := by decide +kernel
theorem d_8_4_48 : decode prog_8_method_4_code 48 = .ok (.iconst 1, 1) := by decide +kernel
theorem d_8_4_49 : decode prog_8_method_4_code 49 = .ok (.ireturn, 1) := by decide +kernel
theorem d_8_13_0 : decode prog_8_method_13_code 0 = .ok (.aload_n 0, 1) := by decide +kernel
theorem d_8_13_1 : decode prog_8_method_13_code 1 = .ok (.iconst 0, 1) := by decide +kernel
theorem d_8_13_2 : decode prog_8_method_13_code 2 = .ok (.putfield 79, 3) := by decide +kernel
theorem d_8_13_5 : decode prog_8_method_13_code 5 = .ok (.aload_n 0, 1) := by decide +kernel
theorem d_8_13_6 : decode prog_8_method_13_code 6 = .ok (.invokevirtual 101, 3) := by decide +kernel
theorem d_8_13_9 : decode prog_8_method_13_code 9 = .ok (.aload_n 0, 1) := by decide +kernel
theorem d_8_13_10 : decode prog_8_method_13_code 10 = .ok (.getfield 86, 3) := by decide +kernel
theorem d_8_13_13 : decode prog_8_method_13_code 13 = .ok (.ifCond .ne 5, 3) := by decide +kernel
theorem d_8_13_16 : decode prog_8_method_13_code 16 = .ok (.iconst 0, 1) := by decide +kernel
theorem d_8_13_17 : decode prog_8_method_13_code 17 = .ok (.ireturn, 1) := by decide +kernel
theorem d_8_13_18 : decode prog_8_method_13_code 18 = .ok (.iconst (-1), 1) := by decide +kernel
theorem d_8_13_19 : decode prog_8_method_13_code 19 = .ok (.istore_n 1, 1) := by decide +kernel
theorem d_8_13_20 : decode prog_8_method_13_code 20 = .ok (.aload_n 0, 1) := by decide +kernel
theorem d_8_13_21 : decode prog_8_method_13_code 21 = .ok (.iconst 0, 1) := by decide +kernel
theorem d_8_13_22 : decode prog_8_method_13_code 22 = .ok (.bipush 97, 2) := by decide +kernel
theorem d_8_13_24 : decode prog_8_method_13_code 24 = .ok (.bipush 114, 2) := by decide +kernel
theorem d_8_13_26 : decode prog_8_method_13_code 26 = .ok (.bipush 99, 2) := by decide +kernel
theorem d_8_13_28 : decode prog_8_method_13_code 28 = .ok (.bipush 104, 2) := by decide +kernel
theorem d_8_13_30 : decode prog_8_method_13_code 30 = .ok (.invokevirtual 104, 3) := by decide +kernel
theorem d_8_13_33 : decode prog_8_method_13_code 33 = .ok (.ifCond .eq 51, 3) := by decide +kernel
theorem d_8_13_36 : decode prog_8_method_13_code 36 = .ok (.aload_n 0, 1) := by decide +kernel
theorem d_8_13_37 : decode prog_8_method_13_code 37 = .ok (.iconst 0, 1) := by decide +kernel
theorem d_8_13_38 : decode prog_8_method_13_code 38 = .ok (.bipush 7, 2) := by decide +kernel
theorem d_8_13_40 : decode prog_8_method_13_code 40 = .ok (.invokevirtual 108, 3) := by decide +kernel
theorem d_8_13_43 : decode prog_8_method_13_code 43 = .ok (.ifCond .eq 41, 3) := by decide +kernel
theorem d_8_13_46 : decode prog_8_method_13_code 46 = .ok (.aload_n 0, 1) := by decide +kernel
theorem d_8_13_47 : decode prog_8_method_13_code 47 = .ok (.getfield 7, 3) := by decide +kernel
theorem d_8_13_50 : decode prog_8_method_13_code 50 = .ok (.aload_n 0, 1) := by decide +kernel
theorem d_8_13_51 : decode prog_8_method_13_code 51 = .ok (.getfield 13, 3) := by decide +kernel
theorem d_8_13_54 : decode prog_8_method_13_code 54 = .ok (.iconst 0, 1) := by decide +kernel
theorem d_8_13_55 : decode prog_8_method_13_code 55 = .ok (.iaload, 1) := by decide +kernel
theorem d_8_13_56 : decode prog_8_method_13_code 56 = .ok (.iconst 4, 1) := by decide +kernel
theorem d_8_13_57 : decode prog_8_method_13_code 57 = .ok (.iadd, 1) := by decide +kernel
theorem d_8_13_58 : decode prog_8_method_13_code 58 = .ok (.caload, 1) := by decide +kernel
theorem d_8_13_59 : decode prog_8_method_13_code 59 = .ok (.bipush 105, 2) := by decide +kernel
theorem d_8_13_61 : decode prog_8_method_13_code 61 = .ok (.if_icmp .ne 23, 3) := by decide +kernel
theorem d_8_13_64 : decode prog_8_method_13_code 64 = .ok (.aload_n 0, 1) := by decide +kernel
theorem d_8_13_65 : decode prog_8_method_13_code 65 = .ok (.iconst 0, 1) := by decide +kernel
theorem d_8_13_66 : decode prog_8_method_13_code 66 = .ok (.bipush 118, 2) := by decide +kernel
theorem d_8_13_68 : decode prog_8_method_13_code 68 = .ok (.bipush 101, 2) := by decide +kernel
theorem d_8_13_70 : decode prog_8_method_13_code 70 = .ok (.invokevirtual 112, 3) := by decide +kernel
theorem d_8_13_73 : decode prog_8_method_13_code 73 = .ok (.ifCond .eq 11, 3) := by decide +kernel
theorem d_8_13_76 : decode prog_8_method_13_code 76 = .ok (.aload_n 0, 1) := by decide +kernel
theorem d_8_13_77 : decode prog_8_method_13_code 77 = .ok (.invokevirtual 116, 3) := by decide +kernel
theorem d_8_13_80 : decode prog_8_method_13_code 80 = .ok (.istore_n 1, 1) := by decide +kernel
theorem d_8_13_81 : decode prog_8_method_13_code 81 = .ok (.goto 311, 3) := by decide +kernel
theorem d_8_13_84 : decode prog_8_method_13_code 84 = .ok (.aload_n 0, 1) := by decide +kernel
theorem d_8_13_85 : decode prog_8_method_13_code 85 = .ok (.iconst 0, 1) := by decide +kernel
theorem d_8_13_86 : decode prog_8_method_13_code 86 = .ok (.bipush 110, 2) := by decide +kernel
theorem d_8_13_88 : decode prog_8_method_13_code 88 = .ok (.bipush 97, 2) := by decide +kernel
theorem d_8_13_90 : decode prog_8_method_13_code 90 = .ok (.bipush 109, 2) := by decide +kernel
theorem d_8_13_92 : decode prog_8_method_13_code 92 = .ok (.bipush 101, 2) := by decide +kernel
theorem d_8_13_94 : decode prog_8_method_13_code 94 = .ok (.invokevirtual 104, 3) := by decide +kernel
theorem d_8_13_97 : decode prog_8_method_13_code 97 = .ok (.ifCond .eq 20, 3) := by decide +kernel
theorem d_8_13_100 : decode prog_8_method_13_code 100 = .ok (.aload_n 0, 1) := by decide +kernel
theorem d_8_13_101 : decode prog_8_method_13_code 101 = .ok (.iconst 0, 1) := by decide +kernel
theorem d_8_13_102 : decode prog_8_method_13_code 102 = .ok (.iconst 4, 1) := by decide +kernel
theorem d_8_13_103 : decode prog_8_method_13_code 103 = .ok (.invokevirtual 108, 3) := by decide +kernel
theorem d_8_13_106 : decode prog_8_method_13_code 106 = .ok (.ifCond .eq 11, 3) := by decide +kernel
theorem d_8_13_109 : decode prog_8_method_13_code 109 = .ok (.aload_n 0, 1) := by decide +kernel
theorem d_8_13_110 : decode prog_8_method_13_code 110 = .ok (.invokevirtual 120, 3) := by decide +kernel
theorem d_8_13_113 : decode prog_8_method_13_code 113 = .ok (.istore_n 1, 1) := by decide +kernel
theorem d_8_13_114 : decode prog_8_method_13_code 114 = .ok (.goto 278, 3) := by decide +kernel
theorem d_8_13_117 : decode prog_8_method_13_code 117 = .ok (.aload_n 0, 1) := by decide +kernel
theorem d_8_13_118 : decode prog_8_method_13_code 118 = .ok (.iconst 0, 1) := by decide +kernel
theorem d_8_13_119 : decode prog_8_method_13_code 119 = .ok (.bipush 114, 2) := by decide +kernel
theorem d_8_13_121 : decode prog_8_method_13_code 121 = .ok (.bipush 101, 2) := by decide +kernel
theorem d_8_13_123 : decode prog_8_method_13_code 123 = .ok (.bipush 97, 2) := by decide +kernel
theorem d_8_13_125 : decode prog_8_method_13_code 125 = .ok (.bipush 108, 2) := by decide +kernel
theorem d_8_13_127 : decode prog_8_method_13_code 127 = .ok (.invokevirtual 104, 3) := by decide +kernel
theorem d_8_13_130 : decode prog_8_method_13_code 130 = .ok (.ifCond .eq 38, 3) := by decide +kernel
theorem d_8_13_133 : decode prog_8_method_13_code 133 = .ok (.aload_n 0, 1) := by decide +kernel
theorem d_8_13_134 : decode prog_8_method_13_code 134 = .ok (.iconst 0, 1) := by decide +kernel
theorem d_8_13_135 : decode prog_8_method_13_code 135 = .ok (.iconst 5, 1) := by decide +kernel
theorem d_8_13_136 : decode prog_8_method_13_code 136 = .ok (.invokevirtual 108, 3) := by decide +kernel
theorem d_8_13_139 : decode prog_8_method_13_code 139 = .ok (.ifCond .eq 29, 3) := by decide +kernel
theorem d_8_13_142 : decode prog_8_method_13_code 142 = .ok (.aload_n 0, 1) := by decide +kernel
theorem d_8_13_143 : decode prog_8_method_13_code 143 = .ok (.getfield 7, 3) := by decide +kernel
theorem d_8_13_146 : decode prog_8_method_13_code 146 = .ok (.aload_n 0, 1) := by decide +kernel
theorem d_8_13_147 : decode prog_8_method_13_code 147 = .ok (.getfield 17, 3) := by decide +kernel
theorem d_8_13_150 : decode prog_8_method_13_code 150 = .ok (.iconst 0, 1) := by decide +kernel
theorem d_8_13_151 : decode prog_8_method_13_code 151 = .ok (.iaload, 1) := by decide +kernel
theorem d_8_13_152 : decode prog_8_method_13_code 152 = .ok (.iconst 1, 1) := by decide +kernel
theorem d_8_13_153 : decode prog_8_method_13_code 153 = .ok (.isub, 1) := by decide +kernel
theorem d_8_13_154 : decode prog_8_method_13_code 154 = .ok (.caload, 1) := by decide +kernel
theorem d_8_13_155 : decode prog_8_method_13_code 155 = .ok (.bipush 109, 2) := by decide +kernel
theorem d_8_13_157 : decode prog_8_method_13_code 157 = .ok (.if_icmp .ne 11, 3) := by decide +kernel
theorem d_8_13_160 : decode prog_8_method_13_code 160 = .ok (.aload_n 0, 1) := by decide +kernel
theorem d_8_13_161 : decode prog_8_method_13_code 161 = .ok (.invokevirtual 123, 3) := by decide +kernel
theorem d_8_13_164 : decode prog_8_method_13_code 164 = .ok (.istore_n 1, 1) := by decide +kernel
theorem d_8_13_165 : decode prog_8_method_13_code 165 = .ok (.goto 227, 3) := by decide +kernel
theorem d_8_13_168 : decode prog_8_method_13_code 168 = .ok (.aload_n 0, 1) := by decide +kernel
theorem d_8_13_169 : decode prog_8_method_13_code 169 = .ok (.iconst 0, 1) := by decide +kernel
theorem d_8_13_170 : decode prog_8_method_13_code 170 = .ok (.bipush 108, 2) := by decide +kernel
theorem d_8_13_172 : decode prog_8_method_13_code 172 = .ok (.bipush 111, 2) := by decide +kernel
theorem d_8_13_174 : decode prog_8_method_13_code 174 = .ok (.bipush 97, 2) := by decide +kernel
theorem d_8_13_176 : decode prog_8_method_13_code 176 = .ok (.bipush 100, 2) := by decide +kernel
theorem d_8_13_178 : decode prog_8_method_13_code 178 = .ok (.invokevirtual 104, 3) := by decide +kernel
theorem d_8_13_181 : decode prog_8_method_13_code 181 = .ok (.ifCond .eq 20, 3) := by decide +kernel
theorem d_8_13_184 : decode prog_8_method_13_code 184 = .ok (.aload_n 0, 1) := by decide +kernel
theorem d_8_13_185 : decode prog_8_method_13_code 185 = .ok (.iconst 0, 1) := by decide +kernel
theorem d_8_13_186 : decode prog_8_method_13_code 186 = .ok (.iconst 4, 1) := by decide +kernel
theorem d_8_13_187 : decode prog_8_method_13_code 187 = .ok (.invokevirtual 108, 3) := by decide +kernel
theorem d_8_13_190 : decode prog_8_method_13_code 190 = .ok (.ifCond .eq 11, 3) := by decide +kernel
theorem d_8_13_193 : decode prog_8_method_13_code 193 = .ok (.aload_n 0, 1) := by decide +kernel
theorem d_8_13_194 : decode prog_8_method_13_code 194 = .ok (.invokevirtual 126, 3) := by decide +kernel
theorem d_8_13_197 : decode prog_8_method_13_code 197 = .ok (.istore_n 1, 1) := by decide +kernel
theorem d_8_13_198 : decode prog_8_method_13_code 198 = .ok (.goto 194, 3) := by decide +kernel
theorem d_8_13_201 : decode prog_8_method_13_code 201 = .ok (.aload_n 0, 1) := by decide +kernel
theorem d_8_13_202 : decode prog_8_method_13_code 202 = .ok (.iconst 0, 1) := by decide +kernel
theorem d_8_13_203 : decode prog_8_method_13_code 203 = .ok (.bipush 105, 2) := by decide +kernel
theorem d_8_13_205 : decode prog_8_method_13_code 205 = .ok (.bipush 109, 2) := by decide +kernel
theorem d_8_13_207 : decode prog_8_method_13_code 207 = .ok (.bipush 112, 2) := by decide +kernel
theorem d_8_13_209 : decode prog_8_method_13_code 209 = .ok (.bipush 111, 2) := by decide +kernel
theorem d_8_13_211 : decode prog_8_method_13_code 211 = .ok (.invokevirtual 104, 3) := by decide +kernel
theorem d_8_13_214 : decode prog_8_method_13_code 214 = .ok (.ifCond .eq 33, 3) := by decide +kernel
theorem d_8_13_217 : decode prog_8_method_13_code 217 = .ok (.aload_n 0, 1) := by decide +kernel
theorem d_8_13_218 : decode prog_8_method_13_code 218 = .ok (.iconst 0, 1) := by decide +kernel
theorem d_8_13_219 : decode prog_8_method_13_code 219 = .ok (.bipush 6, 2) := by decide +kernel
theorem d_8_13_221 : decode prog_8_method_13_code 221 = .ok (.invokevirtual 108, 3) := by decide +kernel
theorem d_8_13_224 : decode prog_8_method_13_code 224 = .ok (.ifCond .eq 23, 3) := by decide +kernel
theorem d_8_13_227 : decode prog_8_method_13_code 227 = .ok (.aload_n 0, 1) := by decide +kernel
theorem d_8_13_228 : decode prog_8_method_13_code 228 = .ok (.iconst 0, 1) := by decide +kernel
theorem d_8_13_229 : decode prog_8_method_13_code 229 = .ok (.bipush 114, 2) := by decide +kernel
theorem d_8_13_231 : decode prog_8_method_13_code 231 = .ok (.bipush 116, 2) := by decide +kernel
theorem d_8_13_233 : decode prog_8_method_13_code 233 = .ok (.invokevirtual 112, 3) := by decide +kernel
theorem d_8_13_236 : decode prog_8_method_13_code 236 = .ok (.ifCond .eq 11, 3) := by decide +kernel
theorem d_8_13_239 : decode prog_8_method_13_code 239 = .ok (.aload_n 0, 1) := by decide +kernel
theorem d_8_13_240 : decode prog_8_method_13_code 240 = .ok (.invokevirtual 128, 3) := by decide +kernel
theorem d_8_13_243 : decode prog_8_method_13_code 243 = .ok (.istore_n 1, 1) := by decide +kernel
theorem d_8_13_244 : decode prog_8_method_13_code 244 = .ok (.goto 148, 3) := by decide +kernel
theorem d_8_13_247 : decode prog_8_method_13_code 247 = .ok (.aload_n 0, 1) := by decide +kernel
theorem d_8_13_248 : decode prog_8_method_13_code 248 = .ok (.iconst 0, 1) := by decide +kernel
theorem d_8_13_249 : decode prog_8_method_13_code 249 = .ok (.bipush 112, 2) := by decide +kernel
theorem d_8_13_251 : decode prog_8_method_13_code 251 = .ok (.bipush 97, 2) := by decide +kernel
theorem d_8_13_253 : decode prog_8_method_13_code 253 = .ok (.bipush 114, 2) := by decide +kernel
theorem d_8_13_255 : decode prog_8_method_13_code 255 = .ok (.bipush 101, 2) := by decide +kernel
theorem d_8_13_257 : decode prog_8_method_13_code 257 = .ok (.invokevirtual 104, 3) := by decide +kernel
theorem d_8_13_260 : decode prog_8_method_13_code 260 = .ok (.ifCond .eq 33, 3) := by decide +kernel
theorem d_8_13_263 : decode prog_8_method_13_code 263 = .ok (.aload_n 0, 1) := by decide +kernel
theorem d_8_13_264 : decode prog_8_method_13_code 264 = .ok (.iconst 0, 1) := by decide +kernel
theorem d_8_13_265 : decode prog_8_method_13_code 265 = .ok (.bipush 6, 2) := by decide +kernel
theorem d_8_13_267 : decode prog_8_method_13_code 267 = .ok (.invokevirtual 108, 3) := by decide +kernel
theorem d_8_13_270 : decode prog_8_method_13_code 270 = .ok (.ifCond .eq 23, 3) := by decide +kernel
theorem d_8_13_273 : decode prog_8_method_13_code 273 = .ok (.aload_n 0, 1) := by decide +kernel
theorem d_8_13_274 : decode prog_8_method_13_code 274 = .ok (.iconst 0, 1) := by decide +kernel
theorem d_8_13_275 : decode prog_8_method_13_code 275 = .ok (.bipush 110, 2) := by decide +kernel
theorem d_8_13_277 : decode prog_8_method_13_code 277 = .ok (.bipush 116, 2) := by decide +kernel
theorem d_8_13_279 : decode prog_8_method_13_code 279 = .ok (.invokevirtual 112, 3) := by decide +kernel
theorem d_8_13_282 : decode prog_8_method_13_code 282 = .ok (.ifCond .eq 11, 3) := by decide +kernel
theorem d_8_13_285 : decode prog_8_method_13_code 285 = .ok (.aload_n 0, 1) := by decide +kernel
theorem d_8_13_286 : decode prog_8_method_13_code 286 = .ok (.invokevirtual 131, 3) := by decide +kernel
theorem d_8_13_289 : decode prog_8_method_13_code 289 = .ok (.istore_n 1, 1) := by decide +kernel
theorem d_8_13_290 : decode prog_8_method_13_code 290 = .ok (.goto 102, 3) := by decide +kernel
theorem d_8_13_293 : decode prog_8_method_13_code 293 = .ok (.aload_n 0, 1) := by decide +kernel
theorem d_8_13_294 : decode prog_8_method_13_code 294 = .ok (.iconst 0, 1) := by decide +kernel
theorem d_8_13_295 : decode prog_8_method_13_code 295 = .ok (.bipush 115, 2) := by decide +kernel
theorem d_8_13_297 : decode prog_8_method_13_code 297 = .ok (.bipush 101, 2) := by decide +kernel
theorem d_8_13_299 : decode prog_8_method_13_code 299 = .ok (.bipush 108, 2) := by decide +kernel
theorem d_8_13_301 : decode prog_8_method_13_code 301 = .ok (.bipush 102, 2) := by decide +kernel
theorem d_8_13_303 : decode prog_8_method_13_code 303 = .ok (.invokevirtual 104, 3) := by decide +kernel
theorem d_8_13_306 : decode prog_8_method_13_code 306 = .ok (.ifCond .eq 29, 3) := by decide +kernel
theorem d_8_13_309 : decode prog_8_method_13_code 309 = .ok (.aload_n 0, 1) := by decide +kernel
theorem d_8_13_310 : decode prog_8_method_13_code 310 = .ok (.iconst 0, 1) := by decide +kernel
theorem d_8_13_311 : decode prog_8_method_13_code 311 = .ok (.iconst 4, 1) := by decide +kernel
theorem d_8_13_312 : decode prog_8_method_13_code 312 = .ok (.invokevirtual 108, 3) := by decide +kernel
theorem d_8_13_315 : decode prog_8_method_13_code 315 = .ok (.ifCond .eq 20, 3) := by decide +kernel
theorem d_8_13_318 : decode prog_8_method_13_code 318 = .ok (.aload_n 0, 1) := by decide +kernel
theorem d_8_13_319 : decode prog_8_method_13_code 319 = .ok (.getfield 86, 3) := by decide +kernel
theorem d_8_13_322 : decode prog_8_method_13_code 322 = .ok (.iconst 1, 1) := by decide +kernel
theorem d_8_13_323 : decode prog_8_method_13_code 323 = .ok (.if_icmp .ne 12, 3) := by decide +kernel
theorem d_8_13_326 : decode prog_8_method_13_code 326 = .ok (.aload_n 0, 1) := by decide +kernel
theorem d_8_13_327 : decode prog_8_method_13_code 327 = .ok (.iconst 0, 1) := by decide +kernel
theorem d_8_13_328 : decode prog_8_method_13_code 328 = .ok (.invokevirtual 134, 3) := by decide +kernel
theorem d_8_13_331 : decode prog_8_method_13_code 331 = .ok (.istore_n 1, 1) := by decide +kernel
theorem d_8_13_332 : decode prog_8_method_13_code 332 = .ok (.goto 60, 3) := by decide +kernel
theorem d_8_13_335 : decode prog_8_method_13_code 335 = .ok (.aload_n 0, 1) := by decide +kernel
theorem d_8_13_336 : decode prog_8_method_13_code 336 = .ok (.iconst 0, 1) := by decide +kernel
theorem d_8_13_337 : decode prog_8_method_13_code 337 = .ok (.bipush 102, 2) := by decide +kernel
theorem d_8_13_339 : decode prog_8_method_13_code 339 = .ok (.bipush 105, 2) := by decide +kernel
theorem d_8_13_341 : decode prog_8_method_13_code 341 = .ok (.bipush 114, 2) := by decide +kernel
theorem d_8_13_343 : decode prog_8_method_13_code 343 = .ok (.bipush 115, 2) := by decide +kernel
theorem d_8_13_345 : decode prog_8_method_13_code 345 = .ok (.invokevirtual 104, 3) := by decide +kernel
theorem d_8_13_348 : decode prog_8_method_13_code 348 = .ok (.ifCond .eq 44, 3) := by decide +kernel
theorem d_8_13_351 : decode prog_8_method_13_code 351 = .ok (.aload_n 0, 1) := by decide +kernel
theorem d_8_13_352 : decode prog_8_method_13_code 352 = .ok (.iconst 0, 1) := by decide +kernel
theorem d_8_13_353 : decode prog_8_method_13_code 353 = .ok (.iconst 5, 1) := by decide +kernel
theorem d_8_13_354 : decode prog_8_method_13_code 354 = .ok (.invokevirtual 108, 3) := by decide +kernel
theorem d_8_13_357 : decode prog_8_method_13_code 357 = .ok (.ifCond .eq 35, 3) := by decide +kernel
theorem d_8_13_360 : decode prog_8_method_13_code 360 = .ok (.aload_n 0, 1) := by decide +kernel
theorem d_8_13_361 : decode prog_8_method_13_code 361 = .ok (.getfield 7, 3) := by decide +kernel
theorem d_8_13_364 : decode prog_8_method_13_code 364 = .ok (.aload_n 0, 1) := by decide +kernel
theorem d_8_13_365 : decode prog_8_method_13_code 365 = .ok (.getfield 17, 3) := by decide +kernel
theorem d_8_13_368 : decode prog_8_method_13_code 368 = .ok (.iconst 0, 1) := by decide +kernel
theorem d_8_13_369 : decode prog_8_method_13_code 369 = .ok (.iaload, 1) := by decide +kernel
theorem d_8_13_370 : decode prog_8_method_13_code 370 = .ok (.iconst 1, 1) := by decide +kernel
theorem d_8_13_371 : decode prog_8_method_13_code 371 = .ok (.isub, 1) := by decide +kernel
theorem d_8_13_372 : decode prog_8_method_13_code 372 = .ok (.caload, 1) := by decide +kernel
theorem d_8_13_373 : decode prog_8_method_13_code 373 = .ok (.bipush 116, 2) := by decide +kernel
theorem d_8_13_375 : decode prog_8_method_13_code 375 = .ok (.if_icmp .ne 17, 3) := by decide +kernel
theorem d_8_13_378 : decode prog_8_method_13_code 378 = .ok (.aload_n 0, 1) := by decide +kernel
theorem d_8_13_379 : decode prog_8_method_13_code 379 = .ok (.getfield 86, 3) := by decide +kernel
theorem d_8_13_382 : decode prog_8_method_13_code 382 = .ok (.iconst 1, 1) := by decide +kernel
theorem d_8_13_383 : decode prog_8_method_13_code 383 = .ok (.if_icmp .ne 9, 3) := by decide +kernel
theorem d_8_13_386 : decode prog_8_method_13_code 386 = .ok (.aload_n 0, 1) := by decide +kernel
theorem d_8_13_387 : decode prog_8_method_13_code 387 = .ok (.iconst 1, 1) := by decide +kernel
theorem d_8_13_388 : decode prog_8_method_13_code 388 = .ok (.invokevirtual 134, 3) := by decide +kernel
theorem d_8_13_391 : decode prog_8_method_13_code 391 = .ok (.istore_n 1, 1) := by decide +kernel
theorem d_8_13_392 : decode prog_8_method_13_code 392 = .ok (.iload_n 1, 1) := by decide +kernel
theorem d_8_13_393 : decode prog_8_method_13_code 393 = .ok (.ifCond .ge 19, 3) := by decide +kernel
theorem d_8_13_396 : decode prog_8_method_13_code 396 = .ok (.aload_n 0, 1) := by decide +kernel
theorem d_8_13_397 : decode prog_8_method_13_code 397 = .ok (.iload_n 1, 1) := by decide +kernel
theorem d_8_13_398 : decode prog_8_method_13_code 398 = .ok (.bipush (-2), 2) := by decide +kernel
theorem d_8_13_400 : decode prog_8_method_13_code 400 = .ok (.if_icmp .ne 7, 3) := by decide +kernel
theorem d_8_13_403 : decode prog_8_method_13_code 403 = .ok (.iconst 2, 1) := by decide +kernel
theorem d_8_13_404 : decode prog_8_method_13_code 404 = .ok (.goto 4, 3) := by decide +kernel
theorem d_8_13_407 : decode prog_8_method_13_code 407 = .ok (.iconst 1, 1) := by decide +kernel
theorem d_8_13_408 : decode prog_8_method_13_code 408 = .ok (.invokevirtual 138, 3) := by decide +kernel
theorem d_8_13_411 : decode prog_8_method_13_code 411 = .ok (.ireturn, 1) := by decide +kernel
theorem d_8_13_412 : decode prog_8_method_13_code 412 = .ok (.iload_n 1, 1) := by decide +kernel
theorem d_8_13_413 : decode prog_8_method_13_code 413 = .ok (.ireturn, 1) := by decide +kernel
theorem d_8_5_0 : decode prog_8_method_5_code 0 = .ok (.aload_n 0, 1) := by decide +kernel
theorem d_8_5_1 : decode prog_8_method_5_code 1 = .ok (.iconst 0, 1) := by decide +kernel
theorem d_8_5_2 : decode prog_8_method_5_code 2 = .ok (.putfield 86, 3) := by decide +kernel
theorem d_8_5_5 : decode prog_8_method_5_code 5 = .ok (.iconst 0, 1) := by decide +kernel
theorem d_8_5_6 : decode prog_8_method_5_code 6 = .ok (.istore_n 1, 1) := by decide +kernel
theorem d_8_5_7 : decode prog_8_method_5_code 7 = .ok (.iload_n 1, 1) := by decide +kernel
theorem d_8_5_8 : decode prog_8_method_5_code 8 = .ok (.aload_n 0, 1) := by decide +kernel
theorem d_8_5_9 : decode prog_8_method_5_code 9 = .ok (.getfield 83, 3) := by decide +kernel
theorem d_8_5_12 : decode prog_8_method_5_code 12 = .ok (.if_icmp .ge 94, 3) := by decide +kernel
theorem d_8_5_15 : decode prog_8_method_5_code 15 = .ok (.iload_n 1, 1) := by decide +kernel
theorem d_8_5_16 : decode prog_8_method_5_code 16 = .ok (.aload_n 0, 1) := by decide +kernel
theorem d_8_5_17 : decode prog_8_method_5_code 17 = .ok (.getfield 83, 3) := by decide +kernel
theorem d_8_5_20 : decode prog_8_method_5_code 20 = .ok (.if_icmp .ge 20, 3) := by decide +kernel
theorem d_8_5_23 : decode prog_8_method_5_code 23 = .ok (.aload_n 0, 1) := by decide +kernel
theorem d_8_5_24 : decode prog_8_method_5_code 24 = .ok (.getfield 7, 3) := by decide +kernel
theorem d_8_5_27 : decode prog_8_method_5_code 27 = .ok (.iload_n 1, 1) := by decide +kernel
theorem d_8_5_28 : decode prog_8_method_5_code 28 = .ok (.caload, 1) := by decide +kernel
theorem d_8_5_29 : decode prog_8_method_5_code 29 = .ok (.bipush 32, 2) := by decide +kernel
theorem d_8_5_31 : decode prog_8_method_5_code 31 = .ok (.if_icmp .ne 9, 3) := by decide +kernel
theorem d_8_5_34 : decode prog_8_method_5_code 34 = .ok (.iinc 1 1, 3) := by decide +kernel
theorem d_8_5_37 : decode prog_8_method_5_code 37 = .ok (.goto (-22), 3) := by decide +kernel
theorem d_8_5_40 : decode prog_8_method_5_code 40 = .ok (.iload_n 1, 1) := by decide +kernel
theorem d_8_5_41 : decode prog_8_method_5_code 41 = .ok (.aload_n 0, 1) := by decide +kernel
theorem d_8_5_42 : decode prog_8_method_5_code 42 = .ok (.getfield 83, 3) := by decide +kernel
theorem d_8_5_45 : decode prog_8_method_5_code 45 = .ok (.if_icmp .ge (-38), 3) := by decide +kernel
theorem d_8_5_48 : decode prog_8_method_5_code 48 = .ok (.aload_n 0, 1) := by decide +kernel
theorem d_8_5_49 : decode prog_8_method_5_code 49 = .ok (.getfield 13, 3) := by decide +kernel
theorem d_8_5_52 : decode prog_8_method_5_code 52 = .ok (.aload_n 0, 1) := by decide +kernel
theorem d_8_5_53 : decode prog_8_method_5_code 53 = .ok (.getfield 86, 3) := by decide +kernel
theorem d_8_5_56 : decode prog_8_method_5_code 56 = .ok (.iload_n 1, 1) := by decide +kernel
theorem d_8_5_57 : decode prog_8_method_5_code 57 = .ok (.iastore, 1) := by decide +kernel
theorem d_8_5_58 : decode prog_8_method_5_code 58 = .ok (.iload_n 1, 1) := by decide +kernel
theorem d_8_5_59 : decode prog_8_method_5_code 59 = .ok (.aload_n 0, 1) := by decide +kernel
theorem d_8_5_60 : decode prog_8_method_5_code 60 = .ok (.getfield 83, 3) := by decide +kernel
theorem d_8_5_63 : decode prog_8_method_5_code 63 = .ok (.if_icmp .ge 20, 3) := by decide +kernel
theorem d_8_5_66 : decode prog_8_method_5_code 66 = .ok (.aload_n 0, 1) := by decide +kernel
theorem d_8_5_67 : decode prog_8_method_5_code 67 = .ok (.getfield 7, 3) := by decide +kernel
theorem d_8_5_70 : decode prog_8_method_5_code 70 = .ok (.iload_n 1, 1) := by decide +kernel
theorem d_8_5_71 : decode prog_8_method_5_code 71 = .ok (.caload, 1) := by decide +kernel
theorem d_8_5_72 : decode prog_8_method_5_code 72 = .ok (.bipush 32, 2) := by decide +kernel
theorem d_8_5_74 : decode prog_8_method_5_code 74 = .ok (.if_icmp .eq 9, 3) := by decide +kernel
theorem d_8_5_77 : decode prog_8_method_5_code 77 = .ok (.iinc 1 1, 3) := by decide +kernel
theorem d_8_5_80 : decode prog_8_method_5_code 80 = .ok (.goto (-22), 3) := by decide +kernel
theorem d_8_5_83 : decode prog_8_method_5_code 83 = .ok (.aload_n 0, 1) := by decide +kernel
theorem d_8_5_84 : decode prog_8_method_5_code 84 = .ok (.getfield 17, 3) := by decide +kernel
theorem d_8_5_87 : decode prog_8_method_5_code 87 = .ok (.aload_n 0, 1) := by decide +kernel
theorem d_8_5_88 : decode prog_8_method_5_code 88 = .ok (.getfield 86, 3) := by decide +kernel
theorem d_8_5_91 : decode prog_8_method_5_code 91 = .ok (.iload_n 1, 1) := by decide +kernel
theorem d_8_5_92 : decode prog_8_method_5_code 92 = .ok (.iastore, 1) := by decide +kernel
theorem d_8_5_93 : decode prog_8_method_5_code 93 = .ok (.aload_n 0, 1) := by decide +kernel
theorem d_8_5_94 : decode prog_8_method_5_code 94 = .ok (.dup, 1) := by decide +kernel
theorem d_8_5_95 : decode prog_8_method_5_code 95 = .ok (.getfield 86, 3) := by decide +kernel
theorem d_8_5_98 : decode prog_8_method_5_code 98 = .ok (.iconst 1, 1) := by decide +kernel
theorem d_8_5_99 : decode prog_8_method_5_code 99 = .ok (.iadd, 1) := by decide +kernel
theorem d_8_5_100 : decode prog_8_method_5_code 100 = .ok (.putfield 86, 3) := by decide +kernel
theorem d_8_5_103 : decode prog_8_method_5_code 103 = .ok (.goto (-96), 3) := by decide +kernel
theorem d_8_5_106 : decode prog_8_method_5_code 106 = .ok (.aload_n 0, 1) := by decide +kernel
theorem d_8_5_107 : decode prog_8_method_5_code 107 = .ok (.iconst 0, 1) := by decide +kernel
theorem d_8_5_108 : decode prog_8_method_5_code 108 = .ok (.putfield 83, 3) := by decide +kernel
theorem d_8_5_111 : decode prog_8_method_5_code 111 = .ok (.return_, 1) := by decide +kernel
theorem d_8_8_0 : decode prog_8_method_8_code 0 = .ok (.iload_n 1, 1) := by decide +kernel
theorem d_8_8_1 : decode prog_8_method_8_code 1 = .ok (.aload_n 0, 1) := by decide +kernel
theorem d_8_8_2 : decode prog_8_method_8_code 2 = .ok (.getfield 86, 3) := by decide +kernel
theorem d_8_8_5 : decode prog_8_method_8_code 5 = .ok (.if_icmp .ge 92, 3) := by decide +kernel
theorem d_8_8_8 : decode prog_8_method_8_code 8 = .ok (.aload_n 0, 1) := by decide +kernel
theorem d_8_8_9 : decode prog_8_method_8_code 9 = .ok (.getfield 17, 3) := by decide +kernel
theorem d_8_8_12 : decode prog_8_method_8_code 12 = .ok (.iload_n 1, 1) := by decide +kernel
theorem d_8_8_13 : decode prog_8_method_8_code 13 = .ok (.iaload, 1) := by decide +kernel
theorem d_8_8_14 : decode prog_8_method_8_code 14 = .ok (.aload_n 0, 1) := by decide +kernel
theorem d_8_8_15 : decode prog_8_method_8_code 15 = .ok (.getfield 13, 3) := by decide +kernel
theorem d_8_8_18 : decode prog_8_method_8_code 18 = .ok (.iload_n 1, 1) := by decide +kernel
theorem d_8_8_19 : decode prog_8_method_8_code 19 = .ok (.iaload, 1) := by decide +kernel
theorem d_8_8_20 : decode prog_8_method_8_code 20 = .ok (.isub, 1) := by decide +kernel
theorem d_8_8_21 : decode prog_8_method_8_code 21 = .ok (.iconst 4, 1) := by decide +kernel
theorem d_8_8_22 : decode prog_8_method_8_code 22 = .ok (.if_icmp .lt 75, 3) := by decide +kernel
theorem d_8_8_25 : decode prog_8_method_8_code 25 = .ok (.aload_n 0, 1) := by decide +kernel
theorem d_8_8_26 : decode prog_8_method_8_code 26 = .ok (.getfield 7, 3) := by decide +kernel
theorem d_8_8_29 : decode prog_8_method_8_code 29 = .ok (.aload_n 0, 1) := by decide +kernel
theorem d_8_8_30 : decode prog_8_method_8_code 30 = .ok (.getfield 13, 3) := by decide +kernel
theorem d_8_8_33 : decode prog_8_method_8_code 33 = .ok (.iload_n 1, 1) := by decide +kernel
theorem d_8_8_34 : decode prog_8_method_8_code 34 = .ok (.iaload, 1) := by decide +kernel
theorem d_8_8_35 : decode prog_8_method_8_code 35 = .ok (.caload, 1) := by decide +kernel
theorem d_8_8_36 : decode prog_8_method_8_code 36 = .ok (.iload_n 2, 1) := by decide +kernel
theorem d_8_8_37 : decode prog_8_method_8_code 37 = .ok (.if_icmp .ne 60, 3) := by decide +kernel
theorem d_8_8_40 : decode prog_8_method_8_code 40 = .ok (.aload_n 0, 1) := by decide +kernel
theorem d_8_8_41 : decode prog_8_method_8_code 41 = .ok (.getfield 7, 3) := by decide +kernel
theorem d_8_8_44 : decode prog_8_method_8_code 44 = .ok (.aload_n 0, 1) := by decide +kernel
theorem d_8_8_45 : decode prog_8_method_8_code 45 = .ok (.getfield 13, 3) := by decide +kernel
theorem d_8_8_48 : decode prog_8_method_8_code 48 = .ok (.iload_n 1, 1) := by decide +kernel
theorem d_8_8_49 : decode prog_8_method_8_code 49 = .ok (.iaload, 1) := by decide +kernel
theorem d_8_8_50 : decode prog_8_method_8_code 50 = .ok (.iconst 1, 1) := by decide +kernel
theorem d_8_8_51 : decode prog_8_method_8_code 51 = .ok (.iadd, 1) := by decide +kernel
theorem d_8_8_52 : decode prog_8_method_8_code 52 = .ok (.caload, 1) := by decide +kernel
theorem d_8_8_53 : decode prog_8_method_8_code 53 = .ok (.iload_n 3, 1) := by decide +kernel
theorem d_8_8_54 : decode prog_8_method_8_code 54 = .ok (.if_icmp .ne 43, 3) := by decide +kernel
theorem d_8_8_57 : decode prog_8_method_8_code 57 = .ok (.aload_n 0, 1) := by decide +kernel
theorem d_8_8_58 : decode prog_8_method_8_code 58 = .ok (.getfield 7, 3) := by decide +kernel
theorem d_8_8_61 : decode prog_8_method_8_code 61 = .ok (.aload_n 0, 1) := by decide +kernel
theorem d_8_8_62 : decode prog_8_method_8_code 62 = .ok (.getfield 13, 3) := by decide +kernel
theorem d_8_8_65 : decode prog_8_method_8_code 65 = .ok (.iload_n 1, 1) := by decide +kernel
theorem d_8_8_66 : decode prog_8_method_8_code 66 = .ok (.iaload, 1) := by decide +kernel
theorem d_8_8_67 : decode prog_8_method_8_code 67 = .ok (.iconst 2, 1) := by decide +kernel
theorem d_8_8_68 : decode prog_8_method_8_code 68 = .ok (.iadd, 1) := by decide +kernel
theorem d_8_8_69 : decode prog_8_method_8_code 69 = .ok (.caload, 1) := by decide +kernel
theorem d_8_8_70 : decode prog_8_method_8_code 70 = .ok (.iload 4, 2) := by decide +kernel
theorem d_8_8_72 : decode prog_8_method_8_code 72 = .ok (.if_icmp .ne 25, 3) := by decide +kernel
theorem d_8_8_75 : decode prog_8_method_8_code 75 = .ok (.aload_n 0, 1) := by decide +kernel
theorem d_8_8_76 : decode prog_8_method_8_code 76 = .ok (.getfield 7, 3) := by decide +kernel
theorem d_8_8_79 : decode prog_8_method_8_code 79 = .ok (.aload_n 0, 1) := by decide +kernel
theorem d_8_8_80 : decode prog_8_method_8_code 80 = .ok (.getfield 13, 3) := by decide +kernel
theorem d_8_8_83 : decode prog_8_method_8_code 83 = .ok (.iload_n 1, 1) := by decide +kernel
theorem d_8_8_84 : decode prog_8_method_8_code 84 = .ok (.iaload, 1) := by decide +kernel
theorem d_8_8_85 : decode prog_8_method_8_code 85 = .ok (.iconst 3, 1) := by decide +kernel
theorem d_8_8_86 : decode prog_8_method_8_code 86 = .ok (.iadd, 1) := by decide +kernel
theorem d_8_8_87 : decode prog_8_method_8_code 87 = .ok (.caload, 1) := by decide +kernel
theorem d_8_8_88 : decode prog_8_method_8_code 88 = .ok (.iload 5, 2) := by decide +kernel
theorem d_8_8_90 : decode prog_8_method_8_code 90 = .ok (.if_icmp .ne 7, 3) := by decide +kernel
theorem d_8_8_93 : decode prog_8_method_8_code 93 = .ok (.iconst 1, 1) := by decide +kernel
theorem d_8_8_94 : decode prog_8_method_8_code 94 = .ok (.goto 4, 3) := by decide +kernel
theorem d_8_8_97 : decode prog_8_method_8_code 97 = .ok (.iconst 0, 1) := by decide +kernel
theorem d_8_8_98 : decode prog_8_method_8_code 98 = .ok (.istore 6, 2) := by decide +kernel
theorem d_8_8_100 : decode prog_8_method_8_code 100 = .ok (.iload 6, 2) := by decide +kernel
theorem d_8_8_102 : decode prog_8_method_8_code 102 = .ok (.ireturn, 1) := by decide +kernel
theorem d_8_9_0 : decode prog_8_method_9_code 0 = .ok (.iload_n 1, 1) := by decide +kernel
theorem d_8_9_1 : decode prog_8_method_9_code 1 = .ok (.aload_n 0, 1) := by decide +kernel
theorem d_8_9_2 : decode prog_8_method_9_code 2 = .ok (.getfield 86, 3) := by decide +kernel
theorem d_8_9_5 : decode prog_8_method_9_code 5 = .ok (.if_icmp .ge 24, 3) := by decide +kernel
theorem d_8_9_8 : decode prog_8_method_9_code 8 = .ok (.aload_n 0, 1) := by decide +kernel
theorem d_8_9_9 : decode prog_8_method_9_code 9 = .ok (.getfield 17, 3) := by decide +kernel
theorem d_8_9_12 : decode prog_8_method_9_code 12 = .ok (.iload_n 1, 1) := by decide +kernel
theorem d_8_9_13 : decode prog_8_method_9_code 13 = .ok (.iaload, 1) := by decide +kernel
theorem d_8_9_14 : decode prog_8_method_9_code 14 = .ok (.aload_n 0, 1) := by decide +kernel
theorem d_8_9_15 : decode prog_8_method_9_code 15 = .ok (.getfield 13, 3) := by decide +kernel
theorem d_8_9_18 : decode prog_8_method_9_code 18 = .ok (.iload_n 1, 1) := by decide +kernel
theorem d_8_9_19 : decode prog_8_method_9_code 19 = .ok (.iaload, 1) := by decide +kernel
theorem d_8_9_20 : decode prog_8_method_9_code 20 = .ok (.isub, 1) := by decide +kernel
theorem d_8_9_21 : decode prog_8_method_9_code 21 = .ok (.iload_n 2, 1) := by decide +kernel
theorem d_8_9_22 : decode prog_8_method_9_code 22 = .ok (.if_icmp .ne 7, 3) := by decide +kernel
theorem d_8_9_25 : decode prog_8_method_9_code 25 = .ok (.iconst 1, 1) := by decide +kernel
theorem d_8_9_26 : decode prog_8_method_9_code 26 = .ok (.goto 4, 3) := by decide +kernel
theorem d_8_9_29 : decode prog_8_method_9_code 29 = .ok (.iconst 0, 1) := by decide +kernel
theorem d_8_9_30 : decode prog_8_method_9_code 30 = .ok (.ireturn, 1) := by decide +kernel
theorem d_8_10_0 : decode prog_8_method_10_code 0 = .ok (.aload_n 0, 1) := by decide +kernel
theorem d_8_10_1 : decode prog_8_method_10_code 1 = .ok (.getfield 7, 3) := by decide +kernel
theorem d_8_10_4 : decode prog_8_method_10_code 4 = .ok (.aload_n 0, 1) := by decide +kernel
theorem d_8_10_5 : decode prog_8_method_10_code 5 = .ok (.getfield 17, 3) := by decide +kernel
theorem d_8_10_8 : decode prog_8_method_10_code 8 = .ok (.iload_n 1, 1) := by decide +kernel
theorem d_8_10_9 : decode prog_8_method_10_code 9 = .ok (.iaload, 1) := by decide +kernel
theorem d_8_10_10 : decode prog_8_method_10_code 10 = .ok (.iconst 2, 1) := by decide +kernel
theorem d_8_10_11 : decode prog_8_method_10_code 11 = .ok (.isub, 1) := by decide +kernel
theorem d_8_10_12 : decode prog_8_method_10_code 12 = .ok (.caload, 1) := by decide +kernel
theorem d_8_10_13 : decode prog_8_method_10_code 13 = .ok (.iload_n 2, 1) := by decide +kernel
theorem d_8_10_14 : decode prog_8_method_10_code 14 = .ok (.if_icmp .ne 24, 3) := by decide +kernel
theorem d_8_10_17 : decode prog_8_method_10_code 17 = .ok (.aload_n 0, 1) := by decide +kernel
theorem d_8_10_18 : decode prog_8_method_10_code 18 = .ok (.getfield 7, 3) := by decide +kernel
theorem d_8_10_21 : decode prog_8_method_10_code 21 = .ok (.aload_n 0, 1) := by decide +kernel
theorem d_8_10_22 : decode prog_8_method_10_code 22 = .ok (.getfield 17, 3) := by decide +kernel
theorem d_8_10_25 : decode prog_8_method_10_code 25 = .ok (.iload_n 1, 1) := by decide +kernel
theorem d_8_10_26 : decode prog_8_method_10_code 26 = .ok (.iaload, 1) := by decide +kernel
theorem d_8_10_27 : decode prog_8_method_10_code 27 = .ok (.iconst 1, 1) := by decide +kernel
theorem d_8_10_28 : decode prog_8_method_10_code 28 = .ok (.isub, 1) := by decide +kernel
theorem d_8_10_29 : decode prog_8_method_10_code 29 = .ok (.caload, 1) := by decide +kernel
theorem d_8_10_30 : decode prog_8_method_10_code 30 = .ok (.iload_n 3, 1) := by decide +kernel
theorem d_8_10_31 : decode prog_8_method_10_code 31 = .ok (.if_icmp .ne 7, 3) := by decide +kernel
theorem d_8_10_34 : decode prog_8_method_10_code 34 = .ok (.iconst 1, 1) := by decide +kernel
theorem d_8_10_35 : decode prog_8_method_10_code 35 = .ok (.goto 4, 3) := by decide +kernel
theorem d_8_10_38 : decode prog_8_method_10_code 38 = .ok (.iconst 0, 1) := by decide +kernel
theorem d_8_10_39 : decode prog_8_method_10_code 39 = .ok (.ireturn, 1) := by decide +kernel
theorem d_8_14_0 : decode prog_8_method_14_code 0 = .ok (.aload_n 0, 1) := by decide +kernel
theorem d_8_14_1 : decode prog_8_method_14_code 1 = .ok (.getfield 86, 3) := by decide +kernel
theorem d_8_14_4 : decode prog_8_method_14_code 4 = .ok (.iconst 2, 1) := by decide +kernel
theorem d_8_14_5 : decode prog_8_method_14_code 5 = .ok (.if_icmp .ne 11, 3) := by decide +kernel
theorem d_8_14_8 : decode prog_8_method_14_code 8 = .ok (.aload_n 0, 1) := by decide +kernel
theorem d_8_14_9 : decode prog_8_method_14_code 9 = .ok (.iconst 1, 1) := by decide +kernel
theorem d_8_14_10 : decode prog_8_method_14_code 10 = .ok (.invokevirtual 142, 3) := by decide +kernel
theorem d_8_14_13 : decode prog_8_method_14_code 13 = .ok (.goto 4, 3) := by decide +kernel
theorem d_8_14_16 : decode prog_8_method_14_code 16 = .ok (.iconst 0, 1) := by decide +kernel
theorem d_8_14_17 : decode prog_8_method_14_code 17 = .ok (.istore_n 1, 1) := by decide +kernel
theorem d_8_14_18 : decode prog_8_method_14_code 18 = .ok (.iload_n 1, 1) := by decide +kernel
theorem d_8_14_19 : decode prog_8_method_14_code 19 = .ok (.ifCond .eq 11, 3) := by decide +kernel
theorem d_8_14_22 : decode prog_8_method_14_code 22 = .ok (.aload_n 0, 1) := by decide +kernel
theorem d_8_14_23 : decode prog_8_method_14_code 23 = .ok (.iload_n 1, 1) := by decide +kernel
theorem d_8_14_24 : decode prog_8_method_14_code 24 = .ok (.invokevirtual 145, 3) := by decide +kernel
theorem d_8_14_27 : decode prog_8_method_14_code 27 = .ok (.ifCond .lt 5, 3) := by decide +kernel
theorem d_8_14_30 : decode prog_8_method_14_code 30 = .ok (.iconst (-1), 1) := by decide +kernel
theorem d_8_14_31 : decode prog_8_method_14_code 31 = .ok (.ireturn, 1) := by decide +kernel
theorem d_8_14_32 : decode prog_8_method_14_code 32 = .ok (.aload_n 0, 1) := by decide +kernel
theorem d_8_14_33 : decode prog_8_method_14_code 33 = .ok (.getfield 95, 3) := by decide +kernel
theorem d_8_14_36 : decode prog_8_method_14_code 36 = .ok (.bipush 6, 2) := by decide +kernel
theorem d_8_14_38 : decode prog_8_method_14_code 38 = .ok (.if_icmp .ne 6, 3) := by decide +kernel
theorem d_8_14_41 : decode prog_8_method_14_code 41 = .ok (.bipush (-2), 2) := by decide +kernel
theorem d_8_14_43 : decode prog_8_method_14_code 43 = .ok (.ireturn, 1) := by decide +kernel
theorem d_8_14_44 : decode prog_8_method_14_code 44 = .ok (.aload_n 0, 1) := by decide +kernel
theorem d_8_14_45 : decode prog_8_method_14_code 45 = .ok (.getfield 20, 3) := by decide +kernel
theorem d_8_14_48 : decode prog_8_method_14_code 48 = .ok (.aload_n 0, 1) := by decide +kernel
theorem d_8_14_49 : decode prog_8_method_14_code 49 = .ok (.getfield 95, 3) := by decide +kernel
theorem d_8_14_52 : decode prog_8_method_14_code 52 = .ok (.iload_n 1, 1) := by decide +kernel
theorem d_8_14_53 : decode prog_8_method_14_code 53 = .ok (.iastore, 1) := by decide +kernel
theorem d_8_14_54 : decode prog_8_method_14_code 54 = .ok (.aload_n 0, 1) := by decide +kernel
theorem d_8_14_55 : decode prog_8_method_14_code 55 = .ok (.dup, 1) := by decide +kernel
theorem d_8_14_56 : decode prog_8_method_14_code 56 = .ok (.getfield 95, 3) := by decide +kernel
theorem d_8_14_59 : decode prog_8_method_14_code 59 = .ok (.iconst 1, 1) := by decide +kernel
theorem d_8_14_60 : decode prog_8_method_14_code 60 = .ok (.iadd, 1) := by decide +kernel
theorem d_8_14_61 : decode prog_8_method_14_code 61 = .ok (.putfield 95, 3) := by decide +kernel
theorem d_8_14_64 : decode prog_8_method_14_code 64 = .ok (.iconst 1, 1) := by decide +kernel
theorem d_8_14_65 : decode prog_8_method_14_code 65 = .ok (.ireturn, 1) := by decide +kernel
theorem d_8_7_0 : decode prog_8_method_7_code 0 = .ok (.aload_n 0, 1) := by decide +kernel
theorem d_8_7_1 : decode prog_8_method_7_code 1 = .ok (.iload_n 1, 1) := by decide +kernel
theorem d_8_7_2 : decode prog_8_method_7_code 2 = .ok (.invokevirtual 89, 3) := by decide +kernel
theorem d_8_7_5 : decode prog_8_method_7_code 5 = .ok (.lstore_n 2, 1) := by decide +kernel
theorem d_8_7_6 : decode prog_8_method_7_code 6 = .ok (.lload_n 2, 1) := by decide +kernel
theorem d_8_7_7 : decode prog_8_method_7_code 7 = .ok (.ldc2_w 93, 3) := by decide +kernel
theorem d_8_7_10 : decode prog_8_method_7_code 10 = .ok (.land, 1) := by decide +kernel
theorem d_8_7_11 : decode prog_8_method_7_code 11 = .ok (.lconst 0, 1) := by decide +kernel
theorem d_8_7_12 : decode prog_8_method_7_code 12 = .ok (.lcmp, 1) := by decide +kernel
theorem d_8_7_13 : decode prog_8_method_7_code 13 = .ok (.ifCond .ne 11, 3) := by decide +kernel
theorem d_8_7_16 : decode prog_8_method_7_code 16 = .ok (.lload_n 2, 1) := by decide +kernel
theorem d_8_7_17 : decode prog_8_method_7_code 17 = .ok (.bipush 40, 2) := by decide +kernel
theorem d_8_7_19 : decode prog_8_method_7_code 19 = .ok (.lshr, 1) := by decide +kernel
theorem d_8_7_20 : decode prog_8_method_7_code 20 = .ok (.l2i, 1) := by decide +kernel
theorem d_8_7_21 : decode prog_8_method_7_code 21 = .ok (.goto 4, 3) := by decide +kernel
theorem d_8_7_24 : decode prog_8_method_7_code 24 = .ok (.iconst 0, 1) := by decide +kernel
theorem d_8_7_25 : decode prog_8_method_7_code 25 = .ok (.ireturn, 1) := by decide +kernel
theorem d_8_6_0 : decode prog_8_method_6_code 0 = .ok (.iload_n 1, 1) := by decide +kernel
theorem d_8_6_1 : decode prog_8_method_6_code 1 = .ok (.aload_n 0, 1) := by decide +kernel
theorem d_8_6_2 : decode prog_8_method_6_code 2 = .ok (.getfield 86, 3) := by decide +kernel
theorem d_8_6_5 : decode prog_8_method_6_code 5 = .ok (.if_icmp .lt 5, 3) := by decide +kernel
theorem d_8_6_8 : decode prog_8_method_6_code 8 = .ok (.lconst 0, 1) := by decide +kernel
theorem d_8_6_9 : decode prog_8_method_6_code 9 = .ok (.lreturn, 1) := by decide +kernel
theorem d_8_6_10 : decode prog_8_method_6_code 10 = .ok (.lconst 0, 1) := by decide +kernel
theorem d_8_6_11 : decode prog_8_method_6_code 11 = .ok (.lstore_n 2, 1) := by decide +kernel
theorem d_8_6_12 : decode prog_8_method_6_code 12 = .ok (.iconst 1, 1) := by decide +kernel
theorem d_8_6_13 : decode prog_8_method_6_code 13 = .ok (.istore 4, 2) := by decide +kernel
theorem d_8_6_15 : decode prog_8_method_6_code 15 = .ok (.iconst 0, 1) := by decide +kernel
theorem d_8_6_16 : decode prog_8_method_6_code 16 = .ok (.istore 5, 2) := by decide +kernel
theorem d_8_6_18 : decode prog_8_method_6_code 18 = .ok (.iconst 0, 1) := by decide +kernel
theorem d_8_6_19 : decode prog_8_method_6_code 19 = .ok (.istore 6, 2) := by decide +kernel
theorem d_8_6_21 : decode prog_8_method_6_code 21 = .ok (.aload_n 0, 1) := by decide +kernel
theorem d_8_6_22 : decode prog_8_method_6_code 22 = .ok (.getfield 13, 3) := by decide +kernel
theorem d_8_6_25 : decode prog_8_method_6_code 25 = .ok (.iload_n 1, 1) := by decide +kernel
theorem d_8_6_26 : decode prog_8_method_6_code 26 = .ok (.iaload, 1) := by decide +kernel
theorem d_8_6_27 : decode prog_8_method_6_code 27 = .ok (.istore 7, 2) := by decide +kernel
theorem d_8_6_29 : decode prog_8_method_6_code 29 = .ok (.iload 7, 2) := by decide +kernel
theorem d_8_6_31 : decode prog_8_method_6_code 31 = .ok (.aload_n 0, 1) := by decide +kernel
theorem d_8_6_32 : decode prog_8_method_6_code 32 = .ok (.getfield 17, 3) := by decide +kernel
theorem d_8_6_35 : decode prog_8_method_6_code 35 = .ok (.iload_n 1, 1) := by decide +kernel
theorem d_8_6_36 : decode prog_8_method_6_code 36 = .ok (.iaload, 1) := by decide +kernel
theorem d_8_6_37 : decode prog_8_method_6_code 37 = .ok (.if_icmp .ge 132, 3) := by decide +kernel
theorem d_8_6_40 : decode prog_8_method_6_code 40 = .ok (.aload_n 0, 1) := by decide +kernel
theorem d_8_6_41 : decode prog_8_method_6_code 41 = .ok (.getfield 7, 3) := by decide +kernel
theorem d_8_6_44 : decode prog_8_method_6_code 44 = .ok (.iload 7, 2) := by decide +kernel
theorem d_8_6_46 : decode prog_8_method_6_code 46 = .ok (.caload, 1) := by decide +kernel
theorem d_8_6_47 : decode prog_8_method_6_code 47 = .ok (.istore 8, 2) := by decide +kernel
theorem d_8_6_49 : decode prog_8_method_6_code 49 = .ok (.iload 8, 2) := by decide +kernel
theorem d_8_6_51 : decode prog_8_method_6_code 51 = .ok (.bipush 46, 2) := by decide +kernel
theorem d_8_6_53 : decode prog_8_method_6_code 53 = .ok (.if_icmp .ne 7, 3) := by decide +kernel
theorem d_8_6_56 : decode prog_8_method_6_code 56 = .ok (.iconst 1, 1) := by decide +kernel
theorem d_8_6_57 : decode prog_8_method_6_code 57 = .ok (.goto 4, 3) := by decide +kernel
theorem d_8_6_60 : decode prog_8_method_6_code 60 = .ok (.iconst 0, 1) := by decide +kernel
theorem d_8_6_61 : decode prog_8_method_6_code 61 = .ok (.istore 9, 2) := by decide +kernel
theorem d_8_6_63 : decode prog_8_method_6_code 63 = .ok (.iload 9, 2) := by decide +kernel
theorem d_8_6_65 : decode prog_8_method_6_code 65 = .ok (.ifCond .ne 17, 3) := by decide +kernel
theorem d_8_6_68 : decode prog_8_method_6_code 68 = .ok (.iload 8, 2) := by decide +kernel
theorem d_8_6_70 : decode prog_8_method_6_code 70 = .ok (.bipush 97, 2) := by decide +kernel
theorem d_8_6_72 : decode prog_8_method_6_code 72 = .ok (.if_icmp .lt 42, 3) := by decide +kernel
theorem d_8_6_75 : decode prog_8_method_6_code 75 = .ok (.iload 8, 2) := by decide +kernel
theorem d_8_6_77 : decode prog_8_method_6_code 77 = .ok (.bipush 122, 2) := by decide +kernel
theorem d_8_6_79 : decode prog_8_method_6_code 79 = .ok (.if_icmp .gt 35, 3) := by decide +kernel
theorem d_8_6_82 : decode prog_8_method_6_code 82 = .ok (.iload 9, 2) := by decide +kernel
theorem d_8_6_84 : decode prog_8_method_6_code 84 = .ok (.ifCond .eq 8, 3) := by decide +kernel
theorem d_8_6_87 : decode prog_8_method_6_code 87 = .ok (.iload 5, 2) := by decide +kernel
theorem d_8_6_89 : decode prog_8_method_6_code 89 = .ok (.ifCond .eq 25, 3) := by decide +kernel
theorem d_8_6_92 : decode prog_8_method_6_code 92 = .ok (.iload 9, 2) := by decide +kernel
theorem d_8_6_94 : decode prog_8_method_6_code 94 = .ok (.ifCond .ne 9, 3) := by decide +kernel
theorem d_8_6_97 : decode prog_8_method_6_code 97 = .ok (.iload 5, 2) := by decide +kernel
theorem d_8_6_99 : decode prog_8_method_6_code 99 = .ok (.iconst 4, 1) := by decide +kernel
theorem d_8_6_100 : decode prog_8_method_6_code 100 = .ok (.if_icmp .eq 14, 3) := by decide +kernel
theorem d_8_6_103 : decode prog_8_method_6_code 103 = .ok (.iload 9, 2) := by decide +kernel
theorem d_8_6_105 : decode prog_8_method_6_code 105 = .ok (.ifCond .eq 11, 3) := by decide +kernel
theorem d_8_6_108 : decode prog_8_method_6_code 108 = .ok (.iload 4, 2) := by decide +kernel
theorem d_8_6_110 : decode prog_8_method_6_code 110 = .ok (.iconst 3, 1) := by decide +kernel
theorem d_8_6_111 : decode prog_8_method_6_code 111 = .ok (.if_icmp .ne 5, 3) := by decide +kernel
theorem d_8_6_114 : decode prog_8_method_6_code 114 = .ok (.lconst 0, 1) := by decide +kernel
theorem d_8_6_115 : decode prog_8_method_6_code 115 = .ok (.lreturn, 1) := by decide +kernel
theorem d_8_6_116 : decode prog_8_method_6_code 116 = .ok (.iload 9, 2) := by decide +kernel
theorem d_8_6_118 : decode prog_8_method_6_code 118 = .ok (.ifCond .eq 24, 3) := by decide +kernel
theorem d_8_6_121 : decode prog_8_method_6_code 121 = .ok (.lload_n 2, 1) := by decide +kernel
theorem d_8_6_122 : decode prog_8_method_6_code 122 = .ok (.bipush 20, 2) := by decide +kernel
theorem d_8_6_124 : decode prog_8_method_6_code 124 = .ok (.lshl, 1) := by decide +kernel
theorem d_8_6_125 : decode prog_8_method_6_code 125 = .ok (.iload 6, 2) := by decide +kernel
theorem d_8_6_127 : decode prog_8_method_6_code 127 = .ok (.i2l, 1) := by decide +kernel
theorem d_8_6_128 : decode prog_8_method_6_code 128 = .ok (.lor, 1) := by decide +kernel
theorem d_8_6_129 : decode prog_8_method_6_code 129 = .ok (.lstore_n 2, 1) := by decide +kernel
theorem d_8_6_130 : decode prog_8_method_6_code 130 = .ok (.iconst 0, 1) := by decide +kernel
theorem d_8_6_131 : decode prog_8_method_6_code 131 = .ok (.istore 6, 2) := by decide +kernel
theorem d_8_6_133 : decode prog_8_method_6_code 133 = .ok (.iconst 0, 1) := by decide +kernel
theorem d_8_6_134 : decode prog_8_method_6_code 134 = .ok (.istore 5, 2) := by decide +kernel
theorem d_8_6_136 : decode prog_8_method_6_code 136 = .ok (.iinc 4 1, 3) := by decide +kernel
theorem d_8_6_139 : decode prog_8_method_6_code 139 = .ok (.goto 24, 3) := by decide +kernel
theorem d_8_6_142 : decode prog_8_method_6_code 142 = .ok (.iload 6, 2) := by decide +kernel
theorem d_8_6_144 : decode prog_8_method_6_code 144 = .ok (.iload 8, 2) := by decide +kernel
theorem d_8_6_146 : decode prog_8_method_6_code 146 = .ok (.bipush 96, 2) := by decide +kernel
theorem d_8_6_148 : decode prog_8_method_6_code 148 = .ok (.isub, 1) := by decide +kernel
theorem d_8_6_149 : decode prog_8_method_6_code 149 = .ok (.bipush 15, 2) := by decide +kernel
theorem d_8_6_151 : decode prog_8_method_6_code 151 = .ok (.iconst 5, 1) := by decide +kernel
theorem d_8_6_152 : decode prog_8_method_6_code 152 = .ok (.iload 5, 2) := by decide +kernel
theorem d_8_6_154 : decode prog_8_method_6_code 154 = .ok (.imul, 1) := by decide +kernel
theorem d_8_6_155 : decode prog_8_method_6_code 155 = .ok (.isub, 1) := by decide +kernel
theorem d_8_6_156 : decode prog_8_method_6_code 156 = .ok (.ishl, 1) := by decide +kernel
theorem d_8_6_157 : decode prog_8_method_6_code 157 = .ok (.ior, 1) := by decide +kernel
theorem d_8_6_158 : decode prog_8_method_6_code 158 = .ok (.istore 6, 2) := by decide +kernel
theorem d_8_6_160 : decode prog_8_method_6_code 160 = .ok (.iinc 5 1, 3) := by decide +kernel
theorem d_8_6_163 : decode prog_8_method_6_code 163 = .ok (.iinc 7 1, 3) := by decide +kernel
theorem d_8_6_166 : decode prog_8_method_6_code 166 = .ok (.goto (-137), 3) := by decide +kernel
theorem d_8_6_169 : decode prog_8_method_6_code 169 = .ok (.iload 5, 2) := by decide +kernel
theorem d_8_6_171 : decode prog_8_method_6_code 171 = .ok (.ifCond .ne 5, 3) := by decide +kernel
theorem d_8_6_174 : decode prog_8_method_6_code 174 = .ok (.lconst 0, 1) := by decide +kernel
theorem d_8_6_175 : decode prog_8_method_6_code 175 = .ok (.lreturn, 1) := by decide +kernel
theorem d_8_6_176 : decode prog_8_method_6_code 176 = .ok (.lload_n 2, 1) := by decide +kernel
theorem d_8_6_177 : decode prog_8_method_6_code 177 = .ok (.bipush 20, 2) := by decide +kernel
theorem d_8_6_179 : decode prog_8_method_6_code 179 = .ok (.lshl, 1) := by decide +kernel
theorem d_8_6_180 : decode prog_8_method_6_code 180 = .ok (.iload 6, 2) := by decide +kernel
theorem d_8_6_182 : decode prog_8_method_6_code 182 = .ok (.i2l, 1) := by decide +kernel
theorem d_8_6_183 : decode prog_8_method_6_code 183 = .ok (.lor, 1) := by decide +kernel
theorem d_8_6_184 : decode prog_8_method_6_code 184 = .ok (.lstore_n 2, 1) := by decide +kernel
theorem d_8_6_185 : decode prog_8_method_6_code 185 = .ok (.lload_n 2, 1) := by decide +kernel
theorem d_8_6_186 : decode prog_8_method_6_code 186 = .ok (.bipush 20, 2) := by decide +kernel
theorem d_8_6_188 : decode prog_8_method_6_code 188 = .ok (.iconst 3, 1) := by decide +kernel
theorem d_8_6_189 : decode prog_8_method_6_code 189 = .ok (.iload 4, 2) := by decide +kernel
theorem d_8_6_191 : decode prog_8_method_6_code 191 = .ok (.isub, 1) := by decide +kernel
theorem d_8_6_192 : decode prog_8_method_6_code 192 = .ok (.imul, 1) := by decide +kernel
theorem d_8_6_193 : decode prog_8_method_6_code 193 = .ok (.lshl, 1) := by decide +kernel
theorem d_8_6_194 : decode prog_8_method_6_code 194 = .ok (.lreturn, 1) := by decide +kernel
theorem d_8_11_0 : decode prog_8_method_11_code 0 = .ok (.iconst 0, 1) := by decide +kernel
theorem d_8_11_1 : decode prog_8_method_11_code 1 = .ok (.istore_n 2, 1) := by decide +kernel
theorem d_8_11_2 : decode prog_8_method_11_code 2 = .ok (.iload_n 2, 1) := by decide +kernel
theorem d_8_11_3 : decode prog_8_method_11_code 3 = .ok (.aload_n 0, 1) := by decide +kernel
theorem d_8_11_4 : decode prog_8_method_11_code 4 = .ok (.getfield 95, 3) := by decide +kernel
theorem d_8_11_7 : decode prog_8_method_11_code 7 = .ok (.if_icmp .ge 21, 3) := by decide +kernel
theorem d_8_11_10 : decode prog_8_method_11_code 10 = .ok (.aload_n 0, 1) := by decide +kernel
theorem d_8_11_11 : decode prog_8_method_11_code 11 = .ok (.getfield 20, 3) := by decide +kernel
theorem d_8_11_14 : decode prog_8_method_11_code 14 = .ok (.iload_n 2, 1) := by decide +kernel
theorem d_8_11_15 : decode prog_8_method_11_code 15 = .ok (.iaload, 1) := by decide +kernel
theorem d_8_11_16 : decode prog_8_method_11_code 16 = .ok (.iload_n 1, 1) := by decide +kernel
theorem d_8_11_17 : decode prog_8_method_11_code 17 = .ok (.if_icmp .ne 5, 3) := by decide +kernel
theorem d_8_11_20 : decode prog_8_method_11_code 20 = .ok (.iload_n 2, 1) := by decide +kernel
theorem d_8_11_21 : decode prog_8_method_11_code 21 = .ok (.ireturn, 1) := by decide +kernel
theorem d_8_11_22 : decode prog_8_method_11_code 22 = .ok (.iinc 2 1, 3) := by decide +kernel
theorem d_8_11_25 : decode prog_8_method_11_code 25 = .ok (.goto (-23), 3) := by decide +kernel
theorem d_8_11_28 : decode prog_8_method_11_code 28 = .ok (.iconst (-1), 1) := by decide +kernel
theorem d_8_11_29 : decode prog_8_method_11_code 29 = .ok (.ireturn, 1) := by decide +kernel
theorem d_8_16_0 : decode prog_8_method_16_code 0 = .ok (.aload_n 0, 1) := by decide +kernel
theorem d_8_16_1 : decode prog_8_method_16_code 1 = .ok (.getfield 86, 3) := by decide +kernel
theorem d_8_16_4 : decode prog_8_method_16_code 4 = .ok (.iconst 2, 1) := by decide +kernel
theorem d_8_16_5 : decode prog_8_method_16_code 5 = .ok (.if_icmp .ne 11, 3) := by decide +kernel
theorem d_8_16_8 : decode prog_8_method_16_code 8 = .ok (.aload_n 0, 1) := by decide +kernel
theorem d_8_16_9 : decode prog_8_method_16_code 9 = .ok (.iconst 1, 1) := by decide +kernel
theorem d_8_16_10 : decode prog_8_method_16_code 10 = .ok (.invokevirtual 89, 3) := by decide +kernel
theorem d_8_16_13 : decode prog_8_method_16_code 13 = .ok (.goto 4, 3) := by decide +kernel
theorem d_8_16_16 : decode prog_8_method_16_code 16 = .ok (.lconst 0, 1) := by decide +kernel
theorem d_8_16_17 : decode prog_8_method_16_code 17 = .ok (.lstore_n 1, 1) := by decide +kernel
theorem d_8_16_18 : decode prog_8_method_16_code 18 = .ok (.aload_n 0, 1) := by decide +kernel
theorem d_8_16_19 : decode prog_8_method_16_code 19 = .ok (.getfield 95, 3) := by decide +kernel
theorem d_8_16_22 : decode prog_8_method_16_code 22 = .ok (.iconst 1, 1) := by decide +kernel
theorem d_8_16_23 : decode prog_8_method_16_code 23 = .ok (.isub, 1) := by decide +kernel
theorem d_8_16_24 : decode prog_8_method_16_code 24 = .ok (.istore_n 3, 1) := by decide +kernel
theorem d_8_16_25 : decode prog_8_method_16_code 25 = .ok (.lload_n 1, 1) := by decide +kernel
theorem d_8_16_26 : decode prog_8_method_16_code 26 = .ok (.lconst 0, 1) := by decide +kernel
theorem d_8_16_27 : decode prog_8_method_16_code 27 = .ok (.lcmp, 1) := by decide +kernel
theorem d_8_16_28 : decode prog_8_method_16_code 28 = .ok (.ifCond .eq 16, 3) := by decide +kernel
theorem d_8_16_31 : decode prog_8_method_16_code 31 = .ok (.iload_n 3, 1) := by decide +kernel
theorem d_8_16_32 : decode prog_8_method_16_code 32 = .ok (.ifCond .lt 14, 3) := by decide +kernel
theorem d_8_16_35 : decode prog_8_method_16_code 35 = .ok (.aload_n 0, 1) := by decide +kernel
theorem d_8_16_36 : decode prog_8_method_16_code 36 = .ok (.iload_n 3, 1) := by decide +kernel
theorem d_8_16_37 : decode prog_8_method_16_code 37 = .ok (.lload_n 1, 1) := by decide +kernel
theorem d_8_16_38 : decode prog_8_method_16_code 38 = .ok (.invokevirtual 148, 3) := by decide +kernel
theorem d_8_16_41 : decode prog_8_method_16_code 41 = .ok (.ifCond .eq 5, 3) := by decide +kernel
theorem d_8_16_44 : decode prog_8_method_16_code 44 = .ok (.iconst (-1), 1) := by decide +kernel
theorem d_8_16_45 : decode prog_8_method_16_code 45 = .ok (.ireturn, 1) := by decide +kernel
theorem d_8_16_46 : decode prog_8_method_16_code 46 = .ok (.iload_n 3, 1) := by decide +kernel
theorem d_8_16_47 : decode prog_8_method_16_code 47 = .ok (.ifCond .lt 14, 3) := by decide +kernel
theorem d_8_16_50 : decode prog_8_method_16_code 50 = .ok (.aload_n 0, 1) := by decide +kernel
theorem d_8_16_51 : decode prog_8_method_16_code 51 = .ok (.getfield 23, 3) := by decide +kernel
theorem d_8_16_54 : decode prog_8_method_16_code 54 = .ok (.iload_n 3, 1) := by decide +kernel
theorem d_8_16_55 : decode prog_8_method_16_code 55 = .ok (.iaload, 1) := by decide +kernel
theorem d_8_16_56 : decode prog_8_method_16_code 56 = .ok (.bipush 6, 2) := by decide +kernel
theorem d_8_16_58 : decode prog_8_method_16_code 58 = .ok (.if_icmp .ne 6, 3) := by decide +kernel
theorem d_8_16_61 : decode prog_8_method_16_code 61 = .ok (.bipush (-2), 2) := by decide +kernel
theorem d_8_16_63 : decode prog_8_method_16_code 63 = .ok (.ireturn, 1) := by decide +kernel
theorem d_8_16_64 : decode prog_8_method_16_code 64 = .ok (.aload_n 0, 1) := by decide +kernel
theorem d_8_16_65 : decode prog_8_method_16_code 65 = .ok (.getfield 29, 3) := by decide +kernel
theorem d_8_16_68 : decode prog_8_method_16_code 68 = .ok (.bipush 6, 2) := by decide +kernel
theorem d_8_16_70 : decode prog_8_method_16_code 70 = .ok (.iload_n 3, 1) := by decide +kernel
theorem d_8_16_71 : decode prog_8_method_16_code 71 = .ok (.imul, 1) := by decide +kernel
theorem d_8_16_72 : decode prog_8_method_16_code 72 = .ok (.aload_n 0, 1) := by decide +kernel
theorem d_8_16_73 : decode prog_8_method_16_code 73 = .ok (.getfield 23, 3) := by decide +kernel
theorem d_8_16_76 : decode prog_8_method_16_code 76 = .ok (.iload_n 3, 1) := by decide +kernel
theorem d_8_16_77 : decode prog_8_method_16_code 77 = .ok (.iaload, 1) := by decide +kernel
theorem d_8_16_78 : decode prog_8_method_16_code 78 = .ok (.iadd, 1) := by decide +kernel
theorem d_8_16_79 : decode prog_8_method_16_code 79 = .ok (.lload_n 1, 1) := by decide +kernel
theorem d_8_16_80 : decode prog_8_method_16_code 80 = .ok (.lastore, 1) := by decide +kernel
theorem d_8_16_81 : decode prog_8_method_16_code 81 = .ok (.aload_n 0, 1) := by decide +kernel
theorem d_8_16_82 : decode prog_8_method_16_code 82 = .ok (.getfield 23, 3) := by decide +kernel
theorem d_8_16_85 : decode prog_8_method_16_code 85 = .ok (.iload_n 3, 1) := by decide +kernel
theorem d_8_16_86 : decode prog_8_method_16_code 86 = .ok (.dup2, 1) := by decide +kernel
theorem d_8_16_87 : decode prog_8_method_16_code 87 = .ok (.iaload, 1) := by decide +kernel
theorem d_8_16_88 : decode prog_8_method_16_code 88 = .ok (.iconst 1, 1) := by decide +kernel
theorem d_8_16_89 : decode prog_8_method_16_code 89 = .ok (.iadd, 1) := by decide +kernel
theorem d_8_16_90 : decode prog_8_method_16_code 90 = .ok (.iastore, 1) := by decide +kernel
theorem d_8_16_91 : decode prog_8_method_16_code 91 = .ok (.iconst 2, 1) := by decide +kernel
theorem d_8_16_92 : decode prog_8_method_16_code 92 = .ok (.ireturn, 1) := by decide +kernel
theorem d_8_15_0 : decode prog_8_method_15_code 0 = .ok (.iconst 0, 1) := by decide +kernel
theorem d_8_15_1 : decode prog_8_method_15_code 1 = .ok (.istore 4, 2) := by decide +kernel
theorem d_8_15_3 : decode prog_8_method_15_code 3 = .ok (.bipush 6, 2) := by decide +kernel
theorem d_8_15_5 : decode prog_8_method_15_code 5 = .ok (.iload_n 1, 1) := by decide +kernel
theorem d_8_15_6 : decode prog_8_method_15_code 6 = .ok (.imul, 1) := by decide +kernel
theorem d_8_15_7 : decode prog_8_method_15_code 7 = .ok (.istore 5, 2) := by decide +kernel
theorem d_8_15_9 : decode prog_8_method_15_code 9 = .ok (.iload 5, 2) := by decide +kernel
theorem d_8_15_11 : decode prog_8_method_15_code 11 = .ok (.bipush 6, 2) := by decide +kernel
theorem d_8_15_13 : decode prog_8_method_15_code 13 = .ok (.iload_n 1, 1) := by decide +kernel
theorem d_8_15_14 : decode prog_8_method_15_code 14 = .ok (.imul, 1) := by decide +kernel
theorem d_8_15_15 : decode prog_8_method_15_code 15 = .ok (.aload_n 0, 1) := by decide +kernel
theorem d_8_15_16 : decode prog_8_method_15_code 16 = .ok (.getfield 23, 3) := by decide +kernel
theorem d_8_15_19 : decode prog_8_method_15_code 19 = .ok (.iload_n 1, 1) := by decide +kernel
theorem d_8_15_20 : decode prog_8_method_15_code 20 = .ok (.iaload, 1) := by decide +kernel
theorem d_8_15_21 : decode prog_8_method_15_code 21 = .ok (.iadd, 1) := by decide +kernel
theorem d_8_15_22 : decode prog_8_method_15_code 22 = .ok (.if_icmp .ge 33, 3) := by decide +kernel
theorem d_8_15_25 : decode prog_8_method_15_code 25 = .ok (.iload 4, 2) := by decide +kernel
theorem d_8_15_27 : decode prog_8_method_15_code 27 = .ok (.ifCond .ne 15, 3) := by decide +kernel
theorem d_8_15_30 : decode prog_8_method_15_code 30 = .ok (.aload_n 0, 1) := by decide +kernel
theorem d_8_15_31 : decode prog_8_method_15_code 31 = .ok (.getfield 29, 3) := by decide +kernel
theorem d_8_15_34 : decode prog_8_method_15_code 34 = .ok (.iload 5, 2) := by decide +kernel
theorem d_8_15_36 : decode prog_8_method_15_code 36 = .ok (.laload, 1) := by decide +kernel
theorem d_8_15_37 : decode prog_8_method_15_code 37 = .ok (.lload_n 2, 1) := by decide +kernel
theorem d_8_15_38 : decode prog_8_method_15_code 38 = .ok (.lcmp, 1) := by decide +kernel
theorem d_8_15_39 : decode prog_8_method_15_code 39 = .ok (.ifCond .ne 7, 3) := by decide +kernel
theorem d_8_15_42 : decode prog_8_method_15_code 42 = .ok (.iconst 1, 1) := by decide +kernel
theorem d_8_15_43 : decode prog_8_method_15_code 43 = .ok (.goto 4, 3) := by decide +kernel
theorem d_8_15_46 : decode prog_8_method_15_code 46 = .ok (.iconst 0, 1) := by decide +kernel
theorem d_8_15_47 : decode prog_8_method_15_code 47 = .ok (.istore 4, 2) := by decide +kernel
theorem d_8_15_49 : decode prog_8_method_15_code 49 = .ok (.iinc 5 1, 3) := by decide +kernel
theorem d_8_15_52 : decode prog_8_method_15_code 52 = .ok (.goto (-43), 3) := by decide +kernel
theorem d_8_15_55 : decode prog_8_method_15_code 55 = .ok (.iload 4, 2) := by decide +kernel
theorem d_8_15_57 : decode prog_8_method_15_code 57 = .ok (.ireturn, 1) := by decide +kernel
theorem d_8_17_0 : decode prog_8_method_17_code 0 = .ok (.aload_n 0, 1) := by decide +kernel
theorem d_8_17_1 : decode prog_8_method_17_code 1 = .ok (.getfield 86, 3) := by decide +kernel
theorem d_8_17_4 : decode prog_8_method_17_code 4 = .ok (.iconst 2, 1) := by decide +kernel
theorem d_8_17_5 : decode prog_8_method_17_code 5 = .ok (.if_icmp .ne 11, 3) := by decide +kernel
theorem d_8_17_8 : decode prog_8_method_17_code 8 = .ok (.aload_n 0, 1) := by decide +kernel
theorem d_8_17_9 : decode prog_8_method_17_code 9 = .ok (.iconst 1, 1) := by decide +kernel
theorem d_8_17_10 : decode prog_8_method_17_code 10 = .ok (.invokevirtual 142, 3) := by decide +kernel
theorem d_8_17_13 : decode prog_8_method_17_code 13 = .ok (.goto 4, 3) := by decide +kernel
theorem d_8_17_16 : decode prog_8_method_17_code 16 = .ok (.iconst 0, 1) := by decide +kernel
theorem d_8_17_17 : decode prog_8_method_17_code 17 = .ok (.istore_n 1, 1) := by decide +kernel
theorem d_8_17_18 : decode prog_8_method_17_code 18 = .ok (.iload_n 1, 1) := by decide +kernel
theorem d_8_17_19 : decode prog_8_method_17_code 19 = .ok (.ifCond .eq 11, 3) := by decide +kernel
theorem d_8_17_22 : decode prog_8_method_17_code 22 = .ok (.aload_n 0, 1) := by decide +kernel
theorem d_8_17_23 : decode prog_8_method_17_code 23 = .ok (.iload_n 1, 1) := by decide +kernel
theorem d_8_17_24 : decode prog_8_method_17_code 24 = .ok (.invokevirtual 152, 3) := by decide +kernel
theorem d_8_17_27 : decode prog_8_method_17_code 27 = .ok (.ifCond .lt 5, 3) := by decide +kernel
theorem d_8_17_30 : decode prog_8_method_17_code 30 = .ok (.iconst (-1), 1) := by decide +kernel
theorem d_8_17_31 : decode prog_8_method_17_code 31 = .ok (.ireturn, 1) := by decide +kernel
theorem d_8_17_32 : decode prog_8_method_17_code 32 = .ok (.aload_n 0, 1) := by decide +kernel
theorem d_8_17_33 : decode prog_8_method_17_code 33 = .ok (.getfield 98, 3) := by decide +kernel
theorem d_8_17_36 : decode prog_8_method_17_code 36 = .ok (.bipush 8, 2) := by decide +kernel
theorem d_8_17_38 : decode prog_8_method_17_code 38 = .ok (.if_icmp .ne 6, 3) := by decide +kernel
theorem d_8_17_41 : decode prog_8_method_17_code 41 = .ok (.bipush (-2), 2) := by decide +kernel
theorem d_8_17_43 : decode prog_8_method_17_code 43 = .ok (.ireturn, 1) := by decide +kernel
theorem d_8_17_44 : decode prog_8_method_17_code 44 = .ok (.aload_n 0, 1) := by decide +kernel
theorem d_8_17_45 : decode prog_8_method_17_code 45 = .ok (.getfield 33, 3) := by decide +kernel
theorem d_8_17_48 : decode prog_8_method_17_code 48 = .ok (.aload_n 0, 1) := by decide +kernel
theorem d_8_17_49 : decode prog_8_method_17_code 49 = .ok (.getfield 98, 3) := by decide +kernel
theorem d_8_17_52 : decode prog_8_method_17_code 52 = .ok (.iload_n 1, 1) := by decide +kernel
theorem d_8_17_53 : decode prog_8_method_17_code 53 = .ok (.iastore, 1) := by decide +kernel
theorem d_8_17_54 : decode prog_8_method_17_code 54 = .ok (.aload_n 0, 1) := by decide +kernel
theorem d_8_17_55 : decode prog_8_method_17_code 55 = .ok (.getfield 48, 3) := by decide +kernel
theorem d_8_17_58 : decode prog_8_method_17_code 58 = .ok (.aload_n 0, 1) := by decide +kernel
theorem d_8_17_59 : decode prog_8_method_17_code 59 = .ok (.getfield 98, 3) := by decide +kernel
theorem d_8_17_62 : decode prog_8_method_17_code 62 = .ok (.iconst (-1), 1) := by decide +kernel
theorem d_8_17_63 : decode prog_8_method_17_code 63 = .ok (.iastore, 1) := by decide +kernel
theorem d_8_17_64 : decode prog_8_method_17_code 64 = .ok (.aload_n 0, 1) := by decide +kernel
theorem d_8_17_65 : decode prog_8_method_17_code 65 = .ok (.dup, 1) := by decide +kernel
theorem d_8_17_66 : decode prog_8_method_17_code 66 = .ok (.getfield 98, 3) := by decide +kernel
theorem d_8_17_69 : decode prog_8_method_17_code 69 = .ok (.iconst 1, 1) := by decide +kernel
theorem d_8_17_70 : decode prog_8_method_17_code 70 = .ok (.iadd, 1) := by decide +kernel
theorem d_8_17_71 : decode prog_8_method_17_code 71 = .ok (.putfield 98, 3) := by decide +kernel
theorem d_8_17_74 : decode prog_8_method_17_code 74 = .ok (.iconst 3, 1) := by decide +kernel
theorem d_8_17_75 : decode prog_8_method_17_code 75 = .ok (.ireturn, 1) := by decide +kernel
theorem d_8_12_0 : decode prog_8_method_12_code 0 = .ok (.iconst 0, 1) := by decide +kernel
theorem d_8_12_1 : decode prog_8_method_12_code 1 = .ok (.istore_n 2, 1) := by decide +kernel
theorem d_8_12_2 : decode prog_8_method_12_code 2 = .ok (.iload_n 2, 1) := by decide +kernel
theorem d_8_12_3 : decode prog_8_method_12_code 3 = .ok (.aload_n 0, 1) := by decide +kernel
theorem d_8_12_4 : decode prog_8_method_12_code 4 = .ok (.getfield 98, 3) := by decide +kernel
theorem d_8_12_7 : decode prog_8_method_12_code 7 = .ok (.if_icmp .ge 30, 3) := by decide +kernel
theorem d_8_12_10 : decode prog_8_method_12_code 10 = .ok (.aload_n 0, 1) := by decide +kernel
theorem d_8_12_11 : decode prog_8_method_12_code 11 = .ok (.getfield 33, 3) := by decide +kernel
theorem d_8_12_14 : decode prog_8_method_12_code 14 = .ok (.iload_n 2, 1) := by decide +kernel
theorem d_8_12_15 : decode prog_8_method_12_code 15 = .ok (.iaload, 1) := by decide +kernel
theorem d_8_12_16 : decode prog_8_method_12_code 16 = .ok (.iload_n 1, 1) := by decide +kernel
theorem d_8_12_17 : decode prog_8_method_12_code 17 = .ok (.if_icmp .ne 14, 3) := by decide +kernel
theorem d_8_12_20 : decode prog_8_method_12_code 20 = .ok (.aload_n 0, 1) := by decide +kernel
theorem d_8_12_21 : decode prog_8_method_12_code 21 = .ok (.getfield 63, 3) := by decide +kernel
theorem d_8_12_24 : decode prog_8_method_12_code 24 = .ok (.iload_n 2, 1) := by decide +kernel
theorem d_8_12_25 : decode prog_8_method_12_code 25 = .ok (.baload, 1) := by decide +kernel
theorem d_8_12_26 : decode prog_8_method_12_code 26 = .ok (.ifCond .ne 5, 3) := by decide +kernel
theorem d_8_12_29 : decode prog_8_method_12_code 29 = .ok (.iload_n 2, 1) := by decide +kernel
theorem d_8_12_30 : decode prog_8_method_12_code 30 = .ok (.ireturn, 1) := by decide +kernel
theorem d_8_12_31 : decode prog_8_method_12_code 31 = .ok (.iinc 2 1, 3) := by decide +kernel
theorem d_8_12_34 : decode prog_8_method_12_code 34 = .ok (.goto (-32), 3) := by decide +kernel
theorem d_8_12_37 : decode prog_8_method_12_code 37 = .ok (.iconst (-1), 1) := by decide +kernel
theorem d_8_12_38 : decode prog_8_method_12_code 38 = .ok (.ireturn, 1) := by decide +kernel
theorem d_8_19_0 : decode prog_8_method_19_code 0 = .ok (.aload_n 0, 1) := by decide +kernel
theorem d_8_19_1 : decode prog_8_method_19_code 1 = .ok (.getfield 86, 3) := by decide +kernel
theorem d_8_19_4 : decode prog_8_method_19_code 4 = .ok (.iconst 2, 1) := by decide +kernel
theorem d_8_19_5 : decode prog_8_method_19_code 5 = .ok (.if_icmp .ne 11, 3) := by decide +kernel
theorem d_8_19_8 : decode prog_8_method_19_code 8 = .ok (.aload_n 0, 1) := by decide +kernel
theorem d_8_19_9 : decode prog_8_method_19_code 9 = .ok (.iconst 1, 1) := by decide +kernel
theorem d_8_19_10 : decode prog_8_method_19_code 10 = .ok (.invokevirtual 142, 3) := by decide +kernel
theorem d_8_19_13 : decode prog_8_method_19_code 13 = .ok (.goto 4, 3) := by decide +kernel
theorem d_8_19_16 : decode prog_8_method_19_code 16 = .ok (.iconst 0, 1) := by decide +kernel
theorem d_8_19_17 : decode prog_8_method_19_code 17 = .ok (.istore_n 1, 1) := by decide +kernel
theorem d_8_19_18 : decode prog_8_method_19_code 18 = .ok (.iload_n 1, 1) := by decide +kernel
theorem d_8_19_19 : decode prog_8_method_19_code 19 = .ok (.ifCond .ne 7, 3) := by decide +kernel
theorem d_8_19_22 : decode prog_8_method_19_code 22 = .ok (.iconst (-1), 1) := by decide +kernel
theorem d_8_19_23 : decode prog_8_method_19_code 23 = .ok (.goto 8, 3) := by decide +kernel
theorem d_8_19_26 : decode prog_8_method_19_code 26 = .ok (.aload_n 0, 1) := by decide +kernel
theorem d_8_19_27 : decode prog_8_method_19_code 27 = .ok (.iload_n 1, 1) := by decide +kernel
theorem d_8_19_28 : decode prog_8_method_19_code 28 = .ok (.invokevirtual 145, 3) := by decide +kernel
theorem d_8_19_31 : decode prog_8_method_19_code 31 = .ok (.istore_n 2, 1) := by decide +kernel
theorem d_8_19_32 : decode prog_8_method_19_code 32 = .ok (.aload_n 0, 1) := by decide +kernel
theorem d_8_19_33 : decode prog_8_method_19_code 33 = .ok (.getfield 98, 3) := by decide +kernel
theorem d_8_19_36 : decode prog_8_method_19_code 36 = .ok (.iconst 1, 1) := by decide +kernel
theorem d_8_19_37 : decode prog_8_method_19_code 37 = .ok (.isub, 1) := by decide +kernel
theorem d_8_19_38 : decode prog_8_method_19_code 38 = .ok (.istore_n 3, 1) := by decide +kernel
theorem d_8_19_39 : decode prog_8_method_19_code 39 = .ok (.iconst 0, 1) := by decide +kernel
theorem d_8_19_40 : decode prog_8_method_19_code 40 = .ok (.istore 4, 2) := by decide +kernel
theorem d_8_19_42 : decode prog_8_method_19_code 42 = .ok (.iconst 4, 1) := by decide +kernel
theorem d_8_19_43 : decode prog_8_method_19_code 43 = .ok (.iload_n 3, 1) := by decide +kernel
theorem d_8_19_44 : decode prog_8_method_19_code 44 = .ok (.imul, 1) := by decide +kernel
theorem d_8_19_45 : decode prog_8_method_19_code 45 = .ok (.istore 5, 2) := by decide +kernel
theorem d_8_19_47 : decode prog_8_method_19_code 47 = .ok (.iload_n 3, 1) := by decide +kernel
theorem d_8_19_48 : decode prog_8_method_19_code 48 = .ok (.ifCond .lt 47, 3) := by decide +kernel
theorem d_8_19_51 : decode prog_8_method_19_code 51 = .ok (.iload 5, 2) := by decide +kernel
theorem d_8_19_53 : decode prog_8_method_19_code 53 = .ok (.iconst 4, 1) := by decide +kernel
theorem d_8_19_54 : decode prog_8_method_19_code 54 = .ok (.iload_n 3, 1) := by decide +kernel
theorem d_8_19_55 : decode prog_8_method_19_code 55 = .ok (.imul, 1) := by decide +kernel
theorem d_8_19_56 : decode prog_8_method_19_code 56 = .ok (.aload_n 0, 1) := by decide +kernel
theorem d_8_19_57 : decode prog_8_method_19_code 57 = .ok (.getfield 36, 3) := by decide +kernel
theorem d_8_19_60 : decode prog_8_method_19_code 60 = .ok (.iload_n 3, 1) := by decide +kernel
theorem d_8_19_61 : decode prog_8_method_19_code 61 = .ok (.iaload, 1) := by decide +kernel
theorem d_8_19_62 : decode prog_8_method_19_code 62 = .ok (.iadd, 1) := by decide +kernel
theorem d_8_19_63 : decode prog_8_method_19_code 63 = .ok (.if_icmp .ge 32, 3) := by decide +kernel
theorem d_8_19_66 : decode prog_8_method_19_code 66 = .ok (.iload 4, 2) := by decide +kernel
theorem d_8_19_68 : decode prog_8_method_19_code 68 = .ok (.ifCond .ne 14, 3) := by decide +kernel
theorem d_8_19_71 : decode prog_8_method_19_code 71 = .ok (.aload_n 0, 1) := by decide +kernel
theorem d_8_19_72 : decode prog_8_method_19_code 72 = .ok (.getfield 39, 3) := by decide +kernel
theorem d_8_19_75 : decode prog_8_method_19_code 75 = .ok (.iload 5, 2) := by decide +kernel
theorem d_8_19_77 : decode prog_8_method_19_code 77 = .ok (.iaload, 1) := by decide +kernel
theorem d_8_19_78 : decode prog_8_method_19_code 78 = .ok (.iload_n 2, 1) := by decide +kernel
theorem d_8_19_79 : decode prog_8_method_19_code 79 = .ok (.if_icmp .ne 7, 3) := by decide +kernel
theorem d_8_19_82 : decode prog_8_method_19_code 82 = .ok (.iconst 1, 1) := by decide +kernel
theorem d_8_19_83 : decode prog_8_method_19_code 83 = .ok (.goto 4, 3) := by decide +kernel
theorem d_8_19_86 : decode prog_8_method_19_code 86 = .ok (.iconst 0, 1) := by decide +kernel
theorem d_8_19_87 : decode prog_8_method_19_code 87 = .ok (.istore 4, 2) := by decide +kernel
theorem d_8_19_89 : decode prog_8_method_19_code 89 = .ok (.iinc 5 1, 3) := by decide +kernel
theorem d_8_19_92 : decode prog_8_method_19_code 92 = .ok (.goto (-45), 3) := by decide +kernel
theorem d_8_19_95 : decode prog_8_method_19_code 95 = .ok (.iload_n 2, 1) := by decide +kernel
theorem d_8_19_96 : decode prog_8_method_19_code 96 = .ok (.ifCond .lt 8, 3) := by decide +kernel
theorem d_8_19_99 : decode prog_8_method_19_code 99 = .ok (.iload 4, 2) := by decide +kernel
theorem d_8_19_101 : decode prog_8_method_19_code 101 = .ok (.ifCond .eq 5, 3) := by decide +kernel
theorem d_8_19_104 : decode prog_8_method_19_code 104 = .ok (.iconst (-1), 1) := by decide +kernel
theorem d_8_19_105 : decode prog_8_method_19_code 105 = .ok (.ireturn, 1) := by decide +kernel
theorem d_8_19_106 : decode prog_8_method_19_code 106 = .ok (.aload_n 0, 1) := by decide +kernel
theorem d_8_19_107 : decode prog_8_method_19_code 107 = .ok (.invokevirtual 155, 3) := by decide +kernel
theorem d_8_19_110 : decode prog_8_method_19_code 110 = .ok (.ifCond .ne 13, 3) := by decide +kernel
theorem d_8_19_113 : decode prog_8_method_19_code 113 = .ok (.aload_n 0, 1) := by decide +kernel
theorem d_8_19_114 : decode prog_8_method_19_code 114 = .ok (.getfield 36, 3) := by decide +kernel
theorem d_8_19_117 : decode prog_8_method_19_code 117 = .ok (.iload_n 3, 1) := by decide +kernel
theorem d_8_19_118 : decode prog_8_method_19_code 118 = .ok (.iaload, 1) := by decide +kernel
theorem d_8_19_119 : decode prog_8_method_19_code 119 = .ok (.iconst 4, 1) := by decide +kernel
theorem d_8_19_120 : decode prog_8_method_19_code 120 = .ok (.if_icmp .ne 6, 3) := by decide +kernel
theorem d_8_19_123 : decode prog_8_method_19_code 123 = .ok (.bipush (-2), 2) := by decide +kernel
theorem d_8_19_125 : decode prog_8_method_19_code 125 = .ok (.ireturn, 1) := by decide +kernel
theorem d_8_19_126 : decode prog_8_method_19_code 126 = .ok (.aload_n 0, 1) := by decide +kernel
theorem d_8_19_127 : decode prog_8_method_19_code 127 = .ok (.getfield 39, 3) := by decide +kernel
theorem d_8_19_130 : decode prog_8_method_19_code 130 = .ok (.iconst 4, 1) := by decide +kernel
theorem d_8_19_131 : decode prog_8_method_19_code 131 = .ok (.iload_n 3, 1) := by decide +kernel
theorem d_8_19_132 : decode prog_8_method_19_code 132 = .ok (.imul, 1) := by decide +kernel
theorem d_8_19_133 : decode prog_8_method_19_code 133 = .ok (.aload_n 0, 1) := by decide +kernel
theorem d_8_19_134 : decode prog_8_method_19_code 134 = .ok (.getfield 36, 3) := by decide +kernel
theorem d_8_19_137 : decode prog_8_method_19_code 137 = .ok (.iload_n 3, 1) := by decide +kernel
theorem d_8_19_138 : decode prog_8_method_19_code 138 = .ok (.iaload, 1) := by decide +kernel
theorem d_8_19_139 : decode prog_8_method_19_code 139 = .ok (.iadd, 1) := by decide +kernel
theorem d_8_19_140 : decode prog_8_method_19_code 140 = .ok (.iload_n 2, 1) := by decide +kernel
theorem d_8_19_141 : decode prog_8_method_19_code 141 = .ok (.iastore, 1) := by decide +kernel
theorem d_8_19_142 : decode prog_8_method_19_code 142 = .ok (.aload_n 0, 1) := by decide +kernel
theorem d_8_19_143 : decode prog_8_method_19_code 143 = .ok (.getfield 36, 3) := by decide +kernel
theorem d_8_19_146 : decode prog_8_method_19_code 146 = .ok (.iload_n 3, 1) := by decide +kernel
theorem d_8_19_147 : decode prog_8_method_19_code 147 = .ok (.dup2, 1) := by decide +kernel
theorem d_8_19_148 : decode prog_8_method_19_code 148 = .ok (.iaload, 1) := by decide +kernel
theorem d_8_19_149 : decode prog_8_method_19_code 149 = .ok (.iconst 1, 1) := by decide +kernel
theorem d_8_19_150 : decode prog_8_method_19_code 150 = .ok (.iadd, 1) := by decide +kernel
theorem d_8_19_151 : decode prog_8_method_19_code 151 = .ok (.iastore, 1) := by decide +kernel
theorem d_8_19_152 : decode prog_8_method_19_code 152 = .ok (.iconst 4, 1) := by decide +kernel
theorem d_8_19_153 : decode prog_8_method_19_code 153 = .ok (.ireturn, 1) := by decide +kernel
theorem d_8_18_0 : decode prog_8_method_18_code 0 = .ok (.aload_n 0, 1) := by decide +kernel
theorem d_8_18_1 : decode prog_8_method_18_code 1 = .ok (.getfield 98, 3) := by decide +kernel
theorem d_8_18_4 : decode prog_8_method_18_code 4 = .ok (.ifCond .eq 17, 3) := by decide +kernel
theorem d_8_18_7 : decode prog_8_method_18_code 7 = .ok (.aload_n 0, 1) := by decide +kernel
theorem d_8_18_8 : decode prog_8_method_18_code 8 = .ok (.getfield 63, 3) := by decide +kernel
theorem d_8_18_11 : decode prog_8_method_18_code 11 = .ok (.aload_n 0, 1) := by decide +kernel
theorem d_8_18_12 : decode prog_8_method_18_code 12 = .ok (.getfield 98, 3) := by decide +kernel
theorem d_8_18_15 : decode prog_8_method_18_code 15 = .ok (.iconst 1, 1) := by decide +kernel
theorem d_8_18_16 : decode prog_8_method_18_code 16 = .ok (.isub, 1) := by decide +kernel
theorem d_8_18_17 : decode prog_8_method_18_code 17 = .ok (.baload, 1) := by decide +kernel
theorem d_8_18_18 : decode prog_8_method_18_code 18 = .ok (.ifCond .eq 7, 3) := by decide +kernel
theorem d_8_18_21 : decode prog_8_method_18_code 21 = .ok (.iconst 1, 1) := by decide +kernel
theorem d_8_18_22 : decode prog_8_method_18_code 22 = .ok (.goto 4, 3) := by decide +kernel
theorem d_8_18_25 : decode prog_8_method_18_code 25 = .ok (.iconst 0, 1) := by decide +kernel
theorem d_8_18_26 : decode prog_8_method_18_code 26 = .ok (.ireturn, 1) := by decide +kernel
theorem d_8_20_0 : decode prog_8_method_20_code 0 = .ok (.aload_n 0, 1) := by decide +kernel
theorem d_8_20_1 : decode prog_8_method_20_code 1 = .ok (.getfield 86, 3) := by decide +kernel
theorem d_8_20_4 : decode prog_8_method_20_code 4 = .ok (.iconst 4, 1) := by decide +kernel
theorem d_8_20_5 : decode prog_8_method_20_code 5 = .ok (.if_icmp .ne 36, 3) := by decide +kernel
theorem d_8_20_8 : decode prog_8_method_20_code 8 = .ok (.aload_n 0, 1) := by decide +kernel
theorem d_8_20_9 : decode prog_8_method_20_code 9 = .ok (.iconst 2, 1) := by decide +kernel
theorem d_8_20_10 : decode prog_8_method_20_code 10 = .ok (.bipush 102, 2) := by decide +kernel
theorem d_8_20_12 : decode prog_8_method_20_code 12 = .ok (.bipush 114, 2) := by decide +kernel
theorem d_8_20_14 : decode prog_8_method_20_code 14 = .ok (.bipush 111, 2) := by decide +kernel
theorem d_8_20_16 : decode prog_8_method_20_code 16 = .ok (.bipush 109, 2) := by decide +kernel
theorem d_8_20_18 : decode prog_8_method_20_code 18 = .ok (.invokevirtual 104, 3) := by decide +kernel
theorem d_8_20_21 : decode prog_8_method_20_code 21 = .ok (.ifCond .eq 20, 3) := by decide +kernel
theorem d_8_20_24 : decode prog_8_method_20_code 24 = .ok (.aload_n 0, 1) := by decide +kernel
theorem d_8_20_25 : decode prog_8_method_20_code 25 = .ok (.iconst 2, 1) := by decide +kernel
theorem d_8_20_26 : decode prog_8_method_20_code 26 = .ok (.iconst 4, 1) := by decide +kernel
theorem d_8_20_27 : decode prog_8_method_20_code 27 = .ok (.invokevirtual 108, 3) := by decide +kernel
theorem d_8_20_30 : decode prog_8_method_20_code 30 = .ok (.ifCond .eq 11, 3) := by decide +kernel
theorem d_8_20_33 : decode prog_8_method_20_code 33 = .ok (.aload_n 0, 1) := by decide +kernel
theorem d_8_20_34 : decode prog_8_method_20_code 34 = .ok (.iconst 1, 1) := by decide +kernel
theorem d_8_20_35 : decode prog_8_method_20_code 35 = .ok (.invokevirtual 89, 3) := by decide +kernel
theorem d_8_20_38 : decode prog_8_method_20_code 38 = .ok (.goto 4, 3) := by decide +kernel
theorem d_8_20_41 : decode prog_8_method_20_code 41 = .ok (.lconst 0, 1) := by decide +kernel
theorem d_8_20_42 : decode prog_8_method_20_code 42 = .ok (.lstore_n 1, 1) := by decide +kernel
theorem d_8_20_43 : decode prog_8_method_20_code 43 = .ok (.lload_n 1, 1) := by decide +kernel
theorem d_8_20_44 : decode prog_8_method_20_code 44 = .ok (.lconst 0, 1) := by decide +kernel
theorem d_8_20_45 : decode prog_8_method_20_code 45 = .ok (.lcmp, 1) := by decide +kernel
theorem d_8_20_46 : decode prog_8_method_20_code 46 = .ok (.ifCond .ne 7, 3) := by decide +kernel
theorem d_8_20_49 : decode prog_8_method_20_code 49 = .ok (.iconst 0, 1) := by decide +kernel
theorem d_8_20_50 : decode prog_8_method_20_code 50 = .ok (.goto 8, 3) := by decide +kernel
theorem d_8_20_53 : decode prog_8_method_20_code 53 = .ok (.aload_n 0, 1) := by decide +kernel
theorem d_8_20_54 : decode prog_8_method_20_code 54 = .ok (.iconst 3, 1) := by decide +kernel
theorem d_8_20_55 : decode prog_8_method_20_code 55 = .ok (.invokevirtual 142, 3) := by decide +kernel
theorem d_8_20_58 : decode prog_8_method_20_code 58 = .ok (.istore_n 3, 1) := by decide +kernel
theorem d_8_20_59 : decode prog_8_method_20_code 59 = .ok (.iload_n 3, 1) := by decide +kernel
theorem d_8_20_60 : decode prog_8_method_20_code 60 = .ok (.ifCond .ne 7, 3) := by decide +kernel
theorem d_8_20_63 : decode prog_8_method_20_code 63 = .ok (.iconst (-1), 1) := by decide +kernel
theorem d_8_20_64 : decode prog_8_method_20_code 64 = .ok (.goto 8, 3) := by decide +kernel
theorem d_8_20_67 : decode prog_8_method_20_code 67 = .ok (.aload_n 0, 1) := by decide +kernel
theorem d_8_20_68 : decode prog_8_method_20_code 68 = .ok (.iload_n 3, 1) := by decide +kernel
theorem d_8_20_69 : decode prog_8_method_20_code 69 = .ok (.invokevirtual 152, 3) := by decide +kernel
theorem d_8_20_72 : decode prog_8_method_20_code 72 = .ok (.istore 4, 2) := by decide +kernel
theorem d_8_20_74 : decode prog_8_method_20_code 74 = .ok (.aload_n 0, 1) := by decide +kernel
theorem d_8_20_75 : decode prog_8_method_20_code 75 = .ok (.getfield 98, 3) := by decide +kernel
theorem d_8_20_78 : decode prog_8_method_20_code 78 = .ok (.iconst 1, 1) := by decide +kernel
theorem d_8_20_79 : decode prog_8_method_20_code 79 = .ok (.isub, 1) := by decide +kernel
theorem d_8_20_80 : decode prog_8_method_20_code 80 = .ok (.istore 5, 2) := by decide +kernel
theorem d_8_20_82 : decode prog_8_method_20_code 82 = .ok (.iload 4, 2) := by decide +kernel
theorem d_8_20_84 : decode prog_8_method_20_code 84 = .ok (.ifCond .lt 10, 3) := by decide +kernel
theorem d_8_20_87 : decode prog_8_method_20_code 87 = .ok (.iload 4, 2) := by decide +kernel
theorem d_8_20_89 : decode prog_8_method_20_code 89 = .ok (.iload 5, 2) := by decide +kernel
theorem d_8_20_91 : decode prog_8_method_20_code 91 = .ok (.if_icmp .ne 5, 3) := by decide +kernel
theorem d_8_20_94 : decode prog_8_method_20_code 94 = .ok (.iconst (-1), 1) := by decide +kernel
theorem d_8_20_95 : decode prog_8_method_20_code 95 = .ok (.ireturn, 1) := by decide +kernel
theorem d_8_20_96 : decode prog_8_method_20_code 96 = .ok (.aload_n 0, 1) := by decide +kernel
theorem d_8_20_97 : decode prog_8_method_20_code 97 = .ok (.invokevirtual 155, 3) := by decide +kernel
theorem d_8_20_100 : decode prog_8_method_20_code 100 = .ok (.ifCond .ne 14, 3) := by decide +kernel
theorem d_8_20_103 : decode prog_8_method_20_code 103 = .ok (.aload_n 0, 1) := by decide +kernel
theorem d_8_20_104 : decode prog_8_method_20_code 104 = .ok (.getfield 42, 3) := by decide +kernel
theorem d_8_20_107 : decode prog_8_method_20_code 107 = .ok (.iload 5, 2) := by decide +kernel
theorem d_8_20_109 : decode prog_8_method_20_code 109 = .ok (.iaload, 1) := by decide +kernel
theorem d_8_20_110 : decode prog_8_method_20_code 110 = .ok (.iconst 4, 1) := by decide +kernel
theorem d_8_20_111 : decode prog_8_method_20_code 111 = .ok (.if_icmp .ne 6, 3) := by decide +kernel
theorem d_8_20_114 : decode prog_8_method_20_code 114 = .ok (.bipush (-2), 2) := by decide +kernel
theorem d_8_20_116 : decode prog_8_method_20_code 116 = .ok (.ireturn, 1) := by decide +kernel
theorem d_8_20_117 : decode prog_8_method_20_code 117 = .ok (.aload_n 0, 1) := by decide +kernel
theorem d_8_20_118 : decode prog_8_method_20_code 118 = .ok (.getfield 57, 3) := by decide +kernel
theorem d_8_20_121 : decode prog_8_method_20_code 121 = .ok (.iconst 4, 1) := by decide +kernel
theorem d_8_20_122 : decode prog_8_method_20_code 122 = .ok (.iload 5, 2) := by decide +kernel
theorem d_8_20_124 : decode prog_8_method_20_code 124 = .ok (.imul, 1) := by decide +kernel
theorem d_8_20_125 : decode prog_8_method_20_code 125 = .ok (.aload_n 0, 1) := by decide +kernel
theorem d_8_20_126 : decode prog_8_method_20_code 126 = .ok (.getfield 42, 3) := by decide +kernel
theorem d_8_20_129 : decode prog_8_method_20_code 129 = .ok (.iload 5, 2) := by decide +kernel
theorem d_8_20_131 : decode prog_8_method_20_code 131 = .ok (.iaload, 1) := by decide +kernel
theorem d_8_20_132 : decode prog_8_method_20_code 132 = .ok (.iadd, 1) := by decide +kernel
theorem d_8_20_133 : decode prog_8_method_20_code 133 = .ok (.lload_n 1, 1) := by decide +kernel
theorem d_8_20_134 : decode prog_8_method_20_code 134 = .ok (.lastore, 1) := by decide +kernel
theorem d_8_20_135 : decode prog_8_method_20_code 135 = .ok (.aload_n 0, 1) := by decide +kernel
theorem d_8_20_136 : decode prog_8_method_20_code 136 = .ok (.getfield 45, 3) := by decide +kernel
theorem d_8_20_139 : decode prog_8_method_20_code 139 = .ok (.iconst 4, 1) := by decide +kernel
theorem d_8_20_140 : decode prog_8_method_20_code 140 = .ok (.iload 5, 2) := by decide +kernel
theorem d_8_20_142 : decode prog_8_method_20_code 142 = .ok (.imul, 1) := by decide +kernel
theorem d_8_20_143 : decode prog_8_method_20_code 143 = .ok (.aload_n 0, 1) := by decide +kernel
theorem d_8_20_144 : decode prog_8_method_20_code 144 = .ok (.getfield 42, 3) := by decide +kernel
theorem d_8_20_147 : decode prog_8_method_20_code 147 = .ok (.iload 5, 2) := by decide +kernel
theorem d_8_20_149 : decode prog_8_method_20_code 149 = .ok (.iaload, 1) := by decide +kernel
theorem d_8_20_150 : decode prog_8_method_20_code 150 = .ok (.iadd, 1) := by decide +kernel
theorem d_8_20_151 : decode prog_8_method_20_code 151 = .ok (.iload 4, 2) := by decide +kernel
theorem d_8_20_153 : decode prog_8_method_20_code 153 = .ok (.iastore, 1) := by decide +kernel
theorem d_8_20_154 : decode prog_8_method_20_code 154 = .ok (.aload_n 0, 1) := by decide +kernel
theorem d_8_20_155 : decode prog_8_method_20_code 155 = .ok (.getfield 42, 3) := by decide +kernel
theorem d_8_20_158 : decode prog_8_method_20_code 158 = .ok (.iload 5, 2) := by decide +kernel
theorem d_8_20_160 : decode prog_8_method_20_code 160 = .ok (.dup2, 1) := by decide +kernel
theorem d_8_20_161 : decode prog_8_method_20_code 161 = .ok (.iaload, 1) := by decide +kernel
theorem d_8_20_162 : decode prog_8_method_20_code 162 = .ok (.iconst 1, 1) := by decide +kernel
theorem d_8_20_163 : decode prog_8_method_20_code 163 = .ok (.iadd, 1) := by decide +kernel
theorem d_8_20_164 : decode prog_8_method_20_code 164 = .ok (.iastore, 1) := by decide +kernel
theorem d_8_20_165 : decode prog_8_method_20_code 165 = .ok (.iconst 4, 1) := by decide +kernel
theorem d_8_20_166 : decode prog_8_method_20_code 166 = .ok (.ireturn, 1) := by decide +kernel
theorem d_8_21_0 : decode prog_8_method_21_code 0 = .ok (.aload_n 0, 1) := by decide +kernel
theorem d_8_21_1 : decode prog_8_method_21_code 1 = .ok (.getfield 86, 3) := by decide +kernel
theorem d_8_21_4 : decode prog_8_method_21_code 4 = .ok (.iconst 2, 1) := by decide +kernel
theorem d_8_21_5 : decode prog_8_method_21_code 5 = .ok (.if_icmp .ne 11, 3) := by decide +kernel
theorem d_8_21_8 : decode prog_8_method_21_code 8 = .ok (.aload_n 0, 1) := by decide +kernel
theorem d_8_21_9 : decode prog_8_method_21_code 9 = .ok (.iconst 1, 1) := by decide +kernel
theorem d_8_21_10 : decode prog_8_method_21_code 10 = .ok (.invokevirtual 142, 3) := by decide +kernel
theorem d_8_21_13 : decode prog_8_method_21_code 13 = .ok (.goto 4, 3) := by decide +kernel
theorem d_8_21_16 : decode prog_8_method_21_code 16 = .ok (.iconst 0, 1) := by decide +kernel
theorem d_8_21_17 : decode prog_8_method_21_code 17 = .ok (.istore_n 1, 1) := by decide +kernel
theorem d_8_21_18 : decode prog_8_method_21_code 18 = .ok (.iload_n 1, 1) := by decide +kernel
theorem d_8_21_19 : decode prog_8_method_21_code 19 = .ok (.ifCond .ne 7, 3) := by decide +kernel
theorem d_8_21_22 : decode prog_8_method_21_code 22 = .ok (.iconst (-1), 1) := by decide +kernel
theorem d_8_21_23 : decode prog_8_method_21_code 23 = .ok (.goto 8, 3) := by decide +kernel
theorem d_8_21_26 : decode prog_8_method_21_code 26 = .ok (.aload_n 0, 1) := by decide +kernel
theorem d_8_21_27 : decode prog_8_method_21_code 27 = .ok (.iload_n 1, 1) := by decide +kernel
theorem d_8_21_28 : decode prog_8_method_21_code 28 = .ok (.invokevirtual 152, 3) := by decide +kernel
theorem d_8_21_31 : decode prog_8_method_21_code 31 = .ok (.istore_n 2, 1) := by decide +kernel
theorem d_8_21_32 : decode prog_8_method_21_code 32 = .ok (.iload_n 2, 1) := by decide +kernel
theorem d_8_21_33 : decode prog_8_method_21_code 33 = .ok (.ifCond .lt 13, 3) := by decide +kernel
theorem d_8_21_36 : decode prog_8_method_21_code 36 = .ok (.iload_n 2, 1) := by decide +kernel
theorem d_8_21_37 : decode prog_8_method_21_code 37 = .ok (.aload_n 0, 1) := by decide +kernel
theorem d_8_21_38 : decode prog_8_method_21_code 38 = .ok (.getfield 98, 3) := by decide +kernel
theorem d_8_21_41 : decode prog_8_method_21_code 41 = .ok (.iconst 1, 1) := by decide +kernel
theorem d_8_21_42 : decode prog_8_method_21_code 42 = .ok (.isub, 1) := by decide +kernel
theorem d_8_21_43 : decode prog_8_method_21_code 43 = .ok (.if_icmp .ne 5, 3) := by decide +kernel
theorem d_8_21_46 : decode prog_8_method_21_code 46 = .ok (.iconst (-1), 1) := by decide +kernel
theorem d_8_21_47 : decode prog_8_method_21_code 47 = .ok (.ireturn, 1) := by decide +kernel
theorem d_8_21_48 : decode prog_8_method_21_code 48 = .ok (.aload_n 0, 1) := by decide +kernel
theorem d_8_21_49 : decode prog_8_method_21_code 49 = .ok (.invokevirtual 155, 3) := by decide +kernel
theorem d_8_21_52 : decode prog_8_method_21_code 52 = .ok (.ifCond .eq 6, 3) := by decide +kernel
theorem d_8_21_55 : decode prog_8_method_21_code 55 = .ok (.bipush (-2), 2) := by decide +kernel
theorem d_8_21_57 : decode prog_8_method_21_code 57 = .ok (.ireturn, 1) := by decide +kernel
theorem d_8_21_58 : decode prog_8_method_21_code 58 = .ok (.aload_n 0, 1) := by decide +kernel
theorem d_8_21_59 : decode prog_8_method_21_code 59 = .ok (.getfield 48, 3) := by decide +kernel
theorem d_8_21_62 : decode prog_8_method_21_code 62 = .ok (.aload_n 0, 1) := by decide +kernel
theorem d_8_21_63 : decode prog_8_method_21_code 63 = .ok (.getfield 98, 3) := by decide +kernel
theorem d_8_21_66 : decode prog_8_method_21_code 66 = .ok (.iconst 1, 1) := by decide +kernel
theorem d_8_21_67 : decode prog_8_method_21_code 67 = .ok (.isub, 1) := by decide +kernel
theorem d_8_21_68 : decode prog_8_method_21_code 68 = .ok (.iload_n 2, 1) := by decide +kernel
theorem d_8_21_69 : decode prog_8_method_21_code 69 = .ok (.iastore, 1) := by decide +kernel
theorem d_8_21_70 : decode prog_8_method_21_code 70 = .ok (.iconst 4, 1) := by decide +kernel
theorem d_8_21_71 : decode prog_8_method_21_code 71 = .ok (.ireturn, 1) := by decide +kernel
theorem d_8_22_0 : decode prog_8_method_22_code 0 = .ok (.aload_n 0, 1) := by decide +kernel
theorem d_8_22_1 : decode prog_8_method_22_code 1 = .ok (.invokevirtual 155, 3) := by decide +kernel
theorem d_8_22_4 : decode prog_8_method_22_code 4 = .ok (.ifCond .eq 6, 3) := by decide +kernel
theorem d_8_22_7 : decode prog_8_method_22_code 7 = .ok (.bipush (-2), 2) := by decide +kernel
theorem d_8_22_9 : decode prog_8_method_22_code 9 = .ok (.ireturn, 1) := by decide +kernel
theorem d_8_22_10 : decode prog_8_method_22_code 10 = .ok (.aload_n 0, 1) := by decide +kernel
theorem d_8_22_11 : decode prog_8_method_22_code 11 = .ok (.getfield 67, 3) := by decide +kernel
theorem d_8_22_14 : decode prog_8_method_22_code 14 = .ok (.aload_n 0, 1) := by decide +kernel
theorem d_8_22_15 : decode prog_8_method_22_code 15 = .ok (.getfield 98, 3) := by decide +kernel
theorem d_8_22_18 : decode prog_8_method_22_code 18 = .ok (.iconst 1, 1) := by decide +kernel
theorem d_8_22_19 : decode prog_8_method_22_code 19 = .ok (.isub, 1) := by decide +kernel
theorem d_8_22_20 : decode prog_8_method_22_code 20 = .ok (.iload_n 1, 1) := by decide +kernel
theorem d_8_22_21 : decode prog_8_method_22_code 21 = .ok (.bastore, 1) := by decide +kernel
theorem d_8_22_22 : decode prog_8_method_22_code 22 = .ok (.iconst 4, 1) := by decide +kernel
theorem d_8_22_23 : decode prog_8_method_22_code 23 = .ok (.ireturn, 1) := by decide +kernel
theorem d_8_3_0 : decode prog_8_method_3_code 0 = .ok (.aload_n 0, 1) := by decide +kernel
theorem d_8_3_1 : decode prog_8_method_3_code 1 = .ok (.iload_n 1, 1) := by decide +kernel
theorem d_8_3_2 : decode prog_8_method_3_code 2 = .ok (.putfield 79, 3) := by decide +kernel
theorem d_8_3_5 : decode prog_8_method_3_code 5 = .ok (.iconst 0, 1) := by decide +kernel
theorem d_8_3_6 : decode prog_8_method_3_code 6 = .ok (.ireturn, 1) := by decide +kernel
theorem d_8_36_0 : decode prog_8_method_36_code 0 = .ok (.aload_n 0, 1) := by decide +kernel
theorem d_8_36_1 : decode prog_8_method_36_code 1 = .ok (.iconst 0, 1) := by decide +kernel
theorem d_8_36_2 : decode prog_8_method_36_code 2 = .ok (.putfield 79, 3) := by decide +kernel
theorem d_8_36_5 : decode prog_8_method_36_code 5 = .ok (.aload_n 0, 1) := by decide +kernel
theorem d_8_36_6 : decode prog_8_method_36_code 6 = .ok (.invokevirtual 101, 3) := by decide +kernel
theorem d_8_36_9 : decode prog_8_method_36_code 9 = .ok (.aload_n 0, 1) := by decide +kernel
theorem d_8_36_10 : decode prog_8_method_36_code 10 = .ok (.getfield 86, 3) := by decide +kernel
theorem d_8_36_13 : decode prog_8_method_36_code 13 = .ok (.iconst 1, 1) := by decide +kernel
theorem d_8_36_14 : decode prog_8_method_36_code 14 = .ok (.if_icmp .ne 11, 3) := by decide +kernel
theorem d_8_36_17 : decode prog_8_method_36_code 17 = .ok (.aload_n 0, 1) := by decide +kernel
theorem d_8_36_18 : decode prog_8_method_36_code 18 = .ok (.iconst 0, 1) := by decide +kernel
theorem d_8_36_19 : decode prog_8_method_36_code 19 = .ok (.invokevirtual 89, 3) := by decide +kernel
theorem d_8_36_22 : decode prog_8_method_36_code 22 = .ok (.goto 4, 3) := by decide +kernel
theorem d_8_36_25 : decode prog_8_method_36_code 25 = .ok (.lconst 0, 1) := by decide +kernel
theorem d_8_36_26 : decode prog_8_method_36_code 26 = .ok (.lstore_n 2, 1) := by decide +kernel
theorem d_8_36_27 : decode prog_8_method_36_code 27 = .ok (.lload_n 2, 1) := by decide +kernel
theorem d_8_36_28 : decode prog_8_method_36_code 28 = .ok (.lconst 0, 1) := by decide +kernel
theorem d_8_36_29 : decode prog_8_method_36_code 29 = .ok (.lcmp, 1) := by decide +kernel
theorem d_8_36_30 : decode prog_8_method_36_code 30 = .ok (.ifCond .eq 24, 3) := by decide +kernel
theorem d_8_36_33 : decode prog_8_method_36_code 33 = .ok (.iload_n 1, 1) := by decide +kernel
theorem d_8_36_34 : decode prog_8_method_36_code 34 = .ok (.ifCond .lt 20, 3) := by decide +kernel
theorem d_8_36_37 : decode prog_8_method_36_code 37 = .ok (.iload_n 1, 1) := by decide +kernel
theorem d_8_36_38 : decode prog_8_method_36_code 38 = .ok (.aload_n 0, 1) := by decide +kernel
theorem d_8_36_39 : decode prog_8_method_36_code 39 = .ok (.getfield 98, 3) := by decide +kernel
theorem d_8_36_42 : decode prog_8_method_36_code 42 = .ok (.if_icmp .ge 12, 3) := by decide +kernel
theorem d_8_36_45 : decode prog_8_method_36_code 45 = .ok (.aload_n 0, 1) := by decide +kernel
theorem d_8_36_46 : decode prog_8_method_36_code 46 = .ok (.getfield 63, 3) := by decide +kernel
theorem d_8_36_49 : decode prog_8_method_36_code 49 = .ok (.iload_n 1, 1) := by decide +kernel
theorem d_8_36_50 : decode prog_8_method_36_code 50 = .ok (.baload, 1) := by decide +kernel
theorem d_8_36_51 : decode prog_8_method_36_code 51 = .ok (.ifCond .eq 9, 3) := by decide +kernel
theorem d_8_36_54 : decode prog_8_method_36_code 54 = .ok (.aload_n 0, 1) := by decide +kernel
theorem d_8_36_55 : decode prog_8_method_36_code 55 = .ok (.iconst 1, 1) := by decide +kernel
theorem d_8_36_56 : decode prog_8_method_36_code 56 = .ok (.invokevirtual 138, 3) := by decide +kernel
theorem d_8_36_59 : decode prog_8_method_36_code 59 = .ok (.ireturn, 1) := by decide +kernel
theorem d_8_36_60 : decode prog_8_method_36_code 60 = .ok (.aload_n 0, 1) := by decide +kernel
theorem d_8_36_61 : decode prog_8_method_36_code 61 = .ok (.iconst 0, 1) := by decide +kernel
theorem d_8_36_62 : decode prog_8_method_36_code 62 = .ok (.putfield 167, 3) := by decide +kernel
theorem d_8_36_65 : decode prog_8_method_36_code 65 = .ok (.aload_n 0, 1) := by decide +kernel
theorem d_8_36_66 : decode prog_8_method_36_code 66 = .ok (.iload_n 1, 1) := by decide +kernel
theorem d_8_36_67 : decode prog_8_method_36_code 67 = .ok (.lload_n 2, 1) := by decide +kernel
theorem d_8_36_68 : decode prog_8_method_36_code 68 = .ok (.invokevirtual 208, 3) := by decide +kernel
theorem d_8_36_71 : decode prog_8_method_36_code 71 = .ok (.istore 4, 2) := by decide +kernel
theorem d_8_36_73 : decode prog_8_method_36_code 73 = .ok (.iload 4, 2) := by decide +kernel
theorem d_8_36_75 : decode prog_8_method_36_code 75 = .ok (.ifCond .ge 11, 3) := by decide +kernel
theorem d_8_36_78 : decode prog_8_method_36_code 78 = .ok (.aload_n 0, 1) := by decide +kernel
theorem d_8_36_79 : decode prog_8_method_36_code 79 = .ok (.iload_n 1, 1) := by decide +kernel
theorem d_8_36_80 : decode prog_8_method_36_code 80 = .ok (.lload_n 2, 1) := by decide +kernel
theorem d_8_36_81 : decode prog_8_method_36_code 81 = .ok (.invokevirtual 211, 3) := by decide +kernel
theorem d_8_36_84 : decode prog_8_method_36_code 84 = .ok (.istore 4, 2) := by decide +kernel
theorem d_8_36_86 : decode prog_8_method_36_code 86 = .ok (.iload 4, 2) := by decide +kernel
theorem d_8_36_88 : decode prog_8_method_36_code 88 = .ok (.ifCond .ge 11, 3) := by decide +kernel
theorem d_8_36_91 : decode prog_8_method_36_code 91 = .ok (.aload_n 0, 1) := by decide +kernel
theorem d_8_36_92 : decode prog_8_method_36_code 92 = .ok (.iconst 2, 1) := by decide +kernel
theorem d_8_36_93 : decode prog_8_method_36_code 93 = .ok (.invokevirtual 138, 3) := by decide +kernel
theorem d_8_36_96 : decode prog_8_method_36_code 96 = .ok (.goto 5, 3) := by decide +kernel
theorem d_8_36_99 : decode prog_8_method_36_code 99 = .ok (.iload 4, 2) := by decide +kernel
theorem d_8_36_101 : decode prog_8_method_36_code 101 = .ok (.ireturn, 1) := by decide +kernel
theorem d_8_31_0 : decode prog_8_method_31_code 0 = .ok (.bipush 36, 2) := by decide +kernel
theorem d_8_31_2 : decode prog_8_method_31_code 2 = .ok (.iload_n 1, 1) := by decide +kernel
theorem d_8_31_3 : decode prog_8_method_31_code 3 = .ok (.imul, 1) := by decide +kernel
theorem d_8_31_4 : decode prog_8_method_31_code 4 = .ok (.istore 4, 2) := by decide +kernel
theorem d_8_31_6 : decode prog_8_method_31_code 6 = .ok (.iload 4, 2) := by decide +kernel
theorem d_8_31_8 : decode prog_8_method_31_code 8 = .ok (.bipush 36, 2) := by decide +kernel
theorem d_8_31_10 : decode prog_8_method_31_code 10 = .ok (.iload_n 1, 1) := by decide +kernel
theorem d_8_31_11 : decode prog_8_method_31_code 11 = .ok (.imul, 1) := by decide +kernel
theorem d_8_31_12 : decode prog_8_method_31_code 12 = .ok (.aload_n 0, 1) := by decide +kernel
theorem d_8_31_13 : decode prog_8_method_31_code 13 = .ok (.getfield 51, 3) := by decide +kernel
theorem d_8_31_16 : decode prog_8_method_31_code 16 = .ok (.iload_n 1, 1) := by decide +kernel
theorem d_8_31_17 : decode prog_8_method_31_code 17 = .ok (.iaload, 1) := by decide +kernel
theorem d_8_31_18 : decode prog_8_method_31_code 18 = .ok (.iadd, 1) := by decide +kernel
theorem d_8_31_19 : decode prog_8_method_31_code 19 = .ok (.if_icmp .ge 29, 3) := by decide +kernel
theorem d_8_31_22 : decode prog_8_method_31_code 22 = .ok (.aload_n 0, 1) := by decide +kernel
theorem d_8_31_23 : decode prog_8_method_31_code 23 = .ok (.getfield 60, 3) := by decide +kernel
theorem d_8_31_26 : decode prog_8_method_31_code 26 = .ok (.iload 4, 2) := by decide +kernel
theorem d_8_31_28 : decode prog_8_method_31_code 28 = .ok (.laload, 1) := by decide +kernel
theorem d_8_31_29 : decode prog_8_method_31_code 29 = .ok (.lload_n 2, 1) := by decide +kernel
theorem d_8_31_30 : decode prog_8_method_31_code 30 = .ok (.lcmp, 1) := by decide +kernel
theorem d_8_31_31 : decode prog_8_method_31_code 31 = .ok (.ifCond .ne 11, 3) := by decide +kernel
theorem d_8_31_34 : decode prog_8_method_31_code 34 = .ok (.aload_n 0, 1) := by decide +kernel
theorem d_8_31_35 : decode prog_8_method_31_code 35 = .ok (.getfield 54, 3) := by decide +kernel
theorem d_8_31_38 : decode prog_8_method_31_code 38 = .ok (.iload 4, 2) := by decide +kernel
theorem d_8_31_40 : decode prog_8_method_31_code 40 = .ok (.iaload, 1) := by decide +kernel
theorem d_8_31_41 : decode prog_8_method_31_code 41 = .ok (.ireturn, 1) := by decide +kernel
theorem d_8_31_42 : decode prog_8_method_31_code 42 = .ok (.iinc 4 1, 3) := by decide +kernel
theorem d_8_31_45 : decode prog_8_method_31_code 45 = .ok (.goto (-39), 3) := by decide +kernel
theorem d_8_31_48 : decode prog_8_method_31_code 48 = .ok (.iconst (-1), 1) := by decide +kernel
theorem d_8_31_49 : decode prog_8_method_31_code 49 = .ok (.ireturn, 1) := by decide +kernel
theorem d_8_34_0 : decode prog_8_method_34_code 0 = .ok (.aload_n 0, 1) := by decide +kernel
theorem d_8_34_1 : decode prog_8_method_34_code 1 = .ok (.iconst 0, 1) := by decide +kernel
theorem d_8_34_2 : decode prog_8_method_34_code 2 = .ok (.putfield 189, 3) := by decide +kernel
theorem d_8_34_5 : decode prog_8_method_34_code 5 = .ok (.aload_n 0, 1) := by decide +kernel
theorem d_8_34_6 : decode prog_8_method_34_code 6 = .ok (.iload_n 1, 1) := by decide +kernel
theorem d_8_34_7 : decode prog_8_method_34_code 7 = .ok (.invokevirtual 192, 3) := by decide +kernel
theorem d_8_34_10 : decode prog_8_method_34_code 10 = .ok (.iconst (-1), 1) := by decide +kernel
theorem d_8_34_11 : decode prog_8_method_34_code 11 = .ok (.istore 4, 2) := by decide +kernel
theorem d_8_34_13 : decode prog_8_method_34_code 13 = .ok (.aload_n 0, 1) := by decide +kernel
theorem d_8_34_14 : decode prog_8_method_34_code 14 = .ok (.getfield 189, 3) := by decide +kernel
theorem d_8_34_17 : decode prog_8_method_34_code 17 = .ok (.ifCond .le 135, 3) := by decide +kernel
theorem d_8_34_20 : decode prog_8_method_34_code 20 = .ok (.iload 4, 2) := by decide +kernel
theorem d_8_34_22 : decode prog_8_method_34_code 22 = .ok (.ifCond .ge 130, 3) := by decide +kernel
theorem d_8_34_25 : decode prog_8_method_34_code 25 = .ok (.aload_n 0, 1) := by decide +kernel
theorem d_8_34_26 : decode prog_8_method_34_code 26 = .ok (.getfield 70, 3) := by decide +kernel
theorem d_8_34_29 : decode prog_8_method_34_code 29 = .ok (.aload_n 0, 1) := by decide +kernel
theorem d_8_34_30 : decode prog_8_method_34_code 30 = .ok (.getfield 189, 3) := by decide +kernel
theorem d_8_34_33 : decode prog_8_method_34_code 33 = .ok (.iconst 1, 1) := by decide +kernel
theorem d_8_34_34 : decode prog_8_method_34_code 34 = .ok (.isub, 1) := by decide +kernel
theorem d_8_34_35 : decode prog_8_method_34_code 35 = .ok (.iaload, 1) := by decide +kernel
theorem d_8_34_36 : decode prog_8_method_34_code 36 = .ok (.istore 5, 2) := by decide +kernel
theorem d_8_34_38 : decode prog_8_method_34_code 38 = .ok (.aload_n 0, 1) := by decide +kernel
theorem d_8_34_39 : decode prog_8_method_34_code 39 = .ok (.getfield 73, 3) := by decide +kernel
theorem d_8_34_42 : decode prog_8_method_34_code 42 = .ok (.aload_n 0, 1) := by decide +kernel
theorem d_8_34_43 : decode prog_8_method_34_code 43 = .ok (.getfield 189, 3) := by decide +kernel
theorem d_8_34_46 : decode prog_8_method_34_code 46 = .ok (.iconst 1, 1) := by decide +kernel
theorem d_8_34_47 : decode prog_8_method_34_code 47 = .ok (.isub, 1) := by decide +kernel
theorem d_8_34_48 : decode prog_8_method_34_code 48 = .ok (.iaload, 1) := by decide +kernel
theorem d_8_34_49 : decode prog_8_method_34_code 49 = .ok (.istore 6, 2) := by decide +kernel
theorem d_8_34_51 : decode prog_8_method_34_code 51 = .ok (.aload_n 0, 1) := by decide +kernel
theorem d_8_34_52 : decode prog_8_method_34_code 52 = .ok (.getfield 73, 3) := by decide +kernel
theorem d_8_34_55 : decode prog_8_method_34_code 55 = .ok (.aload_n 0, 1) := by decide +kernel
theorem d_8_34_56 : decode prog_8_method_34_code 56 = .ok (.getfield 189, 3) := by decide +kernel
theorem d_8_34_59 : decode prog_8_method_34_code 59 = .ok (.iconst 1, 1) := by decide +kernel
theorem d_8_34_60 : decode prog_8_method_34_code 60 = .ok (.isub, 1) := by decide +kernel
theorem d_8_34_61 : decode prog_8_method_34_code 61 = .ok (.dup2, 1) := by decide +kernel
theorem d_8_34_62 : decode prog_8_method_34_code 62 = .ok (.iaload, 1) := by decide +kernel
theorem d_8_34_63 : decode prog_8_method_34_code 63 = .ok (.iconst 1, 1) := by decide +kernel
theorem d_8_34_64 : decode prog_8_method_34_code 64 = .ok (.iadd, 1) := by decide +kernel
theorem d_8_34_65 : decode prog_8_method_34_code 65 = .ok (.iastore, 1) := by decide +kernel
theorem d_8_34_66 : decode prog_8_method_34_code 66 = .ok (.iload 6, 2) := by decide +kernel
theorem d_8_34_68 : decode prog_8_method_34_code 68 = .ok (.ifCond .ne 15, 3) := by decide +kernel
theorem d_8_34_71 : decode prog_8_method_34_code 71 = .ok (.aload_n 0, 1) := by decide +kernel
theorem d_8_34_72 : decode prog_8_method_34_code 72 = .ok (.iload 5, 2) := by decide +kernel
theorem d_8_34_74 : decode prog_8_method_34_code 74 = .ok (.lload_n 2, 1) := by decide +kernel
theorem d_8_34_75 : decode prog_8_method_34_code 75 = .ok (.invokevirtual 195, 3) := by decide +kernel
theorem d_8_34_78 : decode prog_8_method_34_code 78 = .ok (.istore 4, 2) := by decide +kernel
theorem d_8_34_80 : decode prog_8_method_34_code 80 = .ok (.goto 69, 3) := by decide +kernel
theorem d_8_34_83 : decode prog_8_method_34_code 83 = .ok (.iload 6, 2) := by decide +kernel
theorem d_8_34_85 : decode prog_8_method_34_code 85 = .ok (.iconst 3, 1) := by decide +kernel
theorem d_8_34_86 : decode prog_8_method_34_code 86 = .ok (.if_icmp .ne 16, 3) := by decide +kernel
theorem d_8_34_89 : decode prog_8_method_34_code 89 = .ok (.aload_n 0, 1) := by decide +kernel
theorem d_8_34_90 : decode prog_8_method_34_code 90 = .ok (.dup, 1) := by decide +kernel
theorem d_8_34_91 : decode prog_8_method_34_code 91 = .ok (.getfield 189, 3) := by decide +kernel
theorem d_8_34_94 : decode prog_8_method_34_code 94 = .ok (.iconst 1, 1) := by decide +kernel
theorem d_8_34_95 : decode prog_8_method_34_code 95 = .ok (.isub, 1) := by decide +kernel
theorem d_8_34_96 : decode prog_8_method_34_code 96 = .ok (.putfield 189, 3) := by decide +kernel
theorem d_8_34_99 : decode prog_8_method_34_code 99 = .ok (.goto 50, 3) := by decide +kernel
theorem d_8_34_102 : decode prog_8_method_34_code 102 = .ok (.iload 6, 2) := by decide +kernel
theorem d_8_34_104 : decode prog_8_method_34_code 104 = .ok (.iconst 1, 1) := by decide +kernel
theorem d_8_34_105 : decode prog_8_method_34_code 105 = .ok (.if_icmp .ne 7, 3) := by decide +kernel
theorem d_8_34_108 : decode prog_8_method_34_code 108 = .ok (.iconst 1, 1) := by decide +kernel
theorem d_8_34_109 : decode prog_8_method_34_code 109 = .ok (.goto 4, 3) := by decide +kernel
theorem d_8_34_112 : decode prog_8_method_34_code 112 = .ok (.iconst 0, 1) := by decide +kernel
theorem d_8_34_113 : decode prog_8_method_34_code 113 = .ok (.aload_n 0, 1) := by decide +kernel
theorem d_8_34_114 : decode prog_8_method_34_code 114 = .ok (.getfield 67, 3) := by decide +kernel
theorem d_8_34_117 : decode prog_8_method_34_code 117 = .ok (.iload 5, 2) := by decide +kernel
theorem d_8_34_119 : decode prog_8_method_34_code 119 = .ok (.baload, 1) := by decide +kernel
theorem d_8_34_120 : decode prog_8_method_34_code 120 = .ok (.if_icmp .eq 15, 3) := by decide +kernel
theorem d_8_34_123 : decode prog_8_method_34_code 123 = .ok (.aload_n 0, 1) := by decide +kernel
theorem d_8_34_124 : decode prog_8_method_34_code 124 = .ok (.iload 5, 2) := by decide +kernel
theorem d_8_34_126 : decode prog_8_method_34_code 126 = .ok (.lload_n 2, 1) := by decide +kernel
theorem d_8_34_127 : decode prog_8_method_34_code 127 = .ok (.invokevirtual 198, 3) := by decide +kernel
theorem d_8_34_130 : decode prog_8_method_34_code 130 = .ok (.istore 4, 2) := by decide +kernel
theorem d_8_34_132 : decode prog_8_method_34_code 132 = .ok (.goto 17, 3) := by decide +kernel
theorem d_8_34_135 : decode prog_8_method_34_code 135 = .ok (.aload_n 0, 1) := by decide +kernel
theorem d_8_34_136 : decode prog_8_method_34_code 136 = .ok (.aload_n 0, 1) := by decide +kernel
theorem d_8_34_137 : decode prog_8_method_34_code 137 = .ok (.getfield 48, 3) := by decide +kernel
theorem d_8_34_140 : decode prog_8_method_34_code 140 = .ok (.iload 5, 2) := by decide +kernel
theorem d_8_34_142 : decode prog_8_method_34_code 142 = .ok (.iaload, 1) := by decide +kernel
theorem d_8_34_143 : decode prog_8_method_34_code 143 = .ok (.lload_n 2, 1) := by decide +kernel
theorem d_8_34_144 : decode prog_8_method_34_code 144 = .ok (.invokevirtual 201, 3) := by decide +kernel
theorem d_8_34_147 : decode prog_8_method_34_code 147 = .ok (.istore 4, 2) := by decide +kernel
theorem d_8_34_149 : decode prog_8_method_34_code 149 = .ok (.goto (-136), 3) := by decide +kernel
theorem d_8_34_152 : decode prog_8_method_34_code 152 = .ok (.iconst 0, 1) := by decide +kernel
theorem d_8_34_153 : decode prog_8_method_34_code 153 = .ok (.istore 5, 2) := by decide +kernel
theorem d_8_34_155 : decode prog_8_method_34_code 155 = .ok (.iload 5, 2) := by decide +kernel
theorem d_8_34_157 : decode prog_8_method_34_code 157 = .ok (.aload_n 0, 1) := by decide +kernel
theorem d_8_34_158 : decode prog_8_method_34_code 158 = .ok (.getfield 189, 3) := by decide +kernel
theorem d_8_34_161 : decode prog_8_method_34_code 161 = .ok (.if_icmp .ge 68, 3) := by decide +kernel
theorem d_8_34_164 : decode prog_8_method_34_code 164 = .ok (.aload_n 0, 1) := by decide +kernel
theorem d_8_34_165 : decode prog_8_method_34_code 165 = .ok (.getfield 70, 3) := by decide +kernel
theorem d_8_34_168 : decode prog_8_method_34_code 168 = .ok (.iload 5, 2) := by decide +kernel
theorem d_8_34_170 : decode prog_8_method_34_code 170 = .ok (.iaload, 1) := by decide +kernel
theorem d_8_34_171 : decode prog_8_method_34_code 171 = .ok (.istore 6, 2) := by decide +kernel
theorem d_8_34_173 : decode prog_8_method_34_code 173 = .ok (.aload_n 0, 1) := by decide +kernel
theorem d_8_34_174 : decode prog_8_method_34_code 174 = .ok (.getfield 60, 3) := by decide +kernel
theorem d_8_34_177 : decode prog_8_method_34_code 177 = .ok (.bipush 36, 2) := by decide +kernel
theorem d_8_34_179 : decode prog_8_method_34_code 179 = .ok (.iload 6, 2) := by decide +kernel
theorem d_8_34_181 : decode prog_8_method_34_code 181 = .ok (.imul, 1) := by decide +kernel
theorem d_8_34_182 : decode prog_8_method_34_code 182 = .ok (.aload_n 0, 1) := by decide +kernel
theorem d_8_34_183 : decode prog_8_method_34_code 183 = .ok (.getfield 51, 3) := by decide +kernel
theorem d_8_34_186 : decode prog_8_method_34_code 186 = .ok (.iload 6, 2) := by decide +kernel
theorem d_8_34_188 : decode prog_8_method_34_code 188 = .ok (.iaload, 1) := by decide +kernel
theorem d_8_34_189 : decode prog_8_method_34_code 189 = .ok (.iadd, 1) := by decide +kernel
theorem d_8_34_190 : decode prog_8_method_34_code 190 = .ok (.lload_n 2, 1) := by decide +kernel
theorem d_8_34_191 : decode prog_8_method_34_code 191 = .ok (.lastore, 1) := by decide +kernel
theorem d_8_34_192 : decode prog_8_method_34_code 192 = .ok (.aload_n 0, 1) := by decide +kernel
theorem d_8_34_193 : decode prog_8_method_34_code 193 = .ok (.getfield 54, 3) := by decide +kernel
theorem d_8_34_196 : decode prog_8_method_34_code 196 = .ok (.bipush 36, 2) := by decide +kernel
theorem d_8_34_198 : decode prog_8_method_34_code 198 = .ok (.iload 6, 2) := by decide +kernel
theorem d_8_34_200 : decode prog_8_method_34_code 200 = .ok (.imul, 1) := by decide +kernel
theorem d_8_34_201 : decode prog_8_method_34_code 201 = .ok (.aload_n 0, 1) := by decide +kernel
theorem d_8_34_202 : decode prog_8_method_34_code 202 = .ok (.getfield 51, 3) := by decide +kernel
theorem d_8_34_205 : decode prog_8_method_34_code 205 = .ok (.iload 6, 2) := by decide +kernel
theorem d_8_34_207 : decode prog_8_method_34_code 207 = .ok (.iaload, 1) := by decide +kernel
theorem d_8_34_208 : decode prog_8_method_34_code 208 = .ok (.iadd, 1) := by decide +kernel
theorem d_8_34_209 : decode prog_8_method_34_code 209 = .ok (.iload 4, 2) := by decide +kernel
theorem d_8_34_211 : decode prog_8_method_34_code 211 = .ok (.iastore, 1) := by decide +kernel
theorem d_8_34_212 : decode prog_8_method_34_code 212 = .ok (.aload_n 0, 1) := by decide +kernel
theorem d_8_34_213 : decode prog_8_method_34_code 213 = .ok (.getfield 51, 3) := by decide +kernel
theorem d_8_34_216 : decode prog_8_method_34_code 216 = .ok (.iload 6, 2) := by decide +kernel
theorem d_8_34_218 : decode prog_8_method_34_code 218 = .ok (.dup2, 1) := by decide +kernel
theorem d_8_34_219 : decode prog_8_method_34_code 219 = .ok (.iaload, 1) := by decide +kernel
theorem d_8_34_220 : decode prog_8_method_34_code 220 = .ok (.iconst 1, 1) := by decide +kernel
theorem d_8_34_221 : decode prog_8_method_34_code 221 = .ok (.iadd, 1) := by decide +kernel
theorem d_8_34_222 : decode prog_8_method_34_code 222 = .ok (.iastore, 1) := by decide +kernel
theorem d_8_34_223 : decode prog_8_method_34_code 223 = .ok (.iinc 5 1, 3) := by decide +kernel
theorem d_8_34_226 : decode prog_8_method_34_code 226 = .ok (.goto (-71), 3) := by decide +kernel
theorem d_8_34_229 : decode prog_8_method_34_code 229 = .ok (.iload 4, 2) := by decide +kernel
theorem d_8_34_231 : decode prog_8_method_34_code 231 = .ok (.ireturn, 1) := by decide +kernel
theorem d_8_33_0 : decode prog_8_method_33_code 0 = .ok (.aload_n 0, 1) := by decide +kernel
theorem d_8_33_1 : decode prog_8_method_33_code 1 = .ok (.getfield 70, 3) := by decide +kernel
theorem d_8_33_4 : decode prog_8_method_33_code 4 = .ok (.aload_n 0, 1) := by decide +kernel
theorem d_8_33_5 : decode prog_8_method_33_code 5 = .ok (.getfield 189, 3) := by decide +kernel
theorem d_8_33_8 : decode prog_8_method_33_code 8 = .ok (.iload_n 1, 1) := by decide +kernel
theorem d_8_33_9 : decode prog_8_method_33_code 9 = .ok (.iastore, 1) := by decide +kernel
theorem d_8_33_10 : decode prog_8_method_33_code 10 = .ok (.aload_n 0, 1) := by decide +kernel
theorem d_8_33_11 : decode prog_8_method_33_code 11 = .ok (.getfield 73, 3) := by decide +kernel
theorem d_8_33_14 : decode prog_8_method_33_code 14 = .ok (.aload_n 0, 1) := by decide +kernel
theorem d_8_33_15 : decode prog_8_method_33_code 15 = .ok (.getfield 189, 3) := by decide +kernel
theorem d_8_33_18 : decode prog_8_method_33_code 18 = .ok (.iconst 0, 1) := by decide +kernel
theorem d_8_33_19 : decode prog_8_method_33_code 19 = .ok (.iastore, 1) := by decide +kernel
theorem d_8_33_20 : decode prog_8_method_33_code 20 = .ok (.aload_n 0, 1) := by decide +kernel
theorem d_8_33_21 : decode prog_8_method_33_code 21 = .ok (.dup, 1) := by decide +kernel
theorem d_8_33_22 : decode prog_8_method_33_code 22 = .ok (.getfield 189, 3) := by decide +kernel
theorem d_8_33_25 : decode prog_8_method_33_code 25 = .ok (.iconst 1, 1) := by decide +kernel
theorem d_8_33_26 : decode prog_8_method_33_code 26 = .ok (.iadd, 1) := by decide +kernel
theorem d_8_33_27 : decode prog_8_method_33_code 27 = .ok (.putfield 189, 3) := by decide +kernel
theorem d_8_33_30 : decode prog_8_method_33_code 30 = .ok (.aload_n 0, 1) := by decide +kernel
theorem d_8_33_31 : decode prog_8_method_33_code 31 = .ok (.iload_n 1, 1) := by decide +kernel
theorem d_8_33_32 : decode prog_8_method_33_code 32 = .ok (.invokevirtual 177, 3) := by decide +kernel
theorem d_8_33_35 : decode prog_8_method_33_code 35 = .ok (.return_, 1) := by decide +kernel
theorem d_8_27_0 : decode prog_8_method_27_code 0 = .ok (.aload_n 0, 1) := by decide +kernel
theorem d_8_27_1 : decode prog_8_method_27_code 1 = .ok (.getfield 167, 3) := by decide +kernel
theorem d_8_27_4 : decode prog_8_method_27_code 4 = .ok (.bipush 20, 2) := by decide +kernel
theorem d_8_27_6 : decode prog_8_method_27_code 6 = .ok (.if_icmp .ge 13, 3) := by decide +kernel
theorem d_8_27_9 : decode prog_8_method_27_code 9 = .ok (.aload_n 0, 1) := by decide +kernel
theorem d_8_27_10 : decode prog_8_method_27_code 10 = .ok (.getfield 76, 3) := by decide +kernel
theorem d_8_27_13 : decode prog_8_method_27_code 13 = .ok (.aload_n 0, 1) := by decide +kernel
theorem d_8_27_14 : decode prog_8_method_27_code 14 = .ok (.getfield 167, 3) := by decide +kernel
theorem d_8_27_17 : decode prog_8_method_27_code 17 = .ok (.iload_n 1, 1) := by decide +kernel
theorem d_8_27_18 : decode prog_8_method_27_code 18 = .ok (.iastore, 1) := by decide +kernel
theorem d_8_27_19 : decode prog_8_method_27_code 19 = .ok (.aload_n 0, 1) := by decide +kernel
theorem d_8_27_20 : decode prog_8_method_27_code 20 = .ok (.dup, 1) := by decide +kernel
theorem d_8_27_21 : decode prog_8_method_27_code 21 = .ok (.getfield 167, 3) := by decide +kernel
theorem d_8_27_24 : decode prog_8_method_27_code 24 = .ok (.iconst 1, 1) := by decide +kernel
theorem d_8_27_25 : decode prog_8_method_27_code 25 = .ok (.iadd, 1) := by decide +kernel
theorem d_8_27_26 : decode prog_8_method_27_code 26 = .ok (.putfield 167, 3) := by decide +kernel
theorem d_8_27_29 : decode prog_8_method_27_code 29 = .ok (.return_, 1) := by decide +kernel
theorem d_8_28_0 : decode prog_8_method_28_code 0 = .ok (.bipush 14, 2) := by decide +kernel
theorem d_8_28_2 : decode prog_8_method_28_code 2 = .ok (.istore 4, 2) := by decide +kernel
theorem d_8_28_4 : decode prog_8_method_28_code 4 = .ok (.iload 4, 2) := by decide +kernel
theorem d_8_28_6 : decode prog_8_method_28_code 6 = .ok (.ifCond .le 123, 3) := by decide +kernel
theorem d_8_28_9 : decode prog_8_method_28_code 9 = .ok (.iconst 4, 1) := by decide +kernel
theorem d_8_28_10 : decode prog_8_method_28_code 10 = .ok (.iload_n 1, 1) := by decide +kernel
theorem d_8_28_11 : decode prog_8_method_28_code 11 = .ok (.imul, 1) := by decide +kernel
theorem d_8_28_12 : decode prog_8_method_28_code 12 = .ok (.istore 5, 2) := by decide +kernel
theorem d_8_28_14 : decode prog_8_method_28_code 14 = .ok (.iload 5, 2) := by decide +kernel
theorem d_8_28_16 : decode prog_8_method_28_code 16 = .ok (.iconst 4, 1) := by decide +kernel
theorem d_8_28_17 : decode prog_8_method_28_code 17 = .ok (.iload_n 1, 1) := by decide +kernel
theorem d_8_28_18 : decode prog_8_method_28_code 18 = .ok (.imul, 1) := by decide +kernel
theorem d_8_28_19 : decode prog_8_method_28_code 19 = .ok (.aload_n 0, 1) := by decide +kernel
theorem d_8_28_20 : decode prog_8_method_28_code 20 = .ok (.getfield 42, 3) := by decide +kernel
theorem d_8_28_23 : decode prog_8_method_28_code 23 = .ok (.iload_n 1, 1) := by decide +kernel
theorem d_8_28_24 : decode prog_8_method_28_code 24 = .ok (.iaload, 1) := by decide +kernel
theorem d_8_28_25 : decode prog_8_method_28_code 25 = .ok (.iadd, 1) := by decide +kernel
theorem d_8_28_26 : decode prog_8_method_28_code 26 = .ok (.if_icmp .ge 97, 3) := by decide +kernel
theorem d_8_28_29 : decode prog_8_method_28_code 29 = .ok (.aload_n 0, 1) := by decide +kernel
theorem d_8_28_30 : decode prog_8_method_28_code 30 = .ok (.getfield 57, 3) := by decide +kernel
theorem d_8_28_33 : decode prog_8_method_28_code 33 = .ok (.iload 5, 2) := by decide +kernel
theorem d_8_28_35 : decode prog_8_method_28_code 35 = .ok (.laload, 1) := by decide +kernel
theorem d_8_28_36 : decode prog_8_method_28_code 36 = .ok (.invokestatic 170, 3) := by decide +kernel
theorem d_8_28_39 : decode prog_8_method_28_code 39 = .ok (.iload 4, 2) := by decide +kernel
theorem d_8_28_41 : decode prog_8_method_28_code 41 = .ok (.if_icmp .ne 76, 3) := by decide +kernel
theorem d_8_28_44 : decode prog_8_method_28_code 44 = .ok (.lload_n 2, 1) := by decide +kernel
theorem d_8_28_45 : decode prog_8_method_28_code 45 = .ok (.aload_n 0, 1) := by decide +kernel
theorem d_8_28_46 : decode prog_8_method_28_code 46 = .ok (.getfield 57, 3) := by decide +kernel
theorem d_8_28_49 : decode prog_8_method_28_code 49 = .ok (.iload 5, 2) := by decide +kernel
theorem d_8_28_51 : decode prog_8_method_28_code 51 = .ok (.laload, 1) := by decide +kernel
theorem d_8_28_52 : decode prog_8_method_28_code 52 = .ok (.invokestatic 173, 3) := by decide +kernel
theorem d_8_28_55 : decode prog_8_method_28_code 55 = .ok (.ifCond .eq 62, 3) := by decide +kernel
theorem d_8_28_58 : decode prog_8_method_28_code 58 = .ok (.aload_n 0, 1) := by decide +kernel
theorem d_8_28_59 : decode prog_8_method_28_code 59 = .ok (.getfield 63, 3) := by decide +kernel
theorem d_8_28_62 : decode prog_8_method_28_code 62 = .ok (.aload_n 0, 1) := by decide +kernel
theorem d_8_28_63 : decode prog_8_method_28_code 63 = .ok (.getfield 45, 3) := by decide +kernel
theorem d_8_28_66 : decode prog_8_method_28_code 66 = .ok (.iload 5, 2) := by decide +kernel
theorem d_8_28_68 : decode prog_8_method_28_code 68 = .ok (.iaload, 1) := by decide +kernel
theorem d_8_28_69 : decode prog_8_method_28_code 69 = .ok (.baload, 1) := by decide +kernel
theorem d_8_28_70 : decode prog_8_method_28_code 70 = .ok (.ifCond .ne 47, 3) := by decide +kernel
theorem d_8_28_73 : decode prog_8_method_28_code 73 = .ok (.aload_n 0, 1) := by decide +kernel
theorem d_8_28_74 : decode prog_8_method_28_code 74 = .ok (.aload_n 0, 1) := by decide +kernel
theorem d_8_28_75 : decode prog_8_method_28_code 75 = .ok (.getfield 45, 3) := by decide +kernel
theorem d_8_28_78 : decode prog_8_method_28_code 78 = .ok (.iload 5, 2) := by decide +kernel
theorem d_8_28_80 : decode prog_8_method_28_code 80 = .ok (.iaload, 1) := by decide +kernel
theorem d_8_28_81 : decode prog_8_method_28_code 81 = .ok (.invokevirtual 177, 3) := by decide +kernel
theorem d_8_28_84 : decode prog_8_method_28_code 84 = .ok (.aload_n 0, 1) := by decide +kernel
theorem d_8_28_85 : decode prog_8_method_28_code 85 = .ok (.aload_n 0, 1) := by decide +kernel
theorem d_8_28_86 : decode prog_8_method_28_code 86 = .ok (.getfield 45, 3) := by decide +kernel
theorem d_8_28_89 : decode prog_8_method_28_code 89 = .ok (.iload 5, 2) := by decide +kernel
theorem d_8_28_91 : decode prog_8_method_28_code 91 = .ok (.iaload, 1) := by decide +kernel
theorem d_8_28_92 : decode prog_8_method_28_code 92 = .ok (.lload_n 2, 1) := by decide +kernel
theorem d_8_28_93 : decode prog_8_method_28_code 93 = .ok (.invokevirtual 181, 3) := by decide +kernel
theorem d_8_28_96 : decode prog_8_method_28_code 96 = .ok (.istore 6, 2) := by decide +kernel
theorem d_8_28_98 : decode prog_8_method_28_code 98 = .ok (.iload 6, 2) := by decide +kernel
theorem d_8_28_100 : decode prog_8_method_28_code 100 = .ok (.ifCond .lt 17, 3) := by decide +kernel
theorem d_8_28_103 : decode prog_8_method_28_code 103 = .ok (.aload_n 0, 1) := by decide +kernel
theorem d_8_28_104 : decode prog_8_method_28_code 104 = .ok (.aload_n 0, 1) := by decide +kernel
theorem d_8_28_105 : decode prog_8_method_28_code 105 = .ok (.getfield 45, 3) := by decide +kernel
theorem d_8_28_108 : decode prog_8_method_28_code 108 = .ok (.iload 5, 2) := by decide +kernel
theorem d_8_28_110 : decode prog_8_method_28_code 110 = .ok (.iaload, 1) := by decide +kernel
theorem d_8_28_111 : decode prog_8_method_28_code 111 = .ok (.iload 6, 2) := by decide +kernel
theorem d_8_28_113 : decode prog_8_method_28_code 113 = .ok (.invokevirtual 185, 3) := by decide +kernel
theorem d_8_28_116 : decode prog_8_method_28_code 116 = .ok (.ireturn, 1) := by decide +kernel
theorem d_8_28_117 : decode prog_8_method_28_code 117 = .ok (.iinc 5 1, 3) := by decide +kernel
theorem d_8_28_120 : decode prog_8_method_28_code 120 = .ok (.goto (-106), 3) := by decide +kernel
theorem d_8_28_123 : decode prog_8_method_28_code 123 = .ok (.iinc 4 (-1), 3) := by decide +kernel
theorem d_8_28_126 : decode prog_8_method_28_code 126 = .ok (.goto (-122), 3) := by decide +kernel
theorem d_8_28_129 : decode prog_8_method_28_code 129 = .ok (.iconst (-1), 1) := by decide +kernel
theorem d_8_28_130 : decode prog_8_method_28_code 130 = .ok (.ireturn, 1) := by decide +kernel
theorem d_8_24_0 : decode prog_8_method_24_code 0 = .ok (.lload_n 0, 1) := by decide +kernel
theorem d_8_24_1 : decode prog_8_method_24_code 1 = .ok (.bipush 20, 2) := by decide +kernel
theorem d_8_24_3 : decode prog_8_method_24_code 3 = .ok (.lshr, 1) := by decide +kernel
theorem d_8_24_4 : decode prog_8_method_24_code 4 = .ok (.ldc2_w 161, 3) := by decide +kernel
theorem d_8_24_7 : decode prog_8_method_24_code 7 = .ok (.land, 1) := by decide +kernel
theorem d_8_24_8 : decode prog_8_method_24_code 8 = .ok (.lstore_n 2, 1) := by decide +kernel
theorem d_8_24_9 : decode prog_8_method_24_code 9 = .ok (.lload_n 0, 1) := by decide +kernel
theorem d_8_24_10 : decode prog_8_method_24_code 10 = .ok (.ldc2_w 161, 3) := by decide +kernel
theorem d_8_24_13 : decode prog_8_method_24_code 13 = .ok (.land, 1) := by decide +kernel
theorem d_8_24_14 : decode prog_8_method_24_code 14 = .ok (.lstore 4, 2) := by decide +kernel
theorem d_8_24_16 : decode prog_8_method_24_code 16 = .ok (.lload_n 0, 1) := by decide +kernel
theorem d_8_24_17 : decode prog_8_method_24_code 17 = .ok (.bipush 40, 2) := by decide +kernel
theorem d_8_24_19 : decode prog_8_method_24_code 19 = .ok (.lshr, 1) := by decide +kernel
theorem d_8_24_20 : decode prog_8_method_24_code 20 = .ok (.invokestatic 163, 3) := by decide +kernel
theorem d_8_24_23 : decode prog_8_method_24_code 23 = .ok (.lload_n 2, 1) := by decide +kernel
theorem d_8_24_24 : decode prog_8_method_24_code 24 = .ok (.lconst 0, 1) := by decide +kernel
theorem d_8_24_25 : decode prog_8_method_24_code 25 = .ok (.lcmp, 1) := by decide +kernel
theorem d_8_24_26 : decode prog_8_method_24_code 26 = .ok (.ifCond .le 12, 3) := by decide +kernel
theorem d_8_24_29 : decode prog_8_method_24_code 29 = .ok (.iconst 1, 1) := by decide +kernel
theorem d_8_24_30 : decode prog_8_method_24_code 30 = .ok (.lload_n 2, 1) := by decide +kernel
theorem d_8_24_31 : decode prog_8_method_24_code 31 = .ok (.invokestatic 163, 3) := by decide +kernel
theorem d_8_24_34 : decode prog_8_method_24_code 34 = .ok (.iadd, 1) := by decide +kernel
theorem d_8_24_35 : decode prog_8_method_24_code 35 = .ok (.goto 4, 3) := by decide +kernel
theorem d_8_24_38 : decode prog_8_method_24_code 38 = .ok (.iconst 0, 1) := by decide +kernel
theorem d_8_24_39 : decode prog_8_method_24_code 39 = .ok (.iadd, 1) := by decide +kernel
theorem d_8_24_40 : decode prog_8_method_24_code 40 = .ok (.lload 4, 2) := by decide +kernel
theorem d_8_24_42 : decode prog_8_method_24_code 42 = .ok (.lconst 0, 1) := by decide +kernel
theorem d_8_24_43 : decode prog_8_method_24_code 43 = .ok (.lcmp, 1) := by decide +kernel
theorem d_8_24_44 : decode prog_8_method_24_code 44 = .ok (.ifCond .le 13, 3) := by decide +kernel
theorem d_8_24_47 : decode prog_8_method_24_code 47 = .ok (.iconst 1, 1) := by decide +kernel
theorem d_8_24_48 : decode prog_8_method_24_code 48 = .ok (.lload 4, 2) := by decide +kernel
theorem d_8_24_50 : decode prog_8_method_24_code 50 = .ok (.invokestatic 163, 3) := by decide +kernel
theorem d_8_24_53 : decode prog_8_method_24_code 53 = .ok (.iadd, 1) := by decide +kernel
theorem d_8_24_54 : decode prog_8_method_24_code 54 = .ok (.goto 4, 3) := by decide +kernel
theorem d_8_24_57 : decode prog_8_method_24_code 57 = .ok (.iconst 0, 1) := by decide +kernel
theorem d_8_24_58 : decode prog_8_method_24_code 58 = .ok (.iadd, 1) := by decide +kernel
theorem d_8_24_59 : decode prog_8_method_24_code 59 = .ok (.ireturn, 1) := by decide +kernel
theorem d_8_23_0 : decode prog_8_method_23_code 0 = .ok (.iconst 0, 1) := by decide +kernel
theorem d_8_23_1 : decode prog_8_method_23_code 1 = .ok (.istore_n 2, 1) := by decide +kernel
theorem d_8_23_2 : decode prog_8_method_23_code 2 = .ok (.iconst 0, 1) := by decide +kernel
theorem d_8_23_3 : decode prog_8_method_23_code 3 = .ok (.istore_n 3, 1) := by decide +kernel
theorem d_8_23_4 : decode prog_8_method_23_code 4 = .ok (.iload_n 3, 1) := by decide +kernel
theorem d_8_23_5 : decode prog_8_method_23_code 5 = .ok (.bipush 20, 2) := by decide +kernel
theorem d_8_23_7 : decode prog_8_method_23_code 7 = .ok (.if_icmp .ge 30, 3) := by decide +kernel
theorem d_8_23_10 : decode prog_8_method_23_code 10 = .ok (.lload_n 0, 1) := by decide +kernel
theorem d_8_23_11 : decode prog_8_method_23_code 11 = .ok (.iload_n 3, 1) := by decide +kernel
theorem d_8_23_12 : decode prog_8_method_23_code 12 = .ok (.lshr, 1) := by decide +kernel
theorem d_8_23_13 : decode prog_8_method_23_code 13 = .ok (.ldc2_w 159, 3) := by decide +kernel
theorem d_8_23_16 : decode prog_8_method_23_code 16 = .ok (.land, 1) := by decide +kernel
theorem d_8_23_17 : decode prog_8_method_23_code 17 = .ok (.lconst 0, 1) := by decide +kernel
theorem d_8_23_18 : decode prog_8_method_23_code 18 = .ok (.lcmp, 1) := by decide +kernel
theorem d_8_23_19 : decode prog_8_method_23_code 19 = .ok (.ifCond .le 9, 3) := by decide +kernel
theorem d_8_23_22 : decode prog_8_method_23_code 22 = .ok (.iload_n 2, 1) := by decide +kernel
theorem d_8_23_23 : decode prog_8_method_23_code 23 = .ok (.iconst 1, 1) := by decide +kernel
theorem d_8_23_24 : decode prog_8_method_23_code 24 = .ok (.iadd, 1) := by decide +kernel
theorem d_8_23_25 : decode prog_8_method_23_code 25 = .ok (.goto 4, 3) := by decide +kernel
theorem d_8_23_28 : decode prog_8_method_23_code 28 = .ok (.iload_n 2, 1) := by decide +kernel
theorem d_8_23_29 : decode prog_8_method_23_code 29 = .ok (.istore_n 2, 1) := by decide +kernel
theorem d_8_23_30 : decode prog_8_method_23_code 30 = .ok (.iload_n 3, 1) := by decide +kernel
theorem d_8_23_31 : decode prog_8_method_23_code 31 = .ok (.iconst 5, 1) := by decide +kernel
theorem d_8_23_32 : decode prog_8_method_23_code 32 = .ok (.iadd, 1) := by decide +kernel
theorem d_8_23_33 : decode prog_8_method_23_code 33 = .ok (.istore_n 3, 1) := by decide +kernel
theorem d_8_23_34 : decode prog_8_method_23_code 34 = .ok (.goto (-30), 3) := by decide +kernel
theorem d_8_23_37 : decode prog_8_method_23_code 37 = .ok (.iload_n 2, 1) := by decide +kernel
theorem d_8_23_38 : decode prog_8_method_23_code 38 = .ok (.ireturn, 1) := by decide +kernel
theorem d_8_25_0 : decode prog_8_method_25_code 0 = .ok (.lload_n 2, 1) := by decide +kernel
theorem d_8_25_1 : decode prog_8_method_25_code 1 = .ok (.bipush 20, 2) := by decide +kernel
theorem d_8_25_3 : decode prog_8_method_25_code 3 = .ok (.lshr, 1) := by decide +kernel
theorem d_8_25_4 : decode prog_8_method_25_code 4 = .ok (.ldc2_w 161, 3) := by decide +kernel
theorem d_8_25_7 : decode prog_8_method_25_code 7 = .ok (.land, 1) := by decide +kernel
theorem d_8_25_8 : decode prog_8_method_25_code 8 = .ok (.lconst 0, 1) := by decide +kernel
theorem d_8_25_9 : decode prog_8_method_25_code 9 = .ok (.lcmp, 1) := by decide +kernel
theorem d_8_25_10 : decode prog_8_method_25_code 10 = .ok (.ifCond .le 7, 3) := by decide +kernel
theorem d_8_25_13 : decode prog_8_method_25_code 13 = .ok (.iconst 1, 1) := by decide +kernel
theorem d_8_25_14 : decode prog_8_method_25_code 14 = .ok (.goto 4, 3) := by decide +kernel
theorem d_8_25_17 : decode prog_8_method_25_code 17 = .ok (.iconst 0, 1) := by decide +kernel
theorem d_8_25_18 : decode prog_8_method_25_code 18 = .ok (.istore 4, 2) := by decide +kernel
theorem d_8_25_20 : decode prog_8_method_25_code 20 = .ok (.lload_n 2, 1) := by decide +kernel
theorem d_8_25_21 : decode prog_8_method_25_code 21 = .ok (.ldc2_w 161, 3) := by decide +kernel
theorem d_8_25_24 : decode prog_8_method_25_code 24 = .ok (.land, 1) := by decide +kernel
theorem d_8_25_25 : decode prog_8_method_25_code 25 = .ok (.lconst 0, 1) := by decide +kernel
theorem d_8_25_26 : decode prog_8_method_25_code 26 = .ok (.lcmp, 1) := by decide +kernel
theorem d_8_25_27 : decode prog_8_method_25_code 27 = .ok (.ifCond .le 7, 3) := by decide +kernel
theorem d_8_25_30 : decode prog_8_method_25_code 30 = .ok (.iconst 1, 1) := by decide +kernel
theorem d_8_25_31 : decode prog_8_method_25_code 31 = .ok (.goto 4, 3) := by decide +kernel
theorem d_8_25_34 : decode prog_8_method_25_code 34 = .ok (.iconst 0, 1) := by decide +kernel
theorem d_8_25_35 : decode prog_8_method_25_code 35 = .ok (.istore 5, 2) := by decide +kernel
theorem d_8_25_37 : decode prog_8_method_25_code 37 = .ok (.iload 5, 2) := by decide +kernel
theorem d_8_25_39 : decode prog_8_method_25_code 39 = .ok (.ifCond .eq 17, 3) := by decide +kernel
theorem d_8_25_42 : decode prog_8_method_25_code 42 = .ok (.lload_n 0, 1) := by decide +kernel
theorem d_8_25_43 : decode prog_8_method_25_code 43 = .ok (.lload_n 2, 1) := by decide +kernel
theorem d_8_25_44 : decode prog_8_method_25_code 44 = .ok (.lcmp, 1) := by decide +kernel
theorem d_8_25_45 : decode prog_8_method_25_code 45 = .ok (.ifCond .ne 7, 3) := by decide +kernel
theorem d_8_25_48 : decode prog_8_method_25_code 48 = .ok (.iconst 1, 1) := by decide +kernel
theorem d_8_25_49 : decode prog_8_method_25_code 49 = .ok (.goto 49, 3) := by decide +kernel
theorem d_8_25_52 : decode prog_8_method_25_code 52 = .ok (.iconst 0, 1) := by decide +kernel
theorem d_8_25_53 : decode prog_8_method_25_code 53 = .ok (.goto 45, 3) := by decide +kernel
theorem d_8_25_56 : decode prog_8_method_25_code 56 = .ok (.iload 4, 2) := by decide +kernel
theorem d_8_25_58 : decode prog_8_method_25_code 58 = .ok (.ifCond .eq 23, 3) := by decide +kernel
theorem d_8_25_61 : decode prog_8_method_25_code 61 = .ok (.lload_n 0, 1) := by decide +kernel
theorem d_8_25_62 : decode prog_8_method_25_code 62 = .ok (.bipush 20, 2) := by decide +kernel
theorem d_8_25_64 : decode prog_8_method_25_code 64 = .ok (.lshr, 1) := by decide +kernel
theorem d_8_25_65 : decode prog_8_method_25_code 65 = .ok (.lload_n 2, 1) := by decide +kernel
theorem d_8_25_66 : decode prog_8_method_25_code 66 = .ok (.bipush 20, 2) := by decide +kernel
theorem d_8_25_68 : decode prog_8_method_25_code 68 = .ok (.lshr, 1) := by decide +kernel
theorem d_8_25_69 : decode prog_8_method_25_code 69 = .ok (.lcmp, 1) := by decide +kernel
theorem d_8_25_70 : decode prog_8_method_25_code 70 = .ok (.ifCond .ne 7, 3) := by decide +kernel
theorem d_8_25_73 : decode prog_8_method_25_code 73 = .ok (.iconst 1, 1) := by decide +kernel
theorem d_8_25_74 : decode prog_8_method_25_code 74 = .ok (.goto 24, 3) := by decide +kernel
theorem d_8_25_77 : decode prog_8_method_25_code 77 = .ok (.iconst 0, 1) := by decide +kernel
theorem d_8_25_78 : decode prog_8_method_25_code 78 = .ok (.goto 20, 3) := by decide +kernel
theorem d_8_25_81 : decode prog_8_method_25_code 81 = .ok (.lload_n 0, 1) := by decide +kernel
theorem d_8_25_82 : decode prog_8_method_25_code 82 = .ok (.bipush 40, 2) := by decide +kernel
theorem d_8_25_84 : decode prog_8_method_25_code 84 = .ok (.lshr, 1) := by decide +kernel
theorem d_8_25_85 : decode prog_8_method_25_code 85 = .ok (.lload_n 2, 1) := by decide +kernel
theorem d_8_25_86 : decode prog_8_method_25_code 86 = .ok (.bipush 40, 2) := by decide +kernel
theorem d_8_25_88 : decode prog_8_method_25_code 88 = .ok (.lshr, 1) := by decide +kernel
theorem d_8_25_89 : decode prog_8_method_25_code 89 = .ok (.lcmp, 1) := by decide +kernel
theorem d_8_25_90 : decode prog_8_method_25_code 90 = .ok (.ifCond .ne 7, 3) := by decide +kernel
theorem d_8_25_93 : decode prog_8_method_25_code 93 = .ok (.iconst 1, 1) := by decide +kernel
theorem d_8_25_94 : decode prog_8_method_25_code 94 = .ok (.goto 4, 3) := by decide +kernel
theorem d_8_25_97 : decode prog_8_method_25_code 97 = .ok (.iconst 0, 1) := by decide +kernel
theorem d_8_25_98 : decode prog_8_method_25_code 98 = .ok (.ireturn, 1) := by decide +kernel
theorem d_8_26_0 : decode prog_8_method_26_code 0 = .ok (.iconst 4, 1) := by decide +kernel
theorem d_8_26_1 : decode prog_8_method_26_code 1 = .ok (.iload_n 1, 1) := by decide +kernel
theorem d_8_26_2 : decode prog_8_method_26_code 2 = .ok (.imul, 1) := by decide +kernel
theorem d_8_26_3 : decode prog_8_method_26_code 3 = .ok (.istore 4, 2) := by decide +kernel
theorem d_8_26_5 : decode prog_8_method_26_code 5 = .ok (.iload 4, 2) := by decide +kernel
theorem d_8_26_7 : decode prog_8_method_26_code 7 = .ok (.iconst 4, 1) := by decide +kernel
theorem d_8_26_8 : decode prog_8_method_26_code 8 = .ok (.iload_n 1, 1) := by decide +kernel
theorem d_8_26_9 : decode prog_8_method_26_code 9 = .ok (.imul, 1) := by decide +kernel
theorem d_8_26_10 : decode prog_8_method_26_code 10 = .ok (.aload_n 0, 1) := by decide +kernel
theorem d_8_26_11 : decode prog_8_method_26_code 11 = .ok (.getfield 36, 3) := by decide +kernel
theorem d_8_26_14 : decode prog_8_method_26_code 14 = .ok (.iload_n 1, 1) := by decide +kernel
theorem d_8_26_15 : decode prog_8_method_26_code 15 = .ok (.iaload, 1) := by decide +kernel
theorem d_8_26_16 : decode prog_8_method_26_code 16 = .ok (.iadd, 1) := by decide +kernel
theorem d_8_26_17 : decode prog_8_method_26_code 17 = .ok (.if_icmp .ge 32, 3) := by decide +kernel
theorem d_8_26_20 : decode prog_8_method_26_code 20 = .ok (.aload_n 0, 1) := by decide +kernel
theorem d_8_26_21 : decode prog_8_method_26_code 21 = .ok (.aload_n 0, 1) := by decide +kernel
theorem d_8_26_22 : decode prog_8_method_26_code 22 = .ok (.getfield 39, 3) := by decide +kernel
theorem d_8_26_25 : decode prog_8_method_26_code 25 = .ok (.iload 4, 2) := by decide +kernel
theorem d_8_26_27 : decode prog_8_method_26_code 27 = .ok (.iaload, 1) := by decide +kernel
theorem d_8_26_28 : decode prog_8_method_26_code 28 = .ok (.lload_n 2, 1) := by decide +kernel
theorem d_8_26_29 : decode prog_8_method_26_code 29 = .ok (.invokevirtual 148, 3) := by decide +kernel
theorem d_8_26_32 : decode prog_8_method_26_code 32 = .ok (.ifCond .eq 11, 3) := by decide +kernel
theorem d_8_26_35 : decode prog_8_method_26_code 35 = .ok (.aload_n 0, 1) := by decide +kernel
theorem d_8_26_36 : decode prog_8_method_26_code 36 = .ok (.getfield 39, 3) := by decide +kernel
theorem d_8_26_39 : decode prog_8_method_26_code 39 = .ok (.iload 4, 2) := by decide +kernel
theorem d_8_26_41 : decode prog_8_method_26_code 41 = .ok (.iaload, 1) := by decide +kernel
theorem d_8_26_42 : decode prog_8_method_26_code 42 = .ok (.ireturn, 1) := by decide +kernel
theorem d_8_26_43 : decode prog_8_method_26_code 43 = .ok (.iinc 4 1, 3) := by decide +kernel
theorem d_8_26_46 : decode prog_8_method_26_code 46 = .ok (.goto (-41), 3) := by decide +kernel
theorem d_8_26_49 : decode prog_8_method_26_code 49 = .ok (.iconst (-1), 1) := by decide +kernel
theorem d_8_26_50 : decode prog_8_method_26_code 50 = .ok (.ireturn, 1) := by decide +kernel
theorem d_8_29_0 : decode prog_8_method_29_code 0 = .ok (.aload_n 0, 1) := by decide +kernel
theorem d_8_29_1 : decode prog_8_method_29_code 1 = .ok (.getfield 26, 3) := by decide +kernel
theorem d_8_29_4 : decode prog_8_method_29_code 4 = .ok (.iload_n 2, 1) := by decide +kernel
theorem d_8_29_5 : decode prog_8_method_29_code 5 = .ok (.dup2, 1) := by decide +kernel
theorem d_8_29_6 : decode prog_8_method_29_code 6 = .ok (.iaload, 1) := by decide +kernel
theorem d_8_29_7 : decode prog_8_method_29_code 7 = .ok (.iconst 1, 1) := by decide +kernel
theorem d_8_29_8 : decode prog_8_method_29_code 8 = .ok (.iadd, 1) := by decide +kernel
theorem d_8_29_9 : decode prog_8_method_29_code 9 = .ok (.iastore, 1) := by decide +kernel
theorem d_8_29_10 : decode prog_8_method_29_code 10 = .ok (.bipush 16, 2) := by decide +kernel
theorem d_8_29_12 : decode prog_8_method_29_code 12 = .ok (.iload_n 1, 1) := by decide +kernel
theorem d_8_29_13 : decode prog_8_method_29_code 13 = .ok (.imul, 1) := by decide +kernel
theorem d_8_29_14 : decode prog_8_method_29_code 14 = .ok (.iload_n 2, 1) := by decide +kernel
theorem d_8_29_15 : decode prog_8_method_29_code 15 = .ok (.iadd, 1) := by decide +kernel
theorem d_8_29_16 : decode prog_8_method_29_code 16 = .ok (.ireturn, 1) := by decide +kernel
theorem d_8_30_0 : decode prog_8_method_30_code 0 = .ok (.aload_n 0, 1) := by decide +kernel
theorem d_8_30_1 : decode prog_8_method_30_code 1 = .ok (.iload_n 1, 1) := by decide +kernel
theorem d_8_30_2 : decode prog_8_method_30_code 2 = .ok (.lload_n 2, 1) := by decide +kernel
theorem d_8_30_3 : decode prog_8_method_30_code 3 = .ok (.invokevirtual 181, 3) := by decide +kernel
theorem d_8_30_6 : decode prog_8_method_30_code 6 = .ok (.istore 4, 2) := by decide +kernel
theorem d_8_30_8 : decode prog_8_method_30_code 8 = .ok (.iload 4, 2) := by decide +kernel
theorem d_8_30_10 : decode prog_8_method_30_code 10 = .ok (.ifCond .ge 7, 3) := by decide +kernel
theorem d_8_30_13 : decode prog_8_method_30_code 13 = .ok (.iconst (-1), 1) := by decide +kernel
theorem d_8_30_14 : decode prog_8_method_30_code 14 = .ok (.goto 10, 3) := by decide +kernel
theorem d_8_30_17 : decode prog_8_method_30_code 17 = .ok (.aload_n 0, 1) := by decide +kernel
theorem d_8_30_18 : decode prog_8_method_30_code 18 = .ok (.iload_n 1, 1) := by decide +kernel
theorem d_8_30_19 : decode prog_8_method_30_code 19 = .ok (.iload 4, 2) := by decide +kernel
theorem d_8_30_21 : decode prog_8_method_30_code 21 = .ok (.invokevirtual 185, 3) := by decide +kernel
theorem d_8_30_24 : decode prog_8_method_30_code 24 = .ok (.ireturn, 1) := by decide +kernel
theorem d_8_35_0 : decode prog_8_method_35_code 0 = .ok (.iload_n 1, 1) := by decide +kernel
theorem d_8_35_1 : decode prog_8_method_35_code 1 = .ok (.ifCond .lt 20, 3) := by decide +kernel
theorem d_8_35_4 : decode prog_8_method_35_code 4 = .ok (.aload_n 0, 1) := by decide +kernel
theorem d_8_35_5 : decode prog_8_method_35_code 5 = .ok (.getfield 63, 3) := by decide +kernel
theorem d_8_35_8 : decode prog_8_method_35_code 8 = .ok (.iload_n 1, 1) := by decide +kernel
theorem d_8_35_9 : decode prog_8_method_35_code 9 = .ok (.baload, 1) := by decide +kernel
theorem d_8_35_10 : decode prog_8_method_35_code 10 = .ok (.ifCond .ne 11, 3) := by decide +kernel
theorem d_8_35_13 : decode prog_8_method_35_code 13 = .ok (.aload_n 0, 1) := by decide +kernel
theorem d_8_35_14 : decode prog_8_method_35_code 14 = .ok (.iload_n 1, 1) := by decide +kernel
theorem d_8_35_15 : decode prog_8_method_35_code 15 = .ok (.invokevirtual 204, 3) := by decide +kernel
theorem d_8_35_18 : decode prog_8_method_35_code 18 = .ok (.ifCond .eq 5, 3) := by decide +kernel
theorem d_8_35_21 : decode prog_8_method_35_code 21 = .ok (.iconst (-1), 1) := by decide +kernel
theorem d_8_35_22 : decode prog_8_method_35_code 22 = .ok (.ireturn, 1) := by decide +kernel
theorem d_8_35_23 : decode prog_8_method_35_code 23 = .ok (.aload_n 0, 1) := by decide +kernel
theorem d_8_35_24 : decode prog_8_method_35_code 24 = .ok (.iload_n 1, 1) := by decide +kernel
theorem d_8_35_25 : decode prog_8_method_35_code 25 = .ok (.lload_n 2, 1) := by decide +kernel
theorem d_8_35_26 : decode prog_8_method_35_code 26 = .ok (.invokevirtual 208, 3) := by decide +kernel
theorem d_8_35_29 : decode prog_8_method_35_code 29 = .ok (.istore 4, 2) := by decide +kernel
theorem d_8_35_31 : decode prog_8_method_35_code 31 = .ok (.iload 4, 2) := by decide +kernel
theorem d_8_35_33 : decode prog_8_method_35_code 33 = .ok (.ifCond .ge 8, 3) := by decide +kernel
theorem d_8_35_36 : decode prog_8_method_35_code 36 = .ok (.aload_n 0, 1) := by decide +kernel
theorem d_8_35_37 : decode prog_8_method_35_code 37 = .ok (.iload_n 1, 1) := by decide +kernel
theorem d_8_35_38 : decode prog_8_method_35_code 38 = .ok (.invokevirtual 192, 3) := by decide +kernel
theorem d_8_35_41 : decode prog_8_method_35_code 41 = .ok (.iload 4, 2) := by decide +kernel
theorem d_8_35_43 : decode prog_8_method_35_code 43 = .ok (.ireturn, 1) := by decide +kernel
theorem d_8_32_0 : decode prog_8_method_32_code 0 = .ok (.iconst 0, 1) := by decide +kernel
theorem d_8_32_1 : decode prog_8_method_32_code 1 = .ok (.istore_n 2, 1) := by decide +kernel
theorem d_8_32_2 : decode prog_8_method_32_code 2 = .ok (.iconst 0, 1) := by decide +kernel
theorem d_8_32_3 : decode prog_8_method_32_code 3 = .ok (.istore_n 3, 1) := by decide +kernel
theorem d_8_32_4 : decode prog_8_method_32_code 4 = .ok (.iload_n 3, 1) := by decide +kernel
theorem d_8_32_5 : decode prog_8_method_32_code 5 = .ok (.aload_n 0, 1) := by decide +kernel
theorem d_8_32_6 : decode prog_8_method_32_code 6 = .ok (.getfield 189, 3) := by decide +kernel
theorem d_8_32_9 : decode prog_8_method_32_code 9 = .ok (.if_icmp .ge 29, 3) := by decide +kernel
theorem d_8_32_12 : decode prog_8_method_32_code 12 = .ok (.iload_n 2, 1) := by decide +kernel
theorem d_8_32_13 : decode prog_8_method_32_code 13 = .ok (.ifCond .ne 13, 3) := by decide +kernel
theorem d_8_32_16 : decode prog_8_method_32_code 16 = .ok (.aload_n 0, 1) := by decide +kernel
theorem d_8_32_17 : decode prog_8_method_32_code 17 = .ok (.getfield 70, 3) := by decide +kernel
theorem d_8_32_20 : decode prog_8_method_32_code 20 = .ok (.iload_n 3, 1) := by decide +kernel
theorem d_8_32_21 : decode prog_8_method_32_code 21 = .ok (.iaload, 1) := by decide +kernel
theorem d_8_32_22 : decode prog_8_method_32_code 22 = .ok (.iload_n 1, 1) := by decide +kernel
theorem d_8_32_23 : decode prog_8_method_32_code 23 = .ok (.if_icmp .ne 7, 3) := by decide +kernel
theorem d_8_32_26 : decode prog_8_method_32_code 26 = .ok (.iconst 1, 1) := by decide +kernel
theorem d_8_32_27 : decode prog_8_method_32_code 27 = .ok (.goto 4, 3) := by decide +kernel
theorem d_8_32_30 : decode prog_8_method_32_code 30 = .ok (.iconst 0, 1) := by decide +kernel
theorem d_8_32_31 : decode prog_8_method_32_code 31 = .ok (.istore_n 2, 1) := by decide +kernel
theorem d_8_32_32 : decode prog_8_method_32_code 32 = .ok (.iinc 3 1, 3) := by decide +kernel
theorem d_8_32_35 : decode prog_8_method_32_code 35 = .ok (.goto (-31), 3) := by decide +kernel
theorem d_8_32_38 : decode prog_8_method_32_code 38 = .ok (.iload_n 2, 1) := by decide +kernel
theorem d_8_32_39 : decode prog_8_method_32_code 39 = .ok (.ireturn, 1) := by decide +kernel
theorem d_8_37_0 : decode prog_8_method_37_code 0 = .ok (.aload_n 0, 1) := by decide +kernel
theorem d_8_37_1 : decode prog_8_method_37_code 1 = .ok (.iconst 0, 1) := by decide +kernel
theorem d_8_37_2 : decode prog_8_method_37_code 2 = .ok (.putfield 79, 3) := by decide +kernel
theorem d_8_37_5 : decode prog_8_method_37_code 5 = .ok (.aload_n 0, 1) := by decide +kernel
theorem d_8_37_6 : decode prog_8_method_37_code 6 = .ok (.getfield 167, 3) := by decide +kernel
theorem d_8_37_9 : decode prog_8_method_37_code 9 = .ok (.ireturn, 1) := by decide +kernel
theorem d_8_38_0 : decode prog_8_method_38_code 0 = .ok (.aload_n 0, 1) := by decide +kernel
theorem d_8_38_1 : decode prog_8_method_38_code 1 = .ok (.iconst 0, 1) := by decide +kernel
theorem d_8_38_2 : decode prog_8_method_38_code 2 = .ok (.putfield 79, 3) := by decide +kernel
theorem d_8_38_5 : decode prog_8_method_38_code 5 = .ok (.iload_n 1, 1) := by decide +kernel
theorem d_8_38_6 : decode prog_8_method_38_code 6 = .ok (.ifCond .lt 26, 3) := by decide +kernel
theorem d_8_38_9 : decode prog_8_method_38_code 9 = .ok (.iload_n 1, 1) := by decide +kernel
theorem d_8_38_10 : decode prog_8_method_38_code 10 = .ok (.aload_n 0, 1) := by decide +kernel
theorem d_8_38_11 : decode prog_8_method_38_code 11 = .ok (.getfield 167, 3) := by decide +kernel
theorem d_8_38_14 : decode prog_8_method_38_code 14 = .ok (.if_icmp .ge 18, 3) := by decide +kernel
theorem d_8_38_17 : decode prog_8_method_38_code 17 = .ok (.iload_n 1, 1) := by decide +kernel
theorem d_8_38_18 : decode prog_8_method_38_code 18 = .ok (.bipush 20, 2) := by decide +kernel
theorem d_8_38_20 : decode prog_8_method_38_code 20 = .ok (.if_icmp .ge 12, 3) := by decide +kernel
theorem d_8_38_23 : decode prog_8_method_38_code 23 = .ok (.aload_n 0, 1) := by decide +kernel
theorem d_8_38_24 : decode prog_8_method_38_code 24 = .ok (.getfield 76, 3) := by decide +kernel
theorem d_8_38_27 : decode prog_8_method_38_code 27 = .ok (.iload_n 1, 1) := by decide +kernel
theorem d_8_38_28 : decode prog_8_method_38_code 28 = .ok (.iaload, 1) := by decide +kernel
theorem d_8_38_29 : decode prog_8_method_38_code 29 = .ok (.goto 4, 3) := by decide +kernel
theorem d_8_38_32 : decode prog_8_method_38_code 32 = .ok (.iconst (-1), 1) := by decide +kernel
theorem d_8_38_33 : decode prog_8_method_38_code 33 = .ok (.ireturn, 1) := by decide +kernel
theorem d_8_40_0 : decode prog_8_method_40_code 0 = .ok (.aload_n 0, 1) := by decide +kernel
theorem d_8_40_1 : decode prog_8_method_40_code 1 = .ok (.iconst 0, 1) := by decide +kernel
theorem d_8_40_2 : decode prog_8_method_40_code 2 = .ok (.putfield 79, 3) := by decide +kernel
theorem d_8_40_5 : decode prog_8_method_40_code 5 = .ok (.aload_n 0, 1) := by decide +kernel
theorem d_8_40_6 : decode prog_8_method_40_code 6 = .ok (.iload_n 1, 1) := by decide +kernel
theorem d_8_40_7 : decode prog_8_method_40_code 7 = .ok (.invokevirtual 214, 3) := by decide +kernel
theorem d_8_40_10 : decode prog_8_method_40_code 10 = .ok (.ifCond .eq 12, 3) := by decide +kernel
theorem d_8_40_13 : decode prog_8_method_40_code 13 = .ok (.aload_n 0, 1) := by decide +kernel
theorem d_8_40_14 : decode prog_8_method_40_code 14 = .ok (.getfield 51, 3) := by decide +kernel
theorem d_8_40_17 : decode prog_8_method_40_code 17 = .ok (.iload_n 1, 1) := by decide +kernel
theorem d_8_40_18 : decode prog_8_method_40_code 18 = .ok (.iaload, 1) := by decide +kernel
theorem d_8_40_19 : decode prog_8_method_40_code 19 = .ok (.goto 4, 3) := by decide +kernel
theorem d_8_40_22 : decode prog_8_method_40_code 22 = .ok (.iconst (-1), 1) := by decide +kernel
theorem d_8_40_23 : decode prog_8_method_40_code 23 = .ok (.ireturn, 1) := by decide +kernel
theorem d_8_39_0 : decode prog_8_method_39_code 0 = .ok (.iload_n 1, 1) := by decide +kernel
theorem d_8_39_1 : decode prog_8_method_39_code 1 = .ok (.ifCond .lt 24, 3) := by decide +kernel
theorem d_8_39_4 : decode prog_8_method_39_code 4 = .ok (.iload_n 1, 1) := by decide +kernel
theorem d_8_39_5 : decode prog_8_method_39_code 5 = .ok (.aload_n 0, 1) := by decide +kernel
theorem d_8_39_6 : decode prog_8_method_39_code 6 = .ok (.getfield 98, 3) := by decide +kernel
theorem d_8_39_9 : decode prog_8_method_39_code 9 = .ok (.if_icmp .ge 16, 3) := by decide +kernel
theorem d_8_39_12 : decode prog_8_method_39_code 12 = .ok (.aload_n 0, 1) := by decide +kernel
theorem d_8_39_13 : decode prog_8_method_39_code 13 = .ok (.getfield 63, 3) := by decide +kernel
theorem d_8_39_16 : decode prog_8_method_39_code 16 = .ok (.iload_n 1, 1) := by decide +kernel
theorem d_8_39_17 : decode prog_8_method_39_code 17 = .ok (.baload, 1) := by decide +kernel
theorem d_8_39_18 : decode prog_8_method_39_code 18 = .ok (.ifCond .ne 7, 3) := by decide +kernel
theorem d_8_39_21 : decode prog_8_method_39_code 21 = .ok (.iconst 1, 1) := by decide +kernel
theorem d_8_39_22 : decode prog_8_method_39_code 22 = .ok (.goto 4, 3) := by decide +kernel
theorem d_8_39_25 : decode prog_8_method_39_code 25 = .ok (.iconst 0, 1) := by decide +kernel
theorem d_8_39_26 : decode prog_8_method_39_code 26 = .ok (.ireturn, 1) := by decide +kernel
theorem d_8_41_0 : decode prog_8_method_41_code 0 = .ok (.aload_n 0, 1) := by decide +kernel
theorem d_8_41_1 : decode prog_8_method_41_code 1 = .ok (.iconst 0, 1) := by decide +kernel
theorem d_8_41_2 : decode prog_8_method_41_code 2 = .ok (.putfield 79, 3) := by decide +kernel
theorem d_8_41_5 : decode prog_8_method_41_code 5 = .ok (.iload_n 1, 1) := by decide +kernel
theorem d_8_41_6 : decode prog_8_method_41_code 6 = .ok (.ifCond .lt 20, 3) := by decide +kernel
theorem d_8_41_9 : decode prog_8_method_41_code 9 = .ok (.iload_n 1, 1) := by decide +kernel
theorem d_8_41_10 : decode prog_8_method_41_code 10 = .ok (.aload_n 0, 1) := by decide +kernel
theorem d_8_41_11 : decode prog_8_method_41_code 11 = .ok (.getfield 95, 3) := by decide +kernel
theorem d_8_41_14 : decode prog_8_method_41_code 14 = .ok (.if_icmp .ge 12, 3) := by decide +kernel
theorem d_8_41_17 : decode prog_8_method_41_code 17 = .ok (.aload_n 0, 1) := by decide +kernel
theorem d_8_41_18 : decode prog_8_method_41_code 18 = .ok (.getfield 26, 3) := by decide +kernel
theorem d_8_41_21 : decode prog_8_method_41_code 21 = .ok (.iload_n 1, 1) := by decide +kernel
theorem d_8_41_22 : decode prog_8_method_41_code 22 = .ok (.iaload, 1) := by decide +kernel
theorem d_8_41_23 : decode prog_8_method_41_code 23 = .ok (.goto 4, 3) := by decide +kernel
theorem d_8_41_26 : decode prog_8_method_41_code 26 = .ok (.iconst (-1), 1) := by decide +kernel
theorem d_8_41_27 : decode prog_8_method_41_code 27 = .ok (.ireturn, 1) := by decide +kernel
theorem d_8_42_0 : decode prog_8_method_42_code 0 = .ok (.aload_n 0, 1) := by decide +kernel
theorem d_8_42_1 : decode prog_8_method_42_code 1 = .ok (.iconst 0, 1) := by decide +kernel
theorem d_8_42_2 : decode prog_8_method_42_code 2 = .ok (.putfield 79, 3) := by decide +kernel
theorem d_8_42_5 : decode prog_8_method_42_code 5 = .ok (.aload_n 0, 1) := by decide +kernel
theorem d_8_42_6 : decode prog_8_method_42_code 6 = .ok (.iload_n 1, 1) := by decide +kernel
theorem d_8_42_7 : decode prog_8_method_42_code 7 = .ok (.invokevirtual 214, 3) := by decide +kernel
theorem d_8_42_10 : decode prog_8_method_42_code 10 = .ok (.ifCond .ne 5, 3) := by decide +kernel
theorem d_8_42_13 : decode prog_8_method_42_code 13 = .ok (.iconst 0, 1) := by decide +kernel
theorem d_8_42_14 : decode prog_8_method_42_code 14 = .ok (.ireturn, 1) := by decide +kernel
theorem d_8_42_15 : decode prog_8_method_42_code 15 = .ok (.aload_n 0, 1) := by decide +kernel
theorem d_8_42_16 : decode prog_8_method_42_code 16 = .ok (.getfield 63, 3) := by decide +kernel
theorem d_8_42_19 : decode prog_8_method_42_code 19 = .ok (.iload_n 1, 1) := by decide +kernel
theorem d_8_42_20 : decode prog_8_method_42_code 20 = .ok (.iconst 1, 1) := by decide +kernel
theorem d_8_42_21 : decode prog_8_method_42_code 21 = .ok (.bastore, 1) := by decide +kernel
theorem d_8_42_22 : decode prog_8_method_42_code 22 = .ok (.iconst 1, 1) := by decide +kernel
theorem d_8_42_23 : decode prog_8_method_42_code 23 = .ok (.ireturn, 1) := by decide +kernel
theorem d_8_43_0 : decode prog_8_method_43_code 0 = .ok (.aload_n 0, 1) := by decide +kernel
theorem d_8_43_1 : decode prog_8_method_43_code 1 = .ok (.iconst 0, 1) := by decide +kernel
theorem d_8_43_2 : decode prog_8_method_43_code 2 = .ok (.putfield 79, 3) := by decide +kernel
theorem d_8_43_5 : decode prog_8_method_43_code 5 = .ok (.aload_n 0, 1) := by decide +kernel
theorem d_8_43_6 : decode prog_8_method_43_code 6 = .ok (.invokevirtual 101, 3) := by decide +kernel
theorem d_8_43_9 : decode prog_8_method_43_code 9 = .ok (.aload_n 0, 1) := by decide +kernel
theorem d_8_43_10 : decode prog_8_method_43_code 10 = .ok (.getfield 86, 3) := by decide +kernel
theorem d_8_43_13 : decode prog_8_method_43_code 13 = .ok (.iconst 1, 1) := by decide +kernel
theorem d_8_43_14 : decode prog_8_method_43_code 14 = .ok (.if_icmp .ne 11, 3) := by decide +kernel
theorem d_8_43_17 : decode prog_8_method_43_code 17 = .ok (.aload_n 0, 1) := by decide +kernel
theorem d_8_43_18 : decode prog_8_method_43_code 18 = .ok (.iconst 0, 1) := by decide +kernel
theorem d_8_43_19 : decode prog_8_method_43_code 19 = .ok (.invokevirtual 142, 3) := by decide +kernel
theorem d_8_43_22 : decode prog_8_method_43_code 22 = .ok (.goto 4, 3) := by decide +kernel
theorem d_8_43_25 : decode prog_8_method_43_code 25 = .ok (.iconst 0, 1) := by decide +kernel
theorem d_8_43_26 : decode prog_8_method_43_code 26 = .ok (.istore_n 1, 1) := by decide +kernel
theorem d_8_43_27 : decode prog_8_method_43_code 27 = .ok (.iload_n 1, 1) := by decide +kernel
theorem d_8_43_28 : decode prog_8_method_43_code 28 = .ok (.ifCond .ne 7, 3) := by decide +kernel
theorem d_8_43_31 : decode prog_8_method_43_code 31 = .ok (.iconst (-1), 1) := by decide +kernel
theorem d_8_43_32 : decode prog_8_method_43_code 32 = .ok (.goto 8, 3) := by decide +kernel
theorem d_8_43_35 : decode prog_8_method_43_code 35 = .ok (.aload_n 0, 1) := by decide +kernel
theorem d_8_43_36 : decode prog_8_method_43_code 36 = .ok (.iload_n 1, 1) := by decide +kernel
theorem d_8_43_37 : decode prog_8_method_43_code 37 = .ok (.invokevirtual 152, 3) := by decide +kernel
theorem d_8_43_40 : decode prog_8_method_43_code 40 = .ok (.ireturn, 1) := by decide +kernel
theorem d_8_44_0 : decode prog_8_method_44_code 0 = .ok (.aload_n 0, 1) := by decide +kernel
theorem d_8_44_1 : decode prog_8_method_44_code 1 = .ok (.iconst 0, 1) := by decide +kernel
theorem d_8_44_2 : decode prog_8_method_44_code 2 = .ok (.putfield 79, 3) := by decide +kernel
theorem d_8_44_5 : decode prog_8_method_44_code 5 = .ok (.iconst 0, 1) := by decide +kernel
theorem d_8_44_6 : decode prog_8_method_44_code 6 = .ok (.istore_n 2, 1) := by decide +kernel
theorem d_8_44_7 : decode prog_8_method_44_code 7 = .ok (.iconst 0, 1) := by decide +kernel
theorem d_8_44_8 : decode prog_8_method_44_code 8 = .ok (.istore_n 3, 1) := by decide +kernel
theorem d_8_44_9 : decode prog_8_method_44_code 9 = .ok (.iload_n 3, 1) := by decide +kernel
theorem d_8_44_10 : decode prog_8_method_44_code 10 = .ok (.aload_n 0, 1) := by decide +kernel
theorem d_8_44_11 : decode prog_8_method_44_code 11 = .ok (.getfield 98, 3) := by decide +kernel
theorem d_8_44_14 : decode prog_8_method_44_code 14 = .ok (.if_icmp .ge 26, 3) := by decide +kernel
theorem d_8_44_17 : decode prog_8_method_44_code 17 = .ok (.aload_n 0, 1) := by decide +kernel
theorem d_8_44_18 : decode prog_8_method_44_code 18 = .ok (.getfield 63, 3) := by decide +kernel
theorem d_8_44_21 : decode prog_8_method_44_code 21 = .ok (.iload_n 3, 1) := by decide +kernel
theorem d_8_44_22 : decode prog_8_method_44_code 22 = .ok (.baload, 1) := by decide +kernel
theorem d_8_44_23 : decode prog_8_method_44_code 23 = .ok (.ifCond .eq 7, 3) := by decide +kernel
theorem d_8_44_26 : decode prog_8_method_44_code 26 = .ok (.iload_n 2, 1) := by decide +kernel
theorem d_8_44_27 : decode prog_8_method_44_code 27 = .ok (.goto 6, 3) := by decide +kernel
theorem d_8_44_30 : decode prog_8_method_44_code 30 = .ok (.iload_n 2, 1) := by decide +kernel
theorem d_8_44_31 : decode prog_8_method_44_code 31 = .ok (.iconst 1, 1) := by decide +kernel
theorem d_8_44_32 : decode prog_8_method_44_code 32 = .ok (.iadd, 1) := by decide +kernel
theorem d_8_44_33 : decode prog_8_method_44_code 33 = .ok (.istore_n 2, 1) := by decide +kernel
theorem d_8_44_34 : decode prog_8_method_44_code 34 = .ok (.iinc 3 1, 3) := by decide +kernel
theorem d_8_44_37 : decode prog_8_method_44_code 37 = .ok (.goto (-28), 3) := by decide +kernel
theorem d_8_44_40 : decode prog_8_method_44_code 40 = .ok (.iload_n 1, 1) := by decide +kernel
theorem d_8_44_41 : decode prog_8_method_44_code 41 = .ok (.ifCond .ne 10, 3) := by decide +kernel
theorem d_8_44_44 : decode prog_8_method_44_code 44 = .ok (.aload_n 0, 1) := by decide +kernel
theorem d_8_44_45 : decode prog_8_method_44_code 45 = .ok (.getfield 95, 3) := by decide +kernel
theorem d_8_44_48 : decode prog_8_method_44_code 48 = .ok (.goto 25, 3) := by decide +kernel
theorem d_8_44_51 : decode prog_8_method_44_code 51 = .ok (.iload_n 1, 1) := by decide +kernel
theorem d_8_44_52 : decode prog_8_method_44_code 52 = .ok (.iconst 1, 1) := by decide +kernel
theorem d_8_44_53 : decode prog_8_method_44_code 53 = .ok (.if_icmp .ne 10, 3) := by decide +kernel
theorem d_8_44_56 : decode prog_8_method_44_code 56 = .ok (.aload_n 0, 1) := by decide +kernel
theorem d_8_44_57 : decode prog_8_method_44_code 57 = .ok (.getfield 98, 3) := by decide +kernel
theorem d_8_44_60 : decode prog_8_method_44_code 60 = .ok (.goto 13, 3) := by decide +kernel
theorem d_8_44_63 : decode prog_8_method_44_code 63 = .ok (.iload_n 1, 1) := by decide +kernel
theorem d_8_44_64 : decode prog_8_method_44_code 64 = .ok (.iconst 2, 1) := by decide +kernel
theorem d_8_44_65 : decode prog_8_method_44_code 65 = .ok (.if_icmp .ne 7, 3) := by decide +kernel
theorem d_8_44_68 : decode prog_8_method_44_code 68 = .ok (.iload_n 2, 1) := by decide +kernel
theorem d_8_44_69 : decode prog_8_method_44_code 69 = .ok (.goto 4, 3) := by decide +kernel
theorem d_8_44_72 : decode prog_8_method_44_code 72 = .ok (.iconst (-1), 1) := by decide +kernel
theorem d_8_44_73 : decode prog_8_method_44_code 73 = .ok (.ireturn, 1) := by decide +kernel
end
section
/-! The reference's small methods. -/
theorem inc1 (j : Nat) : nI j + Int32.ofInt 1 = nI (j + 1) := nI_1 j
section M1
variable {l : Launch} {D : va_G} {z0 : Nat} {E : State → Prop} {am : Nat} {ad : Nat → Nat}
set_option maxHeartbeats 4000000 in
theorem mc_fails (hSt : Stb z0 E) (hA : Ad am ad) (x : MS) (v : Int32) : MC l y_175 prog_8_method_3_code 2 (Option.some Jvm.ClassFile.FieldType.int) 0 D z0 E am ad [.int v] x (fun r x' => r = some (.int 0) ∧ x' = seti x 0 v) := by
  refine mc_of hSt rfl (Nat.le_of_ble_eq_true rfl) ?_
  intro h0 h p e s m args below meth c cx hm hs
  refine g_aload_n cx 0 d_8_3_0 rfl rfl ?_
  refine g_iload_n cx 1 d_8_3_1 rfl rfl ?_
  refine m_put cx (k := 0) hA d_8_3_2 t_898 ⟨by decide, rfl, rfl, rfl, by decide +kernel⟩ hm hs (fun h hm hs => ?_)
  refine g_iconst cx (v := 0) d_8_3_5 (by decide) ?_
  exact m_iret cx d_8_3_6 rfl rfl hm hs ⟨rfl, rfl⟩
set_option maxHeartbeats 4000000 in
theorem mc_write (hSt : Stb z0 E) (hA : Ad am ad) (x : MS) (v : Int32) (w : Nat) (hw : x.1 2 = nI w) (hwl : w ≤ 30) : MC l y_156 prog_8_method_4_code 2 (Option.some Jvm.ClassFile.FieldType.boolean) 0 D z0 E am ad [.int v] x (fun r x' => ((¬ v < 32 ∧ ¬ 126 < v ∧ w < 30) ∧ r = some (.int 1) ∧ x' = seti (seta (seti x 0 0) 1 w (vp_nar .char v)) 2 (nI (w + 1))) ∨ (¬ (¬ v < 32 ∧ ¬ 126 < v ∧ w < 30) ∧ r = some (.int 0) ∧ x' = seti x 0 0)) := by
  refine mc_of hSt rfl (Nat.le_of_ble_eq_true rfl) ?_
  intro h0 h p e s m args below meth c cx hm hs
  refine g_aload_n cx 0 d_8_4_0 rfl rfl ?_
  refine g_iconst cx (v := 0) d_8_4_1 (by decide) ?_
  refine m_put cx (k := 0) hA d_8_4_2 t_898 ⟨by decide, rfl, rfl, rfl, by decide +kernel⟩ hm hs (fun h hm hs => ?_)
  refine g_iload_n cx 1 d_8_4_5 rfl rfl ?_
  refine g_bipush cx (v := 32) d_8_4_6 (by decide) ?_
  refine g_icmp_lt cx d_8_4_8 rfl (fun c8 => ?_) (fun c8 => ?_)
  · skip
    have hn9 : ¬ (¬ v < 32 ∧ ¬ 126 < v ∧ w < 30) := by
      intro q
      first
        | exact q.1 c8
        | exact q.2.1 c14
        | exact c23 (by show x.1 2 < 30; rw [hw]; exact (nI_ltI (b := 30) (by omega) (by decide)).mpr q.2.2)
    refine g_iconst cx (v := 0) d_8_4_26 (by decide) ?_
    exact m_iret cx d_8_4_27 rfl rfl hm hs (Or.inr ⟨hn9, rfl, rfl⟩)
  · skip
    refine g_iload_n cx 1 d_8_4_11 rfl rfl ?_
    refine g_bipush cx (v := 126) d_8_4_12 (by decide) ?_
    refine g_icmp_gt cx d_8_4_14 rfl (fun c14 => ?_) (fun c14 => ?_)
    · skip
      have hn9 : ¬ (¬ v < 32 ∧ ¬ 126 < v ∧ w < 30) := by
        intro q
        first
          | exact q.1 c8
          | exact q.2.1 c14
          | exact c23 (by show x.1 2 < 30; rw [hw]; exact (nI_ltI (b := 30) (by omega) (by decide)).mpr q.2.2)
      refine g_iconst cx (v := 0) d_8_4_26 (by decide) ?_
      exact m_iret cx d_8_4_27 rfl rfl hm hs (Or.inr ⟨hn9, rfl, rfl⟩)
    · skip
      refine g_aload_n cx 0 d_8_4_17 rfl rfl ?_
      refine m_get cx (k := 2) d_8_4_18 t_900 ⟨by decide, rfl⟩ hm rfl ?_
      refine g_bipush cx (v := 30) d_8_4_21 (by decide) ?_
      refine g_icmp_lt cx d_8_4_23 rfl (fun c23 => ?_) (fun c23 => ?_)
      · skip
        have hw30 : w < 30 := by
          have h9 : nI w < nI 30 := by rw [← hw]; exact c23
          exact (nI_ltI (by omega) (by decide)).mp h9
        refine g_aload_n cx 0 d_8_4_28 rfl rfl ?_
        refine m_get cx (k := 1) d_8_4_29 t_899 ⟨by decide, rfl⟩ hm rfl ?_
        refine g_aload_n cx 0 d_8_4_32 rfl rfl ?_
        refine m_get cx (k := 2) d_8_4_33 t_900 ⟨by decide, rfl⟩ hm rfl ?_
        refine g_iload_n cx 1 d_8_4_36 rfl rfl ?_
        refine m_st2 cx hA d_8_4_37 (by decide) hm hs hw ⟨(show w < 30 from hw30), by decide⟩ (fun h hm hs => ?_)
        refine g_aload_n cx 0 d_8_4_38 rfl rfl ?_
        refine g_dup cx d_8_4_39 rfl ?_
        refine m_get cx (k := 2) d_8_4_40 t_900 ⟨by decide, rfl⟩ hm rfl ?_
        refine g_iconst cx (v := 1) d_8_4_43 (by decide) ?_
        refine g_iadd cx d_8_4_44 ?_
        refine m_put cx (k := 2) hA d_8_4_45 t_900 ⟨by decide, rfl, rfl, rfl, by decide +kernel⟩ hm hs (fun h hm hs => ?_)
        refine g_iconst cx (v := 1) d_8_4_48 (by decide) ?_
        exact m_iret cx d_8_4_49 rfl rfl hm hs (Or.inl ⟨⟨c8, c14, hw30⟩, rfl, by show seti _ 2 (x.1 2 + 1) = _; rw [hw, nI_1]⟩)
      · skip
        have hn9 : ¬ (¬ v < 32 ∧ ¬ 126 < v ∧ w < 30) := by
          intro q
          first
            | exact q.1 c8
            | exact q.2.1 c14
            | exact c23 (by show x.1 2 < 30; rw [hw]; exact (nI_ltI (b := 30) (by omega) (by decide)).mpr q.2.2)
        refine g_iconst cx (v := 0) d_8_4_26 (by decide) ?_
        exact m_iret cx d_8_4_27 rfl rfl hm hs (Or.inr ⟨hn9, rfl, rfl⟩)
set_option maxHeartbeats 4000000 in
theorem mc_note (hSt : Stb z0 E) (hA : Ad am ad) (x : MS) (v : Int32) (n : Nat) (hn : x.1 25 = nI n) (hnl : n < 2 ^ 30) : MC l y_180 prog_8_method_27_code 2 (Option.none) 0 D z0 E am ad [.int v] x (fun r x' => r = none ∧ x' = seti (if n < 20 then seta x 28 n v else x) 25 (nI (n + 1))) := by
  refine mc_of hSt rfl (Nat.le_of_ble_eq_true rfl) ?_
  intro h0 h p e s m args below meth c cx hm hs
  refine g_aload_n cx 0 d_8_27_0 rfl rfl ?_
  refine m_get cx (k := 25) d_8_27_1 t_923 ⟨by decide, rfl⟩ hm rfl ?_
  refine g_bipush cx (v := 20) d_8_27_4 (by decide) ?_
  refine g_icmp_ge cx d_8_27_6 rfl (fun c6 => ?_) (fun c6 => ?_)
  · skip
    have hz : ¬ n < 20 ∨ n < 20 := (Nat.lt_or_ge n 20).symm.imp (fun q => Nat.not_lt.mpr q) id
    refine g_aload_n cx 0 d_8_27_19 rfl rfl ?_
    refine g_dup cx d_8_27_20 rfl ?_
    refine m_get cx (k := 25) d_8_27_21 t_923 ⟨by decide, rfl⟩ hm rfl ?_
    refine g_iconst cx (v := 1) d_8_27_24 (by decide) ?_
    refine g_iadd cx d_8_27_25 ?_
    refine m_put cx (k := 25) hA d_8_27_26 t_923 ⟨by decide, rfl, rfl, rfl, by decide +kernel⟩ hm hs (fun h hm hs => ?_)
    exact m_vret cx d_8_27_29 rfl hm hs ⟨rfl, by
  first
    | (rw [if_pos hn20]; show seti _ 25 (x.1 25 + 1) = _; rw [hn, nI_1])
    | (rw [if_neg (fun q => absurd c6 (by rw [show (20 : Int32) = nI 20 from rfl]; show ¬ nI 20 ≤ x.1 25; rw [hn]; exact nI_ge q (by omega)))]; show seti _ 25 (x.1 25 + 1) = _; rw [hn, nI_1])⟩
  · skip
    have hn20 : n < 20 := by
      have h9 : ¬ nI 20 ≤ nI n := by rw [← hn]; exact c6
      exact Nat.lt_of_not_le (fun q => h9 (nI_le q (by omega)))
    refine g_aload_n cx 0 d_8_27_9 rfl rfl ?_
    refine m_get cx (k := 28) d_8_27_10 t_926 ⟨by decide, rfl⟩ hm rfl ?_
    refine g_aload_n cx 0 d_8_27_13 rfl rfl ?_
    refine m_get cx (k := 25) d_8_27_14 t_923 ⟨by decide, rfl⟩ hm rfl ?_
    refine g_iload_n cx 1 d_8_27_17 rfl rfl ?_
    refine m_st1 cx hA d_8_27_18 (by decide) hm hs hn ⟨(show n < 20 from hn20), by decide⟩ (fun h hm hs => ?_)
    have hz : ¬ n < 20 ∨ n < 20 := (Nat.lt_or_ge n 20).symm.imp (fun q => Nat.not_lt.mpr q) id
    refine g_aload_n cx 0 d_8_27_19 rfl rfl ?_
    refine g_dup cx d_8_27_20 rfl ?_
    refine m_get cx (k := 25) d_8_27_21 t_923 ⟨by decide, rfl⟩ hm rfl ?_
    refine g_iconst cx (v := 1) d_8_27_24 (by decide) ?_
    refine g_iadd cx d_8_27_25 ?_
    refine m_put cx (k := 25) hA d_8_27_26 t_923 ⟨by decide, rfl, rfl, rfl, by decide +kernel⟩ hm hs (fun h hm hs => ?_)
    exact m_vret cx d_8_27_29 rfl hm hs ⟨rfl, by
  first
    | (rw [if_pos hn20]; show seti _ 25 (x.1 25 + 1) = _; rw [hn, nI_1])
    | (rw [if_neg (fun q => absurd c6 (by rw [show (20 : Int32) = nI 20 from rfl]; show ¬ nI 20 ≤ x.1 25; rw [hn]; exact nI_ge q (by omega)))]; show seti _ 25 (x.1 25 + 1) = _; rw [hn, nI_1])⟩
set_option maxHeartbeats 4000000 in
theorem mc_archiveOf (hSt : Stb z0 E) (hA : Ad am ad) (x : MS) (v : Int32) (a : Nat) (ha : x.1 6 = nI a) (hal : a ≤ 6) : MC l y_165 prog_8_method_11_code 3 (Option.some Jvm.ClassFile.FieldType.int) 0 D z0 E am ad [.int v] x (fun r x' => x' = x ∧ ((∃ j, j < a ∧ r = some (.int (nI j))) ∨ r = some (.int (-1)))) := by
  refine mc_of hSt rfl (Nat.le_of_ble_eq_true rfl) ?_
  intro h0 h p e s m args below meth c cx hm hs
  have lp : ∀ (n : Nat) (j : Nat), j ≤ a → a - j < n → G p l e (rmL 0) s m args below meth c 3 D z0 E (MQp D am ad h0 (fun r x' => x' = x ∧ ((∃ j, j < a ∧ r = some (.int (nI j))) ∨ r = some (.int (-1))))) 0 0 2 [(2, .int (nI j)), (0, .ref am), (1, .int v)] [] h 0 0 := by
    intro n
    induction n with
    | zero => intro j hj0 hn; exact absurd hn (Nat.not_lt_zero _)
    | succ n ih =>
      intro j hj0 hn
      refine g_iload_n cx 0 d_8_11_2 rfl rfl ?_
      refine g_aload_n cx 1 d_8_11_3 rfl rfl ?_
      refine m_get cx (k := 6) d_8_11_4 t_904 ⟨by decide, rfl⟩ hm rfl ?_
      refine g_icmp_ge cx d_8_11_7 rfl (fun c7 => ?_) (fun c7 => ?_)
      · skip
        refine g_iconst cx (v := (-1)) d_8_11_28 (by decide) ?_
        exact m_iret cx d_8_11_29 rfl rfl hm hs ⟨rfl, Or.inr rfl⟩
      · skip
        have hj : j < a := Nat.lt_of_not_le (fun q => c7 (by show x.1 6 ≤ nI j; rw [ha]; exact nI_le q (by omega)))
        refine g_aload_n cx 1 d_8_11_10 rfl rfl ?_
        refine m_get cx (k := 7) d_8_11_11 t_905 ⟨by decide, rfl⟩ hm rfl ?_
        refine g_iload_n cx 0 d_8_11_14 rfl rfl ?_
        refine m_ld1 cx d_8_11_15 (by decide) hm rfl ⟨(show j < 6 by omega), by decide⟩ ?_
        refine g_iload_n cx 2 d_8_11_16 rfl rfl ?_
        refine g_icmp_ne cx d_8_11_17 rfl (fun c17 => ?_) (fun c17 => ?_)
        · skip
          refine g_iinc cx 0 (lv' := [(2, .int (nI (j + 1))), (0, .ref am), (1, .int v)]) d_8_11_22 rfl (inc1 j) (by decide) rfl ?_
          refine g_goto cx d_8_11_25 rfl ?_
          exact ih (j + 1) (by omega) (by omega)
        · skip
          refine g_iload_n cx 0 d_8_11_20 rfl rfl ?_
          exact m_iret cx d_8_11_21 rfl rfl hm hs ⟨rfl, Or.inl ⟨j, hj, rfl⟩⟩
  refine g_iconst cx (v := 0) d_8_11_0 (by decide) ?_
  refine g_topi (fun k0 ek0 => ?_)
  obtain rfl : k0 = nI 0 := ek0
  refine g_istore_n cx (lv' := [(2, .int (nI 0)), (0, .ref am), (1, .int v)]) d_8_11_1 rfl (by decide) rfl ?_
  exact lp (a + 1) 0 (by omega) (by omega)
set_option maxHeartbeats 4000000 in
theorem mc_realmOf (hSt : Stb z0 E) (hA : Ad am ad) (x : MS) (v : Int32) (a : Nat) (ha : x.1 11 = nI a) (hal : a ≤ 8) : MC l y_169 prog_8_method_12_code 3 (Option.some Jvm.ClassFile.FieldType.int) 0 D z0 E am ad [.int v] x (fun r x' => x' = x ∧ ((∃ j, j < a ∧ r = some (.int (nI j))) ∨ r = some (.int (-1)))) := by
  refine mc_of hSt rfl (Nat.le_of_ble_eq_true rfl) ?_
  intro h0 h p e s m args below meth c cx hm hs
  have lp : ∀ (n : Nat) (j : Nat), j ≤ a → a - j < n → G p l e (rmL 0) s m args below meth c 3 D z0 E (MQp D am ad h0 (fun r x' => x' = x ∧ ((∃ j, j < a ∧ r = some (.int (nI j))) ∨ r = some (.int (-1))))) 0 0 2 [(2, .int (nI j)), (0, .ref am), (1, .int v)] [] h 0 0 := by
    intro n
    induction n with
    | zero => intro j hj0 hn; exact absurd hn (Nat.not_lt_zero _)
    | succ n ih =>
      intro j hj0 hn
      refine g_iload_n cx 0 d_8_12_2 rfl rfl ?_
      refine g_aload_n cx 1 d_8_12_3 rfl rfl ?_
      refine m_get cx (k := 11) d_8_12_4 t_909 ⟨by decide, rfl⟩ hm rfl ?_
      refine g_icmp_ge cx d_8_12_7 rfl (fun c7 => ?_) (fun c7 => ?_)
      · skip
        refine g_iconst cx (v := (-1)) d_8_12_37 (by decide) ?_
        exact m_iret cx d_8_12_38 rfl rfl hm hs ⟨rfl, Or.inr rfl⟩
      · skip
        have hj : j < a := Nat.lt_of_not_le (fun q => c7 (by show x.1 11 ≤ nI j; rw [ha]; exact nI_le q (by omega)))
        refine g_aload_n cx 1 d_8_12_10 rfl rfl ?_
        refine m_get cx (k := 12) d_8_12_11 t_910 ⟨by decide, rfl⟩ hm rfl ?_
        refine g_iload_n cx 0 d_8_12_14 rfl rfl ?_
        refine m_ld1 cx d_8_12_15 (by decide) hm rfl ⟨(show j < 8 by omega), by decide⟩ ?_
        refine g_iload_n cx 2 d_8_12_16 rfl rfl ?_
        refine g_icmp_ne cx d_8_12_17 rfl (fun c17 => ?_) (fun c17 => ?_)
        · skip
          refine g_iinc cx 0 (lv' := [(2, .int (nI (j + 1))), (0, .ref am), (1, .int v)]) d_8_12_31 rfl (inc1 j) (by decide) rfl ?_
          refine g_goto cx d_8_12_34 rfl ?_
          exact ih (j + 1) (by omega) (by omega)
        · skip
          refine g_aload_n cx 1 d_8_12_20 rfl rfl ?_
          refine m_get cx (k := 22) d_8_12_21 t_920 ⟨by decide, rfl⟩ hm rfl ?_
          refine g_iload_n cx 0 d_8_12_24 rfl rfl ?_
          refine m_ld4 cx d_8_12_25 (by decide) hm rfl ⟨(show j < 8 by omega), by decide⟩ ?_
          refine g_if_ne cx d_8_12_26 rfl (fun c26 => ?_) (fun c26 => ?_)
          · skip
            refine g_iinc cx 0 (lv' := [(2, .int (nI (j + 1))), (0, .ref am), (1, .int v)]) d_8_12_31 rfl (inc1 j) (by decide) rfl ?_
            refine g_goto cx d_8_12_34 rfl ?_
            exact ih (j + 1) (by omega) (by omega)
          · skip
            refine g_iload_n cx 0 d_8_12_29 rfl rfl ?_
            exact m_iret cx d_8_12_30 rfl rfl hm hs ⟨rfl, Or.inl ⟨j, hj, rfl⟩⟩
  refine g_iconst cx (v := 0) d_8_12_0 (by decide) ?_
  refine g_topi (fun k0 ek0 => ?_)
  obtain rfl : k0 = nI 0 := ek0
  refine g_istore_n cx (lv' := [(2, .int (nI 0)), (0, .ref am), (1, .int v)]) d_8_12_1 rfl (by decide) rfl ?_
  exact lp (a + 1) 0 (by omega) (by omega)
set_option maxHeartbeats 4000000 in
theorem mc_found (hSt : Stb z0 E) (hA : Ad am ad) (x : MS) (v : Int32) (q : Nat) (hq : q < 6) : MC l y_186 prog_8_method_29_code 3 (Option.some Jvm.ClassFile.FieldType.int) 0 D z0 E am ad [.int v, .int (nI q)] x (fun r x' => r = some (.int (16 * v + nI q)) ∧ x' = seta x 9 q (x.2.1 9 q + 1)) := by
  refine mc_of hSt rfl (Nat.le_of_ble_eq_true rfl) ?_
  intro h0 h p e s m args below meth c cx hm hs
  refine g_aload_n cx 0 d_8_29_0 rfl rfl ?_
  refine m_get cx (k := 9) d_8_29_1 t_907 ⟨by decide, rfl⟩ hm rfl ?_
  refine g_iload_n cx 2 d_8_29_4 rfl rfl ?_
  refine g_dup2_11 cx d_8_29_5 rfl rfl ?_
  refine m_ld1 cx d_8_29_6 (by decide) hm rfl ⟨(show q < 6 from hq), by decide⟩ ?_
  refine g_iconst cx (v := 1) d_8_29_7 (by decide) ?_
  refine g_iadd cx d_8_29_8 ?_
  refine m_st1 cx hA d_8_29_9 (by decide) hm hs rfl ⟨(show q < 6 from hq), by decide⟩ (fun h hm hs => ?_)
  refine g_bipush cx (v := 16) d_8_29_10 (by decide) ?_
  refine g_iload_n cx 1 d_8_29_12 rfl rfl ?_
  refine g_imul cx d_8_29_13 ?_
  refine g_iload_n cx 2 d_8_29_14 rfl rfl ?_
  refine g_iadd cx d_8_29_15 ?_
  exact m_iret cx d_8_29_16 rfl rfl hm hs ⟨rfl, rfl⟩
set_option maxHeartbeats 4000000 in
theorem mc_isRealm (hSt : Stb z0 E) (hA : Ad am ad) (x : MS) (v : Int32) (a : Nat) (ha : x.1 11 = nI a) (hal : a ≤ 8) : MC l y_193 prog_8_method_39_code 2 (Option.some Jvm.ClassFile.FieldType.boolean) 0 D z0 E am ad [.int v] x (fun r x' => x' = x ∧ ((r = some (.int 1) ∧ ∃ j, j < a ∧ v = nI j ∧ x.2.1 22 j = 0) ∨ r = some (.int 0))) := by
  refine mc_of hSt rfl (Nat.le_of_ble_eq_true rfl) ?_
  intro h0 h p e s m args below meth c cx hm hs
  refine g_iload_n cx 1 d_8_39_0 rfl rfl ?_
  refine g_if_lt cx d_8_39_1 rfl (fun c1 => ?_) (fun c1 => ?_)
  · skip
    refine g_iconst cx (v := 0) d_8_39_25 (by decide) ?_
    first
      | exact m_iret cx d_8_39_26 rfl rfl hm hs ⟨rfl, Or.inl ⟨rfl, j, hj, hv, c18⟩⟩
      | exact m_iret cx d_8_39_26 rfl rfl hm hs ⟨rfl, Or.inr rfl⟩
  · skip
    refine g_iload_n cx 1 d_8_39_4 rfl rfl ?_
    refine g_aload_n cx 0 d_8_39_5 rfl rfl ?_
    refine m_get cx (k := 11) d_8_39_6 t_909 ⟨by decide, rfl⟩ hm rfl ?_
    refine g_icmp_ge cx d_8_39_9 rfl (fun c9 => ?_) (fun c9 => ?_)
    · skip
      refine g_iconst cx (v := 0) d_8_39_25 (by decide) ?_
      first
        | exact m_iret cx d_8_39_26 rfl rfl hm hs ⟨rfl, Or.inl ⟨rfl, j, hj, hv, c18⟩⟩
        | exact m_iret cx d_8_39_26 rfl rfl hm hs ⟨rfl, Or.inr rfl⟩
    · skip
      obtain ⟨j, hj, hv, -⟩ := pk_mu c1 (fun q => c9 (by show x.1 11 ≤ v; rw [ha]; exact q)) (by omega)
      refine g_aload_n cx 0 d_8_39_12 rfl rfl ?_
      refine m_get cx (k := 22) d_8_39_13 t_920 ⟨by decide, rfl⟩ hm rfl ?_
      refine g_iload_n cx 1 d_8_39_16 rfl rfl ?_
      refine m_ld4 cx d_8_39_17 (by decide) hm hv ⟨(show j < 8 by omega), by decide⟩ ?_
      refine g_if_ne cx d_8_39_18 rfl (fun c18 => ?_) (fun c18 => ?_)
      · skip
        refine g_iconst cx (v := 0) d_8_39_25 (by decide) ?_
        first
          | exact m_iret cx d_8_39_26 rfl rfl hm hs ⟨rfl, Or.inl ⟨rfl, j, hj, hv, c18⟩⟩
          | exact m_iret cx d_8_39_26 rfl rfl hm hs ⟨rfl, Or.inr rfl⟩
      · skip
        refine g_iconst cx (v := 1) d_8_39_21 (by decide) ?_
        refine g_goto cx d_8_39_22 rfl ?_
        first
          | exact m_iret cx d_8_39_26 rfl rfl hm hs ⟨rfl, Or.inl ⟨rfl, j, hj, hv, c18⟩⟩
          | exact m_iret cx d_8_39_26 rfl rfl hm hs ⟨rfl, Or.inr rfl⟩
set_option maxHeartbeats 4000000 in
theorem mc_isShut (hSt : Stb z0 E) (hA : Ad am ad) (x : MS) (a : Nat) (ha : x.1 11 = nI a) (hal : a ≤ 8) : MC l y_171 prog_8_method_18_code 1 (Option.some Jvm.ClassFile.FieldType.boolean) 0 D z0 E am ad [] x (fun r x' => x' = x ∧ (r = some (.int 1) ∨ (r = some (.int 0) ∧ 0 < a ∧ x.2.1 22 (a - 1) = 0))) := by
  refine mc_of hSt rfl (Nat.le_of_ble_eq_true rfl) ?_
  intro h0 h p e s m args below meth c cx hm hs
  refine g_aload_n cx 0 d_8_18_0 rfl rfl ?_
  refine m_get cx (k := 11) d_8_18_1 t_909 ⟨by decide, rfl⟩ hm rfl ?_
  refine g_if_eq cx d_8_18_4 rfl (fun c4 => ?_) (fun c4 => ?_)
  · skip
    refine g_iconst cx (v := 1) d_8_18_21 (by decide) ?_
    refine g_goto cx d_8_18_22 rfl ?_
    first
      | exact m_iret cx d_8_18_26 rfl rfl hm hs ⟨rfl, Or.inr ⟨rfl, h1, c18⟩⟩
      | exact m_iret cx d_8_18_26 rfl rfl hm hs ⟨rfl, Or.inl rfl⟩
  · skip
    have h1 : 0 < a := Nat.pos_of_ne_zero (fun q => c4 (by show x.1 11 = 0; rw [ha, q]; rfl))
    refine g_aload_n cx 0 d_8_18_7 rfl rfl ?_
    refine m_get cx (k := 22) d_8_18_8 t_920 ⟨by decide, rfl⟩ hm rfl ?_
    refine g_aload_n cx 0 d_8_18_11 rfl rfl ?_
    refine m_get cx (k := 11) d_8_18_12 t_909 ⟨by decide, rfl⟩ hm rfl ?_
    refine g_iconst cx (v := 1) d_8_18_15 (by decide) ?_
    refine g_isub cx d_8_18_16 ?_
    refine m_ld4 cx d_8_18_17 (by decide) hm (show x.1 11 - 1 = nI (a - 1) by rw [ha]; exact pk_sub (b := 1) h1) ⟨(show a - 1 < 8 by omega), by decide⟩ ?_
    refine g_if_eq cx d_8_18_18 rfl (fun c18 => ?_) (fun c18 => ?_)
    · skip
      refine g_iconst cx (v := 0) d_8_18_25 (by decide) ?_
      first
        | exact m_iret cx d_8_18_26 rfl rfl hm hs ⟨rfl, Or.inr ⟨rfl, h1, c18⟩⟩
        | exact m_iret cx d_8_18_26 rfl rfl hm hs ⟨rfl, Or.inl rfl⟩
    · skip
      refine g_iconst cx (v := 1) d_8_18_21 (by decide) ?_
      refine g_goto cx d_8_18_22 rfl ?_
      first
        | exact m_iret cx d_8_18_26 rfl rfl hm hs ⟨rfl, Or.inr ⟨rfl, h1, c18⟩⟩
        | exact m_iret cx d_8_18_26 rfl rfl hm hs ⟨rfl, Or.inl rfl⟩
set_option maxHeartbeats 4000000 in
theorem mc_many (hSt : Stb z0 E) (hA : Ad am ad) (x : MS) : MC l y_190 prog_8_method_37_code 1 (Option.some Jvm.ClassFile.FieldType.int) 0 D z0 E am ad [] x (fun r x' => r = some (.int (x.1 25)) ∧ x' = seti x 0 0) := by
  refine mc_of hSt rfl (Nat.le_of_ble_eq_true rfl) ?_
  intro h0 h p e s m args below meth c cx hm hs
  refine g_aload_n cx 0 d_8_37_0 rfl rfl ?_
  refine g_iconst cx (v := 0) d_8_37_1 (by decide) ?_
  refine m_put cx (k := 0) hA d_8_37_2 t_898 ⟨by decide, rfl, rfl, rfl, by decide +kernel⟩ hm hs (fun h hm hs => ?_)
  refine g_aload_n cx 0 d_8_37_5 rfl rfl ?_
  refine m_get cx (k := 25) d_8_37_6 t_923 ⟨by decide, rfl⟩ hm rfl ?_
  exact m_iret cx d_8_37_9 rfl rfl hm hs ⟨rfl, rfl⟩
set_option maxHeartbeats 4000000 in
theorem mc_asked (hSt : Stb z0 E) (hA : Ad am ad) (x : MS) (v : Int32) : MC l y_191 prog_8_method_38_code 2 (Option.some Jvm.ClassFile.FieldType.int) 0 D z0 E am ad [.int v] x (fun _ x' => x' = seti x 0 0) := by
  refine mc_of hSt rfl (Nat.le_of_ble_eq_true rfl) ?_
  intro h0 h p e s m args below meth c cx hm hs
  refine g_aload_n cx 0 d_8_38_0 rfl rfl ?_
  refine g_iconst cx (v := 0) d_8_38_1 (by decide) ?_
  refine m_put cx (k := 0) hA d_8_38_2 t_898 ⟨by decide, rfl, rfl, rfl, by decide +kernel⟩ hm hs (fun h hm hs => ?_)
  refine g_iload_n cx 1 d_8_38_5 rfl rfl ?_
  refine g_if_lt cx d_8_38_6 rfl (fun c6 => ?_) (fun c6 => ?_)
  · skip
    refine g_iconst cx (v := (-1)) d_8_38_32 (by decide) ?_
    exact m_iret cx d_8_38_33 rfl rfl hm hs rfl
  · skip
    refine g_iload_n cx 1 d_8_38_9 rfl rfl ?_
    refine g_aload_n cx 0 d_8_38_10 rfl rfl ?_
    refine m_get cx (k := 25) d_8_38_11 t_923 ⟨by decide, rfl⟩ hm rfl ?_
    refine g_icmp_ge cx d_8_38_14 rfl (fun c14 => ?_) (fun c14 => ?_)
    · skip
      refine g_iconst cx (v := (-1)) d_8_38_32 (by decide) ?_
      exact m_iret cx d_8_38_33 rfl rfl hm hs rfl
    · skip
      refine g_iload_n cx 1 d_8_38_17 rfl rfl ?_
      refine g_bipush cx (v := 20) d_8_38_18 (by decide) ?_
      refine g_icmp_ge cx d_8_38_20 rfl (fun c20 => ?_) (fun c20 => ?_)
      · skip
        refine g_iconst cx (v := (-1)) d_8_38_32 (by decide) ?_
        exact m_iret cx d_8_38_33 rfl rfl hm hs rfl
      · skip
        obtain ⟨j, hj, hv, -⟩ := pk_mu (L := 20) c6 c20 (by decide)
        refine g_aload_n cx 0 d_8_38_23 rfl rfl ?_
        refine m_get cx (k := 28) d_8_38_24 t_926 ⟨by decide, rfl⟩ hm rfl ?_
        refine g_iload_n cx 1 d_8_38_27 rfl rfl ?_
        refine m_ld1 cx d_8_38_28 (by decide) hm hv ⟨(show j < 20 from hj), by decide⟩ ?_
        refine g_goto cx d_8_38_29 rfl ?_
        exact m_iret cx d_8_38_33 rfl rfl hm hs rfl
set_option maxHeartbeats 4000000 in
theorem mc_used (hSt : Stb z0 E) (hA : Ad am ad) (x : MS) (v : Int32) (a : Nat) (ha : x.1 6 = nI a) (hal : a ≤ 6) : MC l y_194 prog_8_method_41_code 2 (Option.some Jvm.ClassFile.FieldType.int) 0 D z0 E am ad [.int v] x (fun _ x' => x' = seti x 0 0) := by
  refine mc_of hSt rfl (Nat.le_of_ble_eq_true rfl) ?_
  intro h0 h p e s m args below meth c cx hm hs
  refine g_aload_n cx 0 d_8_41_0 rfl rfl ?_
  refine g_iconst cx (v := 0) d_8_41_1 (by decide) ?_
  refine m_put cx (k := 0) hA d_8_41_2 t_898 ⟨by decide, rfl, rfl, rfl, by decide +kernel⟩ hm hs (fun h hm hs => ?_)
  refine g_iload_n cx 1 d_8_41_5 rfl rfl ?_
  refine g_if_lt cx d_8_41_6 rfl (fun c6 => ?_) (fun c6 => ?_)
  · skip
    refine g_iconst cx (v := (-1)) d_8_41_26 (by decide) ?_
    exact m_iret cx d_8_41_27 rfl rfl hm hs rfl
  · skip
    refine g_iload_n cx 1 d_8_41_9 rfl rfl ?_
    refine g_aload_n cx 0 d_8_41_10 rfl rfl ?_
    refine m_get cx (k := 6) d_8_41_11 t_904 ⟨by decide, rfl⟩ hm rfl ?_
    refine g_icmp_ge cx d_8_41_14 rfl (fun c14 => ?_) (fun c14 => ?_)
    · skip
      refine g_iconst cx (v := (-1)) d_8_41_26 (by decide) ?_
      exact m_iret cx d_8_41_27 rfl rfl hm hs rfl
    · skip
      obtain ⟨j, hj, hv, -⟩ := pk_mu c6 (fun q => c14 (by show x.1 6 ≤ v; rw [ha]; exact q)) (by omega)
      refine g_aload_n cx 0 d_8_41_17 rfl rfl ?_
      refine m_get cx (k := 9) d_8_41_18 t_907 ⟨by decide, rfl⟩ hm rfl ?_
      refine g_iload_n cx 1 d_8_41_21 rfl rfl ?_
      refine m_ld1 cx d_8_41_22 (by decide) hm hv ⟨(show j < 6 by omega), by decide⟩ ?_
      refine g_goto cx d_8_41_23 rfl ?_
      exact m_iret cx d_8_41_27 rfl rfl hm hs rfl
end M1
end
section
/-! The reference's methods that ask others, or go through its tables. -/
theorem lg_eq {x y : Int64} (h : lg_cmp x y = 0) : x = y := by
  unfold lg_cmp at h
  split at h
  · cases h
  · split at h
    · assumption
    · cases h
def PT (x : MS) (p : Nat) (b e : Nat → Nat) : Prop := x.1 3 = nI p ∧ p ≤ 15 ∧ ∀ i, i < p → x.2.1 4 i = nI (b i) ∧ x.2.1 5 i = nI (e i) ∧ b i < e i ∧ e i ≤ 30
section M2
variable {l : Launch} {D : va_G} {z0 : Nat} {E : State → Prop} {am : Nat} {ad : Nat → Nat}
set_option maxHeartbeats 4000000 in
theorem mc_kept (hSt : Stb z0 E) (hA : Ad am ad) (x : MS) (v : Int32) (a : Nat) (ha : x.1 11 = nI a) (hal : a ≤ 8) : MC l y_192 prog_8_method_40_code 2 (Option.some Jvm.ClassFile.FieldType.int) 1 D z0 E am ad [.int v] x (fun _ x' => x' = seti x 0 0) := by
  refine mc_of hSt rfl (Nat.le_of_ble_eq_true rfl) ?_
  intro h0 h p e s m args below meth c cx hm hs
  refine g_aload_n cx 0 d_8_40_0 rfl rfl ?_
  refine g_iconst cx (v := 0) d_8_40_1 (by decide) ?_
  refine m_put cx (k := 0) hA d_8_40_2 t_898 ⟨by decide, rfl, rfl, rfl, by decide +kernel⟩ hm hs (fun h hm hs => ?_)
  refine g_aload_n cx 0 d_8_40_5 rfl rfl ?_
  refine g_iload_n cx 1 d_8_40_6 rfl rfl ?_
  refine m_call 1 cx (As := [.int v]) (n := 1) (mc_isRealm hSt hA (seti x 0 0) v a ha hal) d_8_40_7 t_1137 t_1139 ts_54 t_1140 rfl ⟨rfl, by decide +kernel⟩ rfl ⟨by decide, by decide⟩ (Nat.le_of_ble_eq_true rfl) hm hs (fun v7 x7 h hm hs r7 => ?_)
  obtain ⟨rfl, r7⟩ := r7
  rcases r7 with ⟨rfl, j, hj, hv, -⟩ | rfl
  · skip
    refine g_if_eq cx d_8_40_10 rfl (fun c10 => absurd c10 (by decide)) (fun c10 => ?_)
    refine g_aload_n cx 0 d_8_40_13 rfl rfl ?_
    refine m_get cx (k := 18) d_8_40_14 t_916 ⟨by decide, rfl⟩ hm rfl ?_
    refine g_iload_n cx 1 d_8_40_17 rfl rfl ?_
    refine m_ld1 cx d_8_40_18 (by decide) hm hv ⟨(show j < 8 by omega), by decide⟩ ?_
    refine g_goto cx d_8_40_19 rfl ?_
    exact m_iret cx d_8_40_23 rfl rfl hm hs rfl
  · skip
    refine g_if_eq cx d_8_40_10 rfl (fun c10 => ?_) (fun c10 => absurd rfl c10)
    refine g_iconst cx (v := (-1)) d_8_40_22 (by decide) ?_
    exact m_iret cx d_8_40_23 rfl rfl hm hs rfl
set_option maxHeartbeats 4000000 in
theorem mc_drop (hSt : Stb z0 E) (hA : Ad am ad) (x : MS) (v : Int32) (a : Nat) (ha : x.1 11 = nI a) (hal : a ≤ 8) : MC l y_195 prog_8_method_42_code 2 (Option.some Jvm.ClassFile.FieldType.boolean) 1 D z0 E am ad [.int v] x (fun _ x' => x' = seti x 0 0 ∨ ∃ j, j < a ∧ x' = seta (seti x 0 0) 22 j 1) := by
  refine mc_of hSt rfl (Nat.le_of_ble_eq_true rfl) ?_
  intro h0 h p e s m args below meth c cx hm hs
  refine g_aload_n cx 0 d_8_42_0 rfl rfl ?_
  refine g_iconst cx (v := 0) d_8_42_1 (by decide) ?_
  refine m_put cx (k := 0) hA d_8_42_2 t_898 ⟨by decide, rfl, rfl, rfl, by decide +kernel⟩ hm hs (fun h hm hs => ?_)
  refine g_aload_n cx 0 d_8_42_5 rfl rfl ?_
  refine g_iload_n cx 1 d_8_42_6 rfl rfl ?_
  refine m_call 1 cx (As := [.int v]) (n := 1) (mc_isRealm hSt hA (seti x 0 0) v a ha hal) d_8_42_7 t_1137 t_1139 ts_54 t_1140 rfl ⟨rfl, by decide +kernel⟩ rfl ⟨by decide, by decide⟩ (Nat.le_of_ble_eq_true rfl) hm hs (fun v7 x7 h hm hs r7 => ?_)
  obtain ⟨rfl, r7⟩ := r7
  rcases r7 with ⟨rfl, j, hj, hv, -⟩ | rfl
  · skip
    refine g_if_ne cx d_8_42_10 rfl (fun c10 => ?_) (fun c10 => absurd c10 (by decide))
    refine g_aload_n cx 0 d_8_42_15 rfl rfl ?_
    refine m_get cx (k := 22) d_8_42_16 t_920 ⟨by decide, rfl⟩ hm rfl ?_
    refine g_iload_n cx 1 d_8_42_19 rfl rfl ?_
    refine g_iconst cx (v := 1) d_8_42_20 (by decide) ?_
    refine m_st4 cx hA d_8_42_21 (by decide) hm hs hv ⟨(show j < 8 by omega), by decide⟩ (fun h hm hs => ?_)
    refine g_iconst cx (v := 1) d_8_42_22 (by decide) ?_
    exact m_iret cx d_8_42_23 rfl rfl hm hs (Or.inr ⟨j, hj, rfl⟩)
  · skip
    refine g_if_ne cx d_8_42_10 rfl (fun c10 => absurd rfl c10) (fun c10 => ?_)
    refine g_iconst cx (v := 0) d_8_42_13 (by decide) ?_
    exact m_iret cx d_8_42_14 rfl rfl hm hs (Or.inl rfl)
set_option maxHeartbeats 4000000 in
theorem mc_count (hSt : Stb z0 E) (hA : Ad am ad) (x : MS) (v : Int32) (a : Nat) (ha : x.1 11 = nI a) (hal : a ≤ 8) : MC l y_197 prog_8_method_44_code 4 (Option.some Jvm.ClassFile.FieldType.int) 0 D z0 E am ad [.int v] x (fun _ x' => x' = seti x 0 0) := by
  refine mc_of hSt rfl (Nat.le_of_ble_eq_true rfl) ?_
  intro h0 h p e s m args below meth c cx hm hs
  refine g_aload_n cx 0 d_8_44_0 rfl rfl ?_
  refine g_iconst cx (v := 0) d_8_44_1 (by decide) ?_
  refine m_put cx (k := 0) hA d_8_44_2 t_898 ⟨by decide, rfl, rfl, rfl, by decide +kernel⟩ hm hs (fun h hm hs => ?_)
  have lp : ∀ (n : Nat) (j : Nat) (k : Int32), j ≤ a → a - j < n → G p l e (rmL 0) s m args below meth c 4 D z0 E (MQp D am ad h0 (fun _ x' => x' = seti x 0 0)) 0 0 9 [(3, .int (nI j)), (2, .int k), (0, .ref am), (1, .int v)] [] h 0 0 := by
    intro n
    induction n with
    | zero => intro j k hj0 hn; exact absurd hn (Nat.not_lt_zero _)
    | succ n ih =>
      intro j k hj0 hn
      refine g_iload_n cx 0 d_8_44_9 rfl rfl ?_
      refine g_aload_n cx 2 d_8_44_10 rfl rfl ?_
      refine m_get cx (k := 11) d_8_44_11 t_909 ⟨by decide, rfl⟩ hm rfl ?_
      refine g_icmp_ge cx d_8_44_14 rfl (fun c14 => ?_) (fun c14 => ?_)
      · skip
        refine g_iload_n cx 3 d_8_44_40 rfl rfl ?_
        refine g_if_ne cx d_8_44_41 rfl (fun c41 => ?_) (fun c41 => ?_)
        · skip
          refine g_iload_n cx 3 d_8_44_51 rfl rfl ?_
          refine g_iconst cx (v := 1) d_8_44_52 (by decide) ?_
          refine g_icmp_ne cx d_8_44_53 rfl (fun c53 => ?_) (fun c53 => ?_)
          · skip
            refine g_iload_n cx 3 d_8_44_63 rfl rfl ?_
            refine g_iconst cx (v := 2) d_8_44_64 (by decide) ?_
            refine g_icmp_ne cx d_8_44_65 rfl (fun c65 => ?_) (fun c65 => ?_)
            · skip
              refine g_iconst cx (v := (-1)) d_8_44_72 (by decide) ?_
              exact m_iret cx d_8_44_73 rfl rfl hm hs rfl
            · skip
              refine g_iload_n cx 1 d_8_44_68 rfl rfl ?_
              refine g_goto cx d_8_44_69 rfl ?_
              exact m_iret cx d_8_44_73 rfl rfl hm hs rfl
          · skip
            refine g_aload_n cx 2 d_8_44_56 rfl rfl ?_
            refine m_get cx (k := 11) d_8_44_57 t_909 ⟨by decide, rfl⟩ hm rfl ?_
            refine g_goto cx d_8_44_60 rfl ?_
            exact m_iret cx d_8_44_73 rfl rfl hm hs rfl
        · skip
          refine g_aload_n cx 2 d_8_44_44 rfl rfl ?_
          refine m_get cx (k := 6) d_8_44_45 t_904 ⟨by decide, rfl⟩ hm rfl ?_
          refine g_goto cx d_8_44_48 rfl ?_
          exact m_iret cx d_8_44_73 rfl rfl hm hs rfl
      · skip
        have hj : j < a := Nat.lt_of_not_le (fun q => c14 (by show x.1 11 ≤ nI j; rw [ha]; exact nI_le q (by omega)))
        refine g_aload_n cx 2 d_8_44_17 rfl rfl ?_
        refine m_get cx (k := 22) d_8_44_18 t_920 ⟨by decide, rfl⟩ hm rfl ?_
        refine g_iload_n cx 0 d_8_44_21 rfl rfl ?_
        refine m_ld4 cx d_8_44_22 (by decide) hm rfl ⟨(show j < 8 by omega), by decide⟩ ?_
        refine g_if_eq cx d_8_44_23 rfl (fun c23 => ?_) (fun c23 => ?_)
        · skip
          refine g_iload_n cx 1 d_8_44_30 rfl rfl ?_
          refine g_iconst cx (v := 1) d_8_44_31 (by decide) ?_
          refine g_iadd cx d_8_44_32 ?_
          refine g_topi (fun k1 ek1 => ?_)
          refine g_istore_n cx (lv' := [(2, .int k1), (3, .int (nI j)), (0, .ref am), (1, .int v)]) d_8_44_33 rfl (by decide) rfl ?_
          refine g_iinc cx 1 (lv' := [(3, .int (nI (j + 1))), (2, .int k1), (0, .ref am), (1, .int v)]) d_8_44_34 rfl (inc1 j) (by decide) rfl ?_
          refine g_loc (lv' := [(3, .int (nI (j + 1))), (2, .int k1), (0, .ref am), (1, .int v)]) [0, 1, 2, 3] rfl ?_
          refine g_goto cx d_8_44_37 rfl ?_
          exact ih (j + 1) _ (by omega) (by omega)
        · skip
          refine g_iload_n cx 1 d_8_44_26 rfl rfl ?_
          refine g_goto cx d_8_44_27 rfl ?_
          refine g_topi (fun k1 ek1 => ?_)
          refine g_istore_n cx (lv' := [(2, .int k1), (3, .int (nI j)), (0, .ref am), (1, .int v)]) d_8_44_33 rfl (by decide) rfl ?_
          refine g_iinc cx 1 (lv' := [(3, .int (nI (j + 1))), (2, .int k1), (0, .ref am), (1, .int v)]) d_8_44_34 rfl (inc1 j) (by decide) rfl ?_
          refine g_loc (lv' := [(3, .int (nI (j + 1))), (2, .int k1), (0, .ref am), (1, .int v)]) [0, 1, 2, 3] rfl ?_
          refine g_goto cx d_8_44_37 rfl ?_
          exact ih (j + 1) _ (by omega) (by omega)
  refine g_iconst cx (v := 0) d_8_44_5 (by decide) ?_
  refine g_topi (fun k0 ek0 => ?_)
  refine g_istore_n cx (lv' := [(2, .int k0), (0, .ref am), (1, .int v)]) d_8_44_6 rfl (by decide) rfl ?_
  refine g_iconst cx (v := 0) d_8_44_7 (by decide) ?_
  refine g_topi (fun j0 ej0 => ?_)
  obtain rfl : j0 = nI 0 := ej0
  refine g_istore_n cx (lv' := [(3, .int (nI 0)), (2, .int k0), (0, .ref am), (1, .int v)]) d_8_44_8 rfl (by decide) rfl ?_
  exact lp (a + 1) 0 _ (by omega) (by omega)
set_option maxHeartbeats 4000000 in
theorem mc_isLong (hSt : Stb z0 E) (hA : Ad am ad) (x : MS) (i pn : Nat) (bg en : Nat → Nat) (v : Int32) (hp : PT x pn bg en) (hi : i < 15) : MC l y_160 prog_8_method_9_code 3 (Option.some Jvm.ClassFile.FieldType.boolean) 0 D z0 E am ad [.int (nI i), .int v] x (fun r x' => x' = x ∧ ((r = some (.int 1) ∧ i < pn ∧ nI (en i) - nI (bg i) = v) ∨ r = some (.int 0))) := by
  refine mc_of hSt rfl (Nat.le_of_ble_eq_true rfl) ?_
  intro h0 h p e s m args below meth c cx hm hs
  refine g_iload_n cx 1 d_8_9_0 rfl rfl ?_
  refine g_aload_n cx 0 d_8_9_1 rfl rfl ?_
  refine m_get cx (k := 3) d_8_9_2 t_901 ⟨by decide, rfl⟩ hm rfl ?_
  refine g_icmp_ge cx d_8_9_5 rfl (fun c5 => ?_) (fun c5 => ?_)
  · skip
    refine g_iconst cx (v := 0) d_8_9_29 (by decide) ?_
    first
      | exact m_iret cx d_8_9_30 rfl rfl hm hs ⟨rfl, Or.inl ⟨rfl, hip, by rw [← p1, ← p2]; exact c22⟩⟩
      | exact m_iret cx d_8_9_30 rfl rfl hm hs ⟨rfl, Or.inr rfl⟩
  · skip
    have hip : i < pn := Nat.lt_of_not_le (fun q => c5 (by show x.1 3 ≤ nI i; rw [hp.1]; exact nI_le q (by omega)))
    obtain ⟨p1, p2, p3, p4⟩ := hp.2.2 i hip
    refine g_aload_n cx 0 d_8_9_8 rfl rfl ?_
    refine m_get cx (k := 5) d_8_9_9 t_903 ⟨by decide, rfl⟩ hm rfl ?_
    refine g_iload_n cx 1 d_8_9_12 rfl rfl ?_
    refine m_ld1 cx d_8_9_13 (by decide) hm rfl ⟨(show i < 15 from hi), by decide⟩ ?_
    refine g_aload_n cx 0 d_8_9_14 rfl rfl ?_
    refine m_get cx (k := 4) d_8_9_15 t_902 ⟨by decide, rfl⟩ hm rfl ?_
    refine g_iload_n cx 1 d_8_9_18 rfl rfl ?_
    refine m_ld1 cx d_8_9_19 (by decide) hm rfl ⟨(show i < 15 from hi), by decide⟩ ?_
    refine g_isub cx d_8_9_20 ?_
    refine g_iload_n cx 2 d_8_9_21 rfl rfl ?_
    refine g_icmp_ne cx d_8_9_22 rfl (fun c22 => ?_) (fun c22 => ?_)
    · skip
      refine g_iconst cx (v := 0) d_8_9_29 (by decide) ?_
      first
        | exact m_iret cx d_8_9_30 rfl rfl hm hs ⟨rfl, Or.inl ⟨rfl, hip, by rw [← p1, ← p2]; exact c22⟩⟩
        | exact m_iret cx d_8_9_30 rfl rfl hm hs ⟨rfl, Or.inr rfl⟩
    · skip
      refine g_iconst cx (v := 1) d_8_9_25 (by decide) ?_
      refine g_goto cx d_8_9_26 rfl ?_
      first
        | exact m_iret cx d_8_9_30 rfl rfl hm hs ⟨rfl, Or.inl ⟨rfl, hip, by rw [← p1, ← p2]; exact c22⟩⟩
        | exact m_iret cx d_8_9_30 rfl rfl hm hs ⟨rfl, Or.inr rfl⟩
set_option maxHeartbeats 4000000 in
theorem mc_ends (hSt : Stb z0 E) (hA : Ad am ad) (x : MS) (i pn : Nat) (bg en : Nat → Nat) (v u : Int32) (hp : PT x pn bg en) (hip : i < pn) (he : 2 ≤ en i) : MC l y_161 prog_8_method_10_code 4 (Option.some Jvm.ClassFile.FieldType.boolean) 0 D z0 E am ad [.int (nI i), .int v, .int u] x (fun r x' => x' = x ∧ (r = some (.int 1) ∨ r = some (.int 0))) := by
  refine mc_of hSt rfl (Nat.le_of_ble_eq_true rfl) ?_
  intro h0 h p e s m args below meth c cx hm hs
  have hpl := hp.2.1
  obtain ⟨p1, p2, p3, p4⟩ := hp.2.2 i hip
  refine g_aload_n cx 0 d_8_10_0 rfl rfl ?_
  refine m_get cx (k := 1) d_8_10_1 t_899 ⟨by decide, rfl⟩ hm rfl ?_
  refine g_aload_n cx 0 d_8_10_4 rfl rfl ?_
  refine m_get cx (k := 5) d_8_10_5 t_903 ⟨by decide, rfl⟩ hm rfl ?_
  refine g_iload_n cx 1 d_8_10_8 rfl rfl ?_
  refine m_ld1 cx d_8_10_9 (by decide) hm rfl ⟨(show i < 15 by omega), by decide⟩ ?_
  refine g_iconst cx (v := 2) d_8_10_10 (by decide) ?_
  refine g_isub cx d_8_10_11 ?_
  refine m_ld2 cx d_8_10_12 (by decide) hm (show x.2.1 5 i - 2 = nI (en i - 2) by rw [p2]; exact pk_sub (b := 2) he) ⟨(show en i - 2 < 30 by omega), by decide⟩ ?_
  refine g_iload_n cx 2 d_8_10_13 rfl rfl ?_
  refine g_icmp_ne cx d_8_10_14 rfl (fun c14 => ?_) (fun c14 => ?_)
  · skip
    refine g_iconst cx (v := 0) d_8_10_38 (by decide) ?_
    first
      | exact m_iret cx d_8_10_39 rfl rfl hm hs ⟨rfl, Or.inl rfl⟩
      | exact m_iret cx d_8_10_39 rfl rfl hm hs ⟨rfl, Or.inr rfl⟩
  · skip
    refine g_aload_n cx 0 d_8_10_17 rfl rfl ?_
    refine m_get cx (k := 1) d_8_10_18 t_899 ⟨by decide, rfl⟩ hm rfl ?_
    refine g_aload_n cx 0 d_8_10_21 rfl rfl ?_
    refine m_get cx (k := 5) d_8_10_22 t_903 ⟨by decide, rfl⟩ hm rfl ?_
    refine g_iload_n cx 1 d_8_10_25 rfl rfl ?_
    refine m_ld1 cx d_8_10_26 (by decide) hm rfl ⟨(show i < 15 by omega), by decide⟩ ?_
    refine g_iconst cx (v := 1) d_8_10_27 (by decide) ?_
    refine g_isub cx d_8_10_28 ?_
    refine m_ld2 cx d_8_10_29 (by decide) hm (show x.2.1 5 i - 1 = nI (en i - 1) by rw [p2]; exact pk_sub (b := 1) (by omega)) ⟨(show en i - 1 < 30 by omega), by decide⟩ ?_
    refine g_iload_n cx 3 d_8_10_30 rfl rfl ?_
    refine g_icmp_ne cx d_8_10_31 rfl (fun c31 => ?_) (fun c31 => ?_)
    · skip
      refine g_iconst cx (v := 0) d_8_10_38 (by decide) ?_
      first
        | exact m_iret cx d_8_10_39 rfl rfl hm hs ⟨rfl, Or.inl rfl⟩
        | exact m_iret cx d_8_10_39 rfl rfl hm hs ⟨rfl, Or.inr rfl⟩
    · skip
      refine g_iconst cx (v := 1) d_8_10_34 (by decide) ?_
      refine g_goto cx d_8_10_35 rfl ?_
      first
        | exact m_iret cx d_8_10_39 rfl rfl hm hs ⟨rfl, Or.inl rfl⟩
        | exact m_iret cx d_8_10_39 rfl rfl hm hs ⟨rfl, Or.inr rfl⟩
set_option maxHeartbeats 4000000 in
theorem mc_says (hSt : Stb z0 E) (hA : Ad am ad) (x : MS) (i pn : Nat) (bg en : Nat → Nat) (v1 v2 v3 v4 : Int32) (hp : PT x pn bg en) (hi : i < 15) : MC l y_159 prog_8_method_8_code 7 (Option.some Jvm.ClassFile.FieldType.boolean) 0 D z0 E am ad [.int (nI i), .int v1, .int v2, .int v3, .int v4] x (fun r x' => x' = x ∧ (r = some (.int 1) ∨ r = some (.int 0))) := by
  refine mc_of hSt rfl (Nat.le_of_ble_eq_true rfl) ?_
  intro h0 h p e s m args below meth c cx hm hs
  refine g_iload_n cx 1 d_8_8_0 rfl rfl ?_
  refine g_aload_n cx 0 d_8_8_1 rfl rfl ?_
  refine m_get cx (k := 3) d_8_8_2 t_901 ⟨by decide, rfl⟩ hm rfl ?_
  refine g_icmp_ge cx d_8_8_5 rfl (fun c5 => ?_) (fun c5 => ?_)
  · skip
    refine g_iconst cx (v := 0) d_8_8_97 (by decide) ?_
    refine g_topi (fun z ez => ?_)
    refine g_istore cx (lv' := [(6, .int z), (0, .ref am), (1, .int (nI i)), (2, .int v1), (3, .int v2), (4, .int v3), (5, .int v4)]) d_8_8_98 (by decide) rfl ?_
    refine g_iload cx 0 d_8_8_100 rfl ?_
    first
      | exact m_iret cx d_8_8_102 rfl (by rw [ez]; rfl) hm hs ⟨rfl, Or.inl (congrArg (fun q => some (Value.int q)) ez)⟩
      | exact m_iret cx d_8_8_102 rfl (by rw [ez]; rfl) hm hs ⟨rfl, Or.inr (congrArg (fun q => some (Value.int q)) ez)⟩
  · skip
    have hip : i < pn := Nat.lt_of_not_le (fun q => c5 (by show x.1 3 ≤ nI i; rw [hp.1]; exact nI_le q (by omega)))
    obtain ⟨p1, p2, p3, p4⟩ := hp.2.2 i hip
    refine g_aload_n cx 0 d_8_8_8 rfl rfl ?_
    refine m_get cx (k := 5) d_8_8_9 t_903 ⟨by decide, rfl⟩ hm rfl ?_
    refine g_iload_n cx 1 d_8_8_12 rfl rfl ?_
    refine m_ld1 cx d_8_8_13 (by decide) hm rfl ⟨(show i < 15 from hi), by decide⟩ ?_
    refine g_aload_n cx 0 d_8_8_14 rfl rfl ?_
    refine m_get cx (k := 4) d_8_8_15 t_902 ⟨by decide, rfl⟩ hm rfl ?_
    refine g_iload_n cx 1 d_8_8_18 rfl rfl ?_
    refine m_ld1 cx d_8_8_19 (by decide) hm rfl ⟨(show i < 15 from hi), by decide⟩ ?_
    refine g_isub cx d_8_8_20 ?_
    refine g_iconst cx (v := 4) d_8_8_21 (by decide) ?_
    refine g_icmp_lt cx d_8_8_22 rfl (fun c22 => ?_) (fun c22 => ?_)
    · skip
      refine g_iconst cx (v := 0) d_8_8_97 (by decide) ?_
      refine g_topi (fun z ez => ?_)
      refine g_istore cx (lv' := [(6, .int z), (0, .ref am), (1, .int (nI i)), (2, .int v1), (3, .int v2), (4, .int v3), (5, .int v4)]) d_8_8_98 (by decide) rfl ?_
      refine g_iload cx 0 d_8_8_100 rfl ?_
      first
        | exact m_iret cx d_8_8_102 rfl (by rw [ez]; rfl) hm hs ⟨rfl, Or.inl (congrArg (fun q => some (Value.int q)) ez)⟩
        | exact m_iret cx d_8_8_102 rfl (by rw [ez]; rfl) hm hs ⟨rfl, Or.inr (congrArg (fun q => some (Value.int q)) ez)⟩
    · skip
      have h4 : bg i + 4 ≤ en i := by
        refine Nat.le_of_not_lt (fun q => c22 ?_)
        show x.2.1 5 i - x.2.1 4 i < 4
        rw [p1, p2, pk_sub (by omega)]
        exact (nI_ltI (b := 4) (by omega) (by decide)).mpr (by omega)
      refine g_aload_n cx 0 d_8_8_25 rfl rfl ?_
      refine m_get cx (k := 1) d_8_8_26 t_899 ⟨by decide, rfl⟩ hm rfl ?_
      refine g_aload_n cx 0 d_8_8_29 rfl rfl ?_
      refine m_get cx (k := 4) d_8_8_30 t_902 ⟨by decide, rfl⟩ hm rfl ?_
      refine g_iload_n cx 1 d_8_8_33 rfl rfl ?_
      refine m_ld1 cx d_8_8_34 (by decide) hm rfl ⟨(show i < 15 from hi), by decide⟩ ?_
      refine m_ld2 cx d_8_8_35 (by decide) hm (show x.2.1 4 i = nI (bg i + 0) by exact p1) ⟨(show bg i + 0 < 30 by omega), by decide⟩ ?_
      refine g_iload_n cx 2 d_8_8_36 rfl rfl ?_
      refine g_icmp_ne cx d_8_8_37 rfl (fun c37 => ?_) (fun c37 => ?_)
      · skip
        refine g_iconst cx (v := 0) d_8_8_97 (by decide) ?_
        refine g_topi (fun z ez => ?_)
        refine g_istore cx (lv' := [(6, .int z), (0, .ref am), (1, .int (nI i)), (2, .int v1), (3, .int v2), (4, .int v3), (5, .int v4)]) d_8_8_98 (by decide) rfl ?_
        refine g_iload cx 0 d_8_8_100 rfl ?_
        first
          | exact m_iret cx d_8_8_102 rfl (by rw [ez]; rfl) hm hs ⟨rfl, Or.inl (congrArg (fun q => some (Value.int q)) ez)⟩
          | exact m_iret cx d_8_8_102 rfl (by rw [ez]; rfl) hm hs ⟨rfl, Or.inr (congrArg (fun q => some (Value.int q)) ez)⟩
      · skip
        refine g_aload_n cx 0 d_8_8_40 rfl rfl ?_
        refine m_get cx (k := 1) d_8_8_41 t_899 ⟨by decide, rfl⟩ hm rfl ?_
        refine g_aload_n cx 0 d_8_8_44 rfl rfl ?_
        refine m_get cx (k := 4) d_8_8_45 t_902 ⟨by decide, rfl⟩ hm rfl ?_
        refine g_iload_n cx 1 d_8_8_48 rfl rfl ?_
        refine m_ld1 cx d_8_8_49 (by decide) hm rfl ⟨(show i < 15 from hi), by decide⟩ ?_
        refine g_iconst cx (v := 1) d_8_8_50 (by decide) ?_
        refine g_iadd cx d_8_8_51 ?_
        refine m_ld2 cx d_8_8_52 (by decide) hm (show x.2.1 4 i + 1 = nI (bg i + 1) by rw [p1]; exact nI_add (bg i) 1) ⟨(show bg i + 1 < 30 by omega), by decide⟩ ?_
        refine g_iload_n cx 3 d_8_8_53 rfl rfl ?_
        refine g_icmp_ne cx d_8_8_54 rfl (fun c54 => ?_) (fun c54 => ?_)
        · skip
          refine g_iconst cx (v := 0) d_8_8_97 (by decide) ?_
          refine g_topi (fun z ez => ?_)
          refine g_istore cx (lv' := [(6, .int z), (0, .ref am), (1, .int (nI i)), (2, .int v1), (3, .int v2), (4, .int v3), (5, .int v4)]) d_8_8_98 (by decide) rfl ?_
          refine g_iload cx 0 d_8_8_100 rfl ?_
          first
            | exact m_iret cx d_8_8_102 rfl (by rw [ez]; rfl) hm hs ⟨rfl, Or.inl (congrArg (fun q => some (Value.int q)) ez)⟩
            | exact m_iret cx d_8_8_102 rfl (by rw [ez]; rfl) hm hs ⟨rfl, Or.inr (congrArg (fun q => some (Value.int q)) ez)⟩
        · skip
          refine g_aload_n cx 0 d_8_8_57 rfl rfl ?_
          refine m_get cx (k := 1) d_8_8_58 t_899 ⟨by decide, rfl⟩ hm rfl ?_
          refine g_aload_n cx 0 d_8_8_61 rfl rfl ?_
          refine m_get cx (k := 4) d_8_8_62 t_902 ⟨by decide, rfl⟩ hm rfl ?_
          refine g_iload_n cx 1 d_8_8_65 rfl rfl ?_
          refine m_ld1 cx d_8_8_66 (by decide) hm rfl ⟨(show i < 15 from hi), by decide⟩ ?_
          refine g_iconst cx (v := 2) d_8_8_67 (by decide) ?_
          refine g_iadd cx d_8_8_68 ?_
          refine m_ld2 cx d_8_8_69 (by decide) hm (show x.2.1 4 i + 2 = nI (bg i + 2) by rw [p1]; exact nI_add (bg i) 2) ⟨(show bg i + 2 < 30 by omega), by decide⟩ ?_
          refine g_iload cx 4 d_8_8_70 rfl ?_
          refine g_icmp_ne cx d_8_8_72 rfl (fun c72 => ?_) (fun c72 => ?_)
          · skip
            refine g_iconst cx (v := 0) d_8_8_97 (by decide) ?_
            refine g_topi (fun z ez => ?_)
            refine g_istore cx (lv' := [(6, .int z), (0, .ref am), (1, .int (nI i)), (2, .int v1), (3, .int v2), (4, .int v3), (5, .int v4)]) d_8_8_98 (by decide) rfl ?_
            refine g_iload cx 0 d_8_8_100 rfl ?_
            first
              | exact m_iret cx d_8_8_102 rfl (by rw [ez]; rfl) hm hs ⟨rfl, Or.inl (congrArg (fun q => some (Value.int q)) ez)⟩
              | exact m_iret cx d_8_8_102 rfl (by rw [ez]; rfl) hm hs ⟨rfl, Or.inr (congrArg (fun q => some (Value.int q)) ez)⟩
          · skip
            refine g_aload_n cx 0 d_8_8_75 rfl rfl ?_
            refine m_get cx (k := 1) d_8_8_76 t_899 ⟨by decide, rfl⟩ hm rfl ?_
            refine g_aload_n cx 0 d_8_8_79 rfl rfl ?_
            refine m_get cx (k := 4) d_8_8_80 t_902 ⟨by decide, rfl⟩ hm rfl ?_
            refine g_iload_n cx 1 d_8_8_83 rfl rfl ?_
            refine m_ld1 cx d_8_8_84 (by decide) hm rfl ⟨(show i < 15 from hi), by decide⟩ ?_
            refine g_iconst cx (v := 3) d_8_8_85 (by decide) ?_
            refine g_iadd cx d_8_8_86 ?_
            refine m_ld2 cx d_8_8_87 (by decide) hm (show x.2.1 4 i + 3 = nI (bg i + 3) by rw [p1]; exact nI_add (bg i) 3) ⟨(show bg i + 3 < 30 by omega), by decide⟩ ?_
            refine g_iload cx 5 d_8_8_88 rfl ?_
            refine g_icmp_ne cx d_8_8_90 rfl (fun c90 => ?_) (fun c90 => ?_)
            · skip
              refine g_iconst cx (v := 0) d_8_8_97 (by decide) ?_
              refine g_topi (fun z ez => ?_)
              refine g_istore cx (lv' := [(6, .int z), (0, .ref am), (1, .int (nI i)), (2, .int v1), (3, .int v2), (4, .int v3), (5, .int v4)]) d_8_8_98 (by decide) rfl ?_
              refine g_iload cx 0 d_8_8_100 rfl ?_
              first
                | exact m_iret cx d_8_8_102 rfl (by rw [ez]; rfl) hm hs ⟨rfl, Or.inl (congrArg (fun q => some (Value.int q)) ez)⟩
                | exact m_iret cx d_8_8_102 rfl (by rw [ez]; rfl) hm hs ⟨rfl, Or.inr (congrArg (fun q => some (Value.int q)) ez)⟩
            · skip
              refine g_iconst cx (v := 1) d_8_8_93 (by decide) ?_
              refine g_goto cx d_8_8_94 rfl ?_
              refine g_topi (fun z ez => ?_)
              refine g_istore cx (lv' := [(6, .int z), (0, .ref am), (1, .int (nI i)), (2, .int v1), (3, .int v2), (4, .int v3), (5, .int v4)]) d_8_8_98 (by decide) rfl ?_
              refine g_iload cx 0 d_8_8_100 rfl ?_
              first
                | exact m_iret cx d_8_8_102 rfl (by rw [ez]; rfl) hm hs ⟨rfl, Or.inl (congrArg (fun q => some (Value.int q)) ez)⟩
                | exact m_iret cx d_8_8_102 rfl (by rw [ez]; rfl) hm hs ⟨rfl, Or.inr (congrArg (fun q => some (Value.int q)) ez)⟩
end M2
end
section
/-! Going through the reference's tables. -/
theorem lg_self (x : Int64) : lg_cmp x x = 0 := by
  unfold lg_cmp
  simp
section M3
variable {l : Launch} {D : va_G} {z0 : Nat} {E : State → Prop} {am : Nat} {ad : Nat → Nat}
set_option maxHeartbeats 4000000 in
theorem mc_isIn (hSt : Stb z0 E) (hA : Ad am ad) (x : MS) (q t : Nat) (nv : Int64) (hq : q < 6) (ht : x.2.1 8 q = nI t) (htl : t ≤ 6) : MC l y_167 prog_8_method_15_code 6 (Option.some Jvm.ClassFile.FieldType.boolean) 0 D z0 E am ad [.int (nI q), .long nv] x (fun r x' => x' = x ∧ (r = some (.int 0) ∨ (r = some (.int 1) ∧ ∃ j, j < t ∧ x.2.2 10 (6 * q + j) = nv))) := by
  refine mc_of hSt rfl (Nat.le_of_ble_eq_true rfl) ?_
  intro h0 h p e s m args below meth c cx hm hs
  have hb : 6 * nI q + x.2.1 8 q = nI (6 * q + t) := by rw [ht, show (6 : Int32) = nI 6 from rfl, pk_mul, nI_add]
  have lp : ∀ (n : Nat) (k : Nat) (z : Int32), 6 * q ≤ k → k ≤ 6 * q + t → (z = 0 ∨ (z = 1 ∧ ∃ j, j < t ∧ x.2.2 10 (6 * q + j) = nv)) → 6 * q + t - k < n → G p l e (rmL 0) s m args below meth c 6 D z0 E (MQp D am ad h0 (fun r x' => x' = x ∧ (r = some (.int 0) ∨ (r = some (.int 1) ∧ ∃ j, j < t ∧ x.2.2 10 (6 * q + j) = nv)))) 0 0 9 [(5, .int (nI k)), (4, .int z), (0, .ref am), (1, .int (nI q)), (2, .long nv)] [] h 0 0 := by
    intro n
    induction n with
    | zero => intro k z hk0 hk1 hi hn; exact absurd hn (Nat.not_lt_zero _)
    | succ n ih =>
      intro k z hk0 hk1 hi hn
      refine g_iload cx 0 d_8_15_9 rfl ?_
      refine g_bipush cx (v := 6) d_8_15_11 (by decide) ?_
      refine g_iload_n cx 3 d_8_15_13 rfl rfl ?_
      refine g_imul cx d_8_15_14 ?_
      refine g_aload_n cx 2 d_8_15_15 rfl rfl ?_
      refine m_get cx (k := 8) d_8_15_16 t_906 ⟨by decide, rfl⟩ hm rfl ?_
      refine g_iload_n cx 3 d_8_15_19 rfl rfl ?_
      refine m_ld1 cx d_8_15_20 (by decide) hm rfl ⟨(show q < 6 from hq), by decide⟩ ?_
      refine g_iadd cx d_8_15_21 ?_
      refine g_icmp_ge cx d_8_15_22 rfl (fun c22 => ?_) (fun c22 => ?_)
      · skip
        rcases hi with rfl | ⟨rfl, hx⟩
        · exact g_iload cx 1 d_8_15_55 rfl (m_iret cx d_8_15_57 rfl rfl hm hs ⟨rfl, Or.inl rfl⟩)
        · exact g_iload cx 1 d_8_15_55 rfl (m_iret cx d_8_15_57 rfl rfl hm hs ⟨rfl, Or.inr ⟨rfl, hx⟩⟩)
      · skip
        have hk : k < 6 * q + t := Nat.lt_of_not_le (fun y => c22 (by rw [hb]; exact nI_le y (by omega)))
        refine g_iload cx 1 d_8_15_25 rfl ?_
        refine g_if_ne cx d_8_15_27 rfl (fun c27 => ?_) (fun c27 => ?_)
        · skip
          refine g_iconst cx (v := 1) d_8_15_42 (by decide) ?_
          refine g_goto cx d_8_15_43 rfl ?_
          refine g_topi (fun z1 ez1 => ?_)
          have hz1 : z1 = 0 ∨ (z1 = 1 ∧ ∃ j, j < t ∧ x.2.2 10 (6 * q + j) = nv) := by
            first
              | exact Or.inl ez1
              | exact Or.inr ⟨ez1, (hi.resolve_left c27).2⟩
              | exact Or.inr ⟨ez1, k - 6 * q, by omega, by rw [show 6 * q + (k - 6 * q) = k by omega]; exact lg_eq c39⟩
          refine g_istore cx (lv' := [(4, .int z1), (5, .int (nI k)), (0, .ref am), (1, .int (nI q)), (2, .long nv)]) d_8_15_47 (by decide) rfl ?_
          refine g_iinc cx 1 (lv' := [(5, .int (nI (k + 1))), (4, .int z1), (0, .ref am), (1, .int (nI q)), (2, .long nv)]) d_8_15_49 rfl (inc1 k) (by decide) rfl ?_
          refine g_goto cx d_8_15_52 rfl ?_
          exact ih (k + 1) z1 (by omega) (by omega) hz1 (by omega)
        · skip
          refine g_aload_n cx 2 d_8_15_30 rfl rfl ?_
          refine m_get cx (k := 10) d_8_15_31 t_908 ⟨by decide, rfl⟩ hm rfl ?_
          refine g_iload cx 0 d_8_15_34 rfl ?_
          refine m_ld3 cx d_8_15_36 (by decide) hm rfl ⟨(show k < 36 by omega), by decide⟩ ?_
          refine g_lload_n cx 4 d_8_15_37 rfl rfl ?_
          refine g_lcmp cx d_8_15_38 ?_
          refine g_if_ne cx d_8_15_39 rfl (fun c39 => ?_) (fun c39 => ?_)
          · skip
            refine g_iconst cx (v := 0) d_8_15_46 (by decide) ?_
            refine g_topi (fun z1 ez1 => ?_)
            have hz1 : z1 = 0 ∨ (z1 = 1 ∧ ∃ j, j < t ∧ x.2.2 10 (6 * q + j) = nv) := by
              first
                | exact Or.inl ez1
                | exact Or.inr ⟨ez1, (hi.resolve_left c27).2⟩
                | exact Or.inr ⟨ez1, k - 6 * q, by omega, by rw [show 6 * q + (k - 6 * q) = k by omega]; exact lg_eq c39⟩
            refine g_istore cx (lv' := [(4, .int z1), (5, .int (nI k)), (0, .ref am), (1, .int (nI q)), (2, .long nv)]) d_8_15_47 (by decide) rfl ?_
            refine g_iinc cx 1 (lv' := [(5, .int (nI (k + 1))), (4, .int z1), (0, .ref am), (1, .int (nI q)), (2, .long nv)]) d_8_15_49 rfl (inc1 k) (by decide) rfl ?_
            refine g_goto cx d_8_15_52 rfl ?_
            exact ih (k + 1) z1 (by omega) (by omega) hz1 (by omega)
          · skip
            refine g_iconst cx (v := 1) d_8_15_42 (by decide) ?_
            refine g_goto cx d_8_15_43 rfl ?_
            refine g_topi (fun z1 ez1 => ?_)
            have hz1 : z1 = 0 ∨ (z1 = 1 ∧ ∃ j, j < t ∧ x.2.2 10 (6 * q + j) = nv) := by
              first
                | exact Or.inl ez1
                | exact Or.inr ⟨ez1, (hi.resolve_left c27).2⟩
                | exact Or.inr ⟨ez1, k - 6 * q, by omega, by rw [show 6 * q + (k - 6 * q) = k by omega]; exact lg_eq c39⟩
            refine g_istore cx (lv' := [(4, .int z1), (5, .int (nI k)), (0, .ref am), (1, .int (nI q)), (2, .long nv)]) d_8_15_47 (by decide) rfl ?_
            refine g_iinc cx 1 (lv' := [(5, .int (nI (k + 1))), (4, .int z1), (0, .ref am), (1, .int (nI q)), (2, .long nv)]) d_8_15_49 rfl (inc1 k) (by decide) rfl ?_
            refine g_goto cx d_8_15_52 rfl ?_
            exact ih (k + 1) z1 (by omega) (by omega) hz1 (by omega)
  refine g_iconst cx (v := 0) d_8_15_0 (by decide) ?_
  refine g_topi (fun z0' ez0' => ?_)
  refine g_istore cx (lv' := [(4, .int z0'), (0, .ref am), (1, .int (nI q)), (2, .long nv)]) d_8_15_1 (by decide) rfl ?_
  refine g_bipush cx (v := 6) d_8_15_3 (by decide) ?_
  refine g_iload_n cx 2 d_8_15_5 rfl rfl ?_
  refine g_imul cx d_8_15_6 ?_
  refine g_topi (fun k0 ek0 => ?_)
  obtain rfl : k0 = nI (6 * q) := by rw [ek0]; exact pk_mul 6 q
  refine g_istore cx (lv' := [(5, .int (nI (6 * q))), (4, .int z0'), (0, .ref am), (1, .int (nI q)), (2, .long nv)]) d_8_15_7 (by decide) rfl ?_
  exact lp (t + 1) (6 * q) z0' (by omega) (by omega) (Or.inl ez0') (by omega)
set_option maxHeartbeats 4000000 in
theorem mc_keptOf (hSt : Stb z0 E) (hA : Ad am ad) (x : MS) (q t : Nat) (nv : Int64) (hq : q < 8) (ht : x.2.1 18 q = nI t) (htl : t ≤ 36) : MC l y_177 prog_8_method_31_code 5 (Option.some Jvm.ClassFile.FieldType.int) 0 D z0 E am ad [.int (nI q), .long nv] x (fun r x' => x' = x ∧ ((∃ j, j < t ∧ x.2.2 21 (36 * q + j) = nv ∧ r = some (.int (x.2.1 19 (36 * q + j)))) ∨ (r = some (.int (-1)) ∧ ∀ j, j < t → x.2.2 21 (36 * q + j) ≠ nv))) := by
  refine mc_of hSt rfl (Nat.le_of_ble_eq_true rfl) ?_
  intro h0 h p e s m args below meth c cx hm hs
  have hb : 36 * nI q + x.2.1 18 q = nI (36 * q + t) := by rw [ht, show (36 : Int32) = nI 36 from rfl, pk_mul, nI_add]
  have lp : ∀ (n : Nat) (k : Nat), 36 * q ≤ k → k ≤ 36 * q + t → (∀ j, 36 * q ≤ j → j < k → x.2.2 21 j ≠ nv) → 36 * q + t - k < n → G p l e (rmL 0) s m args below meth c 5 D z0 E (MQp D am ad h0 (fun r x' => x' = x ∧ ((∃ j, j < t ∧ x.2.2 21 (36 * q + j) = nv ∧ r = some (.int (x.2.1 19 (36 * q + j)))) ∨ (r = some (.int (-1)) ∧ ∀ j, j < t → x.2.2 21 (36 * q + j) ≠ nv)))) 0 0 6 [(4, .int (nI k)), (0, .ref am), (1, .int (nI q)), (2, .long nv)] [] h 0 0 := by
    intro n
    induction n with
    | zero => intro k hk0 hk1 hno hn; exact absurd hn (Nat.not_lt_zero _)
    | succ n ih =>
      intro k hk0 hk1 hno hn
      refine g_iload cx 0 d_8_31_6 rfl ?_
      refine g_bipush cx (v := 36) d_8_31_8 (by decide) ?_
      refine g_iload_n cx 2 d_8_31_10 rfl rfl ?_
      refine g_imul cx d_8_31_11 ?_
      refine g_aload_n cx 1 d_8_31_12 rfl rfl ?_
      refine m_get cx (k := 18) d_8_31_13 t_916 ⟨by decide, rfl⟩ hm rfl ?_
      refine g_iload_n cx 2 d_8_31_16 rfl rfl ?_
      refine m_ld1 cx d_8_31_17 (by decide) hm rfl ⟨(show q < 8 from hq), by decide⟩ ?_
      refine g_iadd cx d_8_31_18 ?_
      refine g_icmp_ge cx d_8_31_19 rfl (fun c19 => ?_) (fun c19 => ?_)
      · skip
        have hk : 36 * q + t ≤ k := Nat.le_of_not_lt (fun y => absurd c19 (by rw [hb]; exact nI_ge y (by omega)))
        refine g_iconst cx (v := (-1)) d_8_31_48 (by decide) ?_
        exact m_iret cx d_8_31_49 rfl rfl hm hs ⟨rfl, Or.inr ⟨rfl, fun j hj => hno (36 * q + j) (by omega) (by omega)⟩⟩
      · skip
        have hk : k < 36 * q + t := Nat.lt_of_not_le (fun y => c19 (by rw [hb]; exact nI_le y (by omega)))
        refine g_aload_n cx 1 d_8_31_22 rfl rfl ?_
        refine m_get cx (k := 21) d_8_31_23 t_919 ⟨by decide, rfl⟩ hm rfl ?_
        refine g_iload cx 0 d_8_31_26 rfl ?_
        refine m_ld3 cx d_8_31_28 (by decide) hm rfl ⟨(show k < 288 by omega), by decide⟩ ?_
        refine g_lload_n cx 3 d_8_31_29 rfl rfl ?_
        refine g_lcmp cx d_8_31_30 ?_
        refine g_if_ne cx d_8_31_31 rfl (fun c31 => ?_) (fun c31 => ?_)
        · skip
          refine g_iinc cx 0 (lv' := [(4, .int (nI (k + 1))), (0, .ref am), (1, .int (nI q)), (2, .long nv)]) d_8_31_42 rfl (inc1 k) (by decide) rfl ?_
          refine g_goto cx d_8_31_45 rfl ?_
          exact ih (k + 1) (by omega) (by omega) (fun j h1 h2 => (Nat.lt_or_ge j k).elim (fun y => hno j h1 y) (fun y => by rw [show j = k by omega]; exact fun w => c31 (by rw [w]; exact lg_self nv))) (by omega)
        · skip
          refine g_aload_n cx 1 d_8_31_34 rfl rfl ?_
          refine m_get cx (k := 19) d_8_31_35 t_917 ⟨by decide, rfl⟩ hm rfl ?_
          refine g_iload cx 0 d_8_31_38 rfl ?_
          refine m_ld1 cx d_8_31_40 (by decide) hm rfl ⟨(show k < 288 by omega), by decide⟩ ?_
          exact m_iret cx d_8_31_41 rfl rfl hm hs ⟨rfl, Or.inl ⟨k - 36 * q, by omega, by rw [show 36 * q + (k - 36 * q) = k by omega]; exact lg_eq c31, by rw [show 36 * q + (k - 36 * q) = k by omega]⟩⟩
  refine g_bipush cx (v := 36) d_8_31_0 (by decide) ?_
  refine g_iload_n cx 1 d_8_31_2 rfl rfl ?_
  refine g_imul cx d_8_31_3 ?_
  refine g_topi (fun k0 ek0 => ?_)
  obtain rfl : k0 = nI (36 * q) := by rw [ek0]; exact pk_mul 36 q
  refine g_istore cx (lv' := [(4, .int (nI (36 * q))), (0, .ref am), (1, .int (nI q)), (2, .long nv)]) d_8_31_4 (by decide) rfl ?_
  exact lp (t + 1) (36 * q) (by omega) (by omega) (fun j h1 h2 => absurd h1 (by omega)) (by omega)
set_option maxHeartbeats 4000000 in
theorem mc_isOpen (hSt : Stb z0 E) (hA : Ad am ad) (x : MS) (v : Int32) (t : Nat) (ht : x.1 24 = nI t) (htl : t ≤ 8) : MC l y_189 prog_8_method_32_code 4 (Option.some Jvm.ClassFile.FieldType.boolean) 0 D z0 E am ad [.int v] x (fun r x' => x' = x ∧ (r = some (.int 1) ∨ (r = some (.int 0) ∧ ∀ j, j < t → x.2.1 26 j ≠ v))) := by
  refine mc_of hSt rfl (Nat.le_of_ble_eq_true rfl) ?_
  intro h0 h p e s m args below meth c cx hm hs
  have lp : ∀ (n : Nat) (k : Nat) (z : Int32), k ≤ t → (z = 1 ∨ (z = 0 ∧ ∀ j, j < k → x.2.1 26 j ≠ v)) → t - k < n → G p l e (rmL 0) s m args below meth c 4 D z0 E (MQp D am ad h0 (fun r x' => x' = x ∧ (r = some (.int 1) ∨ (r = some (.int 0) ∧ ∀ j, j < t → x.2.1 26 j ≠ v)))) 0 0 4 [(3, .int (nI k)), (2, .int z), (0, .ref am), (1, .int v)] [] h 0 0 := by
    intro n
    induction n with
    | zero => intro k z hk0 hi hn; exact absurd hn (Nat.not_lt_zero _)
    | succ n ih =>
      intro k z hk0 hi hn
      refine g_iload_n cx 0 d_8_32_4 rfl rfl ?_
      refine g_aload_n cx 2 d_8_32_5 rfl rfl ?_
      refine m_get cx (k := 24) d_8_32_6 t_922 ⟨by decide, rfl⟩ hm rfl ?_
      refine g_icmp_ge cx d_8_32_9 rfl (fun c9 => ?_) (fun c9 => ?_)
      · skip
        have hk : t ≤ k := Nat.le_of_not_lt (fun y => absurd c9 (by show ¬ x.1 24 ≤ nI k; rw [ht]; exact nI_ge y (by omega)))
        rcases hi with rfl | ⟨rfl, hx⟩
        · exact g_iload_n cx 1 d_8_32_38 rfl rfl (m_iret cx d_8_32_39 rfl rfl hm hs ⟨rfl, Or.inl rfl⟩)
        · exact g_iload_n cx 1 d_8_32_38 rfl rfl (m_iret cx d_8_32_39 rfl rfl hm hs ⟨rfl, Or.inr ⟨rfl, fun j hj => hx j (by omega)⟩⟩)
      · skip
        have hk : k < t := Nat.lt_of_not_le (fun y => c9 (by show x.1 24 ≤ nI k; rw [ht]; exact nI_le y (by omega)))
        refine g_iload_n cx 1 d_8_32_12 rfl rfl ?_
        refine g_if_ne cx d_8_32_13 rfl (fun c13 => ?_) (fun c13 => ?_)
        · skip
          refine g_iconst cx (v := 1) d_8_32_26 (by decide) ?_
          refine g_goto cx d_8_32_27 rfl ?_
          refine g_topi (fun z1 ez1 => ?_)
          have hz1 : z1 = 1 ∨ (z1 = 0 ∧ ∀ j, j < k + 1 → x.2.1 26 j ≠ v) := by
            first
              | exact Or.inl ez1
              | exact Or.inr ⟨ez1, fun j hj => (Nat.lt_or_ge j k).elim (fun y => (hi.resolve_left (fun w => absurd (w.symm.trans c13) (by decide))).2 j y) (fun y => by rw [show j = k by omega]; exact c23)⟩
          refine g_istore_n cx (lv' := [(2, .int z1), (3, .int (nI k)), (0, .ref am), (1, .int v)]) d_8_32_31 rfl (by decide) rfl ?_
          refine g_iinc cx 1 (lv' := [(3, .int (nI (k + 1))), (2, .int z1), (0, .ref am), (1, .int v)]) d_8_32_32 rfl (inc1 k) (by decide) rfl ?_
          refine g_goto cx d_8_32_35 rfl ?_
          exact ih (k + 1) z1 (by omega) hz1 (by omega)
        · skip
          refine g_aload_n cx 2 d_8_32_16 rfl rfl ?_
          refine m_get cx (k := 26) d_8_32_17 t_924 ⟨by decide, rfl⟩ hm rfl ?_
          refine g_iload_n cx 0 d_8_32_20 rfl rfl ?_
          refine m_ld1 cx d_8_32_21 (by decide) hm rfl ⟨(show k < 8 by omega), by decide⟩ ?_
          refine g_iload_n cx 3 d_8_32_22 rfl rfl ?_
          refine g_icmp_ne cx d_8_32_23 rfl (fun c23 => ?_) (fun c23 => ?_)
          · skip
            refine g_iconst cx (v := 0) d_8_32_30 (by decide) ?_
            refine g_topi (fun z1 ez1 => ?_)
            have hz1 : z1 = 1 ∨ (z1 = 0 ∧ ∀ j, j < k + 1 → x.2.1 26 j ≠ v) := by
              first
                | exact Or.inl ez1
                | exact Or.inr ⟨ez1, fun j hj => (Nat.lt_or_ge j k).elim (fun y => (hi.resolve_left (fun w => absurd (w.symm.trans c13) (by decide))).2 j y) (fun y => by rw [show j = k by omega]; exact c23)⟩
            refine g_istore_n cx (lv' := [(2, .int z1), (3, .int (nI k)), (0, .ref am), (1, .int v)]) d_8_32_31 rfl (by decide) rfl ?_
            refine g_iinc cx 1 (lv' := [(3, .int (nI (k + 1))), (2, .int z1), (0, .ref am), (1, .int v)]) d_8_32_32 rfl (inc1 k) (by decide) rfl ?_
            refine g_goto cx d_8_32_35 rfl ?_
            exact ih (k + 1) z1 (by omega) hz1 (by omega)
          · skip
            refine g_iconst cx (v := 1) d_8_32_26 (by decide) ?_
            refine g_goto cx d_8_32_27 rfl ?_
            refine g_topi (fun z1 ez1 => ?_)
            have hz1 : z1 = 1 ∨ (z1 = 0 ∧ ∀ j, j < k + 1 → x.2.1 26 j ≠ v) := by
              first
                | exact Or.inl ez1
                | exact Or.inr ⟨ez1, fun j hj => (Nat.lt_or_ge j k).elim (fun y => (hi.resolve_left (fun w => absurd (w.symm.trans c13) (by decide))).2 j y) (fun y => by rw [show j = k by omega]; exact c23)⟩
            refine g_istore_n cx (lv' := [(2, .int z1), (3, .int (nI k)), (0, .ref am), (1, .int v)]) d_8_32_31 rfl (by decide) rfl ?_
            refine g_iinc cx 1 (lv' := [(3, .int (nI (k + 1))), (2, .int z1), (0, .ref am), (1, .int v)]) d_8_32_32 rfl (inc1 k) (by decide) rfl ?_
            refine g_goto cx d_8_32_35 rfl ?_
            exact ih (k + 1) z1 (by omega) hz1 (by omega)
  refine g_iconst cx (v := 0) d_8_32_0 (by decide) ?_
  refine g_topi (fun z0' ez0' => ?_)
  refine g_istore_n cx (lv' := [(2, .int z0'), (0, .ref am), (1, .int v)]) d_8_32_1 rfl (by decide) rfl ?_
  refine g_iconst cx (v := 0) d_8_32_2 (by decide) ?_
  refine g_topi (fun k0 ek0 => ?_)
  obtain rfl : k0 = nI 0 := ek0
  refine g_istore_n cx (lv' := [(3, .int (nI 0)), (2, .int z0'), (0, .ref am), (1, .int v)]) d_8_32_3 rfl (by decide) rfl ?_
  exact lp (t + 1) 0 z0' (by omega) (Or.inr ⟨ez0', fun j hj => absurd hj (Nat.not_lt_zero _)⟩) (by omega)
set_option maxHeartbeats 4000000 in
theorem mc_own (hSt : Stb z0 E) (hA : Ad am ad) (x : MS) (q t : Nat) (nv : Int64) (nm : Nat → Nat) (hq : q < 8) (ht : x.2.1 13 q = nI t) (htl : t ≤ 4) (hld : ∀ k, k < 32 → ∃ g, g < 6 ∧ x.2.1 14 k = nI g) (hnm : ∀ i, i < 6 → x.2.1 8 i = nI (nm i) ∧ nm i ≤ 6) : MC l y_185 prog_8_method_26_code 5 (Option.some Jvm.ClassFile.FieldType.int) 1 D z0 E am ad [.int (nI q), .long nv] x (fun r x' => x' = x ∧ ((∃ g, g < 6 ∧ r = some (.int (nI g)) ∧ ∃ j, j < nm g ∧ x.2.2 10 (6 * g + j) = nv) ∨ r = some (.int (-1)))) := by
  refine mc_of hSt rfl (Nat.le_of_ble_eq_true rfl) ?_
  intro h0 h p e s m args below meth c cx hm hs
  have hb : 4 * nI q + x.2.1 13 q = nI (4 * q + t) := by rw [ht, show (4 : Int32) = nI 4 from rfl, pk_mul, nI_add]
  have lp : ∀ (n : Nat) (k : Nat) (h : hp) (hm : Mo D am ad x h) (hs : Sm am ad h0 h), 4 * q ≤ k → k ≤ 4 * q + t → 4 * q + t - k < n → G p l e (rmL 1) s m args below meth c 5 D z0 E (MQp D am ad h0 (fun r x' => x' = x ∧ ((∃ g, g < 6 ∧ r = some (.int (nI g)) ∧ ∃ j, j < nm g ∧ x.2.2 10 (6 * g + j) = nv) ∨ r = some (.int (-1))))) 0 0 5 [(4, .int (nI k)), (0, .ref am), (1, .int (nI q)), (2, .long nv)] [] h 0 0 := by
    intro n
    induction n with
    | zero => intro k h hm hs hk0 hk1 hn; exact absurd hn (Nat.not_lt_zero _)
    | succ n ih =>
      intro k h hm hs hk0 hk1 hn
      refine g_iload cx 0 d_8_26_5 rfl ?_
      refine g_iconst cx (v := 4) d_8_26_7 (by decide) ?_
      refine g_iload_n cx 2 d_8_26_8 rfl rfl ?_
      refine g_imul cx d_8_26_9 ?_
      refine g_aload_n cx 1 d_8_26_10 rfl rfl ?_
      refine m_get cx (k := 13) d_8_26_11 t_911 ⟨by decide, rfl⟩ hm rfl ?_
      refine g_iload_n cx 2 d_8_26_14 rfl rfl ?_
      refine m_ld1 cx d_8_26_15 (by decide) hm rfl ⟨(show q < 8 from hq), by decide⟩ ?_
      refine g_iadd cx d_8_26_16 ?_
      refine g_icmp_ge cx d_8_26_17 rfl (fun c17 => ?_) (fun c17 => ?_)
      · skip
        refine g_iconst cx (v := (-1)) d_8_26_49 (by decide) ?_
        exact m_iret cx d_8_26_50 rfl rfl hm hs ⟨rfl, Or.inr rfl⟩
      · skip
        have hk : k < 4 * q + t := Nat.lt_of_not_le (fun y => c17 (by rw [hb]; exact nI_le y (by omega)))
        obtain ⟨g, hg, hgx⟩ := hld k (by omega)
        refine g_aload_n cx 1 d_8_26_20 rfl rfl ?_
        refine g_aload_n cx 1 d_8_26_21 rfl rfl ?_
        refine m_get cx (k := 14) d_8_26_22 t_912 ⟨by decide, rfl⟩ hm rfl ?_
        refine g_iload cx 0 d_8_26_25 rfl ?_
        refine m_ld1 cx d_8_26_27 (by decide) hm rfl ⟨(show k < 32 by omega), by decide⟩ ?_
        refine g_topi (fun g0 eg0 => ?_)
        obtain rfl : g0 = nI g := eg0.trans hgx
        refine g_lload_n cx 3 d_8_26_28 rfl rfl ?_
        refine m_call 1 cx (As := [.int (nI g), .long nv]) (n := 2) (mc_isIn hSt hA x g (nm g) nv hg (hnm g hg).1 (hnm g hg).2) d_8_26_29 t_1034 t_1036 ts_35 t_1037 rfl ⟨rfl, by decide +kernel⟩ rfl ⟨by decide, by decide⟩ (Nat.le_of_ble_eq_true rfl) hm hs (fun v29 x29 h hm hs r29 => ?_)
        obtain ⟨e29, r29⟩ := r29
        rw [e29] at hm
        rcases r29 with rfl | ⟨rfl, j, hj, hjx⟩
        · skip
          refine g_if_eq cx d_8_26_32 rfl (fun c32 => ?_) (fun c32 => absurd rfl c32)
          refine g_iinc cx 0 (lv' := [(4, .int (nI (k + 1))), (0, .ref am), (1, .int (nI q)), (2, .long nv)]) d_8_26_43 rfl (inc1 k) (by decide) rfl ?_
          refine g_goto cx d_8_26_46 rfl ?_
          exact ih (k + 1) h hm hs (by omega) (by omega) (by omega)
        · skip
          refine g_if_eq cx d_8_26_32 rfl (fun c32 => absurd c32 (by decide)) (fun c32 => ?_)
          refine g_aload_n cx 1 d_8_26_35 rfl rfl ?_
          refine m_get cx (k := 14) d_8_26_36 t_912 ⟨by decide, rfl⟩ hm rfl ?_
          refine g_iload cx 0 d_8_26_39 rfl ?_
          refine m_ld1 cx d_8_26_41 (by decide) hm rfl ⟨(show k < 32 by omega), by decide⟩ ?_
          exact m_iret cx d_8_26_42 rfl rfl hm hs ⟨rfl, Or.inl ⟨g, hg, by rw [hgx], j, hj, hjx⟩⟩
  refine g_iconst cx (v := 4) d_8_26_0 (by decide) ?_
  refine g_iload_n cx 1 d_8_26_1 rfl rfl ?_
  refine g_imul cx d_8_26_2 ?_
  refine g_topi (fun k0 ek0 => ?_)
  obtain rfl : k0 = nI (4 * q) := by rw [ek0]; exact pk_mul 4 q
  refine g_istore cx (lv' := [(4, .int (nI (4 * q))), (0, .ref am), (1, .int (nI q)), (2, .long nv)]) d_8_26_3 (by decide) rfl ?_
  exact lp (t + 1) (4 * q) h hm hs (by omega) (by omega) (by omega)
set_option maxHeartbeats 4000000 in
theorem mc_push (hSt : Stb z0 E) (hA : Ad am ad) (x : MS) (v : Int32) (t k : Nat) (ht : x.1 24 = nI t) (htl : t < 8) (hk : x.1 25 = nI k) (hkl : k < 2 ^ 30) : MC l y_179 prog_8_method_33_code 2 (Option.none) 1 D z0 E am ad [.int v] x (fun r x' => r = none ∧ x' = seti (if k < 20 then seta (seti (seta (seta x 26 t v) 27 t 0) 24 (nI (t + 1))) 28 k v else seti (seta (seta x 26 t v) 27 t 0) 24 (nI (t + 1))) 25 (nI (k + 1))) := by
  refine mc_of hSt rfl (Nat.le_of_ble_eq_true rfl) ?_
  intro h0 h p e s m args below meth c cx hm hs
  refine g_aload_n cx 0 d_8_33_0 rfl rfl ?_
  refine m_get cx (k := 26) d_8_33_1 t_924 ⟨by decide, rfl⟩ hm rfl ?_
  refine g_aload_n cx 0 d_8_33_4 rfl rfl ?_
  refine m_get cx (k := 24) d_8_33_5 t_922 ⟨by decide, rfl⟩ hm rfl ?_
  refine g_iload_n cx 1 d_8_33_8 rfl rfl ?_
  refine m_st1 cx hA d_8_33_9 (by decide) hm hs ht ⟨(show t < 8 from htl), by decide⟩ (fun h hm hs => ?_)
  refine g_aload_n cx 0 d_8_33_10 rfl rfl ?_
  refine m_get cx (k := 27) d_8_33_11 t_925 ⟨by decide, rfl⟩ hm rfl ?_
  refine g_aload_n cx 0 d_8_33_14 rfl rfl ?_
  refine m_get cx (k := 24) d_8_33_15 t_922 ⟨by decide, rfl⟩ hm rfl ?_
  refine g_iconst cx (v := 0) d_8_33_18 (by decide) ?_
  refine m_st1 cx hA d_8_33_19 (by decide) hm hs ht ⟨(show t < 8 from htl), by decide⟩ (fun h hm hs => ?_)
  refine g_aload_n cx 0 d_8_33_20 rfl rfl ?_
  refine g_dup cx d_8_33_21 rfl ?_
  refine m_get cx (k := 24) d_8_33_22 t_922 ⟨by decide, rfl⟩ hm rfl ?_
  refine g_iconst cx (v := 1) d_8_33_25 (by decide) ?_
  refine g_iadd cx d_8_33_26 ?_
  refine g_topi (fun t1 et1 => ?_)
  obtain rfl : t1 = nI (t + 1) := et1.trans (by show x.1 24 + 1 = _; rw [ht, nI_1])
  refine m_put cx (k := 24) hA d_8_33_27 t_922 ⟨by decide, rfl, rfl, rfl, by decide +kernel⟩ hm hs (fun h hm hs => ?_)
  refine g_aload_n cx 0 d_8_33_30 rfl rfl ?_
  refine g_iload_n cx 1 d_8_33_31 rfl rfl ?_
  refine m_call 1 cx (As := [.int v]) (n := 1) (mc_note hSt hA (seti (seta (seta x 26 t v) 27 t 0) 24 (nI (t + 1))) v k hk hkl) d_8_33_32 t_1086 t_1088 ts_47 t_1089 rfl ⟨rfl, by decide +kernel⟩ rfl ⟨by decide, by decide⟩ (Nat.le_of_ble_eq_true rfl) hm hs (fun v32 x32 h hm hs r32 => ?_)
  obtain ⟨rfl, rfl⟩ := r32
  exact m_vret cx d_8_33_35 rfl hm hs ⟨rfl, rfl⟩
end M3
end
section
/-! The reference's texts: the line split into parts, a part read as a name. -/
/-- x' is x but for the whole numbers si, the arrays sa, the long arrays sl -/
def Fx (si sa sl : List Nat) (x x' : MS) : Prop := (∀ k, k ∉ si → x'.1 k = x.1 k) ∧ (∀ k, k ∉ sa → x'.2.1 k = x.2.1 k) ∧ ∀ k, k ∉ sl → x'.2.2 k = x.2.2 k
theorem Fx.rf {si sa sl : List Nat} {x : MS} : Fx si sa sl x x := ⟨fun _ _ => rfl, fun _ _ => rfl, fun _ _ => rfl⟩
theorem Fx.tr {si sa sl : List Nat} {x y z : MS} (a : Fx si sa sl x y) (b : Fx si sa sl y z) : Fx si sa sl x z := ⟨fun k h => (b.1 k h).trans (a.1 k h), fun k h => (b.2.1 k h).trans (a.2.1 k h), fun k h => (b.2.2 k h).trans (a.2.2 k h)⟩
theorem Fx.le {si sa sl ti ta tl : List Nat} {x y : MS} (a : Fx si sa sl x y) (h1 : ∀ k ∈ si, k ∈ ti) (h2 : ∀ k ∈ sa, k ∈ ta) (h3 : ∀ k ∈ sl, k ∈ tl) : Fx ti ta tl x y := ⟨fun k h => a.1 k (fun q => h (h1 k q)), fun k h => a.2.1 k (fun q => h (h2 k q)), fun k h => a.2.2 k (fun q => h (h3 k q))⟩
theorem Fx.i {si sa sl : List Nat} {x y : MS} {k : Nat} {v : Int32} (a : Fx si sa sl x y) (hk : k ∈ si) : Fx si sa sl x (seti y k v) := ⟨fun j h => (va_up_ne (k := k) (j := j) _ _ (fun e => h (by rw [e]; exact hk))).trans (a.1 j h), a.2⟩
theorem Fx.a {si sa sl : List Nat} {x y : MS} {k n : Nat} {v : Int32} (a : Fx si sa sl x y) (hk : k ∈ sa) : Fx si sa sl x (seta y k n v) := ⟨a.1, fun j h => (va_up_ne (k := k) (j := j) _ _ (fun e => h (by rw [e]; exact hk))).trans (a.2.1 j h), a.2.2⟩
theorem Fx.l {si sa sl : List Nat} {x y : MS} {k n : Nat} {v : Int64} (a : Fx si sa sl x y) (hk : k ∈ sl) : Fx si sa sl x (setl y k n v) := ⟨a.1, a.2.1, fun j h => (va_up_ne (k := k) (j := j) _ _ (fun e => h (by rw [e]; exact hk))).trans (a.2.2 j h)⟩
theorem PT.begin {y : MS} {pn : Nat} {bg en : Nat → Nat} {v : Int32} (h : PT y pn bg en) : PT (seta y 4 pn v) pn bg en := by
  refine ⟨h.1, h.2.1, fun i hi => ⟨?_, (h.2.2 i hi).2⟩⟩
  show upd (y.2.1 4) pn v i = _
  rw [pk_un (by omega)]
  exact (h.2.2 i hi).1
theorem PT.add {y : MS} {pn k0 k2 : Nat} {bg en : Nat → Nat} (h : PT y pn bg en) (hb : y.2.1 4 pn = nI k0) (h1 : k0 < k2) (h2 : k2 ≤ 30) (h3 : pn < 15) : PT (seti (seta y 5 pn (nI k2)) 3 (nI (pn + 1))) (pn + 1) (fun j => if j = pn then k0 else bg j) (fun j => if j = pn then k2 else en j) := by
  refine ⟨rfl, by omega, fun i hi => ?_⟩
  by_cases hip : i = pn
  · subst hip
    simp only [if_pos]
    exact ⟨hb, pk_us, h1, h2⟩
  · simp only [if_neg hip]
    obtain ⟨q1, q2, q3, q4⟩ := h.2.2 i (by omega)
    exact ⟨q1, (pk_un hip).trans q2, q3, q4⟩
section M4
variable {l : Launch} {D : va_G} {z0 : Nat} {E : State → Prop} {am : Nat} {ad : Nat → Nat}
set_option maxHeartbeats 4000000 in
theorem mc_nameOf (hSt : Stb z0 E) (hA : Ad am ad) (x : MS) (i pn : Nat) (bg en : Nat → Nat) (hp : PT x pn bg en) (hi : i < 15) : MC l y_164 prog_8_method_6_code 10 (Option.some Jvm.ClassFile.FieldType.long) 0 D z0 E am ad [.int (nI i)] x (fun r x' => x' = x ∧ ∃ v, r = some (.long v)) := by
  refine mc_of hSt rfl (Nat.le_of_ble_eq_true rfl) ?_
  intro h0 h p e s m args below meth c cx hm hs
  refine g_iload_n cx 1 d_8_6_0 rfl rfl ?_
  refine g_aload_n cx 0 d_8_6_1 rfl rfl ?_
  refine m_get cx (k := 3) d_8_6_2 t_901 ⟨by decide, rfl⟩ hm rfl ?_
  refine g_icmp_lt cx d_8_6_5 rfl (fun c5 => ?_) (fun c5 => ?_)
  · skip
    have hip : i < pn := by
      have h9 : nI i < nI pn := by rw [← hp.1]; exact c5
      exact (nI_ltI (by omega) (by have := hp.2.1; omega)).mp h9
    obtain ⟨p1, p2, p3, p4⟩ := hp.2.2 i hip
    have lp : ∀ (n : Nat) (k : Nat) (wv le wo : Int32) (V : Int64), bg i ≤ k → k ≤ en i → en i - k < n → G p l e (rmL 0) s m args below meth c 10 D z0 E (MQp D am ad h0 (fun r x' => x' = x ∧ ∃ v, r = some (.long v))) 0 0 29 [(7, .int (nI k)), (6, .int wv), (5, .int le), (4, .int wo), (2, .long V), (0, .ref am), (1, .int (nI i))] [] h 0 0 := by
      intro n
      induction n with
      | zero => intro k wv le wo V hk0 hk1 hn; exact absurd hn (Nat.not_lt_zero _)
      | succ n ih =>
        intro k wv le wo V hk0 hk1 hn
        refine g_iload cx 0 d_8_6_29 rfl ?_
        refine g_aload_n cx 5 d_8_6_31 rfl rfl ?_
        refine m_get cx (k := 5) d_8_6_32 t_903 ⟨by decide, rfl⟩ hm rfl ?_
        refine g_iload_n cx 6 d_8_6_35 rfl rfl ?_
        refine m_ld1 cx d_8_6_36 (by decide) hm rfl ⟨(show i < 15 from hi), by decide⟩ ?_
        refine g_icmp_ge cx d_8_6_37 rfl (fun c37 => ?_) (fun c37 => ?_)
        · skip
          refine g_iload cx 2 d_8_6_169 rfl ?_
          refine g_if_ne cx d_8_6_171 rfl (fun c171 => ?_) (fun c171 => ?_)
          · skip
            refine g_lload_n cx 4 d_8_6_176 rfl rfl ?_
            refine g_bipush cx (v := 20) d_8_6_177 (by decide) ?_
            refine g_lshl cx d_8_6_179 ?_
            refine g_iload cx 1 d_8_6_180 rfl ?_
            refine g_i2l cx d_8_6_182 ?_
            refine g_lor cx d_8_6_183 ?_
            refine g_topl (fun V2 eV2 => ?_)
            refine g_lstore_n cx (lv' := [(2, .long V2), (7, .int (nI k)), (6, .int wv), (5, .int le), (4, .int wo), (0, .ref am), (1, .int (nI i))]) d_8_6_184 rfl (by decide) rfl ?_
            refine g_lload_n cx 0 d_8_6_185 rfl rfl ?_
            refine g_bipush cx (v := 20) d_8_6_186 (by decide) ?_
            refine g_iconst cx (v := 3) d_8_6_188 (by decide) ?_
            refine g_iload cx 4 d_8_6_189 rfl ?_
            refine g_isub cx d_8_6_191 ?_
            refine g_imul cx d_8_6_192 ?_
            refine g_lshl cx d_8_6_193 ?_
            exact m_lret cx d_8_6_194 rfl hm hs ⟨rfl, _, rfl⟩
          · skip
            refine g_lconst cx (v := 0) d_8_6_174 (by decide) ?_
            exact m_lret cx d_8_6_175 rfl hm hs ⟨rfl, _, rfl⟩
        · skip
          have hk : k < en i := Nat.lt_of_not_le (fun q => c37 (by rw [p2]; exact nI_le q (by omega)))
          have c116 : ∀ (dt ch : Int32), G p l e (rmL 0) s m args below meth c 10 D z0 E (MQp D am ad h0 (fun r x' => x' = x ∧ ∃ v, r = some (.long v))) 0 0 116 [(9, .int dt), (8, .int ch), (7, .int (nI k)), (6, .int wv), (5, .int le), (4, .int wo), (2, .long V), (0, .ref am), (1, .int (nI i))] [] h 0 0 := by
            intro dt ch
            refine g_iload cx 0 d_8_6_116 rfl ?_
            refine g_if_eq cx d_8_6_118 rfl (fun c118 => ?_) (fun c118 => ?_)
            · skip
              refine g_iload cx 3 d_8_6_142 rfl ?_
              refine g_iload cx 1 d_8_6_144 rfl ?_
              refine g_bipush cx (v := 96) d_8_6_146 (by decide) ?_
              refine g_isub cx d_8_6_148 ?_
              refine g_bipush cx (v := 15) d_8_6_149 (by decide) ?_
              refine g_iconst cx (v := 5) d_8_6_151 (by decide) ?_
              refine g_iload cx 4 d_8_6_152 rfl ?_
              refine g_imul cx d_8_6_154 ?_
              refine g_isub cx d_8_6_155 ?_
              refine g_ishl cx d_8_6_156 ?_
              refine g_ior cx d_8_6_157 ?_
              refine g_topi (fun w1 ew1 => ?_)
              refine g_istore cx (lv' := [(6, .int w1), (9, .int dt), (8, .int ch), (7, .int (nI k)), (5, .int le), (4, .int wo), (2, .long V), (0, .ref am), (1, .int (nI i))]) d_8_6_158 (by decide) rfl ?_
              refine g_iinc cx 4 (lv' := [(5, .int (le + Int32.ofInt 1)), (6, .int w1), (9, .int dt), (8, .int ch), (7, .int (nI k)), (4, .int wo), (2, .long V), (0, .ref am), (1, .int (nI i))]) d_8_6_160 rfl rfl (by decide) rfl ?_
              refine g_iinc cx 4 (lv' := [(7, .int (nI (k + 1))), (5, .int (le + Int32.ofInt 1)), (6, .int w1), (9, .int dt), (8, .int ch), (4, .int wo), (2, .long V), (0, .ref am), (1, .int (nI i))]) d_8_6_163 rfl (inc1 k) (by decide) rfl ?_
              refine g_goto cx d_8_6_166 rfl ?_
              refine g_loc (lv' := [(7, .int (nI (k + 1))), (6, .int w1), (5, .int (le + Int32.ofInt 1)), (4, .int wo), (2, .long V), (0, .ref am), (1, .int (nI i))]) [0, 2, 1, 5, 6, 7, 8] rfl ?_
              exact ih (k + 1) w1 (le + Int32.ofInt 1) wo V (by omega) (by omega) (by omega)
            · skip
              refine g_lload_n cx 6 d_8_6_121 rfl rfl ?_
              refine g_bipush cx (v := 20) d_8_6_122 (by decide) ?_
              refine g_lshl cx d_8_6_124 ?_
              refine g_iload cx 3 d_8_6_125 rfl ?_
              refine g_i2l cx d_8_6_127 ?_
              refine g_lor cx d_8_6_128 ?_
              refine g_topl (fun V1 eV1 => ?_)
              refine g_lstore_n cx (lv' := [(2, .long V1), (9, .int dt), (8, .int ch), (7, .int (nI k)), (6, .int wv), (5, .int le), (4, .int wo), (0, .ref am), (1, .int (nI i))]) d_8_6_129 rfl (by decide) rfl ?_
              refine g_iconst cx (v := 0) d_8_6_130 (by decide) ?_
              refine g_topi (fun w1 ew1 => ?_)
              refine g_istore cx (lv' := [(6, .int w1), (2, .long V1), (9, .int dt), (8, .int ch), (7, .int (nI k)), (5, .int le), (4, .int wo), (0, .ref am), (1, .int (nI i))]) d_8_6_131 (by decide) rfl ?_
              refine g_iconst cx (v := 0) d_8_6_133 (by decide) ?_
              refine g_topi (fun l1 el1 => ?_)
              refine g_istore cx (lv' := [(5, .int l1), (6, .int w1), (2, .long V1), (9, .int dt), (8, .int ch), (7, .int (nI k)), (4, .int wo), (0, .ref am), (1, .int (nI i))]) d_8_6_134 (by decide) rfl ?_
              refine g_iinc cx 6 (lv' := [(4, .int (wo + Int32.ofInt 1)), (5, .int l1), (6, .int w1), (2, .long V1), (9, .int dt), (8, .int ch), (7, .int (nI k)), (0, .ref am), (1, .int (nI i))]) d_8_6_136 rfl rfl (by decide) rfl ?_
              refine g_goto cx d_8_6_139 rfl ?_
              refine g_iinc cx 6 (lv' := [(7, .int (nI (k + 1))), (4, .int (wo + Int32.ofInt 1)), (5, .int l1), (6, .int w1), (2, .long V1), (9, .int dt), (8, .int ch), (0, .ref am), (1, .int (nI i))]) d_8_6_163 rfl (inc1 k) (by decide) rfl ?_
              refine g_goto cx d_8_6_166 rfl ?_
              refine g_loc (lv' := [(7, .int (nI (k + 1))), (6, .int w1), (5, .int l1), (4, .int (wo + Int32.ofInt 1)), (2, .long V1), (0, .ref am), (1, .int (nI i))]) [0, 3, 2, 1, 4, 7, 8] rfl ?_
              exact ih (k + 1) w1 l1 (wo + Int32.ofInt 1) V1 (by omega) (by omega) (by omega)
          refine g_aload_n cx 5 d_8_6_40 rfl rfl ?_
          refine m_get cx (k := 1) d_8_6_41 t_899 ⟨by decide, rfl⟩ hm rfl ?_
          refine g_iload cx 0 d_8_6_44 rfl ?_
          refine m_ld2 cx d_8_6_46 (by decide) hm rfl ⟨(show k < 30 by omega), by decide⟩ ?_
          refine g_topi (fun ch ech => ?_)
          refine g_istore cx (lv' := [(8, .int ch), (7, .int (nI k)), (6, .int wv), (5, .int le), (4, .int wo), (2, .long V), (0, .ref am), (1, .int (nI i))]) d_8_6_47 (by decide) rfl ?_
          refine g_iload cx 0 d_8_6_49 rfl ?_
          refine g_bipush cx (v := 46) d_8_6_51 (by decide) ?_
          refine g_icmp_ne cx d_8_6_53 rfl (fun c53 => ?_) (fun c53 => ?_)
          · skip
            refine g_iconst cx (v := 0) d_8_6_60 (by decide) ?_
            refine g_topi (fun dt edt => ?_)
            refine g_istore cx (lv' := [(9, .int dt), (8, .int ch), (7, .int (nI k)), (6, .int wv), (5, .int le), (4, .int wo), (2, .long V), (0, .ref am), (1, .int (nI i))]) d_8_6_61 (by decide) rfl ?_
            refine g_iload cx 0 d_8_6_63 rfl ?_
            refine g_if_ne cx d_8_6_65 rfl (fun c65 => ?_) (fun c65 => ?_)
            · skip
              refine g_iload cx 0 d_8_6_82 rfl ?_
              refine g_if_eq cx d_8_6_84 rfl (fun c84 => ?_) (fun c84 => ?_)
              · skip
                refine g_iload cx 0 d_8_6_92 rfl ?_
                refine g_if_ne cx d_8_6_94 rfl (fun c94 => ?_) (fun c94 => ?_)
                · skip
                  refine g_iload cx 0 d_8_6_103 rfl ?_
                  refine g_if_eq cx d_8_6_105 rfl (fun c105 => ?_) (fun c105 => ?_)
                  · skip
                    exact c116 dt ch
                  · skip
                    refine g_iload cx 5 d_8_6_108 rfl ?_
                    refine g_iconst cx (v := 3) d_8_6_110 (by decide) ?_
                    refine g_icmp_ne cx d_8_6_111 rfl (fun c111 => ?_) (fun c111 => ?_)
                    · skip
                      exact c116 dt ch
                    · skip
                      refine g_lconst cx (v := 0) d_8_6_114 (by decide) ?_
                      exact m_lret cx d_8_6_115 rfl hm hs ⟨rfl, _, rfl⟩
                · skip
                  refine g_iload cx 4 d_8_6_97 rfl ?_
                  refine g_iconst cx (v := 4) d_8_6_99 (by decide) ?_
                  refine g_icmp_eq cx d_8_6_100 rfl (fun c100 => ?_) (fun c100 => ?_)
                  · skip
                    refine g_lconst cx (v := 0) d_8_6_114 (by decide) ?_
                    exact m_lret cx d_8_6_115 rfl hm hs ⟨rfl, _, rfl⟩
                  · skip
                    refine g_iload cx 0 d_8_6_103 rfl ?_
                    refine g_if_eq cx d_8_6_105 rfl (fun c105 => ?_) (fun c105 => ?_)
                    · skip
                      exact c116 dt ch
                    · skip
                      refine g_iload cx 5 d_8_6_108 rfl ?_
                      refine g_iconst cx (v := 3) d_8_6_110 (by decide) ?_
                      refine g_icmp_ne cx d_8_6_111 rfl (fun c111 => ?_) (fun c111 => ?_)
                      · skip
                        exact c116 dt ch
                      · skip
                        refine g_lconst cx (v := 0) d_8_6_114 (by decide) ?_
                        exact m_lret cx d_8_6_115 rfl hm hs ⟨rfl, _, rfl⟩
              · skip
                refine g_iload cx 4 d_8_6_87 rfl ?_
                refine g_if_eq cx d_8_6_89 rfl (fun c89 => ?_) (fun c89 => ?_)
                · skip
                  refine g_lconst cx (v := 0) d_8_6_114 (by decide) ?_
                  exact m_lret cx d_8_6_115 rfl hm hs ⟨rfl, _, rfl⟩
                · skip
                  refine g_iload cx 0 d_8_6_92 rfl ?_
                  refine g_if_ne cx d_8_6_94 rfl (fun c94 => ?_) (fun c94 => ?_)
                  · skip
                    refine g_iload cx 0 d_8_6_103 rfl ?_
                    refine g_if_eq cx d_8_6_105 rfl (fun c105 => ?_) (fun c105 => ?_)
                    · skip
                      exact c116 dt ch
                    · skip
                      refine g_iload cx 5 d_8_6_108 rfl ?_
                      refine g_iconst cx (v := 3) d_8_6_110 (by decide) ?_
                      refine g_icmp_ne cx d_8_6_111 rfl (fun c111 => ?_) (fun c111 => ?_)
                      · skip
                        exact c116 dt ch
                      · skip
                        refine g_lconst cx (v := 0) d_8_6_114 (by decide) ?_
                        exact m_lret cx d_8_6_115 rfl hm hs ⟨rfl, _, rfl⟩
                  · skip
                    refine g_iload cx 4 d_8_6_97 rfl ?_
                    refine g_iconst cx (v := 4) d_8_6_99 (by decide) ?_
                    refine g_icmp_eq cx d_8_6_100 rfl (fun c100 => ?_) (fun c100 => ?_)
                    · skip
                      refine g_lconst cx (v := 0) d_8_6_114 (by decide) ?_
                      exact m_lret cx d_8_6_115 rfl hm hs ⟨rfl, _, rfl⟩
                    · skip
                      refine g_iload cx 0 d_8_6_103 rfl ?_
                      refine g_if_eq cx d_8_6_105 rfl (fun c105 => ?_) (fun c105 => ?_)
                      · skip
                        exact c116 dt ch
                      · skip
                        refine g_iload cx 5 d_8_6_108 rfl ?_
                        refine g_iconst cx (v := 3) d_8_6_110 (by decide) ?_
                        refine g_icmp_ne cx d_8_6_111 rfl (fun c111 => ?_) (fun c111 => ?_)
                        · skip
                          exact c116 dt ch
                        · skip
                          refine g_lconst cx (v := 0) d_8_6_114 (by decide) ?_
                          exact m_lret cx d_8_6_115 rfl hm hs ⟨rfl, _, rfl⟩
            · skip
              refine g_iload cx 1 d_8_6_68 rfl ?_
              refine g_bipush cx (v := 97) d_8_6_70 (by decide) ?_
              refine g_icmp_lt cx d_8_6_72 rfl (fun c72 => ?_) (fun c72 => ?_)
              · skip
                refine g_lconst cx (v := 0) d_8_6_114 (by decide) ?_
                exact m_lret cx d_8_6_115 rfl hm hs ⟨rfl, _, rfl⟩
              · skip
                refine g_iload cx 1 d_8_6_75 rfl ?_
                refine g_bipush cx (v := 122) d_8_6_77 (by decide) ?_
                refine g_icmp_gt cx d_8_6_79 rfl (fun c79 => ?_) (fun c79 => ?_)
                · skip
                  refine g_lconst cx (v := 0) d_8_6_114 (by decide) ?_
                  exact m_lret cx d_8_6_115 rfl hm hs ⟨rfl, _, rfl⟩
                · skip
                  refine g_iload cx 0 d_8_6_82 rfl ?_
                  refine g_if_eq cx d_8_6_84 rfl (fun c84 => ?_) (fun c84 => ?_)
                  · skip
                    refine g_iload cx 0 d_8_6_92 rfl ?_
                    refine g_if_ne cx d_8_6_94 rfl (fun c94 => ?_) (fun c94 => ?_)
                    · skip
                      refine g_iload cx 0 d_8_6_103 rfl ?_
                      refine g_if_eq cx d_8_6_105 rfl (fun c105 => ?_) (fun c105 => ?_)
                      · skip
                        exact c116 dt ch
                      · skip
                        refine g_iload cx 5 d_8_6_108 rfl ?_
                        refine g_iconst cx (v := 3) d_8_6_110 (by decide) ?_
                        refine g_icmp_ne cx d_8_6_111 rfl (fun c111 => ?_) (fun c111 => ?_)
                        · skip
                          exact c116 dt ch
                        · skip
                          refine g_lconst cx (v := 0) d_8_6_114 (by decide) ?_
                          exact m_lret cx d_8_6_115 rfl hm hs ⟨rfl, _, rfl⟩
                    · skip
                      refine g_iload cx 4 d_8_6_97 rfl ?_
                      refine g_iconst cx (v := 4) d_8_6_99 (by decide) ?_
                      refine g_icmp_eq cx d_8_6_100 rfl (fun c100 => ?_) (fun c100 => ?_)
                      · skip
                        refine g_lconst cx (v := 0) d_8_6_114 (by decide) ?_
                        exact m_lret cx d_8_6_115 rfl hm hs ⟨rfl, _, rfl⟩
                      · skip
                        refine g_iload cx 0 d_8_6_103 rfl ?_
                        refine g_if_eq cx d_8_6_105 rfl (fun c105 => ?_) (fun c105 => ?_)
                        · skip
                          exact c116 dt ch
                        · skip
                          refine g_iload cx 5 d_8_6_108 rfl ?_
                          refine g_iconst cx (v := 3) d_8_6_110 (by decide) ?_
                          refine g_icmp_ne cx d_8_6_111 rfl (fun c111 => ?_) (fun c111 => ?_)
                          · skip
                            exact c116 dt ch
                          · skip
                            refine g_lconst cx (v := 0) d_8_6_114 (by decide) ?_
                            exact m_lret cx d_8_6_115 rfl hm hs ⟨rfl, _, rfl⟩
                  · skip
                    refine g_iload cx 4 d_8_6_87 rfl ?_
                    refine g_if_eq cx d_8_6_89 rfl (fun c89 => ?_) (fun c89 => ?_)
                    · skip
                      refine g_lconst cx (v := 0) d_8_6_114 (by decide) ?_
                      exact m_lret cx d_8_6_115 rfl hm hs ⟨rfl, _, rfl⟩
                    · skip
                      refine g_iload cx 0 d_8_6_92 rfl ?_
                      refine g_if_ne cx d_8_6_94 rfl (fun c94 => ?_) (fun c94 => ?_)
                      · skip
                        refine g_iload cx 0 d_8_6_103 rfl ?_
                        refine g_if_eq cx d_8_6_105 rfl (fun c105 => ?_) (fun c105 => ?_)
                        · skip
                          exact c116 dt ch
                        · skip
                          refine g_iload cx 5 d_8_6_108 rfl ?_
                          refine g_iconst cx (v := 3) d_8_6_110 (by decide) ?_
                          refine g_icmp_ne cx d_8_6_111 rfl (fun c111 => ?_) (fun c111 => ?_)
                          · skip
                            exact c116 dt ch
                          · skip
                            refine g_lconst cx (v := 0) d_8_6_114 (by decide) ?_
                            exact m_lret cx d_8_6_115 rfl hm hs ⟨rfl, _, rfl⟩
                      · skip
                        refine g_iload cx 4 d_8_6_97 rfl ?_
                        refine g_iconst cx (v := 4) d_8_6_99 (by decide) ?_
                        refine g_icmp_eq cx d_8_6_100 rfl (fun c100 => ?_) (fun c100 => ?_)
                        · skip
                          refine g_lconst cx (v := 0) d_8_6_114 (by decide) ?_
                          exact m_lret cx d_8_6_115 rfl hm hs ⟨rfl, _, rfl⟩
                        · skip
                          refine g_iload cx 0 d_8_6_103 rfl ?_
                          refine g_if_eq cx d_8_6_105 rfl (fun c105 => ?_) (fun c105 => ?_)
                          · skip
                            exact c116 dt ch
                          · skip
                            refine g_iload cx 5 d_8_6_108 rfl ?_
                            refine g_iconst cx (v := 3) d_8_6_110 (by decide) ?_
                            refine g_icmp_ne cx d_8_6_111 rfl (fun c111 => ?_) (fun c111 => ?_)
                            · skip
                              exact c116 dt ch
                            · skip
                              refine g_lconst cx (v := 0) d_8_6_114 (by decide) ?_
                              exact m_lret cx d_8_6_115 rfl hm hs ⟨rfl, _, rfl⟩
          · skip
            refine g_iconst cx (v := 1) d_8_6_56 (by decide) ?_
            refine g_goto cx d_8_6_57 rfl ?_
            refine g_topi (fun dt edt => ?_)
            refine g_istore cx (lv' := [(9, .int dt), (8, .int ch), (7, .int (nI k)), (6, .int wv), (5, .int le), (4, .int wo), (2, .long V), (0, .ref am), (1, .int (nI i))]) d_8_6_61 (by decide) rfl ?_
            refine g_iload cx 0 d_8_6_63 rfl ?_
            refine g_if_ne cx d_8_6_65 rfl (fun c65 => ?_) (fun c65 => ?_)
            · skip
              refine g_iload cx 0 d_8_6_82 rfl ?_
              refine g_if_eq cx d_8_6_84 rfl (fun c84 => ?_) (fun c84 => ?_)
              · skip
                refine g_iload cx 0 d_8_6_92 rfl ?_
                refine g_if_ne cx d_8_6_94 rfl (fun c94 => ?_) (fun c94 => ?_)
                · skip
                  refine g_iload cx 0 d_8_6_103 rfl ?_
                  refine g_if_eq cx d_8_6_105 rfl (fun c105 => ?_) (fun c105 => ?_)
                  · skip
                    exact c116 dt ch
                  · skip
                    refine g_iload cx 5 d_8_6_108 rfl ?_
                    refine g_iconst cx (v := 3) d_8_6_110 (by decide) ?_
                    refine g_icmp_ne cx d_8_6_111 rfl (fun c111 => ?_) (fun c111 => ?_)
                    · skip
                      exact c116 dt ch
                    · skip
                      refine g_lconst cx (v := 0) d_8_6_114 (by decide) ?_
                      exact m_lret cx d_8_6_115 rfl hm hs ⟨rfl, _, rfl⟩
                · skip
                  refine g_iload cx 4 d_8_6_97 rfl ?_
                  refine g_iconst cx (v := 4) d_8_6_99 (by decide) ?_
                  refine g_icmp_eq cx d_8_6_100 rfl (fun c100 => ?_) (fun c100 => ?_)
                  · skip
                    refine g_lconst cx (v := 0) d_8_6_114 (by decide) ?_
                    exact m_lret cx d_8_6_115 rfl hm hs ⟨rfl, _, rfl⟩
                  · skip
                    refine g_iload cx 0 d_8_6_103 rfl ?_
                    refine g_if_eq cx d_8_6_105 rfl (fun c105 => ?_) (fun c105 => ?_)
                    · skip
                      exact c116 dt ch
                    · skip
                      refine g_iload cx 5 d_8_6_108 rfl ?_
                      refine g_iconst cx (v := 3) d_8_6_110 (by decide) ?_
                      refine g_icmp_ne cx d_8_6_111 rfl (fun c111 => ?_) (fun c111 => ?_)
                      · skip
                        exact c116 dt ch
                      · skip
                        refine g_lconst cx (v := 0) d_8_6_114 (by decide) ?_
                        exact m_lret cx d_8_6_115 rfl hm hs ⟨rfl, _, rfl⟩
              · skip
                refine g_iload cx 4 d_8_6_87 rfl ?_
                refine g_if_eq cx d_8_6_89 rfl (fun c89 => ?_) (fun c89 => ?_)
                · skip
                  refine g_lconst cx (v := 0) d_8_6_114 (by decide) ?_
                  exact m_lret cx d_8_6_115 rfl hm hs ⟨rfl, _, rfl⟩
                · skip
                  refine g_iload cx 0 d_8_6_92 rfl ?_
                  refine g_if_ne cx d_8_6_94 rfl (fun c94 => ?_) (fun c94 => ?_)
                  · skip
                    refine g_iload cx 0 d_8_6_103 rfl ?_
                    refine g_if_eq cx d_8_6_105 rfl (fun c105 => ?_) (fun c105 => ?_)
                    · skip
                      exact c116 dt ch
                    · skip
                      refine g_iload cx 5 d_8_6_108 rfl ?_
                      refine g_iconst cx (v := 3) d_8_6_110 (by decide) ?_
                      refine g_icmp_ne cx d_8_6_111 rfl (fun c111 => ?_) (fun c111 => ?_)
                      · skip
                        exact c116 dt ch
                      · skip
                        refine g_lconst cx (v := 0) d_8_6_114 (by decide) ?_
                        exact m_lret cx d_8_6_115 rfl hm hs ⟨rfl, _, rfl⟩
                  · skip
                    refine g_iload cx 4 d_8_6_97 rfl ?_
                    refine g_iconst cx (v := 4) d_8_6_99 (by decide) ?_
                    refine g_icmp_eq cx d_8_6_100 rfl (fun c100 => ?_) (fun c100 => ?_)
                    · skip
                      refine g_lconst cx (v := 0) d_8_6_114 (by decide) ?_
                      exact m_lret cx d_8_6_115 rfl hm hs ⟨rfl, _, rfl⟩
                    · skip
                      refine g_iload cx 0 d_8_6_103 rfl ?_
                      refine g_if_eq cx d_8_6_105 rfl (fun c105 => ?_) (fun c105 => ?_)
                      · skip
                        exact c116 dt ch
                      · skip
                        refine g_iload cx 5 d_8_6_108 rfl ?_
                        refine g_iconst cx (v := 3) d_8_6_110 (by decide) ?_
                        refine g_icmp_ne cx d_8_6_111 rfl (fun c111 => ?_) (fun c111 => ?_)
                        · skip
                          exact c116 dt ch
                        · skip
                          refine g_lconst cx (v := 0) d_8_6_114 (by decide) ?_
                          exact m_lret cx d_8_6_115 rfl hm hs ⟨rfl, _, rfl⟩
            · skip
              refine g_iload cx 1 d_8_6_68 rfl ?_
              refine g_bipush cx (v := 97) d_8_6_70 (by decide) ?_
              refine g_icmp_lt cx d_8_6_72 rfl (fun c72 => ?_) (fun c72 => ?_)
              · skip
                refine g_lconst cx (v := 0) d_8_6_114 (by decide) ?_
                exact m_lret cx d_8_6_115 rfl hm hs ⟨rfl, _, rfl⟩
              · skip
                refine g_iload cx 1 d_8_6_75 rfl ?_
                refine g_bipush cx (v := 122) d_8_6_77 (by decide) ?_
                refine g_icmp_gt cx d_8_6_79 rfl (fun c79 => ?_) (fun c79 => ?_)
                · skip
                  refine g_lconst cx (v := 0) d_8_6_114 (by decide) ?_
                  exact m_lret cx d_8_6_115 rfl hm hs ⟨rfl, _, rfl⟩
                · skip
                  refine g_iload cx 0 d_8_6_82 rfl ?_
                  refine g_if_eq cx d_8_6_84 rfl (fun c84 => ?_) (fun c84 => ?_)
                  · skip
                    refine g_iload cx 0 d_8_6_92 rfl ?_
                    refine g_if_ne cx d_8_6_94 rfl (fun c94 => ?_) (fun c94 => ?_)
                    · skip
                      refine g_iload cx 0 d_8_6_103 rfl ?_
                      refine g_if_eq cx d_8_6_105 rfl (fun c105 => ?_) (fun c105 => ?_)
                      · skip
                        exact c116 dt ch
                      · skip
                        refine g_iload cx 5 d_8_6_108 rfl ?_
                        refine g_iconst cx (v := 3) d_8_6_110 (by decide) ?_
                        refine g_icmp_ne cx d_8_6_111 rfl (fun c111 => ?_) (fun c111 => ?_)
                        · skip
                          exact c116 dt ch
                        · skip
                          refine g_lconst cx (v := 0) d_8_6_114 (by decide) ?_
                          exact m_lret cx d_8_6_115 rfl hm hs ⟨rfl, _, rfl⟩
                    · skip
                      refine g_iload cx 4 d_8_6_97 rfl ?_
                      refine g_iconst cx (v := 4) d_8_6_99 (by decide) ?_
                      refine g_icmp_eq cx d_8_6_100 rfl (fun c100 => ?_) (fun c100 => ?_)
                      · skip
                        refine g_lconst cx (v := 0) d_8_6_114 (by decide) ?_
                        exact m_lret cx d_8_6_115 rfl hm hs ⟨rfl, _, rfl⟩
                      · skip
                        refine g_iload cx 0 d_8_6_103 rfl ?_
                        refine g_if_eq cx d_8_6_105 rfl (fun c105 => ?_) (fun c105 => ?_)
                        · skip
                          exact c116 dt ch
                        · skip
                          refine g_iload cx 5 d_8_6_108 rfl ?_
                          refine g_iconst cx (v := 3) d_8_6_110 (by decide) ?_
                          refine g_icmp_ne cx d_8_6_111 rfl (fun c111 => ?_) (fun c111 => ?_)
                          · skip
                            exact c116 dt ch
                          · skip
                            refine g_lconst cx (v := 0) d_8_6_114 (by decide) ?_
                            exact m_lret cx d_8_6_115 rfl hm hs ⟨rfl, _, rfl⟩
                  · skip
                    refine g_iload cx 4 d_8_6_87 rfl ?_
                    refine g_if_eq cx d_8_6_89 rfl (fun c89 => ?_) (fun c89 => ?_)
                    · skip
                      refine g_lconst cx (v := 0) d_8_6_114 (by decide) ?_
                      exact m_lret cx d_8_6_115 rfl hm hs ⟨rfl, _, rfl⟩
                    · skip
                      refine g_iload cx 0 d_8_6_92 rfl ?_
                      refine g_if_ne cx d_8_6_94 rfl (fun c94 => ?_) (fun c94 => ?_)
                      · skip
                        refine g_iload cx 0 d_8_6_103 rfl ?_
                        refine g_if_eq cx d_8_6_105 rfl (fun c105 => ?_) (fun c105 => ?_)
                        · skip
                          exact c116 dt ch
                        · skip
                          refine g_iload cx 5 d_8_6_108 rfl ?_
                          refine g_iconst cx (v := 3) d_8_6_110 (by decide) ?_
                          refine g_icmp_ne cx d_8_6_111 rfl (fun c111 => ?_) (fun c111 => ?_)
                          · skip
                            exact c116 dt ch
                          · skip
                            refine g_lconst cx (v := 0) d_8_6_114 (by decide) ?_
                            exact m_lret cx d_8_6_115 rfl hm hs ⟨rfl, _, rfl⟩
                      · skip
                        refine g_iload cx 4 d_8_6_97 rfl ?_
                        refine g_iconst cx (v := 4) d_8_6_99 (by decide) ?_
                        refine g_icmp_eq cx d_8_6_100 rfl (fun c100 => ?_) (fun c100 => ?_)
                        · skip
                          refine g_lconst cx (v := 0) d_8_6_114 (by decide) ?_
                          exact m_lret cx d_8_6_115 rfl hm hs ⟨rfl, _, rfl⟩
                        · skip
                          refine g_iload cx 0 d_8_6_103 rfl ?_
                          refine g_if_eq cx d_8_6_105 rfl (fun c105 => ?_) (fun c105 => ?_)
                          · skip
                            exact c116 dt ch
                          · skip
                            refine g_iload cx 5 d_8_6_108 rfl ?_
                            refine g_iconst cx (v := 3) d_8_6_110 (by decide) ?_
                            refine g_icmp_ne cx d_8_6_111 rfl (fun c111 => ?_) (fun c111 => ?_)
                            · skip
                              exact c116 dt ch
                            · skip
                              refine g_lconst cx (v := 0) d_8_6_114 (by decide) ?_
                              exact m_lret cx d_8_6_115 rfl hm hs ⟨rfl, _, rfl⟩
    refine g_lconst cx (v := 0) d_8_6_10 (by decide) ?_
    refine g_topl (fun V eV => ?_)
    refine g_lstore_n cx (lv' := [(2, .long V), (0, .ref am), (1, .int (nI i))]) d_8_6_11 rfl (by decide) rfl ?_
    refine g_iconst cx (v := 1) d_8_6_12 (by decide) ?_
    refine g_topi (fun wo ewo => ?_)
    refine g_istore cx (lv' := [(4, .int wo), (2, .long V), (0, .ref am), (1, .int (nI i))]) d_8_6_13 (by decide) rfl ?_
    refine g_iconst cx (v := 0) d_8_6_15 (by decide) ?_
    refine g_topi (fun le ele => ?_)
    refine g_istore cx (lv' := [(5, .int le), (4, .int wo), (2, .long V), (0, .ref am), (1, .int (nI i))]) d_8_6_16 (by decide) rfl ?_
    refine g_iconst cx (v := 0) d_8_6_18 (by decide) ?_
    refine g_topi (fun wv ewv => ?_)
    refine g_istore cx (lv' := [(6, .int wv), (5, .int le), (4, .int wo), (2, .long V), (0, .ref am), (1, .int (nI i))]) d_8_6_19 (by decide) rfl ?_
    refine g_aload_n cx 4 d_8_6_21 rfl rfl ?_
    refine m_get cx (k := 4) d_8_6_22 t_902 ⟨by decide, rfl⟩ hm rfl ?_
    refine g_iload_n cx 5 d_8_6_25 rfl rfl ?_
    refine m_ld1 cx d_8_6_26 (by decide) hm rfl ⟨(show i < 15 from hi), by decide⟩ ?_
    refine g_topi (fun k0 ek0 => ?_)
    obtain rfl : k0 = nI (bg i) := ek0.trans p1
    refine g_istore cx (lv' := [(7, .int (nI (bg i))), (6, .int wv), (5, .int le), (4, .int wo), (2, .long V), (0, .ref am), (1, .int (nI i))]) d_8_6_27 (by decide) rfl ?_
    exact lp (en i + 1) (bg i) wv le wo V (by omega) (by omega) (by omega)
  · skip
    refine g_lconst cx (v := 0) d_8_6_8 (by decide) ?_
    exact m_lret cx d_8_6_9 rfl hm hs ⟨rfl, _, rfl⟩
set_option maxHeartbeats 4000000 in
theorem mc_wordOf (hSt : Stb z0 E) (hA : Ad am ad) (x : MS) (i pn : Nat) (bg en : Nat → Nat) (hp : PT x pn bg en) (hi : i < 15) : MC l y_163 prog_8_method_7_code 4 (Option.some Jvm.ClassFile.FieldType.int) 1 D z0 E am ad [.int (nI i)] x (fun r x' => x' = x ∧ ∃ v, r = some (.int v)) := by
  refine mc_of hSt rfl (Nat.le_of_ble_eq_true rfl) ?_
  intro h0 h p e s m args below meth c cx hm hs
  refine g_aload_n cx 0 d_8_7_0 rfl rfl ?_
  refine g_iload_n cx 1 d_8_7_1 rfl rfl ?_
  refine m_call 1 cx (As := [.int (nI i)]) (n := 1) (mc_nameOf hSt hA x i pn bg en hp hi) d_8_7_2 t_1021 t_1023 ts_32 t_1024 rfl ⟨rfl, by decide +kernel⟩ rfl ⟨by decide, by decide⟩ (Nat.le_of_ble_eq_true rfl) hm hs (fun v2 x2 h hm hs r2 => ?_)
  obtain ⟨e2, V, rfl⟩ := r2
  rw [e2] at hm
  refine g_topl (fun V1 eV1 => ?_)
  refine g_lstore_n cx (lv' := [(2, .long V1), (0, .ref am), (1, .int (nI i))]) d_8_7_5 rfl (by decide) rfl ?_
  refine g_lload_n cx 0 d_8_7_6 rfl rfl ?_
  refine g_ldc2 cx d_8_7_7 t_1025 ?_
  refine g_land cx d_8_7_10 ?_
  refine g_lconst cx (v := 0) d_8_7_11 (by decide) ?_
  refine g_lcmp cx d_8_7_12 ?_
  refine g_if_ne cx d_8_7_13 rfl (fun c13 => ?_) (fun c13 => ?_)
  · skip
    refine g_iconst cx (v := 0) d_8_7_24 (by decide) ?_
    exact m_iret cx d_8_7_25 rfl rfl hm hs ⟨rfl, _, rfl⟩
  · skip
    refine g_lload_n cx 0 d_8_7_16 rfl rfl ?_
    refine g_bipush cx (v := 40) d_8_7_17 (by decide) ?_
    refine g_lshr cx d_8_7_19 ?_
    refine g_l2i cx d_8_7_20 ?_
    refine g_goto cx d_8_7_21 rfl ?_
    exact m_iret cx d_8_7_25 rfl rfl hm hs ⟨rfl, _, rfl⟩
set_option maxHeartbeats 4000000 in
theorem mc_split (hSt : Stb z0 E) (hA : Ad am ad) (x : MS) (w : Nat) (hw : x.1 2 = nI w) (hwl : w ≤ 30) : MC l y_158 prog_8_method_5_code 2 (Option.none) 0 D z0 E am ad [] x (fun r x' => r = none ∧ ∃ pn bg en, PT x' pn bg en ∧ x'.1 2 = nI 0 ∧ Fx [2, 3] [4, 5] [] x x') := by
  refine mc_of hSt rfl (Nat.le_of_ble_eq_true rfl) ?_
  intro h0 h p e s m args below meth c cx hm hs
  have hx : ∀ (pn : Nat) (bg en : Nat → Nat) (y : MS) (h : hp) (hm : Mo D am ad y h) (hs : Sm am ad h0 h) (hpt : PT y pn bg en) (hf : Fx [2, 3] [4, 5] [] x y) (hw2 : y.1 2 = nI w), G p l e (rmL 0) s m args below meth c 2 D z0 E (MQp D am ad h0 (fun r x' => r = none ∧ ∃ pn bg en, PT x' pn bg en ∧ x'.1 2 = nI 0 ∧ Fx [2, 3] [4, 5] [] x x')) 0 0 7 [(1, .int (nI w)), (0, .ref am)] [] h 0 0 := by
    intro pn bg en y h hm hs hpt hf hw2
    refine g_iload_n cx 0 d_8_5_7 rfl rfl ?_
    refine g_aload_n cx 1 d_8_5_8 rfl rfl ?_
    refine m_get cx (k := 2) d_8_5_9 t_900 ⟨by decide, rfl⟩ hm rfl ?_
    refine g_icmp_ge cx d_8_5_12 rfl (fun c12 => ?_) (fun c12 => absurd (by show y.1 2 ≤ nI w; rw [hw2]; exact nI_le (Nat.le_refl _) (by omega)) c12)
    refine g_aload_n cx 1 d_8_5_106 rfl rfl ?_
    refine g_iconst cx (v := 0) d_8_5_107 (by decide) ?_
    refine m_put cx (k := 2) hA d_8_5_108 t_900 ⟨by decide, rfl, rfl, rfl, by decide +kernel⟩ hm hs (fun h hm hs => ?_)
    exact m_vret cx d_8_5_111 rfl hm hs ⟨rfl, pn, bg, en, hpt, rfl, hf.i (by decide)⟩
  have lp : ∀ (n k : Nat) (pn : Nat) (bg en : Nat → Nat) (y : MS) (h : hp) (hm : Mo D am ad y h) (hs : Sm am ad h0 h) (hpt : PT y pn bg en) (hf : Fx [2, 3] [4, 5] [] x y) (hw2 : y.1 2 = nI w), k ≤ w → (2 * pn ≤ k ∨ (2 * pn ≤ k + 1 ∧ (k = w ∨ x.2.1 1 k = 32))) → w - k < n → G p l e (rmL 0) s m args below meth c 2 D z0 E (MQp D am ad h0 (fun r x' => r = none ∧ ∃ pn bg en, PT x' pn bg en ∧ x'.1 2 = nI 0 ∧ Fx [2, 3] [4, 5] [] x x')) 0 0 7 [(1, .int (nI k)), (0, .ref am)] [] h 0 0 := by
    intro n
    induction n with
    | zero => intro k pn bg en y h hm hs hpt hf hw2 hkw hv hn; exact absurd hn (Nat.not_lt_zero _)
    | succ n ih =>
      intro k pn bg en y h hm hs hpt hf hw2 hkw hv hn
      have l2 : ∀ (n2 k2 k0 : Nat) (pn : Nat) (bg en : Nat → Nat) (y : MS) (h : hp) (hm : Mo D am ad y h) (hs : Sm am ad h0 h) (hpt : PT y pn bg en) (hf : Fx [2, 3] [4, 5] [] x y) (hw2 : y.1 2 = nI w), y.2.1 4 pn = nI k0 → pn < 15 → 2 * pn ≤ k0 → k ≤ k0 → k0 ≤ k2 → k2 ≤ w → (k0 < k2 ∨ (k2 = k0 ∧ k0 < w ∧ ¬ x.2.1 1 k0 = 32)) → w - k2 < n2 → G p l e (rmL 0) s m args below meth c 2 D z0 E (MQp D am ad h0 (fun r x' => r = none ∧ ∃ pn bg en, PT x' pn bg en ∧ x'.1 2 = nI 0 ∧ Fx [2, 3] [4, 5] [] x x')) 0 0 58 [(1, .int (nI k2)), (0, .ref am)] [] h 0 0 := by
        intro n2
        induction n2 with
        | zero => intro k2 k0 pn bg en y h hm hs hpt hf hw2 hb0 hpn h2p hkk hk02 hk2w hd hn2; exact absurd hn2 (Nat.not_lt_zero _)
        | succ n2 ih2 =>
          intro k2 k0 pn bg en y h hm hs hpt hf hw2 hb0 hpn h2p hkk hk02 hk2w hd hn2
          refine g_iload_n cx 0 d_8_5_58 rfl rfl ?_
          refine g_aload_n cx 1 d_8_5_59 rfl rfl ?_
          refine m_get cx (k := 2) d_8_5_60 t_900 ⟨by decide, rfl⟩ hm rfl ?_
          refine g_icmp_ge cx d_8_5_63 rfl (fun c63 => ?_) (fun c63 => ?_)
          · skip
            have hex : k2 = w ∨ x.2.1 1 k2 = 32 := by
              first
                | exact Or.inr (by rw [← hf.2.1 1 (by decide)]; exact c74)
                | exact Or.inl (Nat.le_antisymm hk2w (Nat.le_of_not_lt (fun q => absurd c63 (by show ¬ y.1 2 ≤ nI k2; rw [hw2]; exact nI_ge q (by omega)))))
            have hk02' : k0 < k2 := by
              rcases hd with q | ⟨q1, q2, q3⟩
              · exact q
              · rcases hex with q4 | q4
                · omega
                · exact absurd (q1 ▸ q4) q3
            refine g_aload_n cx 1 d_8_5_83 rfl rfl ?_
            refine m_get cx (k := 5) d_8_5_84 t_903 ⟨by decide, rfl⟩ hm rfl ?_
            refine g_aload_n cx 1 d_8_5_87 rfl rfl ?_
            refine m_get cx (k := 3) d_8_5_88 t_901 ⟨by decide, rfl⟩ hm rfl ?_
            refine g_iload_n cx 0 d_8_5_91 rfl rfl ?_
            refine m_st1 cx hA d_8_5_92 (by decide) hm hs hpt.1 ⟨(show pn < 15 from hpn), by decide⟩ (fun h hm hs => ?_)
            refine g_aload_n cx 1 d_8_5_93 rfl rfl ?_
            refine g_dup cx d_8_5_94 rfl ?_
            refine m_get cx (k := 3) d_8_5_95 t_901 ⟨by decide, rfl⟩ hm rfl ?_
            refine g_iconst cx (v := 1) d_8_5_98 (by decide) ?_
            refine g_iadd cx d_8_5_99 ?_
            refine g_topi (fun q1 eq1 => ?_)
            obtain rfl : q1 = nI (pn + 1) := eq1.trans (by show y.1 3 + 1 = _; rw [hpt.1, nI_1])
            refine m_put cx (k := 3) hA d_8_5_100 t_901 ⟨by decide, rfl, rfl, rfl, by decide +kernel⟩ hm hs (fun h hm hs => ?_)
            refine g_goto cx d_8_5_103 rfl ?_
            exact ih k2 (pn + 1) _ _ _ h hm hs (PT.add hpt hb0 hk02' (by omega) hpn) ((hf.a (by decide)).i (by decide)) hw2 hk2w (Or.inr ⟨by omega, hex⟩) (by omega)
          · skip
            have hk2 : k2 < w := Nat.lt_of_not_le (fun q => c63 (by show y.1 2 ≤ nI k2; rw [hw2]; exact nI_le q (by omega)))
            refine g_aload_n cx 1 d_8_5_66 rfl rfl ?_
            refine m_get cx (k := 1) d_8_5_67 t_899 ⟨by decide, rfl⟩ hm rfl ?_
            refine g_iload_n cx 0 d_8_5_70 rfl rfl ?_
            refine m_ld2 cx d_8_5_71 (by decide) hm rfl ⟨(show k2 < 30 by omega), by decide⟩ ?_
            refine g_bipush cx (v := 32) d_8_5_72 (by decide) ?_
            refine g_icmp_eq cx d_8_5_74 rfl (fun c74 => ?_) (fun c74 => ?_)
            · skip
              have hex : k2 = w ∨ x.2.1 1 k2 = 32 := by
                first
                  | exact Or.inr (by rw [← hf.2.1 1 (by decide)]; exact c74)
                  | exact Or.inl (Nat.le_antisymm hk2w (Nat.le_of_not_lt (fun q => absurd c63 (by show ¬ y.1 2 ≤ nI k2; rw [hw2]; exact nI_ge q (by omega)))))
              have hk02' : k0 < k2 := by
                rcases hd with q | ⟨q1, q2, q3⟩
                · exact q
                · rcases hex with q4 | q4
                  · omega
                  · exact absurd (q1 ▸ q4) q3
              refine g_aload_n cx 1 d_8_5_83 rfl rfl ?_
              refine m_get cx (k := 5) d_8_5_84 t_903 ⟨by decide, rfl⟩ hm rfl ?_
              refine g_aload_n cx 1 d_8_5_87 rfl rfl ?_
              refine m_get cx (k := 3) d_8_5_88 t_901 ⟨by decide, rfl⟩ hm rfl ?_
              refine g_iload_n cx 0 d_8_5_91 rfl rfl ?_
              refine m_st1 cx hA d_8_5_92 (by decide) hm hs hpt.1 ⟨(show pn < 15 from hpn), by decide⟩ (fun h hm hs => ?_)
              refine g_aload_n cx 1 d_8_5_93 rfl rfl ?_
              refine g_dup cx d_8_5_94 rfl ?_
              refine m_get cx (k := 3) d_8_5_95 t_901 ⟨by decide, rfl⟩ hm rfl ?_
              refine g_iconst cx (v := 1) d_8_5_98 (by decide) ?_
              refine g_iadd cx d_8_5_99 ?_
              refine g_topi (fun q1 eq1 => ?_)
              obtain rfl : q1 = nI (pn + 1) := eq1.trans (by show y.1 3 + 1 = _; rw [hpt.1, nI_1])
              refine m_put cx (k := 3) hA d_8_5_100 t_901 ⟨by decide, rfl, rfl, rfl, by decide +kernel⟩ hm hs (fun h hm hs => ?_)
              refine g_goto cx d_8_5_103 rfl ?_
              exact ih k2 (pn + 1) _ _ _ h hm hs (PT.add hpt hb0 hk02' (by omega) hpn) ((hf.a (by decide)).i (by decide)) hw2 hk2w (Or.inr ⟨by omega, hex⟩) (by omega)
            · skip
              refine g_iinc cx 0 (lv' := [(1, .int (nI (k2 + 1))), (0, .ref am)]) d_8_5_77 rfl (inc1 k2) (by decide) rfl ?_
              refine g_goto cx d_8_5_80 rfl ?_
              exact ih2 (k2 + 1) k0 pn bg en y h hm hs hpt hf hw2 hb0 hpn h2p hkk (by omega) (by omega) (Or.inl (by omega)) (by omega)
      have l1 : ∀ (n1 k1 : Nat), k ≤ k1 → k1 ≤ w → (2 * pn ≤ k1 ∨ (2 * pn ≤ k1 + 1 ∧ (k1 = w ∨ x.2.1 1 k1 = 32))) → w - k1 < n1 → G p l e (rmL 0) s m args below meth c 2 D z0 E (MQp D am ad h0 (fun r x' => r = none ∧ ∃ pn bg en, PT x' pn bg en ∧ x'.1 2 = nI 0 ∧ Fx [2, 3] [4, 5] [] x x')) 0 0 15 [(1, .int (nI k1)), (0, .ref am)] [] h 0 0 := by
        intro n1
        induction n1 with
        | zero => intro k1 hkk hk1w hv1 hn1; exact absurd hn1 (Nat.not_lt_zero _)
        | succ n1 ih1 =>
          intro k1 hkk hk1w hv1 hn1
          refine g_iload_n cx 0 d_8_5_15 rfl rfl ?_
          refine g_aload_n cx 1 d_8_5_16 rfl rfl ?_
          refine m_get cx (k := 2) d_8_5_17 t_900 ⟨by decide, rfl⟩ hm rfl ?_
          refine g_icmp_ge cx d_8_5_20 rfl (fun c20 => ?_) (fun c20 => ?_)
          · skip
            refine g_iload_n cx 0 d_8_5_40 rfl rfl ?_
            refine g_aload_n cx 1 d_8_5_41 rfl rfl ?_
            refine m_get cx (k := 2) d_8_5_42 t_900 ⟨by decide, rfl⟩ hm rfl ?_
            refine g_icmp_ge cx d_8_5_45 rfl (fun c45 => (by
                obtain rfl : k1 = w := Nat.le_antisymm hk1w (Nat.le_of_not_lt (fun q => absurd c45 (by show ¬ y.1 2 ≤ nI k1; rw [hw2]; exact nI_ge q (by omega))))
                exact hx pn bg en y h hm hs hpt hf hw2)) (fun c45 => ?_)
            have hk1' : k1 < w := Nat.lt_of_not_le (fun q => c45 (by show y.1 2 ≤ nI k1; rw [hw2]; exact nI_le q (by omega)))
            have ht1 : ¬ x.2.1 1 k1 = 32 := by
              first
                | exact fun q => c31 (by show y.2.1 1 k1 = 32; rw [hf.2.1 1 (by decide)]; exact q)
                | exact absurd c20 c45
            have h2p : 2 * pn ≤ k1 := by
              rcases hv1 with q | ⟨q1, q2 | q2⟩
              · exact q
              · omega
              · exact absurd q2 ht1
            refine g_aload_n cx 1 d_8_5_48 rfl rfl ?_
            refine m_get cx (k := 4) d_8_5_49 t_902 ⟨by decide, rfl⟩ hm rfl ?_
            refine g_aload_n cx 1 d_8_5_52 rfl rfl ?_
            refine m_get cx (k := 3) d_8_5_53 t_901 ⟨by decide, rfl⟩ hm rfl ?_
            refine g_iload_n cx 0 d_8_5_56 rfl rfl ?_
            refine m_st1 cx hA d_8_5_57 (by decide) hm hs hpt.1 ⟨(show pn < 15 by omega), by decide⟩ (fun h hm hs => ?_)
            exact l2 (w - k1 + 1) k1 k1 pn bg en _ h hm hs hpt.begin (hf.a (by decide)) hw2 pk_us (by omega) h2p hkk (Nat.le_refl _) hk1w (Or.inr ⟨rfl, hk1', ht1⟩) (by omega)
          · skip
            have hk1 : k1 < w := Nat.lt_of_not_le (fun q => c20 (by show y.1 2 ≤ nI k1; rw [hw2]; exact nI_le q (by omega)))
            refine g_aload_n cx 1 d_8_5_23 rfl rfl ?_
            refine m_get cx (k := 1) d_8_5_24 t_899 ⟨by decide, rfl⟩ hm rfl ?_
            refine g_iload_n cx 0 d_8_5_27 rfl rfl ?_
            refine m_ld2 cx d_8_5_28 (by decide) hm rfl ⟨(show k1 < 30 by omega), by decide⟩ ?_
            refine g_bipush cx (v := 32) d_8_5_29 (by decide) ?_
            refine g_icmp_ne cx d_8_5_31 rfl (fun c31 => ?_) (fun c31 => ?_)
            · skip
              refine g_iload_n cx 0 d_8_5_40 rfl rfl ?_
              refine g_aload_n cx 1 d_8_5_41 rfl rfl ?_
              refine m_get cx (k := 2) d_8_5_42 t_900 ⟨by decide, rfl⟩ hm rfl ?_
              refine g_icmp_ge cx d_8_5_45 rfl (fun c45 => (by
                  obtain rfl : k1 = w := Nat.le_antisymm hk1w (Nat.le_of_not_lt (fun q => absurd c45 (by show ¬ y.1 2 ≤ nI k1; rw [hw2]; exact nI_ge q (by omega))))
                  exact hx pn bg en y h hm hs hpt hf hw2)) (fun c45 => ?_)
              have hk1' : k1 < w := Nat.lt_of_not_le (fun q => c45 (by show y.1 2 ≤ nI k1; rw [hw2]; exact nI_le q (by omega)))
              have ht1 : ¬ x.2.1 1 k1 = 32 := by
                first
                  | exact fun q => c31 (by show y.2.1 1 k1 = 32; rw [hf.2.1 1 (by decide)]; exact q)
                  | exact absurd c20 c45
              have h2p : 2 * pn ≤ k1 := by
                rcases hv1 with q | ⟨q1, q2 | q2⟩
                · exact q
                · omega
                · exact absurd q2 ht1
              refine g_aload_n cx 1 d_8_5_48 rfl rfl ?_
              refine m_get cx (k := 4) d_8_5_49 t_902 ⟨by decide, rfl⟩ hm rfl ?_
              refine g_aload_n cx 1 d_8_5_52 rfl rfl ?_
              refine m_get cx (k := 3) d_8_5_53 t_901 ⟨by decide, rfl⟩ hm rfl ?_
              refine g_iload_n cx 0 d_8_5_56 rfl rfl ?_
              refine m_st1 cx hA d_8_5_57 (by decide) hm hs hpt.1 ⟨(show pn < 15 by omega), by decide⟩ (fun h hm hs => ?_)
              exact l2 (w - k1 + 1) k1 k1 pn bg en _ h hm hs hpt.begin (hf.a (by decide)) hw2 pk_us (by omega) h2p hkk (Nat.le_refl _) hk1w (Or.inr ⟨rfl, hk1', ht1⟩) (by omega)
            · skip
              refine g_iinc cx 0 (lv' := [(1, .int (nI (k1 + 1))), (0, .ref am)]) d_8_5_34 rfl (inc1 k1) (by decide) rfl ?_
              refine g_goto cx d_8_5_37 rfl ?_
              exact ih1 (k1 + 1) (by omega) (by omega) (Or.inl (by rcases hv1 with q | q <;> omega)) (by omega)
      refine g_iload_n cx 0 d_8_5_7 rfl rfl ?_
      refine g_aload_n cx 1 d_8_5_8 rfl rfl ?_
      refine m_get cx (k := 2) d_8_5_9 t_900 ⟨by decide, rfl⟩ hm rfl ?_
      refine g_icmp_ge cx d_8_5_12 rfl (fun c12 => ?_) (fun c12 => ?_)
      · skip
        refine g_aload_n cx 1 d_8_5_106 rfl rfl ?_
        refine g_iconst cx (v := 0) d_8_5_107 (by decide) ?_
        refine m_put cx (k := 2) hA d_8_5_108 t_900 ⟨by decide, rfl, rfl, rfl, by decide +kernel⟩ hm hs (fun h hm hs => ?_)
        exact m_vret cx d_8_5_111 rfl hm hs ⟨rfl, pn, bg, en, hpt, rfl, hf.i (by decide)⟩
      · skip
        exact l1 (w - k + 1) k (Nat.le_refl _) hkw hv (by omega)
  refine g_aload_n cx 0 d_8_5_0 rfl rfl ?_
  refine g_iconst cx (v := 0) d_8_5_1 (by decide) ?_
  refine m_put cx (k := 3) hA d_8_5_2 t_901 ⟨by decide, rfl, rfl, rfl, by decide +kernel⟩ hm hs (fun h hm hs => ?_)
  refine g_iconst cx (v := 0) d_8_5_5 (by decide) ?_
  refine g_topi (fun k0 ek0 => ?_)
  obtain rfl : k0 = nI 0 := ek0
  refine g_istore_n cx (lv' := [(1, .int (nI 0)), (0, .ref am)]) d_8_5_6 rfl (by decide) rfl ?_
  exact lp (w + 1) 0 0 (fun _ => 0) (fun _ => 0) _ h hm hs ⟨rfl, by omega, fun i hi => absurd hi (Nat.not_lt_zero _)⟩ (Fx.rf.i (by decide)) hw (by omega) (Or.inl (by omega)) (by omega)
end M4
end
section
/-! What always holds of the reference's tables; the methods that a line leads to. -/
def IA (x : MS) (a : Nat) : Prop := x.1 6 = nI a ∧ a ≤ 6
def IR (x : MS) (r : Nat) : Prop := x.1 11 = nI r ∧ r ≤ 8
def INm (x : MS) (nm : Nat → Nat) : Prop := ∀ i, i < 6 → x.2.1 8 i = nI (nm i) ∧ nm i ≤ 6
def ILd (x : MS) (ld : Nat → Nat) : Prop := ∀ i, i < 8 → x.2.1 13 i = nI (ld i) ∧ ld i ≤ 4
def ILo (x : MS) : Prop := ∀ k, k < 32 → ∃ g, g < 6 ∧ x.2.1 14 k = nI g
def IIm (x : MS) (im : Nat → Nat) : Prop := ∀ i, i < 8 → x.2.1 15 i = nI (im i) ∧ im i ≤ 4
def IFr (x : MS) : Prop := ∀ k, k < 32 → ∃ g, g < 8 ∧ x.2.1 16 k = nI g
def IPa (x : MS) (r : Nat) : Prop := ∀ i, i < r → x.2.1 17 i = -1 ∨ ∃ g, g < i ∧ x.2.1 17 i = nI g
def IKp (x : MS) (nm kp : Nat → Nat) : Prop := ∀ i, i < 8 → x.2.1 18 i = nI (kp i) ∧ (∀ j, j < kp i → (∃ g, g < 128 ∧ x.2.1 19 (36 * i + j) = nI g) ∧ ∃ b t, b < 6 ∧ t < nm b ∧ x.2.2 21 (36 * i + j) = x.2.2 10 (6 * b + t)) ∧ ∀ j j', j < kp i → j' < kp i → x.2.2 21 (36 * i + j) = x.2.2 21 (36 * i + j') → j = j'
def IMn (x : MS) (mn : Nat) : Prop := x.1 25 = nI mn ∧ mn < 2 ^ 20
def MI (x : MS) (a r : Nat) (nm ld im kp : Nat → Nat) (mn : Nat) : Prop := IA x a ∧ IR x r ∧ INm x nm ∧ ILd x ld ∧ ILo x ∧ IIm x im ∧ IFr x ∧ IPa x r ∧ IKp x nm kp ∧ IMn x mn
def MIx (x : MS) : Prop := ∃ a r nm ld im kp mn, MI x a r nm ld im kp mn
theorem MIx.of {x : MS} {a r : Nat} {nm ld im kp : Nat → Nat} {mn : Nat} (h : MI x a r nm ld im kp mn) : MIx x := ⟨a, r, nm, ld, im, kp, mn, h⟩
/-- a number of things that go into N places without meeting is at most N -/
theorem pigeon : ∀ (N n : Nat) (f : Nat → Nat), (∀ i, i < n → f i < N) → (∀ i j, i < n → j < n → f i = f j → i = j) → n ≤ N := by
  intro N
  induction N with
  | zero =>
    intro n f h1 h2
    rcases Nat.eq_zero_or_pos n with h | h
    · omega
    · exact absurd (h1 0 h) (Nat.not_lt_zero _)
  | succ N ih =>
    intro n f h1 h2
    rcases Nat.eq_zero_or_pos n with h | h
    · omega
    · have hlast : n - 1 < n := by omega
      have := ih (n - 1) (fun i => if f i = N then f (n - 1) else f i) (fun i hi => by
        have q1 := h1 i (by omega)
        have q2 := h1 (n - 1) hlast
        by_cases he : f i = N
        · simp only [if_pos he]
          have : f (n - 1) ≠ N := fun e => by have := h2 i (n - 1) (by omega) hlast (he.trans e.symm); omega
          omega
        · simp only [if_neg he]
          omega) (fun i j hi hj e => by
        by_cases h3 : f i = N <;> by_cases h4 : f j = N
        · exact h2 i j (by omega) (by omega) (h3.trans h4.symm)
        · simp only [if_pos h3, if_neg h4] at e
          have := h2 (n - 1) j hlast (by omega) e
          omega
        · simp only [if_neg h3, if_pos h4] at e
          have := h2 i (n - 1) (by omega) hlast e
          omega
        · simp only [if_neg h3, if_neg h4] at e
          exact h2 i j (by omega) (by omega) e)
      omega
theorem IKp.le {x : MS} {nm kp : Nat → Nat} (h : IKp x nm kp) (hn : INm x nm) {i : Nat} (hi : i < 8) : kp i ≤ 36 := by
  obtain ⟨-, h2, h3⟩ := h i hi
  have h4 : ∀ j, ∃ b, j < kp i → b < 36 ∧ x.2.2 21 (36 * i + j) = x.2.2 10 b := by
    intro j
    by_cases hj : j < kp i
    · obtain ⟨-, b, t, hb, ht, e⟩ := h2 j hj
      have := (hn b hb).2
      exact ⟨6 * b + t, fun _ => ⟨by omega, e⟩⟩
    · exact ⟨0, fun q => absurd q hj⟩
  refine pigeon 36 (kp i) (fun j => Classical.choose (h4 j)) (fun j hj => (Classical.choose_spec (h4 j) hj).1) (fun j k hj hk e => ?_)
  have q1 := (Classical.choose_spec (h4 j) hj).2
  have q2 := (Classical.choose_spec (h4 k) hk).2
  exact h3 j k hj hk (by rw [q1, q2]; exact congrArg (x.2.2 10) e)
section M5
variable {l : Launch} {D : va_G} {z0 : Nat} {E : State → Prop} {am : Nat} {ad : Nat → Nat}
set_option maxHeartbeats 4000000 in
theorem mc_newArchive (hSt : Stb z0 E) (hA : Ad am ad) (x : MS) (pn : Nat) (bg en : Nat → Nat) (a r : Nat) (nm ld im kp : Nat → Nat) (mn : Nat) (hpt : PT x pn bg en) (hM : MI x a r nm ld im kp mn) : MC l y_162 prog_8_method_14_code 2 (Option.some Jvm.ClassFile.FieldType.int) 2 D z0 E am ad [] x (fun r x' => (∃ v, r = some (.int v)) ∧ MIx x' ∧ x'.1 2 = x.1 2) := by
  refine mc_of hSt rfl (Nat.le_of_ble_eq_true rfl) ?_
  intro h0 h p e s m args below meth c cx hm hs
  obtain ⟨hIA, hIR, hNm, hLd, hLo, hIm, hFr, hPa, hKp, hMn⟩ := id hM
  have hMx : MIx x := MIx.of hM
  have hal := hIA.2
  have hrl := hIR.2
  have c18 : ∀ (w1 : Int32) (h : hp) (hm : Mo D am ad x h) (hs : Sm am ad h0 h), G p l e (rmL 2) s m args below meth c 2 D z0 E (MQp D am ad h0 (fun r x' => (∃ v, r = some (.int v)) ∧ MIx x' ∧ x'.1 2 = x.1 2)) 0 0 18 [(1, .int w1), (0, .ref am)] [] h 0 0 := by
    intro w1 h hm hs
    refine g_iload_n cx 0 d_8_14_18 rfl rfl ?_
    refine g_if_eq cx d_8_14_19 rfl (fun c19 => ?_) (fun c19 => ?_)
    · skip
      refine g_iconst cx (v := (-1)) d_8_14_30 (by decide) ?_
      exact m_iret cx d_8_14_31 rfl rfl hm hs ⟨⟨_, rfl⟩, hMx, rfl⟩
    · skip
      refine g_aload_n cx 1 d_8_14_22 rfl rfl ?_
      refine g_iload_n cx 0 d_8_14_23 rfl rfl ?_
      refine m_call 2 cx (As := [.int w1]) (n := 1) (mc_archiveOf hSt hA x w1 a hIA.1 hIA.2) d_8_14_24 t_1026 t_1028 ts_33 t_1029 rfl ⟨rfl, by decide +kernel⟩ rfl ⟨by decide, by decide⟩ (Nat.le_of_ble_eq_true rfl) hm hs (fun v24 x24 h hm hs r24 => ?_)
      obtain ⟨e24, r24⟩ := r24
      rw [e24] at hm
      rcases r24 with ⟨j, hj, rfl⟩ | rfl
      · skip
        refine g_if_lt cx d_8_14_27 rfl (fun c27 => absurd c27 (nI_pos (by omega))) (fun c27 => ?_)
        refine g_iconst cx (v := (-1)) d_8_14_30 (by decide) ?_
        exact m_iret cx d_8_14_31 rfl rfl hm hs ⟨⟨_, rfl⟩, hMx, rfl⟩
      · skip
        refine g_if_lt cx d_8_14_27 rfl (fun c27 => ?_) (fun c27 => absurd (by decide) c27)
        refine g_aload_n cx 1 d_8_14_32 rfl rfl ?_
        refine m_get cx (k := 6) d_8_14_33 t_904 ⟨by decide, rfl⟩ hm rfl ?_
        refine g_bipush cx (v := 6) d_8_14_36 (by decide) ?_
        refine g_icmp_ne cx d_8_14_38 rfl (fun c38 => ?_) (fun c38 => ?_)
        · skip
          have ha6 : a < 6 := by
            rcases Nat.lt_or_ge a 6 with q | q
            · exact q
            · exact absurd (by show x.1 6 = 6; rw [hIA.1, show a = 6 by omega]; rfl) c38
          refine g_aload_n cx 1 d_8_14_44 rfl rfl ?_
          refine m_get cx (k := 7) d_8_14_45 t_905 ⟨by decide, rfl⟩ hm rfl ?_
          refine g_aload_n cx 1 d_8_14_48 rfl rfl ?_
          refine m_get cx (k := 6) d_8_14_49 t_904 ⟨by decide, rfl⟩ hm rfl ?_
          refine g_iload_n cx 0 d_8_14_52 rfl rfl ?_
          refine m_st1 cx hA d_8_14_53 (by decide) hm hs hIA.1 ⟨(show a < 6 from ha6), by decide⟩ (fun h hm hs => ?_)
          refine g_aload_n cx 1 d_8_14_54 rfl rfl ?_
          refine g_dup cx d_8_14_55 rfl ?_
          refine m_get cx (k := 6) d_8_14_56 t_904 ⟨by decide, rfl⟩ hm rfl ?_
          refine g_iconst cx (v := 1) d_8_14_59 (by decide) ?_
          refine g_iadd cx d_8_14_60 ?_
          refine g_topi (fun t1 et1 => ?_)
          obtain rfl : t1 = nI (a + 1) := et1.trans (by show x.1 6 + 1 = _; rw [hIA.1, nI_1])
          refine m_put cx (k := 6) hA d_8_14_61 t_904 ⟨by decide, rfl, rfl, rfl, by decide +kernel⟩ hm hs (fun h hm hs => ?_)
          refine g_iconst cx (v := 1) d_8_14_64 (by decide) ?_
          exact m_iret cx d_8_14_65 rfl rfl hm hs ⟨⟨_, rfl⟩, ⟨a + 1, r, nm, ld, im, kp, mn, ⟨rfl, by omega⟩, hIR, hNm, hLd, hLo, hIm, hFr, hPa, hKp, hMn⟩, rfl⟩
        · skip
          refine g_bipush cx (v := (-2)) d_8_14_41 (by decide) ?_
          exact m_iret cx d_8_14_43 rfl rfl hm hs ⟨⟨_, rfl⟩, hMx, rfl⟩
  refine g_aload_n cx 0 d_8_14_0 rfl rfl ?_
  refine m_get cx (k := 3) d_8_14_1 t_901 ⟨by decide, rfl⟩ hm rfl ?_
  refine g_iconst cx (v := 2) d_8_14_4 (by decide) ?_
  refine g_icmp_ne cx d_8_14_5 rfl (fun c5 => ?_) (fun c5 => ?_)
  · skip
    refine g_iconst cx (v := 0) d_8_14_16 (by decide) ?_
    refine g_topi (fun w1 ew1 => ?_)
    refine g_istore_n cx (lv' := [(1, .int w1), (0, .ref am)]) d_8_14_17 rfl (by decide) rfl ?_
    exact c18 w1 h hm hs
  · skip
    refine g_aload_n cx 0 d_8_14_8 rfl rfl ?_
    refine g_iconst cx (v := 1) d_8_14_9 (by decide) ?_
    refine m_call 2 cx (As := [.int (nI 1)]) (n := 1) (mc_wordOf hSt hA x 1 pn bg en hpt (by decide)) d_8_14_10 t_1017 t_1019 ts_31 t_1020 rfl ⟨rfl, by decide +kernel⟩ rfl ⟨by decide, by decide⟩ (Nat.le_of_ble_eq_true rfl) hm hs (fun v10 x10 h hm hs r10 => ?_)
    obtain ⟨e10, V10, rfl⟩ := r10
    rw [e10] at hm
    refine g_goto cx d_8_14_13 rfl ?_
    refine g_topi (fun w1 ew1 => ?_)
    refine g_istore_n cx (lv' := [(1, .int w1), (0, .ref am)]) d_8_14_17 rfl (by decide) rfl ?_
    exact c18 w1 h hm hs
set_option maxHeartbeats 4000000 in
theorem mc_newRealm (hSt : Stb z0 E) (hA : Ad am ad) (x : MS) (pn : Nat) (bg en : Nat → Nat) (a r : Nat) (nm ld im kp : Nat → Nat) (mn : Nat) (hpt : PT x pn bg en) (hM : MI x a r nm ld im kp mn) : MC l y_168 prog_8_method_17_code 2 (Option.some Jvm.ClassFile.FieldType.int) 2 D z0 E am ad [] x (fun r x' => (∃ v, r = some (.int v)) ∧ MIx x' ∧ x'.1 2 = x.1 2) := by
  refine mc_of hSt rfl (Nat.le_of_ble_eq_true rfl) ?_
  intro h0 h p e s m args below meth c cx hm hs
  obtain ⟨hIA, hIR, hNm, hLd, hLo, hIm, hFr, hPa, hKp, hMn⟩ := id hM
  have hMx : MIx x := MIx.of hM
  have hal := hIA.2
  have hrl := hIR.2
  have c18 : ∀ (w1 : Int32) (h : hp) (hm : Mo D am ad x h) (hs : Sm am ad h0 h), G p l e (rmL 2) s m args below meth c 2 D z0 E (MQp D am ad h0 (fun r x' => (∃ v, r = some (.int v)) ∧ MIx x' ∧ x'.1 2 = x.1 2)) 0 0 18 [(1, .int w1), (0, .ref am)] [] h 0 0 := by
    intro w1 h hm hs
    refine g_iload_n cx 0 d_8_17_18 rfl rfl ?_
    refine g_if_eq cx d_8_17_19 rfl (fun c19 => ?_) (fun c19 => ?_)
    · skip
      refine g_iconst cx (v := (-1)) d_8_17_30 (by decide) ?_
      exact m_iret cx d_8_17_31 rfl rfl hm hs ⟨⟨_, rfl⟩, hMx, rfl⟩
    · skip
      refine g_aload_n cx 1 d_8_17_22 rfl rfl ?_
      refine g_iload_n cx 0 d_8_17_23 rfl rfl ?_
      refine m_call 2 cx (As := [.int w1]) (n := 1) (mc_realmOf hSt hA x w1 r hIR.1 hIR.2) d_8_17_24 t_1042 t_1044 ts_37 t_1045 rfl ⟨rfl, by decide +kernel⟩ rfl ⟨by decide, by decide⟩ (Nat.le_of_ble_eq_true rfl) hm hs (fun v24 x24 h hm hs r24 => ?_)
      obtain ⟨e24, r24⟩ := r24
      rw [e24] at hm
      rcases r24 with ⟨j, hj, rfl⟩ | rfl
      · skip
        refine g_if_lt cx d_8_17_27 rfl (fun c27 => absurd c27 (nI_pos (by omega))) (fun c27 => ?_)
        refine g_iconst cx (v := (-1)) d_8_17_30 (by decide) ?_
        exact m_iret cx d_8_17_31 rfl rfl hm hs ⟨⟨_, rfl⟩, hMx, rfl⟩
      · skip
        refine g_if_lt cx d_8_17_27 rfl (fun c27 => ?_) (fun c27 => absurd (by decide) c27)
        refine g_aload_n cx 1 d_8_17_32 rfl rfl ?_
        refine m_get cx (k := 11) d_8_17_33 t_909 ⟨by decide, rfl⟩ hm rfl ?_
        refine g_bipush cx (v := 8) d_8_17_36 (by decide) ?_
        refine g_icmp_ne cx d_8_17_38 rfl (fun c38 => ?_) (fun c38 => ?_)
        · skip
          have hr8 : r < 8 := by
            rcases Nat.lt_or_ge r 8 with q | q
            · exact q
            · exact absurd (by show x.1 11 = 8; rw [hIR.1, show r = 8 by omega]; rfl) c38
          refine g_aload_n cx 1 d_8_17_44 rfl rfl ?_
          refine m_get cx (k := 12) d_8_17_45 t_910 ⟨by decide, rfl⟩ hm rfl ?_
          refine g_aload_n cx 1 d_8_17_48 rfl rfl ?_
          refine m_get cx (k := 11) d_8_17_49 t_909 ⟨by decide, rfl⟩ hm rfl ?_
          refine g_iload_n cx 0 d_8_17_52 rfl rfl ?_
          refine m_st1 cx hA d_8_17_53 (by decide) hm hs hIR.1 ⟨(show r < 8 from hr8), by decide⟩ (fun h hm hs => ?_)
          refine g_aload_n cx 1 d_8_17_54 rfl rfl ?_
          refine m_get cx (k := 17) d_8_17_55 t_915 ⟨by decide, rfl⟩ hm rfl ?_
          refine g_aload_n cx 1 d_8_17_58 rfl rfl ?_
          refine m_get cx (k := 11) d_8_17_59 t_909 ⟨by decide, rfl⟩ hm rfl ?_
          refine g_iconst cx (v := (-1)) d_8_17_62 (by decide) ?_
          refine m_st1 cx hA d_8_17_63 (by decide) hm hs hIR.1 ⟨(show r < 8 from hr8), by decide⟩ (fun h hm hs => ?_)
          refine g_aload_n cx 1 d_8_17_64 rfl rfl ?_
          refine g_dup cx d_8_17_65 rfl ?_
          refine m_get cx (k := 11) d_8_17_66 t_909 ⟨by decide, rfl⟩ hm rfl ?_
          refine g_iconst cx (v := 1) d_8_17_69 (by decide) ?_
          refine g_iadd cx d_8_17_70 ?_
          refine g_topi (fun t1 et1 => ?_)
          obtain rfl : t1 = nI (r + 1) := et1.trans (by show x.1 11 + 1 = _; rw [hIR.1, nI_1])
          refine m_put cx (k := 11) hA d_8_17_71 t_909 ⟨by decide, rfl, rfl, rfl, by decide +kernel⟩ hm hs (fun h hm hs => ?_)
          refine g_iconst cx (v := 3) d_8_17_74 (by decide) ?_
          exact m_iret cx d_8_17_75 rfl rfl hm hs ⟨⟨_, rfl⟩, ⟨a, r + 1, nm, ld, im, kp, mn, hIA, ⟨rfl, by omega⟩, hNm, hLd, hLo, hIm, hFr, (fun i hi => by
    show upd (x.2.1 17) r (-1) i = -1 ∨ ∃ g, g < i ∧ upd (x.2.1 17) r (-1) i = nI g
    by_cases hir : i = r
    · left; rw [hir]; exact pk_us
    · rw [pk_un hir]; exact hPa i (by omega)), hKp, hMn⟩, rfl⟩
        · skip
          refine g_bipush cx (v := (-2)) d_8_17_41 (by decide) ?_
          exact m_iret cx d_8_17_43 rfl rfl hm hs ⟨⟨_, rfl⟩, hMx, rfl⟩
  refine g_aload_n cx 0 d_8_17_0 rfl rfl ?_
  refine m_get cx (k := 3) d_8_17_1 t_901 ⟨by decide, rfl⟩ hm rfl ?_
  refine g_iconst cx (v := 2) d_8_17_4 (by decide) ?_
  refine g_icmp_ne cx d_8_17_5 rfl (fun c5 => ?_) (fun c5 => ?_)
  · skip
    refine g_iconst cx (v := 0) d_8_17_16 (by decide) ?_
    refine g_topi (fun w1 ew1 => ?_)
    refine g_istore_n cx (lv' := [(1, .int w1), (0, .ref am)]) d_8_17_17 rfl (by decide) rfl ?_
    exact c18 w1 h hm hs
  · skip
    refine g_aload_n cx 0 d_8_17_8 rfl rfl ?_
    refine g_iconst cx (v := 1) d_8_17_9 (by decide) ?_
    refine m_call 2 cx (As := [.int (nI 1)]) (n := 1) (mc_wordOf hSt hA x 1 pn bg en hpt (by decide)) d_8_17_10 t_1017 t_1019 ts_31 t_1020 rfl ⟨rfl, by decide +kernel⟩ rfl ⟨by decide, by decide⟩ (Nat.le_of_ble_eq_true rfl) hm hs (fun v10 x10 h hm hs r10 => ?_)
    obtain ⟨e10, V10, rfl⟩ := r10
    rw [e10] at hm
    refine g_goto cx d_8_17_13 rfl ?_
    refine g_topi (fun w1 ew1 => ?_)
    refine g_istore_n cx (lv' := [(1, .int w1), (0, .ref am)]) d_8_17_17 rfl (by decide) rfl ?_
    exact c18 w1 h hm hs
set_option maxHeartbeats 4000000 in
theorem mc_ordered (hSt : Stb z0 E) (hA : Ad am ad) (x : MS) (v : Int32) (a r : Nat) (nm ld im kp : Nat → Nat) (mn : Nat) (hM : MI x a r nm ld im kp mn) : MC l y_174 prog_8_method_22_code 2 (Option.some Jvm.ClassFile.FieldType.int) 1 D z0 E am ad [.int v] x (fun r x' => (∃ v, r = some (.int v)) ∧ MIx x' ∧ x'.1 2 = x.1 2) := by
  refine mc_of hSt rfl (Nat.le_of_ble_eq_true rfl) ?_
  intro h0 h p e s m args below meth c cx hm hs
  obtain ⟨hIA, hIR, hNm, hLd, hLo, hIm, hFr, hPa, hKp, hMn⟩ := id hM
  have hMx : MIx x := MIx.of hM
  have hal := hIA.2
  have hrl := hIR.2
  refine g_aload_n cx 0 d_8_22_0 rfl rfl ?_
  refine m_call 1 cx (As := []) (n := 0) (mc_isShut hSt hA x r hIR.1 hIR.2) d_8_22_1 t_1050 t_1052 ts_39 t_1053 rfl ⟨rfl, by decide +kernel⟩ rfl ⟨by decide, by decide⟩ (Nat.le_of_ble_eq_true rfl) hm hs (fun v1 x1 h hm hs r1 => ?_)
  obtain ⟨e1, r1⟩ := r1
  rw [e1] at hm
  rcases r1 with rfl | ⟨rfl, hr0, -⟩
  · skip
    refine g_if_eq cx d_8_22_4 rfl (fun c4 => absurd c4 (by decide)) (fun c4 => ?_)
    refine g_bipush cx (v := (-2)) d_8_22_7 (by decide) ?_
    exact m_iret cx d_8_22_9 rfl rfl hm hs ⟨⟨_, rfl⟩, hMx, rfl⟩
  · skip
    refine g_if_eq cx d_8_22_4 rfl (fun c4 => ?_) (fun c4 => absurd rfl c4)
    refine g_aload_n cx 0 d_8_22_10 rfl rfl ?_
    refine m_get cx (k := 23) d_8_22_11 t_921 ⟨by decide, rfl⟩ hm rfl ?_
    refine g_aload_n cx 0 d_8_22_14 rfl rfl ?_
    refine m_get cx (k := 11) d_8_22_15 t_909 ⟨by decide, rfl⟩ hm rfl ?_
    refine g_iconst cx (v := 1) d_8_22_18 (by decide) ?_
    refine g_isub cx d_8_22_19 ?_
    refine g_iload_n cx 1 d_8_22_20 rfl rfl ?_
    refine m_st4 cx hA d_8_22_21 (by decide) hm hs (show x.1 11 - 1 = nI (r - 1) by rw [hIR.1]; exact pk_sub (b := 1) hr0) ⟨(show r - 1 < 8 by omega), by decide⟩ (fun h hm hs => ?_)
    refine g_iconst cx (v := 4) d_8_22_22 (by decide) ?_
    exact m_iret cx d_8_22_23 rfl rfl hm hs ⟨⟨_, rfl⟩, ⟨a, r, nm, ld, im, kp, mn, hM⟩, rfl⟩
set_option maxHeartbeats 4000000 in
theorem mc_newParent (hSt : Stb z0 E) (hA : Ad am ad) (x : MS) (pn : Nat) (bg en : Nat → Nat) (a r : Nat) (nm ld im kp : Nat → Nat) (mn : Nat) (hpt : PT x pn bg en) (hM : MI x a r nm ld im kp mn) : MC l y_173 prog_8_method_21_code 3 (Option.some Jvm.ClassFile.FieldType.int) 2 D z0 E am ad [] x (fun r x' => (∃ v, r = some (.int v)) ∧ MIx x' ∧ x'.1 2 = x.1 2) := by
  refine mc_of hSt rfl (Nat.le_of_ble_eq_true rfl) ?_
  intro h0 h p e s m args below meth c cx hm hs
  obtain ⟨hIA, hIR, hNm, hLd, hLo, hIm, hFr, hPa, hKp, hMn⟩ := id hM
  have hMx : MIx x := MIx.of hM
  have hal := hIA.2
  have hrl := hIR.2
  have c32 : ∀ (o2 w1 : Int32) (ho : o2 = -1 ∨ ∃ g, g < r ∧ o2 = nI g) (h : hp) (hm : Mo D am ad x h) (hs : Sm am ad h0 h), G p l e (rmL 2) s m args below meth c 3 D z0 E (MQp D am ad h0 (fun r x' => (∃ v, r = some (.int v)) ∧ MIx x' ∧ x'.1 2 = x.1 2)) 0 0 32 [(2, .int o2), (1, .int w1), (0, .ref am)] [] h 0 0 := by
    intro o2 w1 ho h hm hs
    refine g_iload_n cx 0 d_8_21_32 rfl rfl ?_
    refine g_if_lt cx d_8_21_33 rfl (fun c33 => ?_) (fun c33 => ?_)
    · skip
      refine g_iconst cx (v := (-1)) d_8_21_46 (by decide) ?_
      exact m_iret cx d_8_21_47 rfl rfl hm hs ⟨⟨_, rfl⟩, hMx, rfl⟩
    · skip
      refine g_iload_n cx 0 d_8_21_36 rfl rfl ?_
      refine g_aload_n cx 2 d_8_21_37 rfl rfl ?_
      refine m_get cx (k := 11) d_8_21_38 t_909 ⟨by decide, rfl⟩ hm rfl ?_
      refine g_iconst cx (v := 1) d_8_21_41 (by decide) ?_
      refine g_isub cx d_8_21_42 ?_
      refine g_icmp_ne cx d_8_21_43 rfl (fun c43 => ?_) (fun c43 => ?_)
      · skip
        refine g_aload_n cx 2 d_8_21_48 rfl rfl ?_
        refine m_call 2 cx (As := []) (n := 0) (mc_isShut hSt hA x r hIR.1 hIR.2) d_8_21_49 t_1050 t_1052 ts_39 t_1053 rfl ⟨rfl, by decide +kernel⟩ rfl ⟨by decide, by decide⟩ (Nat.le_of_ble_eq_true rfl) hm hs (fun v49 x49 h hm hs r49 => ?_)
        obtain ⟨e49, r49⟩ := r49
        rw [e49] at hm
        rcases r49 with rfl | ⟨rfl, hr0, -⟩
        · skip
          refine g_if_eq cx d_8_21_52 rfl (fun c52 => absurd c52 (by decide)) (fun c52 => ?_)
          refine g_bipush cx (v := (-2)) d_8_21_55 (by decide) ?_
          exact m_iret cx d_8_21_57 rfl rfl hm hs ⟨⟨_, rfl⟩, hMx, rfl⟩
        · skip
          refine g_if_eq cx d_8_21_52 rfl (fun c52 => ?_) (fun c52 => absurd rfl c52)
          refine g_aload_n cx 2 d_8_21_58 rfl rfl ?_
          refine m_get cx (k := 17) d_8_21_59 t_915 ⟨by decide, rfl⟩ hm rfl ?_
          refine g_aload_n cx 2 d_8_21_62 rfl rfl ?_
          refine m_get cx (k := 11) d_8_21_63 t_909 ⟨by decide, rfl⟩ hm rfl ?_
          refine g_iconst cx (v := 1) d_8_21_66 (by decide) ?_
          refine g_isub cx d_8_21_67 ?_
          refine g_iload_n cx 0 d_8_21_68 rfl rfl ?_
          refine m_st1 cx hA d_8_21_69 (by decide) hm hs (show x.1 11 - 1 = nI (r - 1) by rw [hIR.1]; exact pk_sub (b := 1) hr0) ⟨(show r - 1 < 8 by omega), by decide⟩ (fun h hm hs => ?_)
          refine g_iconst cx (v := 4) d_8_21_70 (by decide) ?_
          exact m_iret cx d_8_21_71 rfl rfl hm hs ⟨⟨_, rfl⟩, ⟨a, r, nm, ld, im, kp, mn, hIA, hIR, hNm, hLd, hLo, hIm, hFr, (fun i hi => by
    show upd (x.2.1 17) (r - 1) o2 i = -1 ∨ ∃ g, g < i ∧ upd (x.2.1 17) (r - 1) o2 i = nI g
    by_cases hir : i = r - 1
    · right
      rcases ho with e | ⟨g, hg, e⟩
      · exact absurd (by rw [e]; decide) c33
      · refine ⟨g, ?_, by rw [hir]; exact pk_us.trans e⟩
        rcases Nat.lt_or_ge g (r - 1) with q | q
        · omega
        · exact absurd (by show o2 = x.1 11 - 1; rw [e, hIR.1, show g = r - 1 by omega]; exact (pk_sub (b := 1) hr0).symm) c43
    · rw [pk_un hir]; exact hPa i hi), hKp, hMn⟩, rfl⟩
      · skip
        refine g_iconst cx (v := (-1)) d_8_21_46 (by decide) ?_
        exact m_iret cx d_8_21_47 rfl rfl hm hs ⟨⟨_, rfl⟩, hMx, rfl⟩
  have c18 : ∀ (w1 : Int32) (h : hp) (hm : Mo D am ad x h) (hs : Sm am ad h0 h), G p l e (rmL 2) s m args below meth c 3 D z0 E (MQp D am ad h0 (fun r x' => (∃ v, r = some (.int v)) ∧ MIx x' ∧ x'.1 2 = x.1 2)) 0 0 18 [(1, .int w1), (0, .ref am)] [] h 0 0 := by
    intro w1 h hm hs
    refine g_iload_n cx 0 d_8_21_18 rfl rfl ?_
    refine g_if_ne cx d_8_21_19 rfl (fun c19 => ?_) (fun c19 => ?_)
    · skip
      refine g_aload_n cx 1 d_8_21_26 rfl rfl ?_
      refine g_iload_n cx 0 d_8_21_27 rfl rfl ?_
      refine m_call 2 cx (As := [.int w1]) (n := 1) (mc_realmOf hSt hA x w1 r hIR.1 hIR.2) d_8_21_28 t_1042 t_1044 ts_37 t_1045 rfl ⟨rfl, by decide +kernel⟩ rfl ⟨by decide, by decide⟩ (Nat.le_of_ble_eq_true rfl) hm hs (fun v28 x28 h hm hs r28 => ?_)
      obtain ⟨e28, r28⟩ := r28
      rw [e28] at hm
      rcases r28 with ⟨j, hj, rfl⟩ | rfl
      · skip
        refine g_topi (fun o2 eo2 => ?_)
        refine g_istore_n cx (lv' := [(2, .int o2), (1, .int w1), (0, .ref am)]) d_8_21_31 rfl (by decide) rfl ?_
        exact c32 o2 w1 (Or.inr ⟨j, hj, eo2⟩) h hm hs
      · skip
        refine g_topi (fun o2 eo2 => ?_)
        refine g_istore_n cx (lv' := [(2, .int o2), (1, .int w1), (0, .ref am)]) d_8_21_31 rfl (by decide) rfl ?_
        exact c32 o2 w1 (Or.inl eo2) h hm hs
    · skip
      refine g_iconst cx (v := (-1)) d_8_21_22 (by decide) ?_
      refine g_goto cx d_8_21_23 rfl ?_
      refine g_topi (fun o2 eo2 => ?_)
      refine g_istore_n cx (lv' := [(2, .int o2), (1, .int w1), (0, .ref am)]) d_8_21_31 rfl (by decide) rfl ?_
      exact c32 o2 w1 (Or.inl eo2) h hm hs
  refine g_aload_n cx 0 d_8_21_0 rfl rfl ?_
  refine m_get cx (k := 3) d_8_21_1 t_901 ⟨by decide, rfl⟩ hm rfl ?_
  refine g_iconst cx (v := 2) d_8_21_4 (by decide) ?_
  refine g_icmp_ne cx d_8_21_5 rfl (fun c5 => ?_) (fun c5 => ?_)
  · skip
    refine g_iconst cx (v := 0) d_8_21_16 (by decide) ?_
    refine g_topi (fun w1 ew1 => ?_)
    refine g_istore_n cx (lv' := [(1, .int w1), (0, .ref am)]) d_8_21_17 rfl (by decide) rfl ?_
    exact c18 w1 h hm hs
  · skip
    refine g_aload_n cx 0 d_8_21_8 rfl rfl ?_
    refine g_iconst cx (v := 1) d_8_21_9 (by decide) ?_
    refine m_call 2 cx (As := [.int (nI 1)]) (n := 1) (mc_wordOf hSt hA x 1 pn bg en hpt (by decide)) d_8_21_10 t_1017 t_1019 ts_31 t_1020 rfl ⟨rfl, by decide +kernel⟩ rfl ⟨by decide, by decide⟩ (Nat.le_of_ble_eq_true rfl) hm hs (fun v10 x10 h hm hs r10 => ?_)
    obtain ⟨e10, V10, rfl⟩ := r10
    rw [e10] at hm
    refine g_goto cx d_8_21_13 rfl ?_
    refine g_topi (fun w1 ew1 => ?_)
    refine g_istore_n cx (lv' := [(1, .int w1), (0, .ref am)]) d_8_21_17 rfl (by decide) rfl ?_
    exact c18 w1 h hm hs
end M5
end
section
/-! newName, loads, newImport of the reference. -/
theorem INm.add {x : MS} {nm : Nat → Nat} {b0 : Nat} {V : Int64} {v : Int32} (h : INm x nm) (hn : nm b0 < 6) (hv : v = nI (nm b0 + 1)) : INm (seta (setl x 10 (6 * b0 + nm b0) V) 8 b0 v) (fun i => if i = b0 then nm b0 + 1 else nm i) := by
  intro i hi
  show upd (x.2.1 8) b0 v i = nI (if i = b0 then nm b0 + 1 else nm i) ∧ (if i = b0 then nm b0 + 1 else nm i) ≤ 6
  by_cases hib : i = b0
  · rw [if_pos hib, hib]; exact ⟨pk_us.trans hv, by omega⟩
  · rw [if_neg hib, pk_un hib]; exact h i hi
theorem IKp.add {x : MS} {nm kp : Nat → Nat} {b0 : Nat} {V : Int64} {v : Int32} (h : IKp x nm kp) (hN : INm x nm) (hb : b0 < 6) (hn : nm b0 < 6) : IKp (seta (setl x 10 (6 * b0 + nm b0) V) 8 b0 v) (fun i => if i = b0 then nm b0 + 1 else nm i) kp := by
  intro i hi
  obtain ⟨h1, h2, h3⟩ := h i hi
  refine ⟨h1, fun j hj => ⟨(h2 j hj).1, ?_⟩, h3⟩
  obtain ⟨b, t, hb', ht, e⟩ := (h2 j hj).2
  have htl := (hN b hb').2
  refine ⟨b, t, hb', ?_, ?_⟩
  · show t < (if b = b0 then nm b0 + 1 else nm b)
    by_cases q : b = b0
    · rw [if_pos q]; rw [q] at ht; omega
    · rw [if_neg q]; exact ht
  · show x.2.2 21 (36 * i + j) = vp_updL (x.2.2 10) (6 * b0 + nm b0) V (6 * b + t)
    rw [pk_uLn (fun q => ?_)]
    · exact e
    · have : b = b0 := by omega
      subst this
      omega
section M6
variable {l : Launch} {D : va_G} {z0 : Nat} {E : State → Prop} {am : Nat} {ad : Nat → Nat}
set_option maxHeartbeats 4000000 in
theorem mc_newName (hSt : Stb z0 E) (hA : Ad am ad) (x : MS) (pn : Nat) (bg en : Nat → Nat) (a r : Nat) (nm ld im kp : Nat → Nat) (mn : Nat) (hpt : PT x pn bg en) (hM : MI x a r nm ld im kp mn) : MC l y_166 prog_8_method_16_code 4 (Option.some Jvm.ClassFile.FieldType.int) 1 D z0 E am ad [] x (fun r x' => (∃ v, r = some (.int v)) ∧ MIx x' ∧ x'.1 2 = x.1 2) := by
  refine mc_of hSt rfl (Nat.le_of_ble_eq_true rfl) ?_
  intro h0 h p e s m args below meth c cx hm hs
  obtain ⟨hIA, hIR, hNm, hLd, hLo, hIm, hFr, hPa, hKp, hMn⟩ := id hM
  have hMx : MIx x := MIx.of hM
  have hal := hIA.2
  have hrl := hIR.2
  have c18z : ∀ (V : Int64) (ha0 : a = 0) (h : hp) (hm : Mo D am ad x h) (hs : Sm am ad h0 h), G p l e (rmL 1) s m args below meth c 4 D z0 E (MQp D am ad h0 (fun r x' => (∃ v, r = some (.int v)) ∧ MIx x' ∧ x'.1 2 = x.1 2)) 0 0 18 [(1, .long V), (0, .ref am)] [] h 0 0 := by
    intro V ha0 h hm hs
    refine g_aload_n cx 1 d_8_16_18 rfl rfl ?_
    refine m_get cx (k := 6) d_8_16_19 t_904 ⟨by decide, rfl⟩ hm rfl ?_
    refine g_iconst cx (v := 1) d_8_16_22 (by decide) ?_
    refine g_isub cx d_8_16_23 ?_
    refine g_topi (fun a1 ea1 => ?_)
    obtain rfl : a1 = -1 := ea1.trans (by show x.1 6 - 1 = -1; rw [hIA.1, ha0]; rfl)
    refine g_istore_n cx (lv' := [(3, .int (-1)), (1, .long V), (0, .ref am)]) d_8_16_24 rfl (by decide) rfl ?_
    refine g_lload_n cx 1 d_8_16_25 rfl rfl ?_
    refine g_lconst cx (v := 0) d_8_16_26 (by decide) ?_
    refine g_lcmp cx d_8_16_27 ?_
    refine g_if_eq cx d_8_16_28 rfl (fun c28 => ?_) (fun c28 => ?_)
    · skip
      refine g_iconst cx (v := (-1)) d_8_16_44 (by decide) ?_
      exact m_iret cx d_8_16_45 rfl rfl hm hs ⟨⟨_, rfl⟩, hMx, rfl⟩
    · skip
      refine g_iload_n cx 0 d_8_16_31 rfl rfl ?_
      refine g_if_lt cx d_8_16_32 rfl (fun c32 => ?_) (fun c32 => absurd (by decide) c32)
      refine g_iload_n cx 0 d_8_16_46 rfl rfl ?_
      refine g_if_lt cx d_8_16_47 rfl (fun c47 => ?_) (fun c47 => absurd (by decide) c47)
      refine g_bipush cx (v := (-2)) d_8_16_61 (by decide) ?_
      exact m_iret cx d_8_16_63 rfl rfl hm hs ⟨⟨_, rfl⟩, hMx, rfl⟩
  have c18p : ∀ (V : Int64) (ha0 : 0 < a) (h : hp) (hm : Mo D am ad x h) (hs : Sm am ad h0 h), G p l e (rmL 1) s m args below meth c 4 D z0 E (MQp D am ad h0 (fun r x' => (∃ v, r = some (.int v)) ∧ MIx x' ∧ x'.1 2 = x.1 2)) 0 0 18 [(1, .long V), (0, .ref am)] [] h 0 0 := by
    intro V ha0 h hm hs
    refine g_aload_n cx 1 d_8_16_18 rfl rfl ?_
    refine m_get cx (k := 6) d_8_16_19 t_904 ⟨by decide, rfl⟩ hm rfl ?_
    refine g_iconst cx (v := 1) d_8_16_22 (by decide) ?_
    refine g_isub cx d_8_16_23 ?_
    refine g_topi (fun a1 ea1 => ?_)
    obtain rfl : a1 = nI (a - 1) := ea1.trans (by show x.1 6 - 1 = _; rw [hIA.1]; exact pk_sub (b := 1) ha0)
    refine g_istore_n cx (lv' := [(3, .int (nI (a - 1))), (1, .long V), (0, .ref am)]) d_8_16_24 rfl (by decide) rfl ?_
    refine g_lload_n cx 1 d_8_16_25 rfl rfl ?_
    refine g_lconst cx (v := 0) d_8_16_26 (by decide) ?_
    refine g_lcmp cx d_8_16_27 ?_
    refine g_if_eq cx d_8_16_28 rfl (fun c28 => ?_) (fun c28 => ?_)
    · skip
      refine g_iconst cx (v := (-1)) d_8_16_44 (by decide) ?_
      exact m_iret cx d_8_16_45 rfl rfl hm hs ⟨⟨_, rfl⟩, hMx, rfl⟩
    · skip
      refine g_iload_n cx 0 d_8_16_31 rfl rfl ?_
      refine g_if_lt cx d_8_16_32 rfl (fun c32 => absurd c32 (nI_pos (by omega))) (fun c32 => ?_)
      refine g_aload_n cx 2 d_8_16_35 rfl rfl ?_
      refine g_iload_n cx 0 d_8_16_36 rfl rfl ?_
      refine g_lload_n cx 1 d_8_16_37 rfl rfl ?_
      refine m_call 1 cx (As := [.int (nI (a - 1)), .long V]) (n := 2) (mc_isIn hSt hA x (a - 1) (nm (a - 1)) V (by omega) (hNm (a - 1) (by omega)).1 (hNm (a - 1) (by omega)).2) d_8_16_38 t_1034 t_1036 ts_35 t_1037 rfl ⟨rfl, by decide +kernel⟩ rfl ⟨by decide, by decide⟩ (Nat.le_of_ble_eq_true rfl) hm hs (fun v38 x38 h hm hs r38 => ?_)
      obtain ⟨e38, r38⟩ := r38
      rw [e38] at hm
      rcases r38 with rfl | ⟨rfl, -⟩
      · skip
        refine g_if_eq cx d_8_16_41 rfl (fun c41 => ?_) (fun c41 => absurd rfl c41)
        refine g_iload_n cx 0 d_8_16_46 rfl rfl ?_
        refine g_if_lt cx d_8_16_47 rfl (fun c47 => absurd c47 (nI_pos (by omega))) (fun c47 => ?_)
        refine g_aload_n cx 2 d_8_16_50 rfl rfl ?_
        refine m_get cx (k := 8) d_8_16_51 t_906 ⟨by decide, rfl⟩ hm rfl ?_
        refine g_iload_n cx 0 d_8_16_54 rfl rfl ?_
        refine m_ld1 cx d_8_16_55 (by decide) hm rfl ⟨(show a - 1 < 6 by omega), by decide⟩ ?_
        refine g_bipush cx (v := 6) d_8_16_56 (by decide) ?_
        refine g_icmp_ne cx d_8_16_58 rfl (fun c58 => ?_) (fun c58 => ?_)
        · skip
          have hb1 := hNm (a - 1) (by omega)
          have hn6 : nm (a - 1) < 6 := by
            rcases Nat.lt_or_ge (nm (a - 1)) 6 with q | q
            · exact q
            · exact absurd (by rw [hb1.1, show nm (a - 1) = 6 by omega]; rfl) c58
          refine g_aload_n cx 2 d_8_16_64 rfl rfl ?_
          refine m_get cx (k := 10) d_8_16_65 t_908 ⟨by decide, rfl⟩ hm rfl ?_
          refine g_bipush cx (v := 6) d_8_16_68 (by decide) ?_
          refine g_iload_n cx 0 d_8_16_70 rfl rfl ?_
          refine g_imul cx d_8_16_71 ?_
          refine g_aload_n cx 2 d_8_16_72 rfl rfl ?_
          refine m_get cx (k := 8) d_8_16_73 t_906 ⟨by decide, rfl⟩ hm rfl ?_
          refine g_iload_n cx 0 d_8_16_76 rfl rfl ?_
          refine m_ld1 cx d_8_16_77 (by decide) hm rfl ⟨(show a - 1 < 6 by omega), by decide⟩ ?_
          refine g_iadd cx d_8_16_78 ?_
          refine g_lload_n cx 1 d_8_16_79 rfl rfl ?_
          refine m_st3 cx hA d_8_16_80 (by decide) hm hs (show 6 * nI (a - 1) + x.2.1 8 (a - 1) = nI (6 * (a - 1) + nm (a - 1)) by rw [hb1.1, show (6 : Int32) = nI 6 from rfl, pk_mul, nI_add]) ⟨(show 6 * (a - 1) + nm (a - 1) < 36 by omega), by decide⟩ (fun h hm hs => ?_)
          refine g_aload_n cx 2 d_8_16_81 rfl rfl ?_
          refine m_get cx (k := 8) d_8_16_82 t_906 ⟨by decide, rfl⟩ hm rfl ?_
          refine g_iload_n cx 0 d_8_16_85 rfl rfl ?_
          refine g_dup2_11 cx d_8_16_86 rfl rfl ?_
          refine m_ld1 cx d_8_16_87 (by decide) hm rfl ⟨(show a - 1 < 6 by omega), by decide⟩ ?_
          refine g_iconst cx (v := 1) d_8_16_88 (by decide) ?_
          refine g_iadd cx d_8_16_89 ?_
          refine m_st1 cx hA d_8_16_90 (by decide) hm hs rfl ⟨(show a - 1 < 6 by omega), by decide⟩ (fun h hm hs => ?_)
          refine g_iconst cx (v := 2) d_8_16_91 (by decide) ?_
          exact m_iret cx d_8_16_92 rfl rfl hm hs ⟨⟨_, rfl⟩, ⟨a, r, _, ld, im, kp, mn, hIA, hIR, INm.add hNm hn6 (by show x.2.1 8 (a - 1) + 1 = _; rw [hb1.1, nI_1]), hLd, hLo, hIm, hFr, hPa, IKp.add hKp hNm (by omega) hn6, hMn⟩, rfl⟩
        · skip
          refine g_bipush cx (v := (-2)) d_8_16_61 (by decide) ?_
          exact m_iret cx d_8_16_63 rfl rfl hm hs ⟨⟨_, rfl⟩, hMx, rfl⟩
      · skip
        refine g_if_eq cx d_8_16_41 rfl (fun c41 => absurd c41 (by decide)) (fun c41 => ?_)
        refine g_iconst cx (v := (-1)) d_8_16_44 (by decide) ?_
        exact m_iret cx d_8_16_45 rfl rfl hm hs ⟨⟨_, rfl⟩, hMx, rfl⟩
  refine g_aload_n cx 0 d_8_16_0 rfl rfl ?_
  refine m_get cx (k := 3) d_8_16_1 t_901 ⟨by decide, rfl⟩ hm rfl ?_
  refine g_iconst cx (v := 2) d_8_16_4 (by decide) ?_
  refine g_icmp_ne cx d_8_16_5 rfl (fun c5 => ?_) (fun c5 => ?_)
  · skip
    refine g_lconst cx (v := 0) d_8_16_16 (by decide) ?_
    refine g_topl (fun V eV => ?_)
    refine g_lstore_n cx (lv' := [(1, .long V), (0, .ref am)]) d_8_16_17 rfl (by decide) rfl ?_
    rcases Nat.eq_zero_or_pos a with ha0 | ha0
    · exact c18z V ha0 h hm hs
    · exact c18p V ha0 h hm hs
  · skip
    refine g_aload_n cx 0 d_8_16_8 rfl rfl ?_
    refine g_iconst cx (v := 1) d_8_16_9 (by decide) ?_
    refine m_call 1 cx (As := [.int (nI 1)]) (n := 1) (mc_nameOf hSt hA x 1 pn bg en hpt (by decide)) d_8_16_10 t_1021 t_1023 ts_32 t_1024 rfl ⟨rfl, by decide +kernel⟩ rfl ⟨by decide, by decide⟩ (Nat.le_of_ble_eq_true rfl) hm hs (fun v10 x10 h hm hs r10 => ?_)
    obtain ⟨e10, V10, rfl⟩ := r10
    rw [e10] at hm
    refine g_goto cx d_8_16_13 rfl ?_
    refine g_topl (fun V eV => ?_)
    refine g_lstore_n cx (lv' := [(1, .long V), (0, .ref am)]) d_8_16_17 rfl (by decide) rfl ?_
    rcases Nat.eq_zero_or_pos a with ha0 | ha0
    · exact c18z V ha0 h hm hs
    · exact c18p V ha0 h hm hs
set_option maxHeartbeats 4000000 in
theorem mc_loads (hSt : Stb z0 E) (hA : Ad am ad) (x : MS) (pn : Nat) (bg en : Nat → Nat) (a r : Nat) (nm ld im kp : Nat → Nat) (mn : Nat) (hpt : PT x pn bg en) (hM : MI x a r nm ld im kp mn) : MC l y_170 prog_8_method_19_code 6 (Option.some Jvm.ClassFile.FieldType.int) 2 D z0 E am ad [] x (fun r x' => (∃ v, r = some (.int v)) ∧ MIx x' ∧ x'.1 2 = x.1 2) := by
  refine mc_of hSt rfl (Nat.le_of_ble_eq_true rfl) ?_
  intro h0 h p e s m args below meth c cx hm hs
  obtain ⟨hIA, hIR, hNm, hLd, hLo, hIm, hFr, hPa, hKp, hMn⟩ := id hM
  have hMx : MIx x := MIx.of hM
  have hal := hIA.2
  have hrl := hIR.2
  have c32z : ∀ (a2 w1 : Int32) (hr0 : r = 0) (h : hp) (hm : Mo D am ad x h) (hs : Sm am ad h0 h), G p l e (rmL 2) s m args below meth c 6 D z0 E (MQp D am ad h0 (fun r x' => (∃ v, r = some (.int v)) ∧ MIx x' ∧ x'.1 2 = x.1 2)) 0 0 32 [(2, .int a2), (1, .int w1), (0, .ref am)] [] h 0 0 := by
    intro a2 w1 hr0 h hm hs
    refine g_aload_n cx 2 d_8_19_32 rfl rfl ?_
    refine m_get cx (k := 11) d_8_19_33 t_909 ⟨by decide, rfl⟩ hm rfl ?_
    refine g_iconst cx (v := 1) d_8_19_36 (by decide) ?_
    refine g_isub cx d_8_19_37 ?_
    refine g_topi (fun r1 er1 => ?_)
    obtain rfl : r1 = -1 := er1.trans (by show x.1 11 - 1 = -1; rw [hIR.1, hr0]; rfl)
    refine g_istore_n cx (lv' := [(3, .int (-1)), (2, .int a2), (1, .int w1), (0, .ref am)]) d_8_19_38 rfl (by decide) rfl ?_
    refine g_iconst cx (v := 0) d_8_19_39 (by decide) ?_
    refine g_topi (fun z4 ez4 => ?_)
    refine g_istore cx (lv' := [(4, .int z4), (3, .int (-1)), (2, .int a2), (1, .int w1), (0, .ref am)]) d_8_19_40 (by decide) rfl ?_
    refine g_iconst cx (v := 4) d_8_19_42 (by decide) ?_
    refine g_iload_n cx 1 d_8_19_43 rfl rfl ?_
    refine g_imul cx d_8_19_44 ?_
    refine g_topi (fun k5 ek5 => ?_)
    refine g_istore cx (lv' := [(5, .int k5), (4, .int z4), (3, .int (-1)), (2, .int a2), (1, .int w1), (0, .ref am)]) d_8_19_45 (by decide) rfl ?_
    refine g_iload_n cx 2 d_8_19_47 rfl rfl ?_
    refine g_if_lt cx d_8_19_48 rfl (fun c48 => ?_) (fun c48 => absurd (by decide) c48)
    refine g_iload_n cx 3 d_8_19_95 rfl rfl ?_
    refine g_if_lt cx d_8_19_96 rfl (fun c96 => ?_) (fun c96 => ?_)
    · skip
      refine g_iconst cx (v := (-1)) d_8_19_104 (by decide) ?_
      exact m_iret cx d_8_19_105 rfl rfl hm hs ⟨⟨_, rfl⟩, hMx, rfl⟩
    · skip
      refine g_iload cx 1 d_8_19_99 rfl ?_
      refine g_if_eq cx d_8_19_101 rfl (fun c101 => ?_) (fun c101 => ?_)
      · skip
        refine g_aload_n cx 5 d_8_19_106 rfl rfl ?_
        refine m_call 2 cx (As := []) (n := 0) (mc_isShut hSt hA x r hIR.1 hIR.2) d_8_19_107 t_1050 t_1052 ts_39 t_1053 rfl ⟨rfl, by decide +kernel⟩ rfl ⟨by decide, by decide⟩ (Nat.le_of_ble_eq_true rfl) hm hs (fun v107 x107 h hm hs r107 => ?_)
        obtain ⟨e9, r9⟩ := r107
        rw [e9] at hm
        rcases r9 with rfl | ⟨rfl, hr1, -⟩
        · skip
          refine g_if_ne cx d_8_19_110 rfl (fun c110 => ?_) (fun c110 => absurd c110 (by decide))
          refine g_bipush cx (v := (-2)) d_8_19_123 (by decide) ?_
          exact m_iret cx d_8_19_125 rfl rfl hm hs ⟨⟨_, rfl⟩, hMx, rfl⟩
        · skip
          exact absurd hr1 (by omega)
      · skip
        refine g_iconst cx (v := (-1)) d_8_19_104 (by decide) ?_
        exact m_iret cx d_8_19_105 rfl rfl hm hs ⟨⟨_, rfl⟩, hMx, rfl⟩
  have c95 : ∀ (k : Nat) (z a2 w1 : Int32) (hr0 : 0 < r) (ho : a2 = -1 ∨ ∃ g, g < a ∧ a2 = nI g) (h : hp) (hm : Mo D am ad x h) (hs : Sm am ad h0 h), G p l e (rmL 2) s m args below meth c 6 D z0 E (MQp D am ad h0 (fun r x' => (∃ v, r = some (.int v)) ∧ MIx x' ∧ x'.1 2 = x.1 2)) 0 0 95 [(5, .int (nI k)), (4, .int z), (3, .int (nI (r - 1))), (2, .int a2), (1, .int w1), (0, .ref am)] [] h 0 0 := by
    intro k z a2 w1 hr0 ho h hm hs
    refine g_iload_n cx 3 d_8_19_95 rfl rfl ?_
    refine g_if_lt cx d_8_19_96 rfl (fun c96 => ?_) (fun c96 => ?_)
    · skip
      refine g_iconst cx (v := (-1)) d_8_19_104 (by decide) ?_
      exact m_iret cx d_8_19_105 rfl rfl hm hs ⟨⟨_, rfl⟩, hMx, rfl⟩
    · skip
      refine g_iload cx 1 d_8_19_99 rfl ?_
      refine g_if_eq cx d_8_19_101 rfl (fun c101 => ?_) (fun c101 => ?_)
      · skip
        refine g_aload_n cx 5 d_8_19_106 rfl rfl ?_
        refine m_call 2 cx (As := []) (n := 0) (mc_isShut hSt hA x r hIR.1 hIR.2) d_8_19_107 t_1050 t_1052 ts_39 t_1053 rfl ⟨rfl, by decide +kernel⟩ rfl ⟨by decide, by decide⟩ (Nat.le_of_ble_eq_true rfl) hm hs (fun v107 x107 h hm hs r107 => ?_)
        obtain ⟨e9, r9⟩ := r107
        rw [e9] at hm
        rcases r9 with rfl | ⟨rfl, hr1, -⟩
        · skip
          refine g_if_ne cx d_8_19_110 rfl (fun c110 => ?_) (fun c110 => absurd c110 (by decide))
          refine g_bipush cx (v := (-2)) d_8_19_123 (by decide) ?_
          exact m_iret cx d_8_19_125 rfl rfl hm hs ⟨⟨_, rfl⟩, hMx, rfl⟩
        · skip
          refine g_if_ne cx d_8_19_110 rfl (fun c110 => absurd rfl c110) (fun c110 => ?_)
          refine g_aload_n cx 5 d_8_19_113 rfl rfl ?_
          refine m_get cx (k := 13) d_8_19_114 t_911 ⟨by decide, rfl⟩ hm rfl ?_
          refine g_iload_n cx 2 d_8_19_117 rfl rfl ?_
          refine m_ld1 cx d_8_19_118 (by decide) hm rfl ⟨(show r - 1 < 8 by omega), by decide⟩ ?_
          refine g_iconst cx (v := 4) d_8_19_119 (by decide) ?_
          refine g_icmp_ne cx d_8_19_120 rfl (fun c120 => ?_) (fun c120 => ?_)
          · skip
            obtain ⟨g, hg, eg⟩ : ∃ g, g < a ∧ a2 = nI g := ho.resolve_left (fun q => c96 (by rw [q]; decide))
            have hb1 := hLd (r - 1) (by omega)
            have hn4 : ld (r - 1) < 4 := by
              rcases Nat.lt_or_ge (ld (r - 1)) 4 with q | q
              · exact q
              · exact absurd (by rw [hb1.1, show ld (r - 1) = 4 by omega]; rfl) c120
            refine g_aload_n cx 5 d_8_19_126 rfl rfl ?_
            refine m_get cx (k := 14) d_8_19_127 t_912 ⟨by decide, rfl⟩ hm rfl ?_
            refine g_iconst cx (v := 4) d_8_19_130 (by decide) ?_
            refine g_iload_n cx 2 d_8_19_131 rfl rfl ?_
            refine g_imul cx d_8_19_132 ?_
            refine g_aload_n cx 5 d_8_19_133 rfl rfl ?_
            refine m_get cx (k := 13) d_8_19_134 t_911 ⟨by decide, rfl⟩ hm rfl ?_
            refine g_iload_n cx 2 d_8_19_137 rfl rfl ?_
            refine m_ld1 cx d_8_19_138 (by decide) hm rfl ⟨(show r - 1 < 8 by omega), by decide⟩ ?_
            refine g_iadd cx d_8_19_139 ?_
            refine g_iload_n cx 3 d_8_19_140 rfl rfl ?_
            refine m_st1 cx hA d_8_19_141 (by decide) hm hs (show 4 * nI (r - 1) + x.2.1 13 (r - 1) = nI (4 * (r - 1) + ld (r - 1)) by rw [hb1.1, show (4 : Int32) = nI 4 from rfl, pk_mul, nI_add]) ⟨(show 4 * (r - 1) + ld (r - 1) < 32 by omega), by decide⟩ (fun h hm hs => ?_)
            refine g_aload_n cx 5 d_8_19_142 rfl rfl ?_
            refine m_get cx (k := 13) d_8_19_143 t_911 ⟨by decide, rfl⟩ hm rfl ?_
            refine g_iload_n cx 2 d_8_19_146 rfl rfl ?_
            refine g_dup2_11 cx d_8_19_147 rfl rfl ?_
            refine m_ld1 cx d_8_19_148 (by decide) hm rfl ⟨(show r - 1 < 8 by omega), by decide⟩ ?_
            refine g_iconst cx (v := 1) d_8_19_149 (by decide) ?_
            refine g_iadd cx d_8_19_150 ?_
            refine m_st1 cx hA d_8_19_151 (by decide) hm hs rfl ⟨(show r - 1 < 8 by omega), by decide⟩ (fun h hm hs => ?_)
            refine g_iconst cx (v := 4) d_8_19_152 (by decide) ?_
            exact m_iret cx d_8_19_153 rfl rfl hm hs ⟨⟨_, rfl⟩, ⟨a, r, nm, (fun i => if i = r - 1 then ld (r - 1) + 1 else ld i), im, kp, mn, hIA, hIR, hNm, (fun i hi => by
    show upd (x.2.1 13) (r - 1) (x.2.1 13 (r - 1) + 1) i = nI (if i = r - 1 then ld (r - 1) + 1 else ld i) ∧ (if i = r - 1 then ld (r - 1) + 1 else ld i) ≤ 4
    by_cases q : i = r - 1
    · rw [if_pos q, q]; exact ⟨pk_us.trans (by rw [hb1.1, nI_1]), by omega⟩
    · rw [if_neg q, pk_un q]; exact hLd i hi), (fun k9 hk9 => by
    show ∃ g, g < 6 ∧ upd (x.2.1 14) (4 * (r - 1) + ld (r - 1)) a2 k9 = nI g
    by_cases q : k9 = 4 * (r - 1) + ld (r - 1)
    · rw [q]; exact ⟨g, by omega, pk_us.trans eg⟩
    · rw [pk_un q]; exact hLo k9 hk9), hIm, hFr, hPa, hKp, hMn⟩, rfl⟩
          · skip
            refine g_bipush cx (v := (-2)) d_8_19_123 (by decide) ?_
            exact m_iret cx d_8_19_125 rfl rfl hm hs ⟨⟨_, rfl⟩, hMx, rfl⟩
      · skip
        refine g_iconst cx (v := (-1)) d_8_19_104 (by decide) ?_
        exact m_iret cx d_8_19_105 rfl rfl hm hs ⟨⟨_, rfl⟩, hMx, rfl⟩
  have c32p : ∀ (a2 w1 : Int32) (hr0 : 0 < r) (ho : a2 = -1 ∨ ∃ g, g < a ∧ a2 = nI g) (h : hp) (hm : Mo D am ad x h) (hs : Sm am ad h0 h), G p l e (rmL 2) s m args below meth c 6 D z0 E (MQp D am ad h0 (fun r x' => (∃ v, r = some (.int v)) ∧ MIx x' ∧ x'.1 2 = x.1 2)) 0 0 32 [(2, .int a2), (1, .int w1), (0, .ref am)] [] h 0 0 := by
    intro a2 w1 hr0 ho h hm hs
    have hb1 := hLd (r - 1) (by omega)
    have hb : 4 * nI (r - 1) + x.2.1 13 (r - 1) = nI (4 * (r - 1) + ld (r - 1)) := by rw [hb1.1, show (4 : Int32) = nI 4 from rfl, pk_mul, nI_add]
    have hb2 := hb1.2
    have lp : ∀ (n : Nat) (k : Nat) (z : Int32), 4 * (r - 1) ≤ k → k ≤ 4 * (r - 1) + ld (r - 1) → 4 * (r - 1) + ld (r - 1) - k < n → G p l e (rmL 2) s m args below meth c 6 D z0 E (MQp D am ad h0 (fun r x' => (∃ v, r = some (.int v)) ∧ MIx x' ∧ x'.1 2 = x.1 2)) 0 0 47 [(5, .int (nI k)), (4, .int z), (3, .int (nI (r - 1))), (2, .int a2), (1, .int w1), (0, .ref am)] [] h 0 0 := by
      intro n
      induction n with
      | zero => intro k z hk0 hk1 hn; exact absurd hn (Nat.not_lt_zero _)
      | succ n ih =>
        intro k z hk0 hk1 hn
        refine g_iload_n cx 2 d_8_19_47 rfl rfl ?_
        refine g_if_lt cx d_8_19_48 rfl (fun c48 => absurd c48 (nI_pos (by omega))) (fun c48 => ?_)
        refine g_iload cx 0 d_8_19_51 rfl ?_
        refine g_iconst cx (v := 4) d_8_19_53 (by decide) ?_
        refine g_iload_n cx 2 d_8_19_54 rfl rfl ?_
        refine g_imul cx d_8_19_55 ?_
        refine g_aload_n cx 5 d_8_19_56 rfl rfl ?_
        refine m_get cx (k := 13) d_8_19_57 t_911 ⟨by decide, rfl⟩ hm rfl ?_
        refine g_iload_n cx 2 d_8_19_60 rfl rfl ?_
        refine m_ld1 cx d_8_19_61 (by decide) hm rfl ⟨(show r - 1 < 8 by omega), by decide⟩ ?_
        refine g_iadd cx d_8_19_62 ?_
        refine g_icmp_ge cx d_8_19_63 rfl (fun c63 => ?_) (fun c63 => ?_)
        · skip
          exact c95 k z a2 w1 hr0 ho h hm hs
        · skip
          have hk : k < 4 * (r - 1) + ld (r - 1) := Nat.lt_of_not_le (fun y => c63 (by rw [hb]; exact nI_le y (by omega)))
          refine g_iload cx 1 d_8_19_66 rfl ?_
          refine g_if_ne cx d_8_19_68 rfl (fun c68 => ?_) (fun c68 => ?_)
          · skip
            refine g_iconst cx (v := 1) d_8_19_82 (by decide) ?_
            refine g_goto cx d_8_19_83 rfl ?_
            refine g_topi (fun z1 ez1 => ?_)
            refine g_istore cx (lv' := [(4, .int z1), (5, .int (nI k)), (3, .int (nI (r - 1))), (2, .int a2), (1, .int w1), (0, .ref am)]) d_8_19_87 (by decide) rfl ?_
            refine g_iinc cx 1 (lv' := [(5, .int (nI (k + 1))), (4, .int z1), (3, .int (nI (r - 1))), (2, .int a2), (1, .int w1), (0, .ref am)]) d_8_19_89 rfl (inc1 k) (by decide) rfl ?_
            refine g_goto cx d_8_19_92 rfl ?_
            exact ih (k + 1) z1 (by omega) (by omega) (by omega)
          · skip
            refine g_aload_n cx 5 d_8_19_71 rfl rfl ?_
            refine m_get cx (k := 14) d_8_19_72 t_912 ⟨by decide, rfl⟩ hm rfl ?_
            refine g_iload cx 0 d_8_19_75 rfl ?_
            refine m_ld1 cx d_8_19_77 (by decide) hm rfl ⟨(show k < 32 by omega), by decide⟩ ?_
            refine g_iload_n cx 3 d_8_19_78 rfl rfl ?_
            refine g_icmp_ne cx d_8_19_79 rfl (fun c79 => ?_) (fun c79 => ?_)
            · skip
              refine g_iconst cx (v := 0) d_8_19_86 (by decide) ?_
              refine g_topi (fun z1 ez1 => ?_)
              refine g_istore cx (lv' := [(4, .int z1), (5, .int (nI k)), (3, .int (nI (r - 1))), (2, .int a2), (1, .int w1), (0, .ref am)]) d_8_19_87 (by decide) rfl ?_
              refine g_iinc cx 1 (lv' := [(5, .int (nI (k + 1))), (4, .int z1), (3, .int (nI (r - 1))), (2, .int a2), (1, .int w1), (0, .ref am)]) d_8_19_89 rfl (inc1 k) (by decide) rfl ?_
              refine g_goto cx d_8_19_92 rfl ?_
              exact ih (k + 1) z1 (by omega) (by omega) (by omega)
            · skip
              refine g_iconst cx (v := 1) d_8_19_82 (by decide) ?_
              refine g_goto cx d_8_19_83 rfl ?_
              refine g_topi (fun z1 ez1 => ?_)
              refine g_istore cx (lv' := [(4, .int z1), (5, .int (nI k)), (3, .int (nI (r - 1))), (2, .int a2), (1, .int w1), (0, .ref am)]) d_8_19_87 (by decide) rfl ?_
              refine g_iinc cx 1 (lv' := [(5, .int (nI (k + 1))), (4, .int z1), (3, .int (nI (r - 1))), (2, .int a2), (1, .int w1), (0, .ref am)]) d_8_19_89 rfl (inc1 k) (by decide) rfl ?_
              refine g_goto cx d_8_19_92 rfl ?_
              exact ih (k + 1) z1 (by omega) (by omega) (by omega)
    refine g_aload_n cx 2 d_8_19_32 rfl rfl ?_
    refine m_get cx (k := 11) d_8_19_33 t_909 ⟨by decide, rfl⟩ hm rfl ?_
    refine g_iconst cx (v := 1) d_8_19_36 (by decide) ?_
    refine g_isub cx d_8_19_37 ?_
    refine g_topi (fun r1 er1 => ?_)
    obtain rfl : r1 = nI (r - 1) := er1.trans (by show x.1 11 - 1 = _; rw [hIR.1]; exact pk_sub (b := 1) hr0)
    refine g_istore_n cx (lv' := [(3, .int (nI (r - 1))), (2, .int a2), (1, .int w1), (0, .ref am)]) d_8_19_38 rfl (by decide) rfl ?_
    refine g_iconst cx (v := 0) d_8_19_39 (by decide) ?_
    refine g_topi (fun z4 ez4 => ?_)
    refine g_istore cx (lv' := [(4, .int z4), (3, .int (nI (r - 1))), (2, .int a2), (1, .int w1), (0, .ref am)]) d_8_19_40 (by decide) rfl ?_
    refine g_iconst cx (v := 4) d_8_19_42 (by decide) ?_
    refine g_iload_n cx 1 d_8_19_43 rfl rfl ?_
    refine g_imul cx d_8_19_44 ?_
    refine g_topi (fun k5 ek5 => ?_)
    obtain rfl : k5 = nI (4 * (r - 1)) := by rw [ek5]; exact pk_mul 4 (r - 1)
    refine g_istore cx (lv' := [(5, .int (nI (4 * (r - 1)))), (4, .int z4), (3, .int (nI (r - 1))), (2, .int a2), (1, .int w1), (0, .ref am)]) d_8_19_45 (by decide) rfl ?_
    exact lp (ld (r - 1) + 1) (4 * (r - 1)) z4 (by omega) (by omega) (by omega)
  have c32 : ∀ (a2 w1 : Int32) (ho : a2 = -1 ∨ ∃ g, g < a ∧ a2 = nI g) (h : hp) (hm : Mo D am ad x h) (hs : Sm am ad h0 h), G p l e (rmL 2) s m args below meth c 6 D z0 E (MQp D am ad h0 (fun r x' => (∃ v, r = some (.int v)) ∧ MIx x' ∧ x'.1 2 = x.1 2)) 0 0 32 [(2, .int a2), (1, .int w1), (0, .ref am)] [] h 0 0 := by
    intro a2 w1 ho h hm hs
    rcases Nat.eq_zero_or_pos r with hr0 | hr0
    · exact c32z a2 w1 hr0 h hm hs
    · exact c32p a2 w1 hr0 ho h hm hs
  have c18 : ∀ (w1 : Int32) (h : hp) (hm : Mo D am ad x h) (hs : Sm am ad h0 h), G p l e (rmL 2) s m args below meth c 6 D z0 E (MQp D am ad h0 (fun r x' => (∃ v, r = some (.int v)) ∧ MIx x' ∧ x'.1 2 = x.1 2)) 0 0 18 [(1, .int w1), (0, .ref am)] [] h 0 0 := by
    intro w1 h hm hs
    refine g_iload_n cx 0 d_8_19_18 rfl rfl ?_
    refine g_if_ne cx d_8_19_19 rfl (fun c19 => ?_) (fun c19 => ?_)
    · skip
      refine g_aload_n cx 1 d_8_19_26 rfl rfl ?_
      refine g_iload_n cx 0 d_8_19_27 rfl rfl ?_
      refine m_call 2 cx (As := [.int w1]) (n := 1) (mc_archiveOf hSt hA x w1 a hIA.1 hIA.2) d_8_19_28 t_1026 t_1028 ts_33 t_1029 rfl ⟨rfl, by decide +kernel⟩ rfl ⟨by decide, by decide⟩ (Nat.le_of_ble_eq_true rfl) hm hs (fun v28 x28 h hm hs r28 => ?_)
      obtain ⟨e28, r28⟩ := r28
      rw [e28] at hm
      rcases r28 with ⟨j, hj, rfl⟩ | rfl
      · skip
        refine g_topi (fun a2 ea2 => ?_)
        refine g_istore_n cx (lv' := [(2, .int a2), (1, .int w1), (0, .ref am)]) d_8_19_31 rfl (by decide) rfl ?_
        exact c32 a2 w1 (Or.inr ⟨j, hj, ea2⟩) h hm hs
      · skip
        refine g_topi (fun a2 ea2 => ?_)
        refine g_istore_n cx (lv' := [(2, .int a2), (1, .int w1), (0, .ref am)]) d_8_19_31 rfl (by decide) rfl ?_
        exact c32 a2 w1 (Or.inl ea2) h hm hs
    · skip
      refine g_iconst cx (v := (-1)) d_8_19_22 (by decide) ?_
      refine g_goto cx d_8_19_23 rfl ?_
      refine g_topi (fun a2 ea2 => ?_)
      refine g_istore_n cx (lv' := [(2, .int a2), (1, .int w1), (0, .ref am)]) d_8_19_31 rfl (by decide) rfl ?_
      exact c32 a2 w1 (Or.inl ea2) h hm hs
  refine g_aload_n cx 0 d_8_19_0 rfl rfl ?_
  refine m_get cx (k := 3) d_8_19_1 t_901 ⟨by decide, rfl⟩ hm rfl ?_
  refine g_iconst cx (v := 2) d_8_19_4 (by decide) ?_
  refine g_icmp_ne cx d_8_19_5 rfl (fun c5 => ?_) (fun c5 => ?_)
  · skip
    refine g_iconst cx (v := 0) d_8_19_16 (by decide) ?_
    refine g_topi (fun w1 ew1 => ?_)
    refine g_istore_n cx (lv' := [(1, .int w1), (0, .ref am)]) d_8_19_17 rfl (by decide) rfl ?_
    exact c18 w1 h hm hs
  · skip
    refine g_aload_n cx 0 d_8_19_8 rfl rfl ?_
    refine g_iconst cx (v := 1) d_8_19_9 (by decide) ?_
    refine m_call 2 cx (As := [.int (nI 1)]) (n := 1) (mc_wordOf hSt hA x 1 pn bg en hpt (by decide)) d_8_19_10 t_1017 t_1019 ts_31 t_1020 rfl ⟨rfl, by decide +kernel⟩ rfl ⟨by decide, by decide⟩ (Nat.le_of_ble_eq_true rfl) hm hs (fun v10 x10 h hm hs r10 => ?_)
    obtain ⟨e10, V10, rfl⟩ := r10
    rw [e10] at hm
    refine g_goto cx d_8_19_13 rfl ?_
    refine g_topi (fun w1 ew1 => ?_)
    refine g_istore_n cx (lv' := [(1, .int w1), (0, .ref am)]) d_8_19_17 rfl (by decide) rfl ?_
    exact c18 w1 h hm hs
set_option maxHeartbeats 4000000 in
theorem mc_newImport (hSt : Stb z0 E) (hA : Ad am ad) (x : MS) (pn : Nat) (bg en : Nat → Nat) (a r : Nat) (nm ld im kp : Nat → Nat) (mn : Nat) (hpt : PT x pn bg en) (hM : MI x a r nm ld im kp mn) : MC l y_172 prog_8_method_20_code 6 (Option.some Jvm.ClassFile.FieldType.int) 2 D z0 E am ad [] x (fun r x' => (∃ v, r = some (.int v)) ∧ MIx x' ∧ x'.1 2 = x.1 2) := by
  refine mc_of hSt rfl (Nat.le_of_ble_eq_true rfl) ?_
  intro h0 h p e s m args below meth c cx hm hs
  obtain ⟨hIA, hIR, hNm, hLd, hLo, hIm, hFr, hPa, hKp, hMn⟩ := id hM
  have hMx : MIx x := MIx.of hM
  have hal := hIA.2
  have hrl := hIR.2
  have c74n : ∀ (o4 w3 : Int32) (V : Int64) (ho : o4 = -1) (h : hp) (hm : Mo D am ad x h) (hs : Sm am ad h0 h), G p l e (rmL 2) s m args below meth c 6 D z0 E (MQp D am ad h0 (fun r x' => (∃ v, r = some (.int v)) ∧ MIx x' ∧ x'.1 2 = x.1 2)) 0 0 74 [(4, .int o4), (3, .int w3), (1, .long V), (0, .ref am)] [] h 0 0 := by
    intro o4 w3 V ho h hm hs
    refine g_aload_n cx 3 d_8_20_74 rfl rfl ?_
    refine m_get cx (k := 11) d_8_20_75 t_909 ⟨by decide, rfl⟩ hm rfl ?_
    refine g_iconst cx (v := 1) d_8_20_78 (by decide) ?_
    refine g_isub cx d_8_20_79 ?_
    refine g_topi (fun r1 er1 => ?_)
    refine g_istore cx (lv' := [(5, .int r1), (4, .int o4), (3, .int w3), (1, .long V), (0, .ref am)]) d_8_20_80 (by decide) rfl ?_
    refine g_iload cx 1 d_8_20_82 rfl ?_
    refine g_if_lt cx d_8_20_84 rfl (fun c84 => ?_) (fun c84 => absurd (by rw [ho]; decide) c84)
    refine g_iconst cx (v := (-1)) d_8_20_94 (by decide) ?_
    exact m_iret cx d_8_20_95 rfl rfl hm hs ⟨⟨_, rfl⟩, hMx, rfl⟩
  have c74p : ∀ (o4 w3 : Int32) (V : Int64) (g : Nat) (hg : g < r) (eg : o4 = nI g) (h : hp) (hm : Mo D am ad x h) (hs : Sm am ad h0 h), G p l e (rmL 2) s m args below meth c 6 D z0 E (MQp D am ad h0 (fun r x' => (∃ v, r = some (.int v)) ∧ MIx x' ∧ x'.1 2 = x.1 2)) 0 0 74 [(4, .int o4), (3, .int w3), (1, .long V), (0, .ref am)] [] h 0 0 := by
    intro o4 w3 V g hg eg h hm hs
    refine g_aload_n cx 3 d_8_20_74 rfl rfl ?_
    refine m_get cx (k := 11) d_8_20_75 t_909 ⟨by decide, rfl⟩ hm rfl ?_
    refine g_iconst cx (v := 1) d_8_20_78 (by decide) ?_
    refine g_isub cx d_8_20_79 ?_
    refine g_topi (fun r1 er1 => ?_)
    obtain rfl : r1 = nI (r - 1) := er1.trans (by show x.1 11 - 1 = _; rw [hIR.1]; exact pk_sub (b := 1) (by omega))
    refine g_istore cx (lv' := [(5, .int (nI (r - 1))), (4, .int o4), (3, .int w3), (1, .long V), (0, .ref am)]) d_8_20_80 (by decide) rfl ?_
    refine g_iload cx 1 d_8_20_82 rfl ?_
    refine g_if_lt cx d_8_20_84 rfl (fun c84 => ?_) (fun c84 => ?_)
    · skip
      refine g_iconst cx (v := (-1)) d_8_20_94 (by decide) ?_
      exact m_iret cx d_8_20_95 rfl rfl hm hs ⟨⟨_, rfl⟩, hMx, rfl⟩
    · skip
      refine g_iload cx 1 d_8_20_87 rfl ?_
      refine g_iload cx 0 d_8_20_89 rfl ?_
      refine g_icmp_ne cx d_8_20_91 rfl (fun c91 => ?_) (fun c91 => ?_)
      · skip
        refine g_aload_n cx 4 d_8_20_96 rfl rfl ?_
        refine m_call 2 cx (As := []) (n := 0) (mc_isShut hSt hA x r hIR.1 hIR.2) d_8_20_97 t_1050 t_1052 ts_39 t_1053 rfl ⟨rfl, by decide +kernel⟩ rfl ⟨by decide, by decide⟩ (Nat.le_of_ble_eq_true rfl) hm hs (fun v97 x97 h hm hs r97 => ?_)
        obtain ⟨e9, r9⟩ := r97
        rw [e9] at hm
        rcases r9 with rfl | ⟨rfl, hr1, -⟩
        · skip
          refine g_if_ne cx d_8_20_100 rfl (fun c100 => ?_) (fun c100 => absurd c100 (by decide))
          refine g_bipush cx (v := (-2)) d_8_20_114 (by decide) ?_
          exact m_iret cx d_8_20_116 rfl rfl hm hs ⟨⟨_, rfl⟩, hMx, rfl⟩
        · skip
          refine g_if_ne cx d_8_20_100 rfl (fun c100 => absurd rfl c100) (fun c100 => ?_)
          refine g_aload_n cx 4 d_8_20_103 rfl rfl ?_
          refine m_get cx (k := 15) d_8_20_104 t_913 ⟨by decide, rfl⟩ hm rfl ?_
          refine g_iload cx 0 d_8_20_107 rfl ?_
          refine m_ld1 cx d_8_20_109 (by decide) hm rfl ⟨(show r - 1 < 8 by omega), by decide⟩ ?_
          refine g_iconst cx (v := 4) d_8_20_110 (by decide) ?_
          refine g_icmp_ne cx d_8_20_111 rfl (fun c111 => ?_) (fun c111 => ?_)
          · skip
            have hb1 := hIm (r - 1) (by omega)
            have hb : 4 * nI (r - 1) + x.2.1 15 (r - 1) = nI (4 * (r - 1) + im (r - 1)) := by rw [hb1.1, show (4 : Int32) = nI 4 from rfl, pk_mul, nI_add]
            have hn4 : im (r - 1) < 4 := by
              have hb2 := hb1.2
              rcases Nat.lt_or_ge (im (r - 1)) 4 with q | q
              · exact q
              · exact absurd (by rw [hb1.1, show im (r - 1) = 4 by omega]; rfl) c111
            refine g_aload_n cx 4 d_8_20_117 rfl rfl ?_
            refine m_get cx (k := 20) d_8_20_118 t_918 ⟨by decide, rfl⟩ hm rfl ?_
            refine g_iconst cx (v := 4) d_8_20_121 (by decide) ?_
            refine g_iload cx 0 d_8_20_122 rfl ?_
            refine g_imul cx d_8_20_124 ?_
            refine g_aload_n cx 4 d_8_20_125 rfl rfl ?_
            refine m_get cx (k := 15) d_8_20_126 t_913 ⟨by decide, rfl⟩ hm rfl ?_
            refine g_iload cx 0 d_8_20_129 rfl ?_
            refine m_ld1 cx d_8_20_131 (by decide) hm rfl ⟨(show r - 1 < 8 by omega), by decide⟩ ?_
            refine g_iadd cx d_8_20_132 ?_
            refine g_lload_n cx 3 d_8_20_133 rfl rfl ?_
            refine m_st3 cx hA d_8_20_134 (by decide) hm hs hb ⟨(show 4 * (r - 1) + im (r - 1) < 32 by omega), by decide⟩ (fun h hm hs => ?_)
            refine g_aload_n cx 4 d_8_20_135 rfl rfl ?_
            refine m_get cx (k := 16) d_8_20_136 t_914 ⟨by decide, rfl⟩ hm rfl ?_
            refine g_iconst cx (v := 4) d_8_20_139 (by decide) ?_
            refine g_iload cx 0 d_8_20_140 rfl ?_
            refine g_imul cx d_8_20_142 ?_
            refine g_aload_n cx 4 d_8_20_143 rfl rfl ?_
            refine m_get cx (k := 15) d_8_20_144 t_913 ⟨by decide, rfl⟩ hm rfl ?_
            refine g_iload cx 0 d_8_20_147 rfl ?_
            refine m_ld1 cx d_8_20_149 (by decide) hm rfl ⟨(show r - 1 < 8 by omega), by decide⟩ ?_
            refine g_iadd cx d_8_20_150 ?_
            refine g_iload cx 1 d_8_20_151 rfl ?_
            refine m_st1 cx hA d_8_20_153 (by decide) hm hs hb ⟨(show 4 * (r - 1) + im (r - 1) < 32 by omega), by decide⟩ (fun h hm hs => ?_)
            refine g_aload_n cx 4 d_8_20_154 rfl rfl ?_
            refine m_get cx (k := 15) d_8_20_155 t_913 ⟨by decide, rfl⟩ hm rfl ?_
            refine g_iload cx 0 d_8_20_158 rfl ?_
            refine g_dup2_11 cx d_8_20_160 rfl rfl ?_
            refine m_ld1 cx d_8_20_161 (by decide) hm rfl ⟨(show r - 1 < 8 by omega), by decide⟩ ?_
            refine g_iconst cx (v := 1) d_8_20_162 (by decide) ?_
            refine g_iadd cx d_8_20_163 ?_
            refine m_st1 cx hA d_8_20_164 (by decide) hm hs rfl ⟨(show r - 1 < 8 by omega), by decide⟩ (fun h hm hs => ?_)
            refine g_iconst cx (v := 4) d_8_20_165 (by decide) ?_
            exact m_iret cx d_8_20_166 rfl rfl hm hs ⟨⟨_, rfl⟩, ⟨a, r, nm, ld, (fun i => if i = r - 1 then im (r - 1) + 1 else im i), kp, mn, hIA, hIR, hNm, hLd, hLo, (fun i hi => by
    show upd (x.2.1 15) (r - 1) (x.2.1 15 (r - 1) + 1) i = nI (if i = r - 1 then im (r - 1) + 1 else im i) ∧ (if i = r - 1 then im (r - 1) + 1 else im i) ≤ 4
    by_cases q : i = r - 1
    · rw [if_pos q, q]; exact ⟨pk_us.trans (by rw [hb1.1, nI_1]), by omega⟩
    · rw [if_neg q, pk_un q]; exact hIm i hi), (fun k9 hk9 => by
    show ∃ g, g < 8 ∧ upd (x.2.1 16) (4 * (r - 1) + im (r - 1)) o4 k9 = nI g
    by_cases q : k9 = 4 * (r - 1) + im (r - 1)
    · rw [q]; exact ⟨g, by omega, pk_us.trans eg⟩
    · rw [pk_un q]; exact hFr k9 hk9), hPa, hKp, hMn⟩, rfl⟩
          · skip
            refine g_bipush cx (v := (-2)) d_8_20_114 (by decide) ?_
            exact m_iret cx d_8_20_116 rfl rfl hm hs ⟨⟨_, rfl⟩, hMx, rfl⟩
      · skip
        refine g_iconst cx (v := (-1)) d_8_20_94 (by decide) ?_
        exact m_iret cx d_8_20_95 rfl rfl hm hs ⟨⟨_, rfl⟩, hMx, rfl⟩
  have c59 : ∀ (w3 : Int32) (V : Int64) (h : hp) (hm : Mo D am ad x h) (hs : Sm am ad h0 h), G p l e (rmL 2) s m args below meth c 6 D z0 E (MQp D am ad h0 (fun r x' => (∃ v, r = some (.int v)) ∧ MIx x' ∧ x'.1 2 = x.1 2)) 0 0 59 [(3, .int w3), (1, .long V), (0, .ref am)] [] h 0 0 := by
    intro w3 V h hm hs
    refine g_iload_n cx 0 d_8_20_59 rfl rfl ?_
    refine g_if_ne cx d_8_20_60 rfl (fun c60 => ?_) (fun c60 => ?_)
    · skip
      refine g_aload_n cx 2 d_8_20_67 rfl rfl ?_
      refine g_iload_n cx 0 d_8_20_68 rfl rfl ?_
      refine m_call 2 cx (As := [.int w3]) (n := 1) (mc_realmOf hSt hA x w3 r hIR.1 hIR.2) d_8_20_69 t_1042 t_1044 ts_37 t_1045 rfl ⟨rfl, by decide +kernel⟩ rfl ⟨by decide, by decide⟩ (Nat.le_of_ble_eq_true rfl) hm hs (fun v69 x69 h hm hs r69 => ?_)
      obtain ⟨e69, r69⟩ := r69
      rw [e69] at hm
      rcases r69 with ⟨j, hj, rfl⟩ | rfl
      · skip
        refine g_topi (fun o4 eo4 => ?_)
        refine g_istore cx (lv' := [(4, .int o4), (3, .int w3), (1, .long V), (0, .ref am)]) d_8_20_72 (by decide) rfl ?_
        exact c74p o4 w3 V j hj eo4 h hm hs
      · skip
        refine g_topi (fun o4 eo4 => ?_)
        refine g_istore cx (lv' := [(4, .int o4), (3, .int w3), (1, .long V), (0, .ref am)]) d_8_20_72 (by decide) rfl ?_
        exact c74n o4 w3 V eo4 h hm hs
    · skip
      refine g_iconst cx (v := (-1)) d_8_20_63 (by decide) ?_
      refine g_goto cx d_8_20_64 rfl ?_
      refine g_topi (fun o4 eo4 => ?_)
      refine g_istore cx (lv' := [(4, .int o4), (3, .int w3), (1, .long V), (0, .ref am)]) d_8_20_72 (by decide) rfl ?_
      exact c74n o4 w3 V eo4 h hm hs
  have c43 : ∀ (V : Int64) (h : hp) (hm : Mo D am ad x h) (hs : Sm am ad h0 h), G p l e (rmL 2) s m args below meth c 6 D z0 E (MQp D am ad h0 (fun r x' => (∃ v, r = some (.int v)) ∧ MIx x' ∧ x'.1 2 = x.1 2)) 0 0 43 [(1, .long V), (0, .ref am)] [] h 0 0 := by
    intro V h hm hs
    refine g_lload_n cx 0 d_8_20_43 rfl rfl ?_
    refine g_lconst cx (v := 0) d_8_20_44 (by decide) ?_
    refine g_lcmp cx d_8_20_45 ?_
    refine g_if_ne cx d_8_20_46 rfl (fun c46 => ?_) (fun c46 => ?_)
    · skip
      refine g_aload_n cx 1 d_8_20_53 rfl rfl ?_
      refine g_iconst cx (v := 3) d_8_20_54 (by decide) ?_
      refine m_call 2 cx (As := [.int (nI 3)]) (n := 1) (mc_wordOf hSt hA x 3 pn bg en hpt (by decide)) d_8_20_55 t_1017 t_1019 ts_31 t_1020 rfl ⟨rfl, by decide +kernel⟩ rfl ⟨by decide, by decide⟩ (Nat.le_of_ble_eq_true rfl) hm hs (fun v55 x55 h hm hs r55 => ?_)
      obtain ⟨e55, V55, rfl⟩ := r55
      rw [e55] at hm
      refine g_topi (fun w3 ew3 => ?_)
      refine g_istore_n cx (lv' := [(3, .int w3), (1, .long V), (0, .ref am)]) d_8_20_58 rfl (by decide) rfl ?_
      exact c59 w3 V h hm hs
    · skip
      refine g_iconst cx (v := 0) d_8_20_49 (by decide) ?_
      refine g_goto cx d_8_20_50 rfl ?_
      refine g_topi (fun w3 ew3 => ?_)
      refine g_istore_n cx (lv' := [(3, .int w3), (1, .long V), (0, .ref am)]) d_8_20_58 rfl (by decide) rfl ?_
      exact c59 w3 V h hm hs
  refine g_aload_n cx 0 d_8_20_0 rfl rfl ?_
  refine m_get cx (k := 3) d_8_20_1 t_901 ⟨by decide, rfl⟩ hm rfl ?_
  refine g_iconst cx (v := 4) d_8_20_4 (by decide) ?_
  refine g_icmp_ne cx d_8_20_5 rfl (fun c5 => ?_) (fun c5 => ?_)
  · skip
    refine g_lconst cx (v := 0) d_8_20_41 (by decide) ?_
    refine g_topl (fun V eV => ?_)
    refine g_lstore_n cx (lv' := [(1, .long V), (0, .ref am)]) d_8_20_42 rfl (by decide) rfl ?_
    exact c43 V h hm hs
  · skip
    refine g_aload_n cx 0 d_8_20_8 rfl rfl ?_
    refine g_iconst cx (v := 2) d_8_20_9 (by decide) ?_
    refine g_bipush cx (v := 102) d_8_20_10 (by decide) ?_
    refine g_bipush cx (v := 114) d_8_20_12 (by decide) ?_
    refine g_bipush cx (v := 111) d_8_20_14 (by decide) ?_
    refine g_bipush cx (v := 109) d_8_20_16 (by decide) ?_
    refine m_call 2 cx (As := [.int (nI 2), .int 102, .int 114, .int 111, .int 109]) (n := 5) (mc_says hSt hA x 2 pn bg en 102 114 111 109 hpt (by decide)) d_8_20_18 t_1001 t_1003 ts_27 t_1004 rfl ⟨rfl, by decide +kernel⟩ rfl ⟨by decide, by decide⟩ (Nat.le_of_ble_eq_true rfl) hm hs (fun v18 x18 h hm hs r18 => ?_)
    obtain ⟨e18, r18⟩ := r18
    rw [e18] at hm
    rcases r18 with rfl | rfl
    · skip
      refine g_if_eq cx d_8_20_21 rfl (fun c21 => absurd c21 (by decide)) (fun c21 => ?_)
      refine g_aload_n cx 0 d_8_20_24 rfl rfl ?_
      refine g_iconst cx (v := 2) d_8_20_25 (by decide) ?_
      refine g_iconst cx (v := 4) d_8_20_26 (by decide) ?_
      refine m_call 2 cx (As := [.int (nI 2), .int 4]) (n := 2) (mc_isLong hSt hA x 2 pn bg en 4 hpt (by decide)) d_8_20_27 t_1005 t_1007 ts_28 t_1008 rfl ⟨rfl, by decide +kernel⟩ rfl ⟨by decide, by decide⟩ (Nat.le_of_ble_eq_true rfl) hm hs (fun v27 x27 h hm hs r27 => ?_)
      obtain ⟨e27, r27⟩ := r27
      rw [e27] at hm
      rcases r27 with ⟨rfl, -⟩ | rfl
      · skip
        refine g_if_eq cx d_8_20_30 rfl (fun c30 => absurd c30 (by decide)) (fun c30 => ?_)
        refine g_aload_n cx 0 d_8_20_33 rfl rfl ?_
        refine g_iconst cx (v := 1) d_8_20_34 (by decide) ?_
        refine m_call 2 cx (As := [.int (nI 1)]) (n := 1) (mc_nameOf hSt hA x 1 pn bg en hpt (by decide)) d_8_20_35 t_1021 t_1023 ts_32 t_1024 rfl ⟨rfl, by decide +kernel⟩ rfl ⟨by decide, by decide⟩ (Nat.le_of_ble_eq_true rfl) hm hs (fun v35 x35 h hm hs r35 => ?_)
        obtain ⟨e35, V35, rfl⟩ := r35
        rw [e35] at hm
        refine g_goto cx d_8_20_38 rfl ?_
        refine g_topl (fun V eV => ?_)
        refine g_lstore_n cx (lv' := [(1, .long V), (0, .ref am)]) d_8_20_42 rfl (by decide) rfl ?_
        exact c43 V h hm hs
      · skip
        refine g_if_eq cx d_8_20_30 rfl (fun c30 => ?_) (fun c30 => absurd rfl c30)
        refine g_lconst cx (v := 0) d_8_20_41 (by decide) ?_
        refine g_topl (fun V eV => ?_)
        refine g_lstore_n cx (lv' := [(1, .long V), (0, .ref am)]) d_8_20_42 rfl (by decide) rfl ?_
        exact c43 V h hm hs
    · skip
      refine g_if_eq cx d_8_20_21 rfl (fun c21 => ?_) (fun c21 => absurd rfl c21)
      refine g_lconst cx (v := 0) d_8_20_41 (by decide) ?_
      refine g_topl (fun V eV => ?_)
      refine g_lstore_n cx (lv' := [(1, .long V), (0, .ref am)]) d_8_20_42 rfl (by decide) rfl ?_
      exact c43 V h hm hs
end M6
end
section
/-! line and realm of the reference. -/
theorem nI_len {e b k : Nat} (hb : b ≤ e) (he : e ≤ 30) (hk : k ≤ 30) (h : nI e - nI b = nI k) : e = b + k := by
  rw [pk_sub hb] at h
  have := (nI_eq (a := e - b) (b := k) (by omega) (by omega)).mp h
  omega
theorem MI.fx {si sa sl : List Nat} {x y : MS} {a r : Nat} {nm ld im kp : Nat → Nat} {mn : Nat} (h : MI x a r nm ld im kp mn) (f : Fx si sa sl x y) (h1 : 6 ∉ si ∧ 11 ∉ si ∧ 25 ∉ si) (h2 : 8 ∉ sa ∧ 13 ∉ sa ∧ 14 ∉ sa ∧ 15 ∉ sa ∧ 16 ∉ sa ∧ 17 ∉ sa ∧ 18 ∉ sa ∧ 19 ∉ sa) (h3 : 10 ∉ sl ∧ 21 ∉ sl) : MI y a r nm ld im kp mn := by
  unfold MI IA IR INm ILd ILo IIm IFr IPa IKp IMn at h ⊢
  rw [f.1 6 h1.1, f.1 11 h1.2.1, f.1 25 h1.2.2, f.2.1 8 h2.1, f.2.1 13 h2.2.1, f.2.1 14 h2.2.2.1, f.2.1 15 h2.2.2.2.1, f.2.1 16 h2.2.2.2.2.1, f.2.1 17 h2.2.2.2.2.2.1, f.2.1 18 h2.2.2.2.2.2.2.1, f.2.1 19 h2.2.2.2.2.2.2.2, f.2.2 10 h3.1, f.2.2 21 h3.2]
  exact h
section M7
variable {l : Launch} {D : va_G} {z0 : Nat} {E : State → Prop} {am : Nat} {ad : Nat → Nat}
set_option maxHeartbeats 4000000 in
theorem mc_line (hSt : Stb z0 E) (hA : Ad am ad) (x : MS) (w : Nat) (hw : x.1 2 = nI w) (hwl : w ≤ 30) (a r : Nat) (nm ld im kp : Nat → Nat) (mn : Nat) (hM : MI x a r nm ld im kp mn) : MC l y_157 prog_8_method_13_code 2 (Option.some Jvm.ClassFile.FieldType.int) 3 D z0 E am ad [] x (fun r x' => (∃ v, r = some (.int v)) ∧ MIx x' ∧ x'.1 2 = nI 0) := by
  refine mc_of hSt rfl (Nat.le_of_ble_eq_true rfl) ?_
  intro h0 h p e s m args below meth c cx hm hs
  refine g_aload_n cx 0 d_8_13_0 rfl rfl ?_
  refine g_iconst cx (v := 0) d_8_13_1 (by decide) ?_
  refine m_put cx (k := 0) hA d_8_13_2 t_898 ⟨by decide, rfl, rfl, rfl, by decide +kernel⟩ hm hs (fun h hm hs => ?_)
  refine g_aload_n cx 0 d_8_13_5 rfl rfl ?_
  refine m_call 3 cx (As := []) (n := 0) (mc_split hSt hA (seti x 0 0) w hw hwl) d_8_13_6 t_997 t_999 ts_26 t_1000 rfl ⟨rfl, by decide +kernel⟩ rfl ⟨by decide, by decide⟩ (Nat.le_of_ble_eq_true rfl) hm hs (fun v6 x6 h hm hs r6 => ?_)
  obtain ⟨rfl, pn, bg, en, hpt, hw6, hf6⟩ := r6
  have hM6 : MI x6 a r nm ld im kp mn := MI.fx (show MI (seti x 0 0) a r nm ld im kp mn from hM) hf6 (by decide) (by decide) (by decide)
  have c392 : ∀ (y : MS) (an : Int32) (hMy : MIx y) (hwy : y.1 2 = nI 0) (h : hp) (hm : Mo D am ad y h) (hs : Sm am ad h0 h), G p l e (rmL 3) s m args below meth c 2 D z0 E (MQp D am ad h0 (fun r x' => (∃ v, r = some (.int v)) ∧ MIx x' ∧ x'.1 2 = nI 0)) 0 0 392 [(1, .int an), (0, .ref am)] [] h 0 0 := by
    intro y an hMy hwy h hm hs
    refine g_iload_n cx 0 d_8_13_392 rfl rfl ?_
    refine g_if_ge cx d_8_13_393 rfl (fun c393 => ?_) (fun c393 => ?_)
    · skip
      refine g_iload_n cx 0 d_8_13_412 rfl rfl ?_
      exact m_iret cx d_8_13_413 rfl rfl hm hs ⟨⟨_, rfl⟩, hMy, hwy⟩
    · skip
      have hMy' : ∀ v, MIx (seti y 0 v) := fun v => by
        obtain ⟨a9, r9, n9, l9, i9, k9, m9, q⟩ := hMy
        exact ⟨a9, r9, n9, l9, i9, k9, m9, q⟩
      refine g_aload_n cx 1 d_8_13_396 rfl rfl ?_
      refine g_iload_n cx 0 d_8_13_397 rfl rfl ?_
      refine g_bipush cx (v := (-2)) d_8_13_398 (by decide) ?_
      refine g_icmp_ne cx d_8_13_400 rfl (fun c400 => ?_) (fun c400 => ?_)
      · skip
        refine g_iconst cx (v := 1) d_8_13_407 (by decide) ?_
        refine m_call 3 cx (As := [.int _]) (n := 1) (mc_fails hSt hA y _) d_8_13_408 t_1066 t_1068 ts_43 t_1069 rfl ⟨rfl, by decide +kernel⟩ rfl ⟨by decide, by decide⟩ (Nat.le_of_ble_eq_true rfl) hm hs (fun v408 x408 h hm hs r408 => ?_)
        obtain ⟨rfl, rfl⟩ := r408
        exact m_iret cx d_8_13_411 rfl rfl hm hs ⟨⟨_, rfl⟩, hMy' _, hwy⟩
      · skip
        refine g_iconst cx (v := 2) d_8_13_403 (by decide) ?_
        refine g_goto cx d_8_13_404 rfl ?_
        refine m_call 3 cx (As := [.int _]) (n := 1) (mc_fails hSt hA y _) d_8_13_408 t_1066 t_1068 ts_43 t_1069 rfl ⟨rfl, by decide +kernel⟩ rfl ⟨by decide, by decide⟩ (Nat.le_of_ble_eq_true rfl) hm hs (fun v408 x408 h hm hs r408 => ?_)
        obtain ⟨rfl, rfl⟩ := r408
        exact m_iret cx d_8_13_411 rfl rfl hm hs ⟨⟨_, rfl⟩, hMy' _, hwy⟩
  have k335 : ∀ (h : hp) (hm : Mo D am ad x6 h) (hs : Sm am ad h0 h), G p l e (rmL 3) s m args below meth c 2 D z0 E (MQp D am ad h0 (fun r x' => (∃ v, r = some (.int v)) ∧ MIx x' ∧ x'.1 2 = nI 0)) 0 0 335 [(1, .int (-1)), (0, .ref am)] [] h 0 0 := by
    intro h hm hs
    refine g_aload_n cx 1 d_8_13_335 rfl rfl ?_
    refine g_iconst cx (v := 0) d_8_13_336 (by decide) ?_
    refine g_bipush cx (v := 102) d_8_13_337 (by decide) ?_
    refine g_bipush cx (v := 105) d_8_13_339 (by decide) ?_
    refine g_bipush cx (v := 114) d_8_13_341 (by decide) ?_
    refine g_bipush cx (v := 115) d_8_13_343 (by decide) ?_
    refine m_call 3 cx (As := [.int (nI 0), .int 102, .int 105, .int 114, .int 115]) (n := 5) (mc_says hSt hA x6 0 pn bg en 102 105 114 115 hpt (by decide)) d_8_13_345 t_1001 t_1003 ts_27 t_1004 rfl ⟨rfl, by decide +kernel⟩ rfl ⟨by decide, by decide⟩ (Nat.le_of_ble_eq_true rfl) hm hs (fun v345 x345 h hm hs r345 => ?_)
    obtain ⟨e9, r9⟩ := r345
    rw [e9] at hm
    rcases r9 with rfl | rfl
    · skip
      refine g_if_eq cx d_8_13_348 rfl (fun c348 => absurd c348 (by decide)) (fun c348 => ?_)
      refine g_aload_n cx 1 d_8_13_351 rfl rfl ?_
      refine g_iconst cx (v := 0) d_8_13_352 (by decide) ?_
      refine g_iconst cx (v := 5) d_8_13_353 (by decide) ?_
      refine m_call 3 cx (As := [.int (nI 0), .int 5]) (n := 2) (mc_isLong hSt hA x6 0 pn bg en 5 hpt (by decide)) d_8_13_354 t_1005 t_1007 ts_28 t_1008 rfl ⟨rfl, by decide +kernel⟩ rfl ⟨by decide, by decide⟩ (Nat.le_of_ble_eq_true rfl) hm hs (fun v354 x354 h hm hs r354 => ?_)
      obtain ⟨e9, r9⟩ := r354
      rw [e9] at hm
      rcases r9 with ⟨rfl, h0p, hl9⟩ | rfl
      · skip
        refine g_if_eq cx d_8_13_357 rfl (fun c357 => absurd c357 (by decide)) (fun c357 => ?_)
        obtain ⟨p1, p2, p3, p4⟩ := hpt.2.2 0 h0p
        have hlen : en 0 = bg 0 + 5 := nI_len (Nat.le_of_lt p3) p4 (by decide) hl9
        refine g_aload_n cx 1 d_8_13_360 rfl rfl ?_
        refine m_get cx (k := 1) d_8_13_361 t_899 ⟨by decide, rfl⟩ hm rfl ?_
        refine g_aload_n cx 1 d_8_13_364 rfl rfl ?_
        refine m_get cx (k := 5) d_8_13_365 t_903 ⟨by decide, rfl⟩ hm rfl ?_
        refine g_iconst cx (v := 0) d_8_13_368 (by decide) ?_
        refine m_ld1 cx d_8_13_369 (by decide) hm (rfl : (0 : Int32) = nI 0) ⟨(show 0 < 15 by decide), by decide⟩ ?_
        refine g_iconst cx (v := 1) d_8_13_370 (by decide) ?_
        refine g_isub cx d_8_13_371 ?_
        refine m_ld2 cx d_8_13_372 (by decide) hm (show x6.2.1 5 0 - 1 = nI (en 0 - 1) by rw [p2]; exact pk_sub (b := 1) (by omega)) ⟨(show en 0 - 1 < 30 by omega), by decide⟩ ?_
        refine g_bipush cx (v := 116) d_8_13_373 (by decide) ?_
        refine g_icmp_ne cx d_8_13_375 rfl (fun c375 => ?_) (fun c375 => ?_)
        · skip
          exact c392 x6 _ (MIx.of hM6) hw6 h hm hs
        · skip
          refine g_aload_n cx 1 d_8_13_378 rfl rfl ?_
          refine m_get cx (k := 3) d_8_13_379 t_901 ⟨by decide, rfl⟩ hm rfl ?_
          refine g_iconst cx (v := 1) d_8_13_382 (by decide) ?_
          refine g_icmp_ne cx d_8_13_383 rfl (fun c383 => ?_) (fun c383 => ?_)
          · skip
            exact c392 x6 _ (MIx.of hM6) hw6 h hm hs
          · skip
            refine g_aload_n cx 1 d_8_13_386 rfl rfl ?_
            refine g_iconst cx (v := 1) d_8_13_387 (by decide) ?_
            refine m_call 3 cx (As := [.int 1]) (n := 1) (mc_ordered hSt hA x6 1 a r nm ld im kp mn hM6) d_8_13_388 t_1062 t_1064 ts_42 t_1065 rfl ⟨rfl, by decide +kernel⟩ rfl ⟨by decide, by decide⟩ (Nat.le_of_ble_eq_true rfl) hm hs (fun v388 x388 h hm hs r388 => ?_)
            obtain ⟨⟨v9, rfl⟩, hM9, hw9⟩ := r388
            refine g_topi (fun an ean => ?_)
            refine g_istore_n cx (lv' := [(1, .int an), (0, .ref am)]) d_8_13_391 rfl (by decide) rfl ?_
            exact c392 _ an hM9 (hw9.trans hw6) h hm hs
      · skip
        refine g_if_eq cx d_8_13_357 rfl (fun c357 => ?_) (fun c357 => absurd rfl c357)
        exact c392 x6 _ (MIx.of hM6) hw6 h hm hs
    · skip
      refine g_if_eq cx d_8_13_348 rfl (fun c348 => ?_) (fun c348 => absurd rfl c348)
      exact c392 x6 _ (MIx.of hM6) hw6 h hm hs
  have k293 : ∀ (h : hp) (hm : Mo D am ad x6 h) (hs : Sm am ad h0 h), G p l e (rmL 3) s m args below meth c 2 D z0 E (MQp D am ad h0 (fun r x' => (∃ v, r = some (.int v)) ∧ MIx x' ∧ x'.1 2 = nI 0)) 0 0 293 [(1, .int (-1)), (0, .ref am)] [] h 0 0 := by
    intro h hm hs
    refine g_aload_n cx 1 d_8_13_293 rfl rfl ?_
    refine g_iconst cx (v := 0) d_8_13_294 (by decide) ?_
    refine g_bipush cx (v := 115) d_8_13_295 (by decide) ?_
    refine g_bipush cx (v := 101) d_8_13_297 (by decide) ?_
    refine g_bipush cx (v := 108) d_8_13_299 (by decide) ?_
    refine g_bipush cx (v := 102) d_8_13_301 (by decide) ?_
    refine m_call 3 cx (As := [.int (nI 0), .int 115, .int 101, .int 108, .int 102]) (n := 5) (mc_says hSt hA x6 0 pn bg en 115 101 108 102 hpt (by decide)) d_8_13_303 t_1001 t_1003 ts_27 t_1004 rfl ⟨rfl, by decide +kernel⟩ rfl ⟨by decide, by decide⟩ (Nat.le_of_ble_eq_true rfl) hm hs (fun v303 x303 h hm hs r303 => ?_)
    obtain ⟨e9, r9⟩ := r303
    rw [e9] at hm
    rcases r9 with rfl | rfl
    · skip
      refine g_if_eq cx d_8_13_306 rfl (fun c306 => absurd c306 (by decide)) (fun c306 => ?_)
      refine g_aload_n cx 1 d_8_13_309 rfl rfl ?_
      refine g_iconst cx (v := 0) d_8_13_310 (by decide) ?_
      refine g_iconst cx (v := 4) d_8_13_311 (by decide) ?_
      refine m_call 3 cx (As := [.int (nI 0), .int 4]) (n := 2) (mc_isLong hSt hA x6 0 pn bg en 4 hpt (by decide)) d_8_13_312 t_1005 t_1007 ts_28 t_1008 rfl ⟨rfl, by decide +kernel⟩ rfl ⟨by decide, by decide⟩ (Nat.le_of_ble_eq_true rfl) hm hs (fun v312 x312 h hm hs r312 => ?_)
      obtain ⟨e9, r9⟩ := r312
      rw [e9] at hm
      rcases r9 with ⟨rfl, h0p, hl9⟩ | rfl
      · skip
        refine g_if_eq cx d_8_13_315 rfl (fun c315 => absurd c315 (by decide)) (fun c315 => ?_)
        obtain ⟨p1, p2, p3, p4⟩ := hpt.2.2 0 h0p
        have hlen : en 0 = bg 0 + 4 := nI_len (Nat.le_of_lt p3) p4 (by decide) hl9
        refine g_aload_n cx 1 d_8_13_318 rfl rfl ?_
        refine m_get cx (k := 3) d_8_13_319 t_901 ⟨by decide, rfl⟩ hm rfl ?_
        refine g_iconst cx (v := 1) d_8_13_322 (by decide) ?_
        refine g_icmp_ne cx d_8_13_323 rfl (fun c323 => ?_) (fun c323 => ?_)
        · skip
          exact k335 h hm hs
        · skip
          refine g_aload_n cx 1 d_8_13_326 rfl rfl ?_
          refine g_iconst cx (v := 0) d_8_13_327 (by decide) ?_
          refine m_call 3 cx (As := [.int 0]) (n := 1) (mc_ordered hSt hA x6 0 a r nm ld im kp mn hM6) d_8_13_328 t_1062 t_1064 ts_42 t_1065 rfl ⟨rfl, by decide +kernel⟩ rfl ⟨by decide, by decide⟩ (Nat.le_of_ble_eq_true rfl) hm hs (fun v328 x328 h hm hs r328 => ?_)
          obtain ⟨⟨v9, rfl⟩, hM9, hw9⟩ := r328
          refine g_topi (fun an ean => ?_)
          refine g_istore_n cx (lv' := [(1, .int an), (0, .ref am)]) d_8_13_331 rfl (by decide) rfl ?_
          refine g_goto cx d_8_13_332 rfl ?_
          exact c392 _ an hM9 (hw9.trans hw6) h hm hs
      · skip
        refine g_if_eq cx d_8_13_315 rfl (fun c315 => ?_) (fun c315 => absurd rfl c315)
        exact k335 h hm hs
    · skip
      refine g_if_eq cx d_8_13_306 rfl (fun c306 => ?_) (fun c306 => absurd rfl c306)
      exact k335 h hm hs
  have k247 : ∀ (h : hp) (hm : Mo D am ad x6 h) (hs : Sm am ad h0 h), G p l e (rmL 3) s m args below meth c 2 D z0 E (MQp D am ad h0 (fun r x' => (∃ v, r = some (.int v)) ∧ MIx x' ∧ x'.1 2 = nI 0)) 0 0 247 [(1, .int (-1)), (0, .ref am)] [] h 0 0 := by
    intro h hm hs
    refine g_aload_n cx 1 d_8_13_247 rfl rfl ?_
    refine g_iconst cx (v := 0) d_8_13_248 (by decide) ?_
    refine g_bipush cx (v := 112) d_8_13_249 (by decide) ?_
    refine g_bipush cx (v := 97) d_8_13_251 (by decide) ?_
    refine g_bipush cx (v := 114) d_8_13_253 (by decide) ?_
    refine g_bipush cx (v := 101) d_8_13_255 (by decide) ?_
    refine m_call 3 cx (As := [.int (nI 0), .int 112, .int 97, .int 114, .int 101]) (n := 5) (mc_says hSt hA x6 0 pn bg en 112 97 114 101 hpt (by decide)) d_8_13_257 t_1001 t_1003 ts_27 t_1004 rfl ⟨rfl, by decide +kernel⟩ rfl ⟨by decide, by decide⟩ (Nat.le_of_ble_eq_true rfl) hm hs (fun v257 x257 h hm hs r257 => ?_)
    obtain ⟨e9, r9⟩ := r257
    rw [e9] at hm
    rcases r9 with rfl | rfl
    · skip
      refine g_if_eq cx d_8_13_260 rfl (fun c260 => absurd c260 (by decide)) (fun c260 => ?_)
      refine g_aload_n cx 1 d_8_13_263 rfl rfl ?_
      refine g_iconst cx (v := 0) d_8_13_264 (by decide) ?_
      refine g_bipush cx (v := 6) d_8_13_265 (by decide) ?_
      refine m_call 3 cx (As := [.int (nI 0), .int 6]) (n := 2) (mc_isLong hSt hA x6 0 pn bg en 6 hpt (by decide)) d_8_13_267 t_1005 t_1007 ts_28 t_1008 rfl ⟨rfl, by decide +kernel⟩ rfl ⟨by decide, by decide⟩ (Nat.le_of_ble_eq_true rfl) hm hs (fun v267 x267 h hm hs r267 => ?_)
      obtain ⟨e9, r9⟩ := r267
      rw [e9] at hm
      rcases r9 with ⟨rfl, h0p, hl9⟩ | rfl
      · skip
        refine g_if_eq cx d_8_13_270 rfl (fun c270 => absurd c270 (by decide)) (fun c270 => ?_)
        obtain ⟨p1, p2, p3, p4⟩ := hpt.2.2 0 h0p
        have hlen : en 0 = bg 0 + 6 := nI_len (Nat.le_of_lt p3) p4 (by decide) hl9
        refine g_aload_n cx 1 d_8_13_273 rfl rfl ?_
        refine g_iconst cx (v := 0) d_8_13_274 (by decide) ?_
        refine g_bipush cx (v := 110) d_8_13_275 (by decide) ?_
        refine g_bipush cx (v := 116) d_8_13_277 (by decide) ?_
        refine m_call 3 cx (As := [.int (nI 0), .int 110, .int 116]) (n := 3) (mc_ends hSt hA x6 0 pn bg en 110 116 hpt h0p (by omega)) d_8_13_279 t_1009 t_1011 ts_29 t_1012 rfl ⟨rfl, by decide +kernel⟩ rfl ⟨by decide, by decide⟩ (Nat.le_of_ble_eq_true rfl) hm hs (fun v279 x279 h hm hs r279 => ?_)
        obtain ⟨e9, r9⟩ := r279
        rw [e9] at hm
        rcases r9 with rfl | rfl
        · skip
          refine g_if_eq cx d_8_13_282 rfl (fun c282 => absurd c282 (by decide)) (fun c282 => ?_)
          refine g_aload_n cx 1 d_8_13_285 rfl rfl ?_
          refine m_call 3 cx (As := []) (n := 0) (mc_newParent hSt hA x6 pn bg en a r nm ld im kp mn hpt hM6) d_8_13_286 t_1058 t_1060 ts_41 t_1061 rfl ⟨rfl, by decide +kernel⟩ rfl ⟨by decide, by decide⟩ (Nat.le_of_ble_eq_true rfl) hm hs (fun v286 x286 h hm hs r286 => ?_)
          obtain ⟨⟨v9, rfl⟩, hM9, hw9⟩ := r286
          refine g_topi (fun an ean => ?_)
          refine g_istore_n cx (lv' := [(1, .int an), (0, .ref am)]) d_8_13_289 rfl (by decide) rfl ?_
          refine g_goto cx d_8_13_290 rfl ?_
          exact c392 _ an hM9 (hw9.trans hw6) h hm hs
        · skip
          refine g_if_eq cx d_8_13_282 rfl (fun c282 => ?_) (fun c282 => absurd rfl c282)
          exact k293 h hm hs
      · skip
        refine g_if_eq cx d_8_13_270 rfl (fun c270 => ?_) (fun c270 => absurd rfl c270)
        exact k293 h hm hs
    · skip
      refine g_if_eq cx d_8_13_260 rfl (fun c260 => ?_) (fun c260 => absurd rfl c260)
      exact k293 h hm hs
  have k201 : ∀ (h : hp) (hm : Mo D am ad x6 h) (hs : Sm am ad h0 h), G p l e (rmL 3) s m args below meth c 2 D z0 E (MQp D am ad h0 (fun r x' => (∃ v, r = some (.int v)) ∧ MIx x' ∧ x'.1 2 = nI 0)) 0 0 201 [(1, .int (-1)), (0, .ref am)] [] h 0 0 := by
    intro h hm hs
    refine g_aload_n cx 1 d_8_13_201 rfl rfl ?_
    refine g_iconst cx (v := 0) d_8_13_202 (by decide) ?_
    refine g_bipush cx (v := 105) d_8_13_203 (by decide) ?_
    refine g_bipush cx (v := 109) d_8_13_205 (by decide) ?_
    refine g_bipush cx (v := 112) d_8_13_207 (by decide) ?_
    refine g_bipush cx (v := 111) d_8_13_209 (by decide) ?_
    refine m_call 3 cx (As := [.int (nI 0), .int 105, .int 109, .int 112, .int 111]) (n := 5) (mc_says hSt hA x6 0 pn bg en 105 109 112 111 hpt (by decide)) d_8_13_211 t_1001 t_1003 ts_27 t_1004 rfl ⟨rfl, by decide +kernel⟩ rfl ⟨by decide, by decide⟩ (Nat.le_of_ble_eq_true rfl) hm hs (fun v211 x211 h hm hs r211 => ?_)
    obtain ⟨e9, r9⟩ := r211
    rw [e9] at hm
    rcases r9 with rfl | rfl
    · skip
      refine g_if_eq cx d_8_13_214 rfl (fun c214 => absurd c214 (by decide)) (fun c214 => ?_)
      refine g_aload_n cx 1 d_8_13_217 rfl rfl ?_
      refine g_iconst cx (v := 0) d_8_13_218 (by decide) ?_
      refine g_bipush cx (v := 6) d_8_13_219 (by decide) ?_
      refine m_call 3 cx (As := [.int (nI 0), .int 6]) (n := 2) (mc_isLong hSt hA x6 0 pn bg en 6 hpt (by decide)) d_8_13_221 t_1005 t_1007 ts_28 t_1008 rfl ⟨rfl, by decide +kernel⟩ rfl ⟨by decide, by decide⟩ (Nat.le_of_ble_eq_true rfl) hm hs (fun v221 x221 h hm hs r221 => ?_)
      obtain ⟨e9, r9⟩ := r221
      rw [e9] at hm
      rcases r9 with ⟨rfl, h0p, hl9⟩ | rfl
      · skip
        refine g_if_eq cx d_8_13_224 rfl (fun c224 => absurd c224 (by decide)) (fun c224 => ?_)
        obtain ⟨p1, p2, p3, p4⟩ := hpt.2.2 0 h0p
        have hlen : en 0 = bg 0 + 6 := nI_len (Nat.le_of_lt p3) p4 (by decide) hl9
        refine g_aload_n cx 1 d_8_13_227 rfl rfl ?_
        refine g_iconst cx (v := 0) d_8_13_228 (by decide) ?_
        refine g_bipush cx (v := 114) d_8_13_229 (by decide) ?_
        refine g_bipush cx (v := 116) d_8_13_231 (by decide) ?_
        refine m_call 3 cx (As := [.int (nI 0), .int 114, .int 116]) (n := 3) (mc_ends hSt hA x6 0 pn bg en 114 116 hpt h0p (by omega)) d_8_13_233 t_1009 t_1011 ts_29 t_1012 rfl ⟨rfl, by decide +kernel⟩ rfl ⟨by decide, by decide⟩ (Nat.le_of_ble_eq_true rfl) hm hs (fun v233 x233 h hm hs r233 => ?_)
        obtain ⟨e9, r9⟩ := r233
        rw [e9] at hm
        rcases r9 with rfl | rfl
        · skip
          refine g_if_eq cx d_8_13_236 rfl (fun c236 => absurd c236 (by decide)) (fun c236 => ?_)
          refine g_aload_n cx 1 d_8_13_239 rfl rfl ?_
          refine m_call 3 cx (As := []) (n := 0) (mc_newImport hSt hA x6 pn bg en a r nm ld im kp mn hpt hM6) d_8_13_240 t_1054 t_1056 ts_40 t_1057 rfl ⟨rfl, by decide +kernel⟩ rfl ⟨by decide, by decide⟩ (Nat.le_of_ble_eq_true rfl) hm hs (fun v240 x240 h hm hs r240 => ?_)
          obtain ⟨⟨v9, rfl⟩, hM9, hw9⟩ := r240
          refine g_topi (fun an ean => ?_)
          refine g_istore_n cx (lv' := [(1, .int an), (0, .ref am)]) d_8_13_243 rfl (by decide) rfl ?_
          refine g_goto cx d_8_13_244 rfl ?_
          exact c392 _ an hM9 (hw9.trans hw6) h hm hs
        · skip
          refine g_if_eq cx d_8_13_236 rfl (fun c236 => ?_) (fun c236 => absurd rfl c236)
          exact k247 h hm hs
      · skip
        refine g_if_eq cx d_8_13_224 rfl (fun c224 => ?_) (fun c224 => absurd rfl c224)
        exact k247 h hm hs
    · skip
      refine g_if_eq cx d_8_13_214 rfl (fun c214 => ?_) (fun c214 => absurd rfl c214)
      exact k247 h hm hs
  have k168 : ∀ (h : hp) (hm : Mo D am ad x6 h) (hs : Sm am ad h0 h), G p l e (rmL 3) s m args below meth c 2 D z0 E (MQp D am ad h0 (fun r x' => (∃ v, r = some (.int v)) ∧ MIx x' ∧ x'.1 2 = nI 0)) 0 0 168 [(1, .int (-1)), (0, .ref am)] [] h 0 0 := by
    intro h hm hs
    refine g_aload_n cx 1 d_8_13_168 rfl rfl ?_
    refine g_iconst cx (v := 0) d_8_13_169 (by decide) ?_
    refine g_bipush cx (v := 108) d_8_13_170 (by decide) ?_
    refine g_bipush cx (v := 111) d_8_13_172 (by decide) ?_
    refine g_bipush cx (v := 97) d_8_13_174 (by decide) ?_
    refine g_bipush cx (v := 100) d_8_13_176 (by decide) ?_
    refine m_call 3 cx (As := [.int (nI 0), .int 108, .int 111, .int 97, .int 100]) (n := 5) (mc_says hSt hA x6 0 pn bg en 108 111 97 100 hpt (by decide)) d_8_13_178 t_1001 t_1003 ts_27 t_1004 rfl ⟨rfl, by decide +kernel⟩ rfl ⟨by decide, by decide⟩ (Nat.le_of_ble_eq_true rfl) hm hs (fun v178 x178 h hm hs r178 => ?_)
    obtain ⟨e9, r9⟩ := r178
    rw [e9] at hm
    rcases r9 with rfl | rfl
    · skip
      refine g_if_eq cx d_8_13_181 rfl (fun c181 => absurd c181 (by decide)) (fun c181 => ?_)
      refine g_aload_n cx 1 d_8_13_184 rfl rfl ?_
      refine g_iconst cx (v := 0) d_8_13_185 (by decide) ?_
      refine g_iconst cx (v := 4) d_8_13_186 (by decide) ?_
      refine m_call 3 cx (As := [.int (nI 0), .int 4]) (n := 2) (mc_isLong hSt hA x6 0 pn bg en 4 hpt (by decide)) d_8_13_187 t_1005 t_1007 ts_28 t_1008 rfl ⟨rfl, by decide +kernel⟩ rfl ⟨by decide, by decide⟩ (Nat.le_of_ble_eq_true rfl) hm hs (fun v187 x187 h hm hs r187 => ?_)
      obtain ⟨e9, r9⟩ := r187
      rw [e9] at hm
      rcases r9 with ⟨rfl, h0p, hl9⟩ | rfl
      · skip
        refine g_if_eq cx d_8_13_190 rfl (fun c190 => absurd c190 (by decide)) (fun c190 => ?_)
        obtain ⟨p1, p2, p3, p4⟩ := hpt.2.2 0 h0p
        have hlen : en 0 = bg 0 + 4 := nI_len (Nat.le_of_lt p3) p4 (by decide) hl9
        refine g_aload_n cx 1 d_8_13_193 rfl rfl ?_
        refine m_call 3 cx (As := []) (n := 0) (mc_loads hSt hA x6 pn bg en a r nm ld im kp mn hpt hM6) d_8_13_194 t_1046 t_1048 ts_38 t_1049 rfl ⟨rfl, by decide +kernel⟩ rfl ⟨by decide, by decide⟩ (Nat.le_of_ble_eq_true rfl) hm hs (fun v194 x194 h hm hs r194 => ?_)
        obtain ⟨⟨v9, rfl⟩, hM9, hw9⟩ := r194
        refine g_topi (fun an ean => ?_)
        refine g_istore_n cx (lv' := [(1, .int an), (0, .ref am)]) d_8_13_197 rfl (by decide) rfl ?_
        refine g_goto cx d_8_13_198 rfl ?_
        exact c392 _ an hM9 (hw9.trans hw6) h hm hs
      · skip
        refine g_if_eq cx d_8_13_190 rfl (fun c190 => ?_) (fun c190 => absurd rfl c190)
        exact k201 h hm hs
    · skip
      refine g_if_eq cx d_8_13_181 rfl (fun c181 => ?_) (fun c181 => absurd rfl c181)
      exact k201 h hm hs
  have k117 : ∀ (h : hp) (hm : Mo D am ad x6 h) (hs : Sm am ad h0 h), G p l e (rmL 3) s m args below meth c 2 D z0 E (MQp D am ad h0 (fun r x' => (∃ v, r = some (.int v)) ∧ MIx x' ∧ x'.1 2 = nI 0)) 0 0 117 [(1, .int (-1)), (0, .ref am)] [] h 0 0 := by
    intro h hm hs
    refine g_aload_n cx 1 d_8_13_117 rfl rfl ?_
    refine g_iconst cx (v := 0) d_8_13_118 (by decide) ?_
    refine g_bipush cx (v := 114) d_8_13_119 (by decide) ?_
    refine g_bipush cx (v := 101) d_8_13_121 (by decide) ?_
    refine g_bipush cx (v := 97) d_8_13_123 (by decide) ?_
    refine g_bipush cx (v := 108) d_8_13_125 (by decide) ?_
    refine m_call 3 cx (As := [.int (nI 0), .int 114, .int 101, .int 97, .int 108]) (n := 5) (mc_says hSt hA x6 0 pn bg en 114 101 97 108 hpt (by decide)) d_8_13_127 t_1001 t_1003 ts_27 t_1004 rfl ⟨rfl, by decide +kernel⟩ rfl ⟨by decide, by decide⟩ (Nat.le_of_ble_eq_true rfl) hm hs (fun v127 x127 h hm hs r127 => ?_)
    obtain ⟨e9, r9⟩ := r127
    rw [e9] at hm
    rcases r9 with rfl | rfl
    · skip
      refine g_if_eq cx d_8_13_130 rfl (fun c130 => absurd c130 (by decide)) (fun c130 => ?_)
      refine g_aload_n cx 1 d_8_13_133 rfl rfl ?_
      refine g_iconst cx (v := 0) d_8_13_134 (by decide) ?_
      refine g_iconst cx (v := 5) d_8_13_135 (by decide) ?_
      refine m_call 3 cx (As := [.int (nI 0), .int 5]) (n := 2) (mc_isLong hSt hA x6 0 pn bg en 5 hpt (by decide)) d_8_13_136 t_1005 t_1007 ts_28 t_1008 rfl ⟨rfl, by decide +kernel⟩ rfl ⟨by decide, by decide⟩ (Nat.le_of_ble_eq_true rfl) hm hs (fun v136 x136 h hm hs r136 => ?_)
      obtain ⟨e9, r9⟩ := r136
      rw [e9] at hm
      rcases r9 with ⟨rfl, h0p, hl9⟩ | rfl
      · skip
        refine g_if_eq cx d_8_13_139 rfl (fun c139 => absurd c139 (by decide)) (fun c139 => ?_)
        obtain ⟨p1, p2, p3, p4⟩ := hpt.2.2 0 h0p
        have hlen : en 0 = bg 0 + 5 := nI_len (Nat.le_of_lt p3) p4 (by decide) hl9
        refine g_aload_n cx 1 d_8_13_142 rfl rfl ?_
        refine m_get cx (k := 1) d_8_13_143 t_899 ⟨by decide, rfl⟩ hm rfl ?_
        refine g_aload_n cx 1 d_8_13_146 rfl rfl ?_
        refine m_get cx (k := 5) d_8_13_147 t_903 ⟨by decide, rfl⟩ hm rfl ?_
        refine g_iconst cx (v := 0) d_8_13_150 (by decide) ?_
        refine m_ld1 cx d_8_13_151 (by decide) hm (rfl : (0 : Int32) = nI 0) ⟨(show 0 < 15 by decide), by decide⟩ ?_
        refine g_iconst cx (v := 1) d_8_13_152 (by decide) ?_
        refine g_isub cx d_8_13_153 ?_
        refine m_ld2 cx d_8_13_154 (by decide) hm (show x6.2.1 5 0 - 1 = nI (en 0 - 1) by rw [p2]; exact pk_sub (b := 1) (by omega)) ⟨(show en 0 - 1 < 30 by omega), by decide⟩ ?_
        refine g_bipush cx (v := 109) d_8_13_155 (by decide) ?_
        refine g_icmp_ne cx d_8_13_157 rfl (fun c157 => ?_) (fun c157 => ?_)
        · skip
          exact k168 h hm hs
        · skip
          refine g_aload_n cx 1 d_8_13_160 rfl rfl ?_
          refine m_call 3 cx (As := []) (n := 0) (mc_newRealm hSt hA x6 pn bg en a r nm ld im kp mn hpt hM6) d_8_13_161 t_1038 t_1040 ts_36 t_1041 rfl ⟨rfl, by decide +kernel⟩ rfl ⟨by decide, by decide⟩ (Nat.le_of_ble_eq_true rfl) hm hs (fun v161 x161 h hm hs r161 => ?_)
          obtain ⟨⟨v9, rfl⟩, hM9, hw9⟩ := r161
          refine g_topi (fun an ean => ?_)
          refine g_istore_n cx (lv' := [(1, .int an), (0, .ref am)]) d_8_13_164 rfl (by decide) rfl ?_
          refine g_goto cx d_8_13_165 rfl ?_
          exact c392 _ an hM9 (hw9.trans hw6) h hm hs
      · skip
        refine g_if_eq cx d_8_13_139 rfl (fun c139 => ?_) (fun c139 => absurd rfl c139)
        exact k168 h hm hs
    · skip
      refine g_if_eq cx d_8_13_130 rfl (fun c130 => ?_) (fun c130 => absurd rfl c130)
      exact k168 h hm hs
  have k84 : ∀ (h : hp) (hm : Mo D am ad x6 h) (hs : Sm am ad h0 h), G p l e (rmL 3) s m args below meth c 2 D z0 E (MQp D am ad h0 (fun r x' => (∃ v, r = some (.int v)) ∧ MIx x' ∧ x'.1 2 = nI 0)) 0 0 84 [(1, .int (-1)), (0, .ref am)] [] h 0 0 := by
    intro h hm hs
    refine g_aload_n cx 1 d_8_13_84 rfl rfl ?_
    refine g_iconst cx (v := 0) d_8_13_85 (by decide) ?_
    refine g_bipush cx (v := 110) d_8_13_86 (by decide) ?_
    refine g_bipush cx (v := 97) d_8_13_88 (by decide) ?_
    refine g_bipush cx (v := 109) d_8_13_90 (by decide) ?_
    refine g_bipush cx (v := 101) d_8_13_92 (by decide) ?_
    refine m_call 3 cx (As := [.int (nI 0), .int 110, .int 97, .int 109, .int 101]) (n := 5) (mc_says hSt hA x6 0 pn bg en 110 97 109 101 hpt (by decide)) d_8_13_94 t_1001 t_1003 ts_27 t_1004 rfl ⟨rfl, by decide +kernel⟩ rfl ⟨by decide, by decide⟩ (Nat.le_of_ble_eq_true rfl) hm hs (fun v94 x94 h hm hs r94 => ?_)
    obtain ⟨e9, r9⟩ := r94
    rw [e9] at hm
    rcases r9 with rfl | rfl
    · skip
      refine g_if_eq cx d_8_13_97 rfl (fun c97 => absurd c97 (by decide)) (fun c97 => ?_)
      refine g_aload_n cx 1 d_8_13_100 rfl rfl ?_
      refine g_iconst cx (v := 0) d_8_13_101 (by decide) ?_
      refine g_iconst cx (v := 4) d_8_13_102 (by decide) ?_
      refine m_call 3 cx (As := [.int (nI 0), .int 4]) (n := 2) (mc_isLong hSt hA x6 0 pn bg en 4 hpt (by decide)) d_8_13_103 t_1005 t_1007 ts_28 t_1008 rfl ⟨rfl, by decide +kernel⟩ rfl ⟨by decide, by decide⟩ (Nat.le_of_ble_eq_true rfl) hm hs (fun v103 x103 h hm hs r103 => ?_)
      obtain ⟨e9, r9⟩ := r103
      rw [e9] at hm
      rcases r9 with ⟨rfl, h0p, hl9⟩ | rfl
      · skip
        refine g_if_eq cx d_8_13_106 rfl (fun c106 => absurd c106 (by decide)) (fun c106 => ?_)
        obtain ⟨p1, p2, p3, p4⟩ := hpt.2.2 0 h0p
        have hlen : en 0 = bg 0 + 4 := nI_len (Nat.le_of_lt p3) p4 (by decide) hl9
        refine g_aload_n cx 1 d_8_13_109 rfl rfl ?_
        refine m_call 3 cx (As := []) (n := 0) (mc_newName hSt hA x6 pn bg en a r nm ld im kp mn hpt hM6) d_8_13_110 t_1030 t_1032 ts_34 t_1033 rfl ⟨rfl, by decide +kernel⟩ rfl ⟨by decide, by decide⟩ (Nat.le_of_ble_eq_true rfl) hm hs (fun v110 x110 h hm hs r110 => ?_)
        obtain ⟨⟨v9, rfl⟩, hM9, hw9⟩ := r110
        refine g_topi (fun an ean => ?_)
        refine g_istore_n cx (lv' := [(1, .int an), (0, .ref am)]) d_8_13_113 rfl (by decide) rfl ?_
        refine g_goto cx d_8_13_114 rfl ?_
        exact c392 _ an hM9 (hw9.trans hw6) h hm hs
      · skip
        refine g_if_eq cx d_8_13_106 rfl (fun c106 => ?_) (fun c106 => absurd rfl c106)
        exact k117 h hm hs
    · skip
      refine g_if_eq cx d_8_13_97 rfl (fun c97 => ?_) (fun c97 => absurd rfl c97)
      exact k117 h hm hs
  have k20 : ∀ (h : hp) (hm : Mo D am ad x6 h) (hs : Sm am ad h0 h), G p l e (rmL 3) s m args below meth c 2 D z0 E (MQp D am ad h0 (fun r x' => (∃ v, r = some (.int v)) ∧ MIx x' ∧ x'.1 2 = nI 0)) 0 0 20 [(1, .int (-1)), (0, .ref am)] [] h 0 0 := by
    intro h hm hs
    refine g_aload_n cx 1 d_8_13_20 rfl rfl ?_
    refine g_iconst cx (v := 0) d_8_13_21 (by decide) ?_
    refine g_bipush cx (v := 97) d_8_13_22 (by decide) ?_
    refine g_bipush cx (v := 114) d_8_13_24 (by decide) ?_
    refine g_bipush cx (v := 99) d_8_13_26 (by decide) ?_
    refine g_bipush cx (v := 104) d_8_13_28 (by decide) ?_
    refine m_call 3 cx (As := [.int (nI 0), .int 97, .int 114, .int 99, .int 104]) (n := 5) (mc_says hSt hA x6 0 pn bg en 97 114 99 104 hpt (by decide)) d_8_13_30 t_1001 t_1003 ts_27 t_1004 rfl ⟨rfl, by decide +kernel⟩ rfl ⟨by decide, by decide⟩ (Nat.le_of_ble_eq_true rfl) hm hs (fun v30 x30 h hm hs r30 => ?_)
    obtain ⟨e9, r9⟩ := r30
    rw [e9] at hm
    rcases r9 with rfl | rfl
    · skip
      refine g_if_eq cx d_8_13_33 rfl (fun c33 => absurd c33 (by decide)) (fun c33 => ?_)
      refine g_aload_n cx 1 d_8_13_36 rfl rfl ?_
      refine g_iconst cx (v := 0) d_8_13_37 (by decide) ?_
      refine g_bipush cx (v := 7) d_8_13_38 (by decide) ?_
      refine m_call 3 cx (As := [.int (nI 0), .int 7]) (n := 2) (mc_isLong hSt hA x6 0 pn bg en 7 hpt (by decide)) d_8_13_40 t_1005 t_1007 ts_28 t_1008 rfl ⟨rfl, by decide +kernel⟩ rfl ⟨by decide, by decide⟩ (Nat.le_of_ble_eq_true rfl) hm hs (fun v40 x40 h hm hs r40 => ?_)
      obtain ⟨e9, r9⟩ := r40
      rw [e9] at hm
      rcases r9 with ⟨rfl, h0p, hl9⟩ | rfl
      · skip
        refine g_if_eq cx d_8_13_43 rfl (fun c43 => absurd c43 (by decide)) (fun c43 => ?_)
        obtain ⟨p1, p2, p3, p4⟩ := hpt.2.2 0 h0p
        have hlen : en 0 = bg 0 + 7 := nI_len (Nat.le_of_lt p3) p4 (by decide) hl9
        refine g_aload_n cx 1 d_8_13_46 rfl rfl ?_
        refine m_get cx (k := 1) d_8_13_47 t_899 ⟨by decide, rfl⟩ hm rfl ?_
        refine g_aload_n cx 1 d_8_13_50 rfl rfl ?_
        refine m_get cx (k := 4) d_8_13_51 t_902 ⟨by decide, rfl⟩ hm rfl ?_
        refine g_iconst cx (v := 0) d_8_13_54 (by decide) ?_
        refine m_ld1 cx d_8_13_55 (by decide) hm (rfl : (0 : Int32) = nI 0) ⟨(show 0 < 15 by decide), by decide⟩ ?_
        refine g_iconst cx (v := 4) d_8_13_56 (by decide) ?_
        refine g_iadd cx d_8_13_57 ?_
        refine m_ld2 cx d_8_13_58 (by decide) hm (show x6.2.1 4 0 + 4 = nI (bg 0 + 4) by rw [p1]; exact nI_add (bg 0) 4) ⟨(show bg 0 + 4 < 30 by omega), by decide⟩ ?_
        refine g_bipush cx (v := 105) d_8_13_59 (by decide) ?_
        refine g_icmp_ne cx d_8_13_61 rfl (fun c61 => ?_) (fun c61 => ?_)
        · skip
          exact k84 h hm hs
        · skip
          refine g_aload_n cx 1 d_8_13_64 rfl rfl ?_
          refine g_iconst cx (v := 0) d_8_13_65 (by decide) ?_
          refine g_bipush cx (v := 118) d_8_13_66 (by decide) ?_
          refine g_bipush cx (v := 101) d_8_13_68 (by decide) ?_
          refine m_call 3 cx (As := [.int (nI 0), .int 118, .int 101]) (n := 3) (mc_ends hSt hA x6 0 pn bg en 118 101 hpt h0p (by omega)) d_8_13_70 t_1009 t_1011 ts_29 t_1012 rfl ⟨rfl, by decide +kernel⟩ rfl ⟨by decide, by decide⟩ (Nat.le_of_ble_eq_true rfl) hm hs (fun v70 x70 h hm hs r70 => ?_)
          obtain ⟨e9, r9⟩ := r70
          rw [e9] at hm
          rcases r9 with rfl | rfl
          · skip
            refine g_if_eq cx d_8_13_73 rfl (fun c73 => absurd c73 (by decide)) (fun c73 => ?_)
            refine g_aload_n cx 1 d_8_13_76 rfl rfl ?_
            refine m_call 3 cx (As := []) (n := 0) (mc_newArchive hSt hA x6 pn bg en a r nm ld im kp mn hpt hM6) d_8_13_77 t_1013 t_1015 ts_30 t_1016 rfl ⟨rfl, by decide +kernel⟩ rfl ⟨by decide, by decide⟩ (Nat.le_of_ble_eq_true rfl) hm hs (fun v77 x77 h hm hs r77 => ?_)
            obtain ⟨⟨v9, rfl⟩, hM9, hw9⟩ := r77
            refine g_topi (fun an ean => ?_)
            refine g_istore_n cx (lv' := [(1, .int an), (0, .ref am)]) d_8_13_80 rfl (by decide) rfl ?_
            refine g_goto cx d_8_13_81 rfl ?_
            exact c392 _ an hM9 (hw9.trans hw6) h hm hs
          · skip
            refine g_if_eq cx d_8_13_73 rfl (fun c73 => ?_) (fun c73 => absurd rfl c73)
            exact k84 h hm hs
      · skip
        refine g_if_eq cx d_8_13_43 rfl (fun c43 => ?_) (fun c43 => absurd rfl c43)
        exact k84 h hm hs
    · skip
      refine g_if_eq cx d_8_13_33 rfl (fun c33 => ?_) (fun c33 => absurd rfl c33)
      exact k84 h hm hs
  refine g_aload_n cx 0 d_8_13_9 rfl rfl ?_
  refine m_get cx (k := 3) d_8_13_10 t_901 ⟨by decide, rfl⟩ hm rfl ?_
  refine g_if_ne cx d_8_13_13 rfl (fun c13 => ?_) (fun c13 => ?_)
  · skip
    refine g_iconst cx (v := (-1)) d_8_13_18 (by decide) ?_
    refine g_topi (fun an ean => ?_)
    obtain rfl : an = -1 := ean
    refine g_istore_n cx (lv' := [(1, .int (-1)), (0, .ref am)]) d_8_13_19 rfl (by decide) rfl ?_
    exact k20 h hm hs
  · skip
    refine g_iconst cx (v := 0) d_8_13_16 (by decide) ?_
    exact m_iret cx d_8_13_17 rfl rfl hm hs ⟨⟨_, rfl⟩, MIx.of hM6, hw6⟩
set_option maxHeartbeats 4000000 in
theorem mc_realm (hSt : Stb z0 E) (hA : Ad am ad) (x : MS) (w : Nat) (hw : x.1 2 = nI w) (hwl : w ≤ 30) (a r : Nat) (nm ld im kp : Nat → Nat) (mn : Nat) (hM : MI x a r nm ld im kp mn) : MC l y_196 prog_8_method_43_code 2 (Option.some Jvm.ClassFile.FieldType.int) 3 D z0 E am ad [] x (fun r x' => (∃ v, r = some (.int v)) ∧ MIx x' ∧ x'.1 2 = nI 0) := by
  refine mc_of hSt rfl (Nat.le_of_ble_eq_true rfl) ?_
  intro h0 h p e s m args below meth c cx hm hs
  refine g_aload_n cx 0 d_8_43_0 rfl rfl ?_
  refine g_iconst cx (v := 0) d_8_43_1 (by decide) ?_
  refine m_put cx (k := 0) hA d_8_43_2 t_898 ⟨by decide, rfl, rfl, rfl, by decide +kernel⟩ hm hs (fun h hm hs => ?_)
  refine g_aload_n cx 0 d_8_43_5 rfl rfl ?_
  refine m_call 3 cx (As := []) (n := 0) (mc_split hSt hA (seti x 0 0) w hw hwl) d_8_43_6 t_997 t_999 ts_26 t_1000 rfl ⟨rfl, by decide +kernel⟩ rfl ⟨by decide, by decide⟩ (Nat.le_of_ble_eq_true rfl) hm hs (fun v6 x6 h hm hs r6 => ?_)
  obtain ⟨rfl, pn, bg, en, hpt, hw6, hf6⟩ := r6
  have hM6 : MI x6 a r nm ld im kp mn := MI.fx (show MI (seti x 0 0) a r nm ld im kp mn from hM) hf6 (by decide) (by decide) (by decide)
  have c27 : ∀ (w1 : Int32) (h : hp) (hm : Mo D am ad x6 h) (hs : Sm am ad h0 h), G p l e (rmL 3) s m args below meth c 2 D z0 E (MQp D am ad h0 (fun r x' => (∃ v, r = some (.int v)) ∧ MIx x' ∧ x'.1 2 = nI 0)) 0 0 27 [(1, .int w1), (0, .ref am)] [] h 0 0 := by
    intro w1 h hm hs
    refine g_iload_n cx 0 d_8_43_27 rfl rfl ?_
    refine g_if_ne cx d_8_43_28 rfl (fun c28 => ?_) (fun c28 => ?_)
    · skip
      refine g_aload_n cx 1 d_8_43_35 rfl rfl ?_
      refine g_iload_n cx 0 d_8_43_36 rfl rfl ?_
      refine m_call 3 cx (As := [.int w1]) (n := 1) (mc_realmOf hSt hA x6 w1 r hM6.2.1.1 hM6.2.1.2) d_8_43_37 t_1042 t_1044 ts_37 t_1045 rfl ⟨rfl, by decide +kernel⟩ rfl ⟨by decide, by decide⟩ (Nat.le_of_ble_eq_true rfl) hm hs (fun v37 x37 h hm hs r37 => ?_)
      obtain ⟨e9, r9⟩ := r37
      rw [e9] at hm
      rcases r9 with ⟨j, hj, rfl⟩ | rfl
      · skip
        exact m_iret cx d_8_43_40 rfl rfl hm hs ⟨⟨_, rfl⟩, MIx.of hM6, hw6⟩
      · skip
        exact m_iret cx d_8_43_40 rfl rfl hm hs ⟨⟨_, rfl⟩, MIx.of hM6, hw6⟩
    · skip
      refine g_iconst cx (v := (-1)) d_8_43_31 (by decide) ?_
      refine g_goto cx d_8_43_32 rfl ?_
      exact m_iret cx d_8_43_40 rfl rfl hm hs ⟨⟨_, rfl⟩, MIx.of hM6, hw6⟩
  refine g_aload_n cx 0 d_8_43_9 rfl rfl ?_
  refine m_get cx (k := 3) d_8_43_10 t_901 ⟨by decide, rfl⟩ hm rfl ?_
  refine g_iconst cx (v := 1) d_8_43_13 (by decide) ?_
  refine g_icmp_ne cx d_8_43_14 rfl (fun c14 => ?_) (fun c14 => ?_)
  · skip
    refine g_iconst cx (v := 0) d_8_43_25 (by decide) ?_
    refine g_topi (fun w1 ew1 => ?_)
    refine g_istore_n cx (lv' := [(1, .int w1), (0, .ref am)]) d_8_43_26 rfl (by decide) rfl ?_
    exact c27 w1 h hm hs
  · skip
    refine g_aload_n cx 0 d_8_43_17 rfl rfl ?_
    refine g_iconst cx (v := 0) d_8_43_18 (by decide) ?_
    refine m_call 3 cx (As := [.int (nI 0)]) (n := 1) (mc_wordOf hSt hA x6 0 pn bg en hpt (by decide)) d_8_43_19 t_1017 t_1019 ts_31 t_1020 rfl ⟨rfl, by decide +kernel⟩ rfl ⟨by decide, by decide⟩ (Nat.le_of_ble_eq_true rfl) hm hs (fun v19 x19 h hm hs r19 => ?_)
    obtain ⟨e19, V19, rfl⟩ := r19
    rw [e19] at hm
    refine g_goto cx d_8_43_22 rfl ?_
    refine g_topi (fun w1 ew1 => ?_)
    refine g_istore_n cx (lv' := [(1, .int w1), (0, .ref am)]) d_8_43_26 rfl (by decide) rfl ?_
    exact c27 w1 h hm hs
end M7
end
section
/-! Static methods of the reference; byImports, ownPlace. -/
def SC (l : Launch) (y : MethodName) (cc : ByteArray) (maxL : Nat) (ret : Option FieldType) (lev : Nat) (D : va_G) (z0 : Nat) (E : State → Prop) (as' : List Value) (Rel : Option Value → Prop) : Prop :=
  Ctr l y cc maxL ret (rmL lev) D z0 E (fun as _ => as = as') (fun _ h o h' => ∃ r, o = .returned r ∧ h' = h ∧ Rel r)
abbrev SQp (h0 : hp) (Rel : Option Value → Prop) : Outcome → hp → Prop := fun o h' => ∃ r, o = .returned r ∧ h' = h0 ∧ Rel r
theorem sc_of {l : Launch} {y : MethodName} {cc : ByteArray} {maxL lev : Nat} {ret : Option FieldType} {D : va_G} {z0 : Nat} {E : State → Prop} {as' : List Value} {Rel : Option Value → Prop} (hSt : Stb z0 E) (hy : y.cls = "RealmDeskModel") (hsz : (lg_sl as').length ≤ maxL)
    (body : ∀ (h0 : hp) (p : Program) (e : Env) (s : State) (m : MethodId) (args : Array Value) (below : List Frame) (meth : Method) (c : Code), Cx p (rmL lev) s m args meth c cc "RealmDeskModel" maxL ret D z0 E 0 0 →
      G p l e (rmL lev) s m args below meth c maxL D z0 E (SQp h0 Rel) 0 0 0 (lv_args 0 as') [] h0 0 0) : SC l y cc maxL ret lev D z0 E as' Rel := by
  refine ctr_of hSt (by rw [hy]; decide) (fun as h q => by rw [q]; exact hsz) ?_
  intro as h q p e s m args below meth c cx
  subst q
  rw [hy] at cx
  exact body h p e s m args below meth c cx
section MS8
variable {p : Program} {l : Launch} {e : Env} {R : Room} {s : State} {m : MethodId} {args : Array Value} {below : List Frame} {meth : Method} {c : Code} {cc : ByteArray} {own : String} {nL : Nat} {ret : Option FieldType} {D : va_G} {z0 : Nat} {E : State → Prop} {Qp : Outcome → hp → Prop} {mc ms pc : Nat} {lv lv' : List (Nat × Value)} {st rest : List Value} {h : hp} {rc rs : Nat}
theorem m_callS (lev : Nat) (C : Cx p R s m args meth c cc "RealmDeskModel" nL ret D z0 E mc ms) {idx n maxL' lev' : Nat} {y : MethodName} {cc' : ByteArray} {ret' : Option FieldType} {As : List Value} {Rel' : Option Value → Prop} (hc : SC l y cc' maxL' ret' lev' D z0 E As Rel') (hd : decode cc pc = .ok (.invokestatic idx, 3)) (w1 : Cond.methodLink "RealmDeskModel" idx y ∈ lw_g) (w2 : Cond.static y ∈ lw_g) (w5 : Cond.code y cc' maxL' ret' ∈ lw_g) (hy : y.cls = "RealmDeskModel") (hn : As.length = n ∧ (parseMethodDescriptor y.desc).map (fun d => d.parameters.length) = some n) (hR : R = rmL lev) (hlev : lev' + 1 ≤ lev ∧ maxL' ≤ 41) (hW : (rest.map fun v => v.category).sum ≤ 8)
    (kr : ∀ (v : Option Value), Rel' v → G p l e R s m args below meth c nL D z0 E Qp mc ms (pc + 3) lv (v.toList ++ rest) h rc rs) : G p l e R s m args below meth c nL D z0 E Qp mc ms pc lv (As.reverse ++ rest) h rc rs := by
  subst hR
  refine g_callS C hc hd w1 w2 (by rw [hy]; exact t_9) w5 ⟨by rw [hy]; decide, by rw [hy]; decide, hn.2⟩ hn.1 rfl ⟨hlev.1, by show 8 + (maxL' + 11) + 60 * lev' ≤ 60 * lev; omega⟩ hW ⟨Nat.zero_le _, Nat.zero_le _⟩ ?_ ?_
  · intro v h' hq
    obtain ⟨r, e, rfl, hrel⟩ := hq
    cases e
    exact kr v hrel
  · intro z h' hq
    obtain ⟨r, e, -⟩ := hq
    cases e
end MS8
section M8
variable {l : Launch} {D : va_G} {z0 : Nat} {E : State → Prop} {am : Nat} {ad : Nat → Nat}
set_option maxHeartbeats 4000000 in
theorem sc_lettersOf (hSt : Stb z0 E) (V : Int64) : SC l y_183 prog_8_method_23_code 4 (Option.some Jvm.ClassFile.FieldType.int) 0 D z0 E [.long V] (fun r => ∃ v, r = some (.int v)) := by
  refine sc_of hSt rfl (Nat.le_of_ble_eq_true rfl) ?_
  intro h0 p e s m args below meth c cx
  have lp : ∀ (n j : Nat) (z : Int32), j ≤ 4 → 4 - j < n → G p l e (rmL 0) s m args below meth c 4 D z0 E (SQp h0 (fun r => ∃ v, r = some (.int v))) 0 0 4 [(3, .int (nI (5 * j))), (2, .int z), (0, .long V)] [] h0 0 0 := by
    intro n
    induction n with
    | zero => intro j z hj0 hn; exact absurd hn (Nat.not_lt_zero _)
    | succ n ih =>
      intro j z hj0 hn
      refine g_iload_n cx 0 d_8_23_4 rfl rfl ?_
      refine g_bipush cx (v := 20) d_8_23_5 (by decide) ?_
      refine g_icmp_ge cx d_8_23_7 rfl (fun c7 => ?_) (fun c7 => ?_)
      · skip
        refine g_iload_n cx 1 d_8_23_37 rfl rfl ?_
        exact g_iret cx d_8_23_38 rfl rfl ⟨_, rfl, rfl, _, rfl⟩
      · skip
        have hj : 5 * j < 20 := Nat.lt_of_not_le (fun q => c7 (nI_le (a := 20) q (by omega)))
        refine g_lload_n cx 2 d_8_23_10 rfl rfl ?_
        refine g_iload_n cx 0 d_8_23_11 rfl rfl ?_
        refine g_lshr cx d_8_23_12 ?_
        refine g_ldc2 cx d_8_23_13 t_1101 ?_
        refine g_land cx d_8_23_16 ?_
        refine g_lconst cx (v := 0) d_8_23_17 (by decide) ?_
        refine g_lcmp cx d_8_23_18 ?_
        refine g_if_le cx d_8_23_19 rfl (fun c19 => ?_) (fun c19 => ?_)
        · skip
          refine g_iload_n cx 1 d_8_23_28 rfl rfl ?_
          refine g_topi (fun z1 ez1 => ?_)
          refine g_istore_n cx (lv' := [(2, .int z1), (3, .int (nI (5 * j))), (0, .long V)]) d_8_23_29 rfl (by decide) rfl ?_
          refine g_iload_n cx 1 d_8_23_30 rfl rfl ?_
          refine g_iconst cx (v := 5) d_8_23_31 (by decide) ?_
          refine g_iadd cx d_8_23_32 ?_
          refine g_topi (fun k1 ek1 => ?_)
          obtain rfl : k1 = nI (5 * (j + 1)) := ek1.trans ((nI_add (5 * j) 5).trans (congrArg nI (by omega)))
          refine g_istore_n cx (lv' := [(3, .int (nI (5 * (j + 1)))), (2, .int z1), (0, .long V)]) d_8_23_33 rfl (by decide) rfl ?_
          refine g_goto cx d_8_23_34 rfl ?_
          exact ih (j + 1) z1 (by omega) (by omega)
        · skip
          refine g_iload_n cx 1 d_8_23_22 rfl rfl ?_
          refine g_iconst cx (v := 1) d_8_23_23 (by decide) ?_
          refine g_iadd cx d_8_23_24 ?_
          refine g_goto cx d_8_23_25 rfl ?_
          refine g_topi (fun z1 ez1 => ?_)
          refine g_istore_n cx (lv' := [(2, .int z1), (3, .int (nI (5 * j))), (0, .long V)]) d_8_23_29 rfl (by decide) rfl ?_
          refine g_iload_n cx 1 d_8_23_30 rfl rfl ?_
          refine g_iconst cx (v := 5) d_8_23_31 (by decide) ?_
          refine g_iadd cx d_8_23_32 ?_
          refine g_topi (fun k1 ek1 => ?_)
          obtain rfl : k1 = nI (5 * (j + 1)) := ek1.trans ((nI_add (5 * j) 5).trans (congrArg nI (by omega)))
          refine g_istore_n cx (lv' := [(3, .int (nI (5 * (j + 1)))), (2, .int z1), (0, .long V)]) d_8_23_33 rfl (by decide) rfl ?_
          refine g_goto cx d_8_23_34 rfl ?_
          exact ih (j + 1) z1 (by omega) (by omega)
  refine g_iconst cx (v := 0) d_8_23_0 (by decide) ?_
  refine g_topi (fun z0' ez0' => ?_)
  refine g_istore_n cx (lv' := [(2, .int z0'), (0, .long V)]) d_8_23_1 rfl (by decide) rfl ?_
  refine g_iconst cx (v := 0) d_8_23_2 (by decide) ?_
  refine g_topi (fun k0 ek0 => ?_)
  obtain rfl : k0 = nI (5 * 0) := ek0
  refine g_istore_n cx (lv' := [(3, .int (nI (5 * 0))), (2, .int z0'), (0, .long V)]) d_8_23_3 rfl (by decide) rfl ?_
  exact lp 5 0 z0' (by omega) (by omega)
set_option maxHeartbeats 4000000 in
theorem sc_size (hSt : Stb z0 E) (V : Int64) : SC l y_182 prog_8_method_24_code 6 (Option.some Jvm.ClassFile.FieldType.int) 1 D z0 E [.long V] (fun r => ∃ v, r = some (.int v)) := by
  refine sc_of hSt rfl (Nat.le_of_ble_eq_true rfl) ?_
  intro h0 p e s m args below meth c cx
  refine g_lload_n cx 0 d_8_24_0 rfl rfl ?_
  refine g_bipush cx (v := 20) d_8_24_1 (by decide) ?_
  refine g_lshr cx d_8_24_3 ?_
  refine g_ldc2 cx d_8_24_4 t_1097 ?_
  refine g_land cx d_8_24_7 ?_
  refine g_topl (fun B eB => ?_)
  refine g_lstore_n cx (lv' := [(2, .long B), (0, .long V)]) d_8_24_8 rfl (by decide) rfl ?_
  refine g_lload_n cx 1 d_8_24_9 rfl rfl ?_
  refine g_ldc2 cx d_8_24_10 t_1097 ?_
  refine g_land cx d_8_24_13 ?_
  refine g_topl (fun C9 eC9 => ?_)
  refine g_lstore cx (lv' := [(4, .long C9), (2, .long B), (0, .long V)]) d_8_24_14 (by decide) rfl ?_
  refine g_lload_n cx 2 d_8_24_16 rfl rfl ?_
  refine g_bipush cx (v := 40) d_8_24_17 (by decide) ?_
  refine g_lshr cx d_8_24_19 ?_
  refine m_callS 1 cx (As := [.long _]) (n := 1) (sc_lettersOf hSt _) d_8_24_20 t_1098 t_1099 t_1100 rfl ⟨rfl, by decide +kernel⟩ rfl ⟨by decide, by decide⟩ (Nat.le_of_ble_eq_true rfl) (fun v20 r20 => ?_)
  obtain ⟨u20, rfl⟩ := r20
  refine g_lload_n cx 1 d_8_24_23 rfl rfl ?_
  refine g_lconst cx (v := 0) d_8_24_24 (by decide) ?_
  refine g_lcmp cx d_8_24_25 ?_
  refine g_if_le cx d_8_24_26 rfl (fun c26 => ?_) (fun c26 => ?_)
  · skip
    refine g_iconst cx (v := 0) d_8_24_38 (by decide) ?_
    refine g_iadd cx d_8_24_39 ?_
    refine g_lload cx 0 d_8_24_40 rfl ?_
    refine g_lconst cx (v := 0) d_8_24_42 (by decide) ?_
    refine g_lcmp cx d_8_24_43 ?_
    refine g_if_le cx d_8_24_44 rfl (fun c44 => ?_) (fun c44 => ?_)
    · skip
      refine g_iconst cx (v := 0) d_8_24_57 (by decide) ?_
      refine g_iadd cx d_8_24_58 ?_
      exact g_iret cx d_8_24_59 rfl rfl ⟨_, rfl, rfl, _, rfl⟩
    · skip
      refine g_iconst cx (v := 1) d_8_24_47 (by decide) ?_
      refine g_lload cx 0 d_8_24_48 rfl ?_
      refine m_callS 1 cx (As := [.long _]) (n := 1) (sc_lettersOf hSt _) d_8_24_50 t_1098 t_1099 t_1100 rfl ⟨rfl, by decide +kernel⟩ rfl ⟨by decide, by decide⟩ (Nat.le_of_ble_eq_true rfl) (fun v50 r50 => ?_)
      obtain ⟨u50, rfl⟩ := r50
      refine g_iadd cx d_8_24_53 ?_
      refine g_goto cx d_8_24_54 rfl ?_
      refine g_iadd cx d_8_24_58 ?_
      exact g_iret cx d_8_24_59 rfl rfl ⟨_, rfl, rfl, _, rfl⟩
  · skip
    refine g_iconst cx (v := 1) d_8_24_29 (by decide) ?_
    refine g_lload_n cx 1 d_8_24_30 rfl rfl ?_
    refine m_callS 1 cx (As := [.long _]) (n := 1) (sc_lettersOf hSt _) d_8_24_31 t_1098 t_1099 t_1100 rfl ⟨rfl, by decide +kernel⟩ rfl ⟨by decide, by decide⟩ (Nat.le_of_ble_eq_true rfl) (fun v31 r31 => ?_)
    obtain ⟨u31, rfl⟩ := r31
    refine g_iadd cx d_8_24_34 ?_
    refine g_goto cx d_8_24_35 rfl ?_
    refine g_iadd cx d_8_24_39 ?_
    refine g_lload cx 0 d_8_24_40 rfl ?_
    refine g_lconst cx (v := 0) d_8_24_42 (by decide) ?_
    refine g_lcmp cx d_8_24_43 ?_
    refine g_if_le cx d_8_24_44 rfl (fun c44 => ?_) (fun c44 => ?_)
    · skip
      refine g_iconst cx (v := 0) d_8_24_57 (by decide) ?_
      refine g_iadd cx d_8_24_58 ?_
      exact g_iret cx d_8_24_59 rfl rfl ⟨_, rfl, rfl, _, rfl⟩
    · skip
      refine g_iconst cx (v := 1) d_8_24_47 (by decide) ?_
      refine g_lload cx 0 d_8_24_48 rfl ?_
      refine m_callS 1 cx (As := [.long _]) (n := 1) (sc_lettersOf hSt _) d_8_24_50 t_1098 t_1099 t_1100 rfl ⟨rfl, by decide +kernel⟩ rfl ⟨by decide, by decide⟩ (Nat.le_of_ble_eq_true rfl) (fun v50 r50 => ?_)
      obtain ⟨u50, rfl⟩ := r50
      refine g_iadd cx d_8_24_53 ?_
      refine g_goto cx d_8_24_54 rfl ?_
      refine g_iadd cx d_8_24_58 ?_
      exact g_iret cx d_8_24_59 rfl rfl ⟨_, rfl, rfl, _, rfl⟩
set_option maxHeartbeats 4000000 in
theorem sc_liesIn (hSt : Stb z0 E) (V U : Int64) : SC l y_184 prog_8_method_25_code 6 (Option.some Jvm.ClassFile.FieldType.boolean) 0 D z0 E [.long V, .long U] (fun r => r = some (.int 1) ∨ r = some (.int 0)) := by
  refine sc_of hSt rfl (Nat.le_of_ble_eq_true rfl) ?_
  intro h0 p e s m args below meth c cx
  refine g_lload_n cx 1 d_8_25_0 rfl rfl ?_
  refine g_bipush cx (v := 20) d_8_25_1 (by decide) ?_
  refine g_lshr cx d_8_25_3 ?_
  refine g_ldc2 cx d_8_25_4 t_1097 ?_
  refine g_land cx d_8_25_7 ?_
  refine g_lconst cx (v := 0) d_8_25_8 (by decide) ?_
  refine g_lcmp cx d_8_25_9 ?_
  refine g_if_le cx d_8_25_10 rfl (fun c10 => ?_) (fun c10 => ?_)
  · skip
    refine g_iconst cx (v := 0) d_8_25_17 (by decide) ?_
    refine g_topi (fun s2 es2 => ?_)
    refine g_istore cx (lv' := [(4, .int s2), (0, .long V), (2, .long U)]) d_8_25_18 (by decide) rfl ?_
    refine g_lload_n cx 2 d_8_25_20 rfl rfl ?_
    refine g_ldc2 cx d_8_25_21 t_1097 ?_
    refine g_land cx d_8_25_24 ?_
    refine g_lconst cx (v := 0) d_8_25_25 (by decide) ?_
    refine g_lcmp cx d_8_25_26 ?_
    refine g_if_le cx d_8_25_27 rfl (fun c27 => ?_) (fun c27 => ?_)
    · skip
      refine g_iconst cx (v := 0) d_8_25_34 (by decide) ?_
      refine g_topi (fun s3 es3 => ?_)
      refine g_istore cx (lv' := [(5, .int s3), (4, .int s2), (0, .long V), (2, .long U)]) d_8_25_35 (by decide) rfl ?_
      refine g_iload cx 0 d_8_25_37 rfl ?_
      refine g_if_eq cx d_8_25_39 rfl (fun c39 => ?_) (fun c39 => ?_)
      · skip
        refine g_iload cx 1 d_8_25_56 rfl ?_
        refine g_if_eq cx d_8_25_58 rfl (fun c58 => ?_) (fun c58 => ?_)
        · skip
          refine g_lload_n cx 2 d_8_25_81 rfl rfl ?_
          refine g_bipush cx (v := 40) d_8_25_82 (by decide) ?_
          refine g_lshr cx d_8_25_84 ?_
          refine g_lload_n cx 3 d_8_25_85 rfl rfl ?_
          refine g_bipush cx (v := 40) d_8_25_86 (by decide) ?_
          refine g_lshr cx d_8_25_88 ?_
          refine g_lcmp cx d_8_25_89 ?_
          refine g_if_ne cx d_8_25_90 rfl (fun c90 => ?_) (fun c90 => ?_)
          · skip
            refine g_iconst cx (v := 0) d_8_25_97 (by decide) ?_
            first
              | exact g_iret cx d_8_25_98 rfl rfl ⟨_, rfl, rfl, Or.inl rfl⟩
              | exact g_iret cx d_8_25_98 rfl rfl ⟨_, rfl, rfl, Or.inr rfl⟩
          · skip
            refine g_iconst cx (v := 1) d_8_25_93 (by decide) ?_
            refine g_goto cx d_8_25_94 rfl ?_
            first
              | exact g_iret cx d_8_25_98 rfl rfl ⟨_, rfl, rfl, Or.inl rfl⟩
              | exact g_iret cx d_8_25_98 rfl rfl ⟨_, rfl, rfl, Or.inr rfl⟩
        · skip
          refine g_lload_n cx 2 d_8_25_61 rfl rfl ?_
          refine g_bipush cx (v := 20) d_8_25_62 (by decide) ?_
          refine g_lshr cx d_8_25_64 ?_
          refine g_lload_n cx 3 d_8_25_65 rfl rfl ?_
          refine g_bipush cx (v := 20) d_8_25_66 (by decide) ?_
          refine g_lshr cx d_8_25_68 ?_
          refine g_lcmp cx d_8_25_69 ?_
          refine g_if_ne cx d_8_25_70 rfl (fun c70 => ?_) (fun c70 => ?_)
          · skip
            refine g_iconst cx (v := 0) d_8_25_77 (by decide) ?_
            refine g_goto cx d_8_25_78 rfl ?_
            first
              | exact g_iret cx d_8_25_98 rfl rfl ⟨_, rfl, rfl, Or.inl rfl⟩
              | exact g_iret cx d_8_25_98 rfl rfl ⟨_, rfl, rfl, Or.inr rfl⟩
          · skip
            refine g_iconst cx (v := 1) d_8_25_73 (by decide) ?_
            refine g_goto cx d_8_25_74 rfl ?_
            first
              | exact g_iret cx d_8_25_98 rfl rfl ⟨_, rfl, rfl, Or.inl rfl⟩
              | exact g_iret cx d_8_25_98 rfl rfl ⟨_, rfl, rfl, Or.inr rfl⟩
      · skip
        refine g_lload_n cx 2 d_8_25_42 rfl rfl ?_
        refine g_lload_n cx 3 d_8_25_43 rfl rfl ?_
        refine g_lcmp cx d_8_25_44 ?_
        refine g_if_ne cx d_8_25_45 rfl (fun c45 => ?_) (fun c45 => ?_)
        · skip
          refine g_iconst cx (v := 0) d_8_25_52 (by decide) ?_
          refine g_goto cx d_8_25_53 rfl ?_
          first
            | exact g_iret cx d_8_25_98 rfl rfl ⟨_, rfl, rfl, Or.inl rfl⟩
            | exact g_iret cx d_8_25_98 rfl rfl ⟨_, rfl, rfl, Or.inr rfl⟩
        · skip
          refine g_iconst cx (v := 1) d_8_25_48 (by decide) ?_
          refine g_goto cx d_8_25_49 rfl ?_
          first
            | exact g_iret cx d_8_25_98 rfl rfl ⟨_, rfl, rfl, Or.inl rfl⟩
            | exact g_iret cx d_8_25_98 rfl rfl ⟨_, rfl, rfl, Or.inr rfl⟩
    · skip
      refine g_iconst cx (v := 1) d_8_25_30 (by decide) ?_
      refine g_goto cx d_8_25_31 rfl ?_
      refine g_topi (fun s3 es3 => ?_)
      refine g_istore cx (lv' := [(5, .int s3), (4, .int s2), (0, .long V), (2, .long U)]) d_8_25_35 (by decide) rfl ?_
      refine g_iload cx 0 d_8_25_37 rfl ?_
      refine g_if_eq cx d_8_25_39 rfl (fun c39 => ?_) (fun c39 => ?_)
      · skip
        refine g_iload cx 1 d_8_25_56 rfl ?_
        refine g_if_eq cx d_8_25_58 rfl (fun c58 => ?_) (fun c58 => ?_)
        · skip
          refine g_lload_n cx 2 d_8_25_81 rfl rfl ?_
          refine g_bipush cx (v := 40) d_8_25_82 (by decide) ?_
          refine g_lshr cx d_8_25_84 ?_
          refine g_lload_n cx 3 d_8_25_85 rfl rfl ?_
          refine g_bipush cx (v := 40) d_8_25_86 (by decide) ?_
          refine g_lshr cx d_8_25_88 ?_
          refine g_lcmp cx d_8_25_89 ?_
          refine g_if_ne cx d_8_25_90 rfl (fun c90 => ?_) (fun c90 => ?_)
          · skip
            refine g_iconst cx (v := 0) d_8_25_97 (by decide) ?_
            first
              | exact g_iret cx d_8_25_98 rfl rfl ⟨_, rfl, rfl, Or.inl rfl⟩
              | exact g_iret cx d_8_25_98 rfl rfl ⟨_, rfl, rfl, Or.inr rfl⟩
          · skip
            refine g_iconst cx (v := 1) d_8_25_93 (by decide) ?_
            refine g_goto cx d_8_25_94 rfl ?_
            first
              | exact g_iret cx d_8_25_98 rfl rfl ⟨_, rfl, rfl, Or.inl rfl⟩
              | exact g_iret cx d_8_25_98 rfl rfl ⟨_, rfl, rfl, Or.inr rfl⟩
        · skip
          refine g_lload_n cx 2 d_8_25_61 rfl rfl ?_
          refine g_bipush cx (v := 20) d_8_25_62 (by decide) ?_
          refine g_lshr cx d_8_25_64 ?_
          refine g_lload_n cx 3 d_8_25_65 rfl rfl ?_
          refine g_bipush cx (v := 20) d_8_25_66 (by decide) ?_
          refine g_lshr cx d_8_25_68 ?_
          refine g_lcmp cx d_8_25_69 ?_
          refine g_if_ne cx d_8_25_70 rfl (fun c70 => ?_) (fun c70 => ?_)
          · skip
            refine g_iconst cx (v := 0) d_8_25_77 (by decide) ?_
            refine g_goto cx d_8_25_78 rfl ?_
            first
              | exact g_iret cx d_8_25_98 rfl rfl ⟨_, rfl, rfl, Or.inl rfl⟩
              | exact g_iret cx d_8_25_98 rfl rfl ⟨_, rfl, rfl, Or.inr rfl⟩
          · skip
            refine g_iconst cx (v := 1) d_8_25_73 (by decide) ?_
            refine g_goto cx d_8_25_74 rfl ?_
            first
              | exact g_iret cx d_8_25_98 rfl rfl ⟨_, rfl, rfl, Or.inl rfl⟩
              | exact g_iret cx d_8_25_98 rfl rfl ⟨_, rfl, rfl, Or.inr rfl⟩
      · skip
        refine g_lload_n cx 2 d_8_25_42 rfl rfl ?_
        refine g_lload_n cx 3 d_8_25_43 rfl rfl ?_
        refine g_lcmp cx d_8_25_44 ?_
        refine g_if_ne cx d_8_25_45 rfl (fun c45 => ?_) (fun c45 => ?_)
        · skip
          refine g_iconst cx (v := 0) d_8_25_52 (by decide) ?_
          refine g_goto cx d_8_25_53 rfl ?_
          first
            | exact g_iret cx d_8_25_98 rfl rfl ⟨_, rfl, rfl, Or.inl rfl⟩
            | exact g_iret cx d_8_25_98 rfl rfl ⟨_, rfl, rfl, Or.inr rfl⟩
        · skip
          refine g_iconst cx (v := 1) d_8_25_48 (by decide) ?_
          refine g_goto cx d_8_25_49 rfl ?_
          first
            | exact g_iret cx d_8_25_98 rfl rfl ⟨_, rfl, rfl, Or.inl rfl⟩
            | exact g_iret cx d_8_25_98 rfl rfl ⟨_, rfl, rfl, Or.inr rfl⟩
  · skip
    refine g_iconst cx (v := 1) d_8_25_13 (by decide) ?_
    refine g_goto cx d_8_25_14 rfl ?_
    refine g_topi (fun s2 es2 => ?_)
    refine g_istore cx (lv' := [(4, .int s2), (0, .long V), (2, .long U)]) d_8_25_18 (by decide) rfl ?_
    refine g_lload_n cx 2 d_8_25_20 rfl rfl ?_
    refine g_ldc2 cx d_8_25_21 t_1097 ?_
    refine g_land cx d_8_25_24 ?_
    refine g_lconst cx (v := 0) d_8_25_25 (by decide) ?_
    refine g_lcmp cx d_8_25_26 ?_
    refine g_if_le cx d_8_25_27 rfl (fun c27 => ?_) (fun c27 => ?_)
    · skip
      refine g_iconst cx (v := 0) d_8_25_34 (by decide) ?_
      refine g_topi (fun s3 es3 => ?_)
      refine g_istore cx (lv' := [(5, .int s3), (4, .int s2), (0, .long V), (2, .long U)]) d_8_25_35 (by decide) rfl ?_
      refine g_iload cx 0 d_8_25_37 rfl ?_
      refine g_if_eq cx d_8_25_39 rfl (fun c39 => ?_) (fun c39 => ?_)
      · skip
        refine g_iload cx 1 d_8_25_56 rfl ?_
        refine g_if_eq cx d_8_25_58 rfl (fun c58 => ?_) (fun c58 => ?_)
        · skip
          refine g_lload_n cx 2 d_8_25_81 rfl rfl ?_
          refine g_bipush cx (v := 40) d_8_25_82 (by decide) ?_
          refine g_lshr cx d_8_25_84 ?_
          refine g_lload_n cx 3 d_8_25_85 rfl rfl ?_
          refine g_bipush cx (v := 40) d_8_25_86 (by decide) ?_
          refine g_lshr cx d_8_25_88 ?_
          refine g_lcmp cx d_8_25_89 ?_
          refine g_if_ne cx d_8_25_90 rfl (fun c90 => ?_) (fun c90 => ?_)
          · skip
            refine g_iconst cx (v := 0) d_8_25_97 (by decide) ?_
            first
              | exact g_iret cx d_8_25_98 rfl rfl ⟨_, rfl, rfl, Or.inl rfl⟩
              | exact g_iret cx d_8_25_98 rfl rfl ⟨_, rfl, rfl, Or.inr rfl⟩
          · skip
            refine g_iconst cx (v := 1) d_8_25_93 (by decide) ?_
            refine g_goto cx d_8_25_94 rfl ?_
            first
              | exact g_iret cx d_8_25_98 rfl rfl ⟨_, rfl, rfl, Or.inl rfl⟩
              | exact g_iret cx d_8_25_98 rfl rfl ⟨_, rfl, rfl, Or.inr rfl⟩
        · skip
          refine g_lload_n cx 2 d_8_25_61 rfl rfl ?_
          refine g_bipush cx (v := 20) d_8_25_62 (by decide) ?_
          refine g_lshr cx d_8_25_64 ?_
          refine g_lload_n cx 3 d_8_25_65 rfl rfl ?_
          refine g_bipush cx (v := 20) d_8_25_66 (by decide) ?_
          refine g_lshr cx d_8_25_68 ?_
          refine g_lcmp cx d_8_25_69 ?_
          refine g_if_ne cx d_8_25_70 rfl (fun c70 => ?_) (fun c70 => ?_)
          · skip
            refine g_iconst cx (v := 0) d_8_25_77 (by decide) ?_
            refine g_goto cx d_8_25_78 rfl ?_
            first
              | exact g_iret cx d_8_25_98 rfl rfl ⟨_, rfl, rfl, Or.inl rfl⟩
              | exact g_iret cx d_8_25_98 rfl rfl ⟨_, rfl, rfl, Or.inr rfl⟩
          · skip
            refine g_iconst cx (v := 1) d_8_25_73 (by decide) ?_
            refine g_goto cx d_8_25_74 rfl ?_
            first
              | exact g_iret cx d_8_25_98 rfl rfl ⟨_, rfl, rfl, Or.inl rfl⟩
              | exact g_iret cx d_8_25_98 rfl rfl ⟨_, rfl, rfl, Or.inr rfl⟩
      · skip
        refine g_lload_n cx 2 d_8_25_42 rfl rfl ?_
        refine g_lload_n cx 3 d_8_25_43 rfl rfl ?_
        refine g_lcmp cx d_8_25_44 ?_
        refine g_if_ne cx d_8_25_45 rfl (fun c45 => ?_) (fun c45 => ?_)
        · skip
          refine g_iconst cx (v := 0) d_8_25_52 (by decide) ?_
          refine g_goto cx d_8_25_53 rfl ?_
          first
            | exact g_iret cx d_8_25_98 rfl rfl ⟨_, rfl, rfl, Or.inl rfl⟩
            | exact g_iret cx d_8_25_98 rfl rfl ⟨_, rfl, rfl, Or.inr rfl⟩
        · skip
          refine g_iconst cx (v := 1) d_8_25_48 (by decide) ?_
          refine g_goto cx d_8_25_49 rfl ?_
          first
            | exact g_iret cx d_8_25_98 rfl rfl ⟨_, rfl, rfl, Or.inl rfl⟩
            | exact g_iret cx d_8_25_98 rfl rfl ⟨_, rfl, rfl, Or.inr rfl⟩
    · skip
      refine g_iconst cx (v := 1) d_8_25_30 (by decide) ?_
      refine g_goto cx d_8_25_31 rfl ?_
      refine g_topi (fun s3 es3 => ?_)
      refine g_istore cx (lv' := [(5, .int s3), (4, .int s2), (0, .long V), (2, .long U)]) d_8_25_35 (by decide) rfl ?_
      refine g_iload cx 0 d_8_25_37 rfl ?_
      refine g_if_eq cx d_8_25_39 rfl (fun c39 => ?_) (fun c39 => ?_)
      · skip
        refine g_iload cx 1 d_8_25_56 rfl ?_
        refine g_if_eq cx d_8_25_58 rfl (fun c58 => ?_) (fun c58 => ?_)
        · skip
          refine g_lload_n cx 2 d_8_25_81 rfl rfl ?_
          refine g_bipush cx (v := 40) d_8_25_82 (by decide) ?_
          refine g_lshr cx d_8_25_84 ?_
          refine g_lload_n cx 3 d_8_25_85 rfl rfl ?_
          refine g_bipush cx (v := 40) d_8_25_86 (by decide) ?_
          refine g_lshr cx d_8_25_88 ?_
          refine g_lcmp cx d_8_25_89 ?_
          refine g_if_ne cx d_8_25_90 rfl (fun c90 => ?_) (fun c90 => ?_)
          · skip
            refine g_iconst cx (v := 0) d_8_25_97 (by decide) ?_
            first
              | exact g_iret cx d_8_25_98 rfl rfl ⟨_, rfl, rfl, Or.inl rfl⟩
              | exact g_iret cx d_8_25_98 rfl rfl ⟨_, rfl, rfl, Or.inr rfl⟩
          · skip
            refine g_iconst cx (v := 1) d_8_25_93 (by decide) ?_
            refine g_goto cx d_8_25_94 rfl ?_
            first
              | exact g_iret cx d_8_25_98 rfl rfl ⟨_, rfl, rfl, Or.inl rfl⟩
              | exact g_iret cx d_8_25_98 rfl rfl ⟨_, rfl, rfl, Or.inr rfl⟩
        · skip
          refine g_lload_n cx 2 d_8_25_61 rfl rfl ?_
          refine g_bipush cx (v := 20) d_8_25_62 (by decide) ?_
          refine g_lshr cx d_8_25_64 ?_
          refine g_lload_n cx 3 d_8_25_65 rfl rfl ?_
          refine g_bipush cx (v := 20) d_8_25_66 (by decide) ?_
          refine g_lshr cx d_8_25_68 ?_
          refine g_lcmp cx d_8_25_69 ?_
          refine g_if_ne cx d_8_25_70 rfl (fun c70 => ?_) (fun c70 => ?_)
          · skip
            refine g_iconst cx (v := 0) d_8_25_77 (by decide) ?_
            refine g_goto cx d_8_25_78 rfl ?_
            first
              | exact g_iret cx d_8_25_98 rfl rfl ⟨_, rfl, rfl, Or.inl rfl⟩
              | exact g_iret cx d_8_25_98 rfl rfl ⟨_, rfl, rfl, Or.inr rfl⟩
          · skip
            refine g_iconst cx (v := 1) d_8_25_73 (by decide) ?_
            refine g_goto cx d_8_25_74 rfl ?_
            first
              | exact g_iret cx d_8_25_98 rfl rfl ⟨_, rfl, rfl, Or.inl rfl⟩
              | exact g_iret cx d_8_25_98 rfl rfl ⟨_, rfl, rfl, Or.inr rfl⟩
      · skip
        refine g_lload_n cx 2 d_8_25_42 rfl rfl ?_
        refine g_lload_n cx 3 d_8_25_43 rfl rfl ?_
        refine g_lcmp cx d_8_25_44 ?_
        refine g_if_ne cx d_8_25_45 rfl (fun c45 => ?_) (fun c45 => ?_)
        · skip
          refine g_iconst cx (v := 0) d_8_25_52 (by decide) ?_
          refine g_goto cx d_8_25_53 rfl ?_
          first
            | exact g_iret cx d_8_25_98 rfl rfl ⟨_, rfl, rfl, Or.inl rfl⟩
            | exact g_iret cx d_8_25_98 rfl rfl ⟨_, rfl, rfl, Or.inr rfl⟩
        · skip
          refine g_iconst cx (v := 1) d_8_25_48 (by decide) ?_
          refine g_goto cx d_8_25_49 rfl ?_
          first
            | exact g_iret cx d_8_25_98 rfl rfl ⟨_, rfl, rfl, Or.inl rfl⟩
            | exact g_iret cx d_8_25_98 rfl rfl ⟨_, rfl, rfl, Or.inr rfl⟩
set_option maxHeartbeats 4000000 in
theorem mc_ownPlace (hSt : Stb z0 E) (hA : Ad am ad) (x : MS) (q : Nat) (nv : Int64) (nm ld : Nat → Nat) (hq : q < 8) (hLd : ILd x ld) (hLo : ILo x) (hNm : INm x nm) : MC l y_187 prog_8_method_30_code 5 (Option.some Jvm.ClassFile.FieldType.int) 2 D z0 E am ad [.int (nI q), .long nv] x (fun r x' => Fx [] [9] [] x x' ∧ ((∃ g, g < 128 ∧ r = some (.int (nI g)) ∧ ∃ b t, b < 6 ∧ t < nm b ∧ nv = x.2.2 10 (6 * b + t)) ∨ r = some (.int (-1)))) := by
  refine mc_of hSt rfl (Nat.le_of_ble_eq_true rfl) ?_
  intro h0 h p e s m args below meth c cx hm hs
  refine g_aload_n cx 0 d_8_30_0 rfl rfl ?_
  refine g_iload_n cx 1 d_8_30_1 rfl rfl ?_
  refine g_lload_n cx 2 d_8_30_2 rfl rfl ?_
  refine m_call 2 cx (As := [.int (nI q), .long nv]) (n := 2) (mc_own hSt hA x q (ld q) nv nm hq (hLd q hq).1 (hLd q hq).2 hLo hNm) d_8_30_3 t_1105 t_1107 ts_49 t_1108 rfl ⟨rfl, by decide +kernel⟩ rfl ⟨by decide, by decide⟩ (Nat.le_of_ble_eq_true rfl) hm hs (fun v3 x3 h hm hs r3 => ?_)
  obtain ⟨e3, r3⟩ := r3
  rw [e3] at hm
  rcases r3 with ⟨g, hg, rfl, j, hj, hjx⟩ | rfl
  · skip
    refine g_topi (fun a1 ea1 => ?_)
    obtain rfl : a1 = nI g := ea1
    refine g_istore cx (lv' := [(4, .int (nI g)), (0, .ref am), (1, .int (nI q)), (2, .long nv)]) d_8_30_6 (by decide) rfl ?_
    refine g_iload cx 0 d_8_30_8 rfl ?_
    refine g_if_ge cx d_8_30_10 rfl (fun c10 => ?_) (fun c10 => absurd (nI_pos' (by omega)) c10)
    refine g_aload_n cx 1 d_8_30_17 rfl rfl ?_
    refine g_iload_n cx 2 d_8_30_18 rfl rfl ?_
    refine g_iload cx 0 d_8_30_19 rfl ?_
    refine m_call 2 cx (As := [.int (nI q), .int (nI g)]) (n := 2) (mc_found hSt hA x (nI q) g hg) d_8_30_21 t_1109 t_1111 ts_50 t_1112 rfl ⟨rfl, by decide +kernel⟩ rfl ⟨by decide, by decide⟩ (Nat.le_of_ble_eq_true rfl) hm hs (fun v21 x21 h hm hs r21 => ?_)
    obtain ⟨rfl, rfl⟩ := r21
    exact m_iret cx d_8_30_24 rfl rfl hm hs ⟨Fx.rf.a (by decide), Or.inl ⟨16 * q + g, by omega, by rw [show (16 : Int32) = nI 16 from rfl, pk_mul, nI_add], g, j, hg, hj, hjx.symm⟩⟩
  · skip
    refine g_topi (fun a1 ea1 => ?_)
    obtain rfl : a1 = -1 := ea1
    refine g_istore cx (lv' := [(4, .int (-1)), (0, .ref am), (1, .int (nI q)), (2, .long nv)]) d_8_30_6 (by decide) rfl ?_
    refine g_iload cx 0 d_8_30_8 rfl ?_
    refine g_if_ge cx d_8_30_10 rfl (fun c10 => absurd c10 (by decide)) (fun c10 => ?_)
    refine g_iconst cx (v := (-1)) d_8_30_13 (by decide) ?_
    refine g_goto cx d_8_30_14 rfl ?_
    exact m_iret cx d_8_30_24 rfl rfl hm hs ⟨Fx.rf, Or.inr rfl⟩
set_option maxHeartbeats 4000000 in
theorem mc_byImports (hSt : Stb z0 E) (hA : Ad am ad) (x : MS) (q : Nat) (nv : Int64) (nm ld : Nat → Nat) (hq : q < 8) (hLd : ILd x ld) (hLo : ILo x) (hNm : INm x nm) (im : Nat → Nat) (mn : Nat) (hIm : IIm x im) (hFr : IFr x) (hMn : x.1 25 = nI mn) (hml : mn < 2 ^ 21) : MC l y_181 prog_8_method_28_code 7 (Option.some Jvm.ClassFile.FieldType.int) 3 D z0 E am ad [.int (nI q), .long nv] x (fun r x' => Fx [25] [9, 28] [] x x' ∧ (∃ mk, x'.1 25 = nI mk ∧ mk ≤ mn + 56) ∧ ((∃ g, g < 128 ∧ r = some (.int (nI g)) ∧ ∃ b t, b < 6 ∧ t < nm b ∧ nv = x.2.2 10 (6 * b + t)) ∨ r = some (.int (-1)))) := by
  refine mc_of hSt rfl (Nat.le_of_ble_eq_true rfl) ?_
  intro h0 h p e s m args below meth c cx hm hs
  have hb : 4 * nI q + x.2.1 15 q = nI (4 * q + im q) := by rw [(hIm q hq).1, show (4 : Int32) = nI 4 from rfl, pk_mul, nI_add]
  have hq4 := (hIm q hq).2
  have lp : ∀ (n sz : Nat) (y : MS) (mk : Nat) (h : hp) (hm : Mo D am ad y h) (hs : Sm am ad h0 h) (hf : Fx [25] [9, 28] [] x y) (hk25 : y.1 25 = nI mk), sz ≤ 14 → mk + 4 * sz ≤ mn + 56 → sz < n → G p l e (rmL 3) s m args below meth c 7 D z0 E (MQp D am ad h0 (fun r x' => Fx [25] [9, 28] [] x x' ∧ (∃ mk, x'.1 25 = nI mk ∧ mk ≤ mn + 56) ∧ ((∃ g, g < 128 ∧ r = some (.int (nI g)) ∧ ∃ b t, b < 6 ∧ t < nm b ∧ nv = x.2.2 10 (6 * b + t)) ∨ r = some (.int (-1))))) 0 0 4 [(4, .int (nI sz)), (0, .ref am), (1, .int (nI q)), (2, .long nv)] [] h 0 0 := by
    intro n
    induction n with
    | zero => intro sz y mk h hm hs hf hk25 h14 hpo hn; exact absurd hn (Nat.not_lt_zero _)
    | succ n ih =>
      intro sz y mk h hm hs hf hk25 h14 hpo hn
      refine g_iload cx 0 d_8_28_4 rfl ?_
      refine g_if_le cx d_8_28_6 rfl (fun c6 => ?_) (fun c6 => ?_)
      · skip
        refine g_iconst cx (v := (-1)) d_8_28_129 (by decide) ?_
        exact m_iret cx d_8_28_130 rfl rfl hm hs ⟨hf, ⟨mk, hk25, by omega⟩, Or.inr rfl⟩
      · skip
        have hsz : 0 < sz := Nat.pos_of_ne_zero (fun z => c6 (by rw [z]; decide))
        have lk : ∀ (n2 k : Nat) (y : MS) (mk : Nat) (h : hp) (hm : Mo D am ad y h) (hs : Sm am ad h0 h) (hf : Fx [25] [9, 28] [] x y) (hk25 : y.1 25 = nI mk), 4 * q ≤ k → k ≤ 4 * q + im q → mk + 4 * (sz - 1) + (4 * q + im q - k) ≤ mn + 56 → 4 * q + im q - k < n2 → G p l e (rmL 3) s m args below meth c 7 D z0 E (MQp D am ad h0 (fun r x' => Fx [25] [9, 28] [] x x' ∧ (∃ mk, x'.1 25 = nI mk ∧ mk ≤ mn + 56) ∧ ((∃ g, g < 128 ∧ r = some (.int (nI g)) ∧ ∃ b t, b < 6 ∧ t < nm b ∧ nv = x.2.2 10 (6 * b + t)) ∨ r = some (.int (-1))))) 0 0 14 [(5, .int (nI k)), (4, .int (nI sz)), (0, .ref am), (1, .int (nI q)), (2, .long nv)] [] h 0 0 := by
          intro n2
          induction n2 with
          | zero => intro k y mk h hm hs hf hk25 hk0 hk1 hpo hn2; exact absurd hn2 (Nat.not_lt_zero _)
          | succ n2 ihk =>
            intro k y mk h hm hs hf hk25 hk0 hk1' hpo hn2
            refine g_iload cx 0 d_8_28_14 rfl ?_
            refine g_iconst cx (v := 4) d_8_28_16 (by decide) ?_
            refine g_iload_n cx 3 d_8_28_17 rfl rfl ?_
            refine g_imul cx d_8_28_18 ?_
            refine g_aload_n cx 2 d_8_28_19 rfl rfl ?_
            refine m_get cx (k := 15) d_8_28_20 t_913 ⟨by decide, rfl⟩ hm rfl ?_
            refine g_iload_n cx 3 d_8_28_23 rfl rfl ?_
            refine m_ld1 cx d_8_28_24 (by decide) hm rfl ⟨(show q < 8 from hq), by decide⟩ ?_
            refine g_iadd cx d_8_28_25 ?_
            refine g_icmp_ge cx d_8_28_26 rfl (fun c26 => ?_) (fun c26 => ?_)
            · skip
              refine g_iinc cx 1 (lv' := [(4, .int (nI (sz - 1))), (5, .int (nI k)), (0, .ref am), (1, .int (nI q)), (2, .long nv)]) d_8_28_123 rfl (by rw [show (Int32.ofInt (-1)) = -1 from rfl]; exact sb_m1 (by omega)) (by decide) rfl ?_
              refine g_goto cx d_8_28_126 rfl ?_
              refine g_loc (lv' := [(4, .int (nI (sz - 1))), (0, .ref am), (1, .int (nI q)), (2, .long nv)]) [0, 2, 3, 4] rfl ?_
              exact ih (sz - 1) y mk h hm hs hf hk25 (by omega) (by omega) (by omega)
            · skip
              have hk : k < 4 * q + im q := Nat.lt_of_not_le (fun z => c26 (by rw [show y.2.1 15 q = x.2.1 15 q from congrFun (hf.2.1 15 (by decide)) q, hb]; exact nI_le z (by omega)))
              obtain ⟨f, hf8, hfx⟩ := hFr k (by omega)
              have hfy : y.2.1 16 k = nI f := (congrFun (hf.2.1 16 (by decide)) k).trans hfx
              refine g_aload_n cx 2 d_8_28_29 rfl rfl ?_
              refine m_get cx (k := 20) d_8_28_30 t_918 ⟨by decide, rfl⟩ hm rfl ?_
              refine g_iload cx 0 d_8_28_33 rfl ?_
              refine m_ld3 cx d_8_28_35 (by decide) hm rfl ⟨(show k < 32 by omega), by decide⟩ ?_
              refine m_callS 3 cx (As := [.long _]) (n := 1) (sc_size hSt _) d_8_28_36 t_1094 t_1095 t_1096 rfl ⟨rfl, by decide +kernel⟩ rfl ⟨by decide, by decide⟩ (Nat.le_of_ble_eq_true rfl) (fun v36 r36 => ?_)
              obtain ⟨u36, rfl⟩ := r36
              refine g_iload cx 1 d_8_28_39 rfl ?_
              refine g_icmp_ne cx d_8_28_41 rfl (fun c41 => ?_) (fun c41 => ?_)
              · skip
                refine g_iinc cx 0 (lv' := [(5, .int (nI (k + 1))), (4, .int (nI sz)), (0, .ref am), (1, .int (nI q)), (2, .long nv)]) d_8_28_117 rfl (inc1 k) (by decide) rfl ?_
                refine g_goto cx d_8_28_120 rfl ?_
                exact ihk (k + 1) y mk h hm hs hf hk25 (by omega) (by omega) (by omega) (by omega)
              · skip
                refine g_lload_n cx 4 d_8_28_44 rfl rfl ?_
                refine g_aload_n cx 2 d_8_28_45 rfl rfl ?_
                refine m_get cx (k := 20) d_8_28_46 t_918 ⟨by decide, rfl⟩ hm rfl ?_
                refine g_iload cx 0 d_8_28_49 rfl ?_
                refine m_ld3 cx d_8_28_51 (by decide) hm rfl ⟨(show k < 32 by omega), by decide⟩ ?_
                refine m_callS 3 cx (As := [.long _, .long _]) (n := 2) (sc_liesIn hSt _ _) d_8_28_52 t_1102 t_1103 t_1104 rfl ⟨rfl, by decide +kernel⟩ rfl ⟨by decide, by decide⟩ (Nat.le_of_ble_eq_true rfl) (fun v52 r52 => ?_)
                rcases r52 with rfl | rfl
                · skip
                  refine g_if_eq cx d_8_28_55 rfl (fun c55 => absurd c55 (by decide)) (fun c55 => ?_)
                  refine g_aload_n cx 2 d_8_28_58 rfl rfl ?_
                  refine m_get cx (k := 22) d_8_28_59 t_920 ⟨by decide, rfl⟩ hm rfl ?_
                  refine g_aload_n cx 2 d_8_28_62 rfl rfl ?_
                  refine m_get cx (k := 16) d_8_28_63 t_914 ⟨by decide, rfl⟩ hm rfl ?_
                  refine g_iload cx 0 d_8_28_66 rfl ?_
                  refine m_ld1 cx d_8_28_68 (by decide) hm rfl ⟨(show k < 32 by omega), by decide⟩ ?_
                  refine m_ld4 cx d_8_28_69 (by decide) hm hfy ⟨(show f < 8 from hf8), by decide⟩ ?_
                  refine g_if_ne cx d_8_28_70 rfl (fun c70 => ?_) (fun c70 => ?_)
                  · skip
                    refine g_iinc cx 0 (lv' := [(5, .int (nI (k + 1))), (4, .int (nI sz)), (0, .ref am), (1, .int (nI q)), (2, .long nv)]) d_8_28_117 rfl (inc1 k) (by decide) rfl ?_
                    refine g_goto cx d_8_28_120 rfl ?_
                    exact ihk (k + 1) y mk h hm hs hf hk25 (by omega) (by omega) (by omega) (by omega)
                  · skip
                    refine g_aload_n cx 2 d_8_28_73 rfl rfl ?_
                    refine g_aload_n cx 2 d_8_28_74 rfl rfl ?_
                    refine m_get cx (k := 16) d_8_28_75 t_914 ⟨by decide, rfl⟩ hm rfl ?_
                    refine g_iload cx 0 d_8_28_78 rfl ?_
                    refine m_ld1 cx d_8_28_80 (by decide) hm rfl ⟨(show k < 32 by omega), by decide⟩ ?_
                    refine g_topi (fun f0 ef0 => ?_)
                    obtain rfl : f0 = nI f := ef0.trans hfy
                    refine m_call 3 cx (As := [.int (nI f)]) (n := 1) (mc_note hSt hA y (nI f) mk hk25 (by omega)) d_8_28_81 t_1086 t_1088 ts_47 t_1089 rfl ⟨rfl, by decide +kernel⟩ rfl ⟨by decide, by decide⟩ (Nat.le_of_ble_eq_true rfl) hm hs (fun v81 x81 h hm hs r81 => ?_)
                    obtain ⟨rfl, ex81⟩ := r81
                    obtain ⟨y1, ey1⟩ : ∃ z, z = x81 := ⟨_, rfl⟩
                    rw [← ey1] at hm ex81
                    have hf1 : Fx [25] [9, 28] [] x y1 := by
                      rw [ex81]
                      by_cases q20 : mk < 20
                      · rw [if_pos q20]; exact (hf.a (by decide)).i (by decide)
                      · rw [if_neg q20]; exact hf.i (by decide)
                    have hk1 : y1.1 25 = nI (mk + 1) := by rw [ex81]; rfl
                    have hfy1 : y1.2.1 16 k = nI f := (congrFun (hf1.2.1 16 (by decide)) k).trans hfx
                    refine g_aload_n cx 2 d_8_28_84 rfl rfl ?_
                    refine g_aload_n cx 2 d_8_28_85 rfl rfl ?_
                    refine m_get cx (k := 16) d_8_28_86 t_914 ⟨by decide, rfl⟩ hm rfl ?_
                    refine g_iload cx 0 d_8_28_89 rfl ?_
                    refine m_ld1 cx d_8_28_91 (by decide) hm rfl ⟨(show k < 32 by omega), by decide⟩ ?_
                    refine g_topi (fun f1 ef1 => ?_)
                    obtain rfl : f1 = nI f := ef1.trans hfy1
                    refine g_lload_n cx 4 d_8_28_92 rfl rfl ?_
                    refine m_call 3 cx (As := [.int (nI f), .long nv]) (n := 2) (mc_own hSt hA y1 f (ld f) nv nm hf8 (by rw [hf1.2.1 13 (by decide)]; exact (hLd f hf8).1) (hLd f hf8).2 (by rw [hf1.2.1 14 (by decide)]; exact hLo) (by rw [hf1.2.1 8 (by decide)]; exact hNm)) d_8_28_93 t_1105 t_1107 ts_49 t_1108 rfl ⟨rfl, by decide +kernel⟩ rfl ⟨by decide, by decide⟩ (Nat.le_of_ble_eq_true rfl) hm hs (fun v93 x93 h hm hs r93 => ?_)
                    obtain ⟨e93, r93⟩ := r93
                    rw [e93] at hm
                    rcases r93 with ⟨g, hg, rfl, j, hj, hjx⟩ | rfl
                    · skip
                      refine g_topi (fun a1 ea1 => ?_)
                      obtain rfl : a1 = nI g := ea1
                      refine g_istore cx (lv' := [(6, .int (nI g)), (5, .int (nI k)), (4, .int (nI sz)), (0, .ref am), (1, .int (nI q)), (2, .long nv)]) d_8_28_96 (by decide) rfl ?_
                      refine g_iload cx 0 d_8_28_98 rfl ?_
                      refine g_if_lt cx d_8_28_100 rfl (fun c100 => absurd c100 (nI_pos (by omega))) (fun c100 => ?_)
                      refine g_aload_n cx 3 d_8_28_103 rfl rfl ?_
                      refine g_aload_n cx 3 d_8_28_104 rfl rfl ?_
                      refine m_get cx (k := 16) d_8_28_105 t_914 ⟨by decide, rfl⟩ hm rfl ?_
                      refine g_iload cx 1 d_8_28_108 rfl ?_
                      refine m_ld1 cx d_8_28_110 (by decide) hm rfl ⟨(show k < 32 by omega), by decide⟩ ?_
                      refine g_topi (fun f2 ef2 => ?_)
                      obtain rfl : f2 = nI f := ef2.trans hfy1
                      refine g_iload cx 0 d_8_28_111 rfl ?_
                      refine m_call 3 cx (As := [.int (nI f), .int (nI g)]) (n := 2) (mc_found hSt hA y1 (nI f) g hg) d_8_28_113 t_1109 t_1111 ts_50 t_1112 rfl ⟨rfl, by decide +kernel⟩ rfl ⟨by decide, by decide⟩ (Nat.le_of_ble_eq_true rfl) hm hs (fun v113 x113 h hm hs r113 => ?_)
                      obtain ⟨rfl, rfl⟩ := r113
                      exact m_iret cx d_8_28_116 rfl rfl hm hs ⟨hf1.a (by decide), ⟨mk + 1, hk1, by omega⟩, Or.inl ⟨16 * f + g, by omega, by rw [show (16 : Int32) = nI 16 from rfl, pk_mul, nI_add], g, j, hg, hj, by rw [← hjx, hf1.2.2 10 (by decide)]⟩⟩
                    · skip
                      refine g_topi (fun a1 ea1 => ?_)
                      obtain rfl : a1 = -1 := ea1
                      refine g_istore cx (lv' := [(6, .int (-1)), (5, .int (nI k)), (4, .int (nI sz)), (0, .ref am), (1, .int (nI q)), (2, .long nv)]) d_8_28_96 (by decide) rfl ?_
                      refine g_iload cx 0 d_8_28_98 rfl ?_
                      refine g_if_lt cx d_8_28_100 rfl (fun c100 => ?_) (fun c100 => absurd (by decide) c100)
                      refine g_iinc cx 1 (lv' := [(5, .int (nI (k + 1))), (6, .int (-1)), (4, .int (nI sz)), (0, .ref am), (1, .int (nI q)), (2, .long nv)]) d_8_28_117 rfl (inc1 k) (by decide) rfl ?_
                      refine g_goto cx d_8_28_120 rfl ?_
                      refine g_loc (lv' := [(5, .int (nI (k + 1))), (4, .int (nI sz)), (0, .ref am), (1, .int (nI q)), (2, .long nv)]) [0, 2, 3, 4, 5] rfl ?_
                      exact ihk (k + 1) y1 (mk + 1) h hm hs hf1 hk1 (by omega) (by omega) (by omega) (by omega)
                · skip
                  refine g_if_eq cx d_8_28_55 rfl (fun c55 => ?_) (fun c55 => absurd rfl c55)
                  refine g_iinc cx 0 (lv' := [(5, .int (nI (k + 1))), (4, .int (nI sz)), (0, .ref am), (1, .int (nI q)), (2, .long nv)]) d_8_28_117 rfl (inc1 k) (by decide) rfl ?_
                  refine g_goto cx d_8_28_120 rfl ?_
                  exact ihk (k + 1) y mk h hm hs hf hk25 (by omega) (by omega) (by omega) (by omega)
        refine g_iconst cx (v := 4) d_8_28_9 (by decide) ?_
        refine g_iload_n cx 2 d_8_28_10 rfl rfl ?_
        refine g_imul cx d_8_28_11 ?_
        refine g_topi (fun k0 ek0 => ?_)
        obtain rfl : k0 = nI (4 * q) := by rw [ek0]; exact pk_mul 4 q
        refine g_istore cx (lv' := [(5, .int (nI (4 * q))), (4, .int (nI sz)), (0, .ref am), (1, .int (nI q)), (2, .long nv)]) d_8_28_12 (by decide) rfl ?_
        exact lk (im q + 1) (4 * q) y mk h hm hs hf hk25 (by omega) (by omega) (by omega) (by omega)
  refine g_bipush cx (v := 14) d_8_28_0 (by decide) ?_
  refine g_topi (fun s0 es0 => ?_)
  obtain rfl : s0 = nI 14 := es0
  refine g_istore cx (lv' := [(4, .int (nI 14)), (0, .ref am), (1, .int (nI q)), (2, .long nv)]) d_8_28_2 (by decide) rfl ?_
  exact lp 15 14 x mn h hm hs Fx.rf hMn (by omega) (by omega) (by omega)
end M8
end
section
/-! up and search of the reference. -/
def pushS (x : MS) (v : Int32) (t k : Nat) : MS := seti (if k < 20 then seta (seti (seta (seta x 26 t v) 27 t 0) 24 (nI (t + 1))) 28 k v else seti (seta (seta x 26 t v) 27 t 0) 24 (nI (t + 1))) 25 (nI (k + 1))
def sumf (f : Nat → Nat) : Nat → Nat
  | 0 => 0
  | n + 1 => sumf f n + f n
theorem sumf_congr {f g : Nat → Nat} : ∀ n, (∀ k, k < n → f k = g k) → sumf f n = sumf g n
  | 0, _ => rfl
  | n + 1, h => by
    show sumf f n + f n = sumf g n + g n
    rw [sumf_congr n (fun k hk => h k (by omega)), h n (by omega)]
/-- the realm s at the stage t has its parent still before it -/
def pnd (x : MS) (s t : Nat) : Bool := (decide (x.2.1 23 s = 1) && decide (t ≤ 1)) || (decide (x.2.1 23 s = 0) && decide (t ≤ 2))
def pw (x : MS) (s t : Nat) : Nat := if pnd x s t = true then 5 * s else 0
def mu (x : MS) (sf tf : Nat → Nat) : Nat → Nat
  | 0 => 0
  | k + 1 => sumf (fun j => 4 - tf j) (k + 1) + pw x (sf k) (tf k)
theorem pnd_mono {x : MS} {s t : Nat} (h : pnd x s (t + 1) = true) : pnd x s t = true := by
  simp only [pnd, Bool.or_eq_true, Bool.and_eq_true, decide_eq_true_eq] at h ⊢
  rcases h with h | h
  · exact Or.inl ⟨h.1, by omega⟩
  · exact Or.inr ⟨h.1, by omega⟩
theorem pw_mono {x : MS} {s t : Nat} : pw x s (t + 1) ≤ pw x s t := by
  unfold pw
  by_cases h : pnd x s (t + 1) = true
  · rw [if_pos h, if_pos (pnd_mono h)]; exact Nat.le_refl _
  · rw [if_neg h]; exact Nat.zero_le _
theorem mu_stage {x : MS} {sf tf : Nat → Nat} {k : Nat} (h : tf k ≤ 3) : mu x sf (fun j => if j = k then tf k + 1 else tf j) (k + 1) + 1 ≤ mu x sf tf (k + 1) := by
  show sumf (fun j => 4 - (if j = k then tf k + 1 else tf j)) k + (4 - (if k = k then tf k + 1 else tf k)) + pw x (sf k) (if k = k then tf k + 1 else tf k) + 1 ≤ sumf (fun j => 4 - tf j) k + (4 - tf k) + pw x (sf k) (tf k)
  rw [if_pos rfl, sumf_congr k (g := fun j => 4 - tf j) (fun j hj => by simp only [if_neg (Nat.ne_of_lt hj)])]
  have := pw_mono (x := x) (s := sf k) (t := tf k)
  omega
theorem mu_pop {x : MS} {sf tf : Nat → Nat} {k : Nat} (h : tf k = 3) (hp : ∀ j, j + 1 = k → pnd x (sf j) (tf j) = false) : mu x sf tf k + 1 ≤ mu x sf tf (k + 1) := by
  show mu x sf tf k + 1 ≤ sumf (fun j => 4 - tf j) k + (4 - tf k) + pw x (sf k) (tf k)
  cases k with
  | zero =>
    show 0 + 1 ≤ 0 + (4 - tf 0) + pw x (sf 0) (tf 0)
    omega
  | succ j =>
    show sumf (fun j => 4 - tf j) (j + 1) + pw x (sf j) (tf j) + 1 ≤ _
    have : pw x (sf j) (tf j) = 0 := by unfold pw; rw [if_neg (by rw [hp j rfl]; decide)]
    omega
theorem mu_push {x : MS} {sf tf : Nat → Nat} {k g : Nat} (h : tf k ≤ 3) (hg : g < sf k) (h1 : pnd x (sf k) (tf k) = true) : mu x (fun j => if j = k + 1 then g else sf j) (fun j => if j = k + 1 then 0 else if j = k then tf k + 1 else tf j) (k + 2) + 1 ≤ mu x sf tf (k + 1) := by
  show sumf (fun j => 4 - (if j = k + 1 then 0 else if j = k then tf k + 1 else tf j)) k + (4 - (if k = k + 1 then 0 else if k = k then tf k + 1 else tf k)) + (4 - (if k + 1 = k + 1 then 0 else if k + 1 = k then tf k + 1 else tf (k + 1))) + pw x (if k + 1 = k + 1 then g else sf (k + 1)) (if k + 1 = k + 1 then 0 else if k + 1 = k then tf k + 1 else tf (k + 1)) + 1 ≤ sumf (fun j => 4 - tf j) k + (4 - tf k) + pw x (sf k) (tf k)
  rw [sumf_congr k (g := fun j => 4 - tf j) (fun j hj => by simp only [if_neg (show ¬ j = k + 1 by omega), if_neg (Nat.ne_of_lt hj)]), if_neg (show ¬ k = k + 1 by omega), if_pos (rfl : k = k), if_pos (rfl : k + 1 = k + 1), if_pos (rfl : k + 1 = k + 1)]
  have q1 : pw x (sf k) (tf k) = 5 * sf k := by unfold pw; rw [if_pos h1]
  have q2 : pw x g 0 ≤ 5 * g := by
    unfold pw
    by_cases q : pnd x g 0 = true
    · rw [if_pos q]; exact Nat.le_refl _
    · rw [if_neg q]; exact Nat.zero_le _
  omega
/-- what holds of the search's stack: op realms sf at the stages tf -/
def SI (x y : MS) (op mk : Nat) (sf tf : Nat → Nat) (nv : Int64) (kp : Nat → Nat) (r : Nat) : Prop := Fx [24, 25] [9, 26, 27, 28] [] x y ∧ y.1 24 = nI op ∧ y.1 25 = nI mk ∧ (∀ k, k < op → y.2.1 26 k = nI (sf k) ∧ sf k < r ∧ y.2.1 27 k = nI (tf k) ∧ tf k ≤ 3 ∧ ∀ j, j < kp (sf k) → x.2.2 21 (36 * sf k + j) ≠ nv) ∧ ∀ k, k + 1 < op → sf (k + 1) < sf k ∧ pnd x (sf k) (tf k) = false
theorem SI.le {x y : MS} {op mk : Nat} {sf tf : Nat → Nat} {nv : Int64} {kp : Nat → Nat} {r : Nat} (h : SI x y op mk sf tf nv kp r) : ∀ k, k < op → sf k + k < r := by
  intro k
  induction k with
  | zero => intro hk; exact (h.2.2.2.1 0 hk).2.1
  | succ k ih =>
    intro hk
    have q1 := ih (by omega)
    have q2 := (h.2.2.2.2 k hk).1
    omega
theorem SI.stage {x y y3 : MS} {k mk mk' : Nat} {sf tf : Nat → Nat} {nv : Int64} {kp : Nat → Nat} {r : Nat} (h : SI x y (k + 1) mk sf tf nv kp r) (h2 : tf k ≤ 2) (hf : Fx [25] [9, 28] [] (seta y 27 k (nI (tf k + 1))) y3) (hk : y3.1 25 = nI mk') : SI x y3 (k + 1) mk' sf (fun j => if j = k then tf k + 1 else tf j) nv kp r := by
  obtain ⟨a1, a2, a3, a4, a5⟩ := h
  refine ⟨((a1.a (by decide)).tr (hf.le (by decide) (by decide) (by decide))), (hf.1 24 (by decide)).trans a2, hk, fun j hj => ?_, fun j hj => ?_⟩
  · obtain ⟨b1, b2, b3, b4, b5⟩ := a4 j hj
    have e26 : y3.2.1 26 = y.2.1 26 := hf.2.1 26 (by decide)
    have e27 : y3.2.1 27 = upd (y.2.1 27) k (nI (tf k + 1)) := hf.2.1 27 (by decide)
    refine ⟨by rw [e26]; exact b1, b2, ?_, ?_, b5⟩
    · rw [e27]
      by_cases q : j = k
      · simp only [if_pos q]; rw [q]; exact pk_us
      · simp only [if_neg q]; rw [pk_un q]; exact b3
    · by_cases q : j = k
      · simp only [if_pos q]; omega
      · simp only [if_neg q]; exact b4
  · have q : ¬ j = k := by omega
    simp only [if_neg q]
    exact a5 j hj
theorem SI.pop {x y : MS} {k mk : Nat} {sf tf : Nat → Nat} {nv : Int64} {kp : Nat → Nat} {r : Nat} {v : Int32} (h : SI x y (k + 1) mk sf tf nv kp r) : SI x (seti (seta y 27 k v) 24 (nI k)) k mk sf tf nv kp r := by
  obtain ⟨a1, a2, a3, a4, a5⟩ := h
  refine ⟨(a1.a (by decide)).i (by decide), rfl, a3, fun j hj => ?_, fun j hj => a5 j (by omega)⟩
  obtain ⟨b1, b2, b3, b4, b5⟩ := a4 j (by omega)
  exact ⟨b1, b2, (pk_un (show j ≠ k by omega)).trans b3, b4, b5⟩
theorem SI.push {x y : MS} {k mk g : Nat} {sf tf : Nat → Nat} {nv : Int64} {kp : Nat → Nat} {r : Nat} (h : SI x y (k + 1) mk sf tf nv kp r) (h2 : tf k ≤ 2) (hg : g < sf k) (hno : ∀ j, j < kp g → x.2.2 21 (36 * g + j) ≠ nv) (hp : pnd x (sf k) (tf k + 1) = false) : SI x (pushS (seta y 27 k (nI (tf k + 1))) (nI g) (k + 1) mk) (k + 2) (mk + 1) (fun j => if j = k + 1 then g else sf j) (fun j => if j = k + 1 then 0 else if j = k then tf k + 1 else tf j) nv kp r := by
  obtain ⟨a1, a2, a3, a4, a5⟩ := h
  have hgr := (a4 k (by omega)).2.1
  have e24 : (pushS (seta y 27 k (nI (tf k + 1))) (nI g) (k + 1) mk).1 24 = nI (k + 2) := by
    unfold pushS
    by_cases q : mk < 20
    · rw [if_pos q]; rfl
    · rw [if_neg q]; rfl
  have e26 : (pushS (seta y 27 k (nI (tf k + 1))) (nI g) (k + 1) mk).2.1 26 = upd (y.2.1 26) (k + 1) (nI g) := by
    unfold pushS
    by_cases q : mk < 20
    · rw [if_pos q]; rfl
    · rw [if_neg q]; rfl
  have e27 : (pushS (seta y 27 k (nI (tf k + 1))) (nI g) (k + 1) mk).2.1 27 = upd (upd (y.2.1 27) k (nI (tf k + 1))) (k + 1) 0 := by
    unfold pushS
    by_cases q : mk < 20
    · rw [if_pos q]; rfl
    · rw [if_neg q]; rfl
  refine ⟨?_, e24, rfl, fun j hj => ?_, fun j hj => ?_⟩
  · unfold pushS
    by_cases q : mk < 20
    · rw [if_pos q]; exact (((((a1.a (by decide)).a (by decide)).a (by decide)).i (by decide)).a (by decide)).i (by decide)
    · rw [if_neg q]; exact ((((a1.a (by decide)).a (by decide)).a (by decide)).i (by decide)).i (by decide)
  · rw [e26, e27]
    by_cases q : j = k + 1
    · simp only [if_pos q]
      rw [q]
      exact ⟨pk_us, by omega, pk_us, by omega, hno⟩
    · obtain ⟨b1, b2, b3, b4, b5⟩ := a4 j (by omega)
      simp only [if_neg q]
      rw [pk_un q, pk_un q]
      refine ⟨b1, b2, ?_, ?_, b5⟩
      · by_cases q2 : j = k
        · simp only [if_pos q2]; rw [q2]; exact pk_us
        · simp only [if_neg q2]; rw [pk_un q2]; exact b3
      · by_cases q2 : j = k
        · simp only [if_pos q2]; omega
        · simp only [if_neg q2]; exact b4
  · by_cases q : j = k
    · have q1 : ¬ k = k + 1 := by omega
      rw [q]
      simp only [if_pos, if_neg q1]
      exact ⟨hg, hp⟩
    · have q1 : ¬ j = k + 1 := by omega
      have q2 : ¬ j + 1 = k + 1 := by omega
      simp only [if_neg q1, if_neg q2, if_neg q]
      exact a5 j (by omega)
theorem IKp.room {x : MS} {nm kp : Nat → Nat} {q : Nat} {nv : Int64} (h : IKp x nm kp) (hn : INm x nm) (hq : q < 8) {b t : Nat} (hb : b < 6) (ht : t < nm b) (e : nv = x.2.2 10 (6 * b + t)) (hno : ∀ j, j < kp q → x.2.2 21 (36 * q + j) ≠ nv) : kp q < 36 := by
  obtain ⟨-, h2, h3⟩ := h q hq
  have hb6 := (hn b hb).2
  have h4 : ∀ j, ∃ u, j < kp q → u < 36 ∧ x.2.2 21 (36 * q + j) = x.2.2 10 u := by
    intro j
    by_cases hj : j < kp q
    · obtain ⟨-, b', t', hb', ht', e'⟩ := h2 j hj
      have := (hn b' hb').2
      exact ⟨6 * b' + t', fun _ => ⟨by omega, e'⟩⟩
    · exact ⟨0, fun z => absurd z hj⟩
  have := pigeon 36 (kp q + 1) (fun j => if j < kp q then Classical.choose (h4 j) else 6 * b + t) (fun j hj => by
    by_cases z : j < kp q
    · simp only [if_pos z]; exact (Classical.choose_spec (h4 j) z).1
    · simp only [if_neg z]; omega) (fun i j hi hj z => by
    by_cases zi : i < kp q <;> by_cases zj : j < kp q
    · simp only [if_pos zi, if_pos zj] at z
      have q1 := (Classical.choose_spec (h4 i) zi).2
      have q2 := (Classical.choose_spec (h4 j) zj).2
      exact h3 i j zi zj (by rw [q1, q2]; exact congrArg (x.2.2 10) z)
    · simp only [if_pos zi, if_neg zj] at z
      have q1 := (Classical.choose_spec (h4 i) zi).2
      exact absurd (by rw [q1, z]; exact e.symm) (hno i zi)
    · simp only [if_neg zi, if_pos zj] at z
      have q1 := (Classical.choose_spec (h4 j) zj).2
      exact absurd (by rw [q1, ← z]; exact e.symm) (hno j zj)
    · omega)
  omega
theorem IKp.keep {x : MS} {nm kp : Nat → Nat} {q w : Nat} {nv : Int64} {vw : Int32} (h : IKp x nm kp) (hN : INm x nm) (hq : q < 8) (hr : kp q < 36) {b t : Nat} (hb : b < 6) (ht : t < nm b) (e : nv = x.2.2 10 (6 * b + t)) (hno : ∀ j, j < kp q → x.2.2 21 (36 * q + j) ≠ nv) (hw : w < 128) (hvw : vw = nI (kp q + 1)) :
    IKp (seta (seta (setl x 21 (36 * q + kp q) nv) 19 (36 * q + kp q) (nI w)) 18 q vw) nm (fun i => if i = q then kp q + 1 else kp i) := by
  intro i hi
  obtain ⟨h1, h2, h3⟩ := h i hi
  have hil : kp i ≤ 36 := h.le hN hi
  show upd (x.2.1 18) q vw i = nI (if i = q then kp q + 1 else kp i) ∧ (∀ j, j < (if i = q then kp q + 1 else kp i) → (∃ g, g < 128 ∧ upd (x.2.1 19) (36 * q + kp q) (nI w) (36 * i + j) = nI g) ∧ ∃ b t, b < 6 ∧ t < nm b ∧ vp_updL (x.2.2 21) (36 * q + kp q) nv (36 * i + j) = x.2.2 10 (6 * b + t)) ∧ ∀ j j', j < (if i = q then kp q + 1 else kp i) → j' < (if i = q then kp q + 1 else kp i) → vp_updL (x.2.2 21) (36 * q + kp q) nv (36 * i + j) = vp_updL (x.2.2 21) (36 * q + kp q) nv (36 * i + j') → j = j'
  by_cases hiq : i = q
  · subst hiq
    simp only [if_pos]
    refine ⟨pk_us.trans hvw, fun j hj => ?_, fun j j' hj hj' => ?_⟩
    · by_cases hjk : j = kp i
      · rw [hjk]; exact ⟨⟨w, hw, pk_us⟩, b, t, hb, ht, pk_uLs.trans e⟩
      · rw [pk_un (show 36 * i + j ≠ 36 * i + kp i by omega), pk_uLn (show 36 * i + j ≠ 36 * i + kp i by omega)]
        exact h2 j (by omega)
    · by_cases hjk : j = kp i <;> by_cases hjk' : j' = kp i
      · intro _; omega
      · rw [hjk, pk_uLs, pk_uLn (show 36 * i + j' ≠ 36 * i + kp i by omega)]
        intro z
        exact absurd z.symm (hno j' (by omega))
      · rw [hjk', pk_uLs, pk_uLn (show 36 * i + j ≠ 36 * i + kp i by omega)]
        intro z
        exact absurd z (hno j (by omega))
      · rw [pk_uLn (show 36 * i + j ≠ 36 * i + kp i by omega), pk_uLn (show 36 * i + j' ≠ 36 * i + kp i by omega)]
        exact h3 j j' (by omega) (by omega)
  · simp only [if_neg hiq]
    refine ⟨(pk_un hiq).trans h1, fun j hj => ?_, fun j j' hj hj' => ?_⟩
    · rw [pk_un (show 36 * i + j ≠ 36 * q + kp q by omega), pk_uLn (show 36 * i + j ≠ 36 * q + kp q by omega)]
      exact h2 j hj
    · rw [pk_uLn (show 36 * i + j ≠ 36 * q + kp q by omega), pk_uLn (show 36 * i + j' ≠ 36 * q + kp q by omega)]
      exact h3 j j' hj hj'
section M9
variable {l : Launch} {D : va_G} {z0 : Nat} {E : State → Prop} {am : Nat} {ad : Nat → Nat}
set_option maxHeartbeats 4000000 in
theorem mc_upN (hSt : Stb z0 E) (hA : Ad am ad) (x : MS) (nv : Int64) : MC l y_188 prog_8_method_35_code 5 (Option.some Jvm.ClassFile.FieldType.int) 2 D z0 E am ad [.int (-1), .long nv] x (fun r x' => r = some (.int (-1)) ∧ x' = x) := by
  refine mc_of hSt rfl (Nat.le_of_ble_eq_true rfl) ?_
  intro h0 h p e s m args below meth c cx hm hs
  refine g_iload_n cx 1 d_8_35_0 rfl rfl ?_
  refine g_if_lt cx d_8_35_1 rfl (fun c1 => ?_) (fun c1 => absurd (by decide) c1)
  refine g_iconst cx (v := (-1)) d_8_35_21 (by decide) ?_
  exact m_iret cx d_8_35_22 rfl rfl hm hs ⟨rfl, rfl⟩
set_option maxHeartbeats 4000000 in
theorem mc_upP (hSt : Stb z0 E) (hA : Ad am ad) (x : MS) (g : Nat) (nv : Int64) (nm kp : Nat → Nat) (t k : Nat) (hg : g < 8) (hNm : INm x nm) (hKp : IKp x nm kp) (ht : x.1 24 = nI t) (htl : t < 8) (hk : x.1 25 = nI k) (hkl : k < 2 ^ 30) : MC l y_188 prog_8_method_35_code 5 (Option.some Jvm.ClassFile.FieldType.int) 2 D z0 E am ad [.int (nI g), .long nv] x (fun r x' => (r = some (.int (-1)) ∧ x' = x) ∨ ((∃ w, w < 128 ∧ r = some (.int (nI w)) ∧ ∃ b t, b < 6 ∧ t < nm b ∧ nv = x.2.2 10 (6 * b + t)) ∧ x' = x) ∨ (r = some (.int (-1)) ∧ (∀ j, j < kp g → x.2.2 21 (36 * g + j) ≠ nv) ∧ x' = pushS x (nI g) t k)) := by
  refine mc_of hSt rfl (Nat.le_of_ble_eq_true rfl) ?_
  intro h0 h p e s m args below meth c cx hm hs
  refine g_iload_n cx 1 d_8_35_0 rfl rfl ?_
  refine g_if_lt cx d_8_35_1 rfl (fun c1 => absurd c1 (nI_pos (by omega))) (fun c1 => ?_)
  refine g_aload_n cx 0 d_8_35_4 rfl rfl ?_
  refine m_get cx (k := 22) d_8_35_5 t_920 ⟨by decide, rfl⟩ hm rfl ?_
  refine g_iload_n cx 1 d_8_35_8 rfl rfl ?_
  refine m_ld4 cx d_8_35_9 (by decide) hm rfl ⟨(show g < 8 from hg), by decide⟩ ?_
  refine g_if_ne cx d_8_35_10 rfl (fun c10 => ?_) (fun c10 => ?_)
  · skip
    refine g_iconst cx (v := (-1)) d_8_35_21 (by decide) ?_
    exact m_iret cx d_8_35_22 rfl rfl hm hs (Or.inl ⟨rfl, rfl⟩)
  · skip
    refine g_aload_n cx 0 d_8_35_13 rfl rfl ?_
    refine g_iload_n cx 1 d_8_35_14 rfl rfl ?_
    refine m_call 2 cx (As := [.int (nI g)]) (n := 1) (mc_isOpen hSt hA x (nI g) t ht (by omega)) d_8_35_15 t_1121 t_1123 ts_53 t_1124 rfl ⟨rfl, by decide +kernel⟩ rfl ⟨by decide, by decide⟩ (Nat.le_of_ble_eq_true rfl) hm hs (fun v15 x15 h hm hs r15 => ?_)
    obtain ⟨e15, r15⟩ := r15
    rw [e15] at hm
    rcases r15 with rfl | ⟨rfl, -⟩
    · skip
      refine g_if_eq cx d_8_35_18 rfl (fun c18 => absurd c18 (by decide)) (fun c18 => ?_)
      refine g_iconst cx (v := (-1)) d_8_35_21 (by decide) ?_
      exact m_iret cx d_8_35_22 rfl rfl hm hs (Or.inl ⟨rfl, rfl⟩)
    · skip
      refine g_if_eq cx d_8_35_18 rfl (fun c18 => ?_) (fun c18 => absurd rfl c18)
      refine g_aload_n cx 0 d_8_35_23 rfl rfl ?_
      refine g_iload_n cx 1 d_8_35_24 rfl rfl ?_
      refine g_lload_n cx 2 d_8_35_25 rfl rfl ?_
      refine m_call 2 cx (As := [.int (nI g), .long nv]) (n := 2) (mc_keptOf hSt hA x g (kp g) nv hg (hKp g hg).1 (hKp.le hNm hg)) d_8_35_26 t_1074 t_1076 ts_44 t_1077 rfl ⟨rfl, by decide +kernel⟩ rfl ⟨by decide, by decide⟩ (Nat.le_of_ble_eq_true rfl) hm hs (fun v26 x26 h hm hs r26 => ?_)
      obtain ⟨e26, r26⟩ := r26
      rw [e26] at hm
      rcases r26 with ⟨j, hj, hjx, rfl⟩ | ⟨rfl, hno⟩
      · skip
        refine g_topi (fun at1 eat1 => ?_)
        obtain ⟨⟨w, hw, hwx⟩, b, t2, hb, ht2, hbt⟩ := (hKp g hg).2.1 j hj
        obtain rfl : at1 = nI w := eat1.trans hwx
        refine g_istore cx (lv' := [(4, .int (nI w)), (0, .ref am), (1, .int (nI g)), (2, .long nv)]) d_8_35_29 (by decide) rfl ?_
        refine g_iload cx 0 d_8_35_31 rfl ?_
        refine g_if_ge cx d_8_35_33 rfl (fun c33 => ?_) (fun c33 => absurd (nI_pos' (by omega)) c33)
        refine g_iload cx 0 d_8_35_41 rfl ?_
        exact m_iret cx d_8_35_43 rfl rfl hm hs (Or.inr (Or.inl ⟨⟨w, hw, rfl, b, t2, hb, ht2, by rw [← hjx]; exact hbt⟩, rfl⟩))
      · skip
        refine g_topi (fun at1 eat1 => ?_)
        obtain rfl : at1 = -1 := eat1
        refine g_istore cx (lv' := [(4, .int (-1)), (0, .ref am), (1, .int (nI g)), (2, .long nv)]) d_8_35_29 (by decide) rfl ?_
        refine g_iload cx 0 d_8_35_31 rfl ?_
        refine g_if_ge cx d_8_35_33 rfl (fun c33 => absurd c33 (by decide)) (fun c33 => ?_)
        refine g_aload_n cx 1 d_8_35_36 rfl rfl ?_
        refine g_iload_n cx 2 d_8_35_37 rfl rfl ?_
        refine m_call 2 cx (As := [.int (nI g)]) (n := 1) (mc_push hSt hA x (nI g) t k ht htl hk hkl) d_8_35_38 t_1082 t_1084 ts_46 t_1085 rfl ⟨rfl, by decide +kernel⟩ rfl ⟨by decide, by decide⟩ (Nat.le_of_ble_eq_true rfl) hm hs (fun v38 x38 h hm hs r38 => ?_)
        obtain ⟨rfl, rfl⟩ := r38
        refine g_iload cx 0 d_8_35_41 rfl ?_
        exact m_iret cx d_8_35_43 rfl rfl hm hs (Or.inr (Or.inr ⟨rfl, hno, rfl⟩))
end M9
end
section
/-! search and look of the reference. -/
section M10
variable {l : Launch} {D : va_G} {z0 : Nat} {E : State → Prop} {am : Nat} {ad : Nat → Nat}
set_option maxHeartbeats 4000000 in
theorem mc_search (hSt : Stb z0 E) (hA : Ad am ad) (x : MS) (q0 : Nat) (nv : Int64) (a r : Nat) (nm ld im kp : Nat → Nat) (mn : Nat) (hM : MI x a r nm ld im kp mn) (hq0 : q0 < r) (hmn : mn ≤ 1000) (hno : ∀ j, j < kp q0 → x.2.2 21 (36 * q0 + j) ≠ nv) : MC l y_178 prog_8_method_34_code 7 (Option.some Jvm.ClassFile.FieldType.int) 4 D z0 E am ad [.int (nI q0), .long nv] x (fun r x' => (∃ v, r = some (.int v)) ∧ MIx x' ∧ x'.1 2 = x.1 2) := by
  refine mc_of hSt rfl (Nat.le_of_ble_eq_true rfl) ?_
  intro h0 h p e s m args below meth c cx hm hs
  obtain ⟨hIA, hIR, hNm, hLd, hLo, hIm, hFr, hPa, hKp, hMn⟩ := id hM
  have l3 : ∀ (op w : Nat) (sf : Nat → Nat) (hw : w < 128) (hnv : ∃ b t, b < 6 ∧ t < nm b ∧ nv = x.2.2 10 (6 * b + t)) (hop : op ≤ 8) (hdis : ∀ i k, i < k → k < op → sf k ≠ sf i) (n j : Nat) (y : MS) (h : hp) (hm : Mo D am ad y h) (hs : Sm am ad h0 h) (kq : Nat → Nat) (mk : Nat) (hMy : MI y a r nm ld im kq mk) (hwy : y.1 2 = x.1 2) (h24 : y.1 24 = nI op) (hst : ∀ k, k < op → y.2.1 26 k = nI (sf k) ∧ sf k < r) (hny : y.2.2 10 = x.2.2 10) (hfr : ∀ k, j ≤ k → k < op → ∀ i, i < kq (sf k) → y.2.2 21 (36 * sf k + i) ≠ nv), j ≤ op → op - j < n → G p l e (rmL 4) s m args below meth c 7 D z0 E (MQp D am ad h0 (fun r x' => (∃ v, r = some (.int v)) ∧ MIx x' ∧ x'.1 2 = x.1 2)) 0 0 155 [(5, .int (nI j)), (4, .int (nI w)), (0, .ref am), (1, .int (nI q0)), (2, .long nv)] [] h 0 0 := by
    intro op w sf hw hnv hop hdis n
    induction n with
    | zero => intro j y h hm hs kq mk hMy hwy h24 hst hny hfr hj0 hn; exact absurd hn (Nat.not_lt_zero _)
    | succ n ih =>
      intro j y h hm hs kq mk hMy hwy h24 hst hny hfr hj0 hn
      refine g_iload cx 0 d_8_34_155 rfl ?_
      refine g_aload_n cx 2 d_8_34_157 rfl rfl ?_
      refine m_get cx (k := 24) d_8_34_158 t_922 ⟨by decide, rfl⟩ hm rfl ?_
      refine g_icmp_ge cx d_8_34_161 rfl (fun c161 => ?_) (fun c161 => ?_)
      · skip
        refine g_iload cx 1 d_8_34_229 rfl ?_
        exact m_iret cx d_8_34_231 rfl rfl hm hs ⟨⟨_, rfl⟩, MIx.of hMy, hwy⟩
      · skip
        have hj : j < op := Nat.lt_of_not_le (fun z => c161 (by show y.1 24 ≤ nI j; rw [h24]; exact nI_le z (by omega)))
        obtain ⟨e26, hsr⟩ := hst j hj
        have hs8 : sf j < 8 := by have := hMy.2.1.2; omega
        obtain ⟨yA, yR, yNm, yLd, yLo, yIm, yFr, yPa, yKp, yMn⟩ := id hMy
        obtain ⟨b, t, hb, ht, hbt⟩ := hnv
        have hbt' : nv = y.2.2 10 (6 * b + t) := by rw [hny]; exact hbt
        have hr36 : kq (sf j) < 36 := yKp.room yNm hs8 hb ht hbt' (hfr j (Nat.le_refl _) hj)
        have e18 := (yKp (sf j) hs8).1
        have hix : 36 * nI (sf j) + y.2.1 18 (sf j) = nI (36 * sf j + kq (sf j)) := by rw [e18, show (36 : Int32) = nI 36 from rfl, pk_mul, nI_add]
        refine g_aload_n cx 2 d_8_34_164 rfl rfl ?_
        refine m_get cx (k := 26) d_8_34_165 t_924 ⟨by decide, rfl⟩ hm rfl ?_
        refine g_iload cx 0 d_8_34_168 rfl ?_
        refine m_ld1 cx d_8_34_170 (by decide) hm rfl ⟨(show j < 8 by omega), by decide⟩ ?_
        refine g_topi (fun q6 eq6 => ?_)
        obtain rfl : q6 = nI (sf j) := eq6.trans e26
        refine g_istore cx (lv' := [(6, .int (nI (sf j))), (5, .int (nI j)), (4, .int (nI w)), (0, .ref am), (1, .int (nI q0)), (2, .long nv)]) d_8_34_171 (by decide) rfl ?_
        refine g_aload_n cx 3 d_8_34_173 rfl rfl ?_
        refine m_get cx (k := 21) d_8_34_174 t_919 ⟨by decide, rfl⟩ hm rfl ?_
        refine g_bipush cx (v := 36) d_8_34_177 (by decide) ?_
        refine g_iload cx 0 d_8_34_179 rfl ?_
        refine g_imul cx d_8_34_181 ?_
        refine g_aload_n cx 3 d_8_34_182 rfl rfl ?_
        refine m_get cx (k := 18) d_8_34_183 t_916 ⟨by decide, rfl⟩ hm rfl ?_
        refine g_iload cx 0 d_8_34_186 rfl ?_
        refine m_ld1 cx d_8_34_188 (by decide) hm rfl ⟨(show sf j < 8 from hs8), by decide⟩ ?_
        refine g_iadd cx d_8_34_189 ?_
        refine g_lload_n cx 5 d_8_34_190 rfl rfl ?_
        refine m_st3 cx hA d_8_34_191 (by decide) hm hs hix ⟨(show 36 * sf j + kq (sf j) < 288 by omega), by decide⟩ (fun h hm hs => ?_)
        refine g_aload_n cx 3 d_8_34_192 rfl rfl ?_
        refine m_get cx (k := 19) d_8_34_193 t_917 ⟨by decide, rfl⟩ hm rfl ?_
        refine g_bipush cx (v := 36) d_8_34_196 (by decide) ?_
        refine g_iload cx 0 d_8_34_198 rfl ?_
        refine g_imul cx d_8_34_200 ?_
        refine g_aload_n cx 3 d_8_34_201 rfl rfl ?_
        refine m_get cx (k := 18) d_8_34_202 t_916 ⟨by decide, rfl⟩ hm rfl ?_
        refine g_iload cx 0 d_8_34_205 rfl ?_
        refine m_ld1 cx d_8_34_207 (by decide) hm rfl ⟨(show sf j < 8 from hs8), by decide⟩ ?_
        refine g_iadd cx d_8_34_208 ?_
        refine g_iload cx 2 d_8_34_209 rfl ?_
        refine m_st1 cx hA d_8_34_211 (by decide) hm hs hix ⟨(show 36 * sf j + kq (sf j) < 288 by omega), by decide⟩ (fun h hm hs => ?_)
        refine g_aload_n cx 3 d_8_34_212 rfl rfl ?_
        refine m_get cx (k := 18) d_8_34_213 t_916 ⟨by decide, rfl⟩ hm rfl ?_
        refine g_iload cx 0 d_8_34_216 rfl ?_
        refine g_dup2_11 cx d_8_34_218 rfl rfl ?_
        refine m_ld1 cx d_8_34_219 (by decide) hm rfl ⟨(show sf j < 8 from hs8), by decide⟩ ?_
        refine g_iconst cx (v := 1) d_8_34_220 (by decide) ?_
        refine g_iadd cx d_8_34_221 ?_
        refine m_st1 cx hA d_8_34_222 (by decide) hm hs rfl ⟨(show sf j < 8 from hs8), by decide⟩ (fun h hm hs => ?_)
        have hMz : MI (seta (seta (setl y 21 (36 * sf j + kq (sf j)) nv) 19 (36 * sf j + kq (sf j)) (nI w)) 18 (sf j) (y.2.1 18 (sf j) + 1)) a r nm ld im (fun i => if i = sf j then kq (sf j) + 1 else kq i) mk := ⟨yA, yR, yNm, yLd, yLo, yIm, yFr, yPa, yKp.keep yNm hs8 hr36 hb ht hbt' (hfr j (Nat.le_refl _) hj) hw (by rw [e18, nI_1]), yMn⟩
        have hfz : ∀ k, j + 1 ≤ k → k < op → ∀ i, i < (if sf k = sf j then kq (sf j) + 1 else kq (sf k)) → vp_updL (y.2.2 21) (36 * sf j + kq (sf j)) nv (36 * sf k + i) ≠ nv := by
          intro k hk1 hk2 i hi
          have hne : sf k ≠ sf j := hdis j k (by omega) hk2
          rw [if_neg hne] at hi
          have hks : sf k < 8 := by have := (hst k hk2).2; have := hMy.2.1.2; omega
          have hil := yKp.le yNm hks
          rw [pk_uLn (show 36 * sf k + i ≠ 36 * sf j + kq (sf j) by omega)]
          exact hfr k (by omega) hk2 i hi
        refine g_iinc cx 1 (lv' := [(5, .int (nI (j + 1))), (6, .int (nI (sf j))), (4, .int (nI w)), (0, .ref am), (1, .int (nI q0)), (2, .long nv)]) d_8_34_223 rfl (inc1 j) (by decide) rfl ?_
        refine g_goto cx d_8_34_226 rfl ?_
        refine g_loc (lv' := [(5, .int (nI (j + 1))), (4, .int (nI w)), (0, .ref am), (1, .int (nI q0)), (2, .long nv)]) [0, 2, 3, 4, 5] rfl ?_
        exact ih (j + 1) _ h hm hs (fun i => if i = sf j then kq (sf j) + 1 else kq i) mk hMz hwy h24 hst hny hfz (by omega) (by omega)
  have x0 : ∀ (y : MS) (h : hp) (hm : Mo D am ad y h) (hs : Sm am ad h0 h) (op mk : Nat) (sf tf : Nat → Nat) (hSI : SI x y op mk sf tf nv kp r) (at1 : Int32) (hop0 : op = 0) (hmk : mk < 2 ^ 20), G p l e (rmL 4) s m args below meth c 7 D z0 E (MQp D am ad h0 (fun r x' => (∃ v, r = some (.int v)) ∧ MIx x' ∧ x'.1 2 = x.1 2)) 0 0 152 [(4, .int at1), (0, .ref am), (1, .int (nI q0)), (2, .long nv)] [] h 0 0 := by
    intro y h hm hs op mk sf tf hSI at1 hop0 hmk
    have hMy : MI y a r nm ld im kp mk := by
      obtain ⟨f1, f2, f3⟩ := hSI.1
      refine ⟨⟨(f1 6 (by decide)).trans hIA.1, hIA.2⟩, ⟨(f1 11 (by decide)).trans hIR.1, hIR.2⟩, ?_, ?_, ?_, ?_, ?_, ?_, ?_, ⟨hSI.2.2.1, by omega⟩⟩
      · rw [INm, f2 8 (by decide)]; exact hNm
      · rw [ILd, f2 13 (by decide)]; exact hLd
      · rw [ILo, f2 14 (by decide)]; exact hLo
      · rw [IIm, f2 15 (by decide)]; exact hIm
      · rw [IFr, f2 16 (by decide)]; exact hFr
      · rw [IPa, f2 17 (by decide)]; exact hPa
      · rw [IKp, f2 18 (by decide), f2 19 (by decide), f3 21 (by decide), f3 10 (by decide)]; exact hKp
    refine g_iconst cx (v := 0) d_8_34_152 (by decide) ?_
    refine g_topi (fun k0 ek0 => ?_)
    refine g_istore cx (lv' := [(5, .int k0), (4, .int at1), (0, .ref am), (1, .int (nI q0)), (2, .long nv)]) d_8_34_153 (by decide) rfl ?_
    refine g_iload cx 0 d_8_34_155 rfl ?_
    refine g_aload_n cx 2 d_8_34_157 rfl rfl ?_
    refine m_get cx (k := 24) d_8_34_158 t_922 ⟨by decide, rfl⟩ hm rfl ?_
    refine g_icmp_ge cx d_8_34_161 rfl (fun c161 => ?_) (fun c161 => absurd (by show y.1 24 ≤ k0; rw [hSI.2.1, hop0, ek0]; decide) c161)
    refine g_iload cx 1 d_8_34_229 rfl ?_
    exact m_iret cx d_8_34_231 rfl rfl hm hs ⟨⟨_, rfl⟩, MIx.of hMy, hSI.1.1 2 (by decide)⟩
  have x1 : ∀ (y : MS) (h : hp) (hm : Mo D am ad y h) (hs : Sm am ad h0 h) (op mk : Nat) (sf tf : Nat → Nat) (hSI : SI x y op mk sf tf nv kp r) (w : Nat) (hw : w < 128) (hnv : ∃ b t, b < 6 ∧ t < nm b ∧ nv = x.2.2 10 (6 * b + t)) (hmk : mk < 2 ^ 20), G p l e (rmL 4) s m args below meth c 7 D z0 E (MQp D am ad h0 (fun r x' => (∃ v, r = some (.int v)) ∧ MIx x' ∧ x'.1 2 = x.1 2)) 0 0 152 [(4, .int (nI w)), (0, .ref am), (1, .int (nI q0)), (2, .long nv)] [] h 0 0 := by
    intro y h hm hs op mk sf tf hSI w hw hnv hmk
    have hMy : MI y a r nm ld im kp mk := by
      obtain ⟨f1, f2, f3⟩ := hSI.1
      refine ⟨⟨(f1 6 (by decide)).trans hIA.1, hIA.2⟩, ⟨(f1 11 (by decide)).trans hIR.1, hIR.2⟩, ?_, ?_, ?_, ?_, ?_, ?_, ?_, ⟨hSI.2.2.1, by omega⟩⟩
      · rw [INm, f2 8 (by decide)]; exact hNm
      · rw [ILd, f2 13 (by decide)]; exact hLd
      · rw [ILo, f2 14 (by decide)]; exact hLo
      · rw [IIm, f2 15 (by decide)]; exact hIm
      · rw [IFr, f2 16 (by decide)]; exact hFr
      · rw [IPa, f2 17 (by decide)]; exact hPa
      · rw [IKp, f2 18 (by decide), f2 19 (by decide), f3 21 (by decide), f3 10 (by decide)]; exact hKp
    have hrl := hIR.2
    have hop8 : op ≤ 8 := by
      rcases Nat.eq_zero_or_pos op with z | z
      · omega
      · have := hSI.le (op - 1) (by omega)
        omega
    have hdis : ∀ i k, i < k → k < op → sf k ≠ sf i := by
      intro i k hik hk
      have key : ∀ d, i + d + 1 < op → sf (i + d + 1) < sf i := by
        intro d
        induction d with
        | zero => intro hd; exact (hSI.2.2.2.2 i hd).1
        | succ d ihd =>
          intro hd
          have q1 := ihd (by omega)
          have q2 := (hSI.2.2.2.2 (i + d + 1) hd).1
          exact Nat.lt_trans q2 q1
      have := key (k - i - 1) (by omega)
      rw [show i + (k - i - 1) + 1 = k by omega] at this
      exact Nat.ne_of_lt this
    refine g_iconst cx (v := 0) d_8_34_152 (by decide) ?_
    refine g_topi (fun k0 ek0 => ?_)
    obtain rfl : k0 = nI 0 := ek0
    refine g_istore cx (lv' := [(5, .int (nI 0)), (4, .int (nI w)), (0, .ref am), (1, .int (nI q0)), (2, .long nv)]) d_8_34_153 (by decide) rfl ?_
    exact l3 op w sf hw hnv hop8 hdis (op + 1) 0 y h hm hs kp mk hMy (hSI.1.1 2 (by decide)) hSI.2.1 (fun k hk => ⟨(hSI.2.2.2.1 k hk).1, (hSI.2.2.2.1 k hk).2.1⟩) (hSI.1.2.2 10 (by decide)) (fun k hk0 hk i hi => by rw [hSI.1.2.2 21 (by decide)]; exact (hSI.2.2.2.1 k hk).2.2.2.2 i hi) (by omega) (by omega)
  have lp : ∀ (n : Nat) (y : MS) (h : hp) (hm : Mo D am ad y h) (hs : Sm am ad h0 h) (op mk : Nat) (sf tf : Nat → Nat) (hSI : SI x y op mk sf tf nv kp r) (at1 : Int32) (hat : at1 = -1 ∨ ∃ w, w < 128 ∧ at1 = nI w ∧ ∃ b t, b < 6 ∧ t < nm b ∧ nv = x.2.2 10 (6 * b + t)), mk + 60 * mu x sf tf op ≤ 10000 → mu x sf tf op < n → G p l e (rmL 4) s m args below meth c 7 D z0 E (MQp D am ad h0 (fun r x' => (∃ v, r = some (.int v)) ∧ MIx x' ∧ x'.1 2 = x.1 2)) 0 0 13 [(4, .int at1), (0, .ref am), (1, .int (nI q0)), (2, .long nv)] [] h 0 0 := by
    intro n
    induction n with
    | zero => intro y h hm hs op mk sf tf hSI at1 hat hpo hn; exact absurd hn (Nat.not_lt_zero _)
    | succ n ih =>
      intro y h hm hs op mk sf tf hSI at1 hat hpo hn
      have hop8 : op ≤ 8 := by
        have hrl := hIR.2
        rcases Nat.eq_zero_or_pos op with z | z
        · omega
        · have := hSI.le (op - 1) (by omega)
          omega
      refine g_aload_n cx 1 d_8_34_13 rfl rfl ?_
      refine m_get cx (k := 24) d_8_34_14 t_922 ⟨by decide, rfl⟩ hm rfl ?_
      refine g_if_le cx d_8_34_17 rfl (fun c17 => (by
          have h9 : nI op ≤ nI 0 := by rw [← hSI.2.1]; exact c17
          have h10 := (nI_leI (by omega) (by decide)).mp h9
          exact x0 y h hm hs op mk sf tf hSI at1 (by omega) (by omega))) (fun c17 => ?_)
      refine g_iload cx 0 d_8_34_20 rfl ?_
      refine g_if_ge cx d_8_34_22 rfl (fun c22 => (by
          rcases hat with z | ⟨w, hw, rfl, hnv⟩
          · exact absurd c22 (by rw [z]; decide)
          · exact x1 y h hm hs op mk sf tf hSI w hw hnv (by omega))) (fun c22 => ?_)
      obtain ⟨u, rfl⟩ : ∃ u, op = u + 1 := ⟨op - 1, by have : op ≠ 0 := fun z => c17 (by show y.1 24 ≤ 0; rw [hSI.2.1, z]; decide); omega⟩
      have h24 := hSI.2.1
      obtain ⟨t1, t2, t3, t4, t5⟩ := hSI.2.2.2.1 u (by omega)
      have hle0 := hSI.le u (by omega)
      have hrl := hIR.2
      have ht : tf u = 0 ∨ tf u = 1 ∨ tf u = 2 ∨ tf u = 3 := by omega
      refine g_aload_n cx 1 d_8_34_25 rfl rfl ?_
      rcases ht with ht | ht | ht | ht
      · skip
        refine m_get cx (k := 26) d_8_34_26 t_924 ⟨by decide, rfl⟩ hm rfl ?_
        refine g_aload_n cx 1 d_8_34_29 rfl rfl ?_
        refine m_get cx (k := 24) d_8_34_30 t_922 ⟨by decide, rfl⟩ hm rfl ?_
        refine g_iconst cx (v := 1) d_8_34_33 (by decide) ?_
        refine g_isub cx d_8_34_34 ?_
        refine m_ld1 cx d_8_34_35 (by decide) hm (show y.1 24 - 1 = nI u by rw [h24]; exact pk_sub (b := 1) (by omega)) ⟨(show u < 8 by omega), by decide⟩ ?_
        refine g_topi (fun s5 es5 => ?_)
        obtain rfl : s5 = nI (sf u) := es5.trans t1
        refine g_istore cx (lv' := [(5, .int (nI (sf u))), (4, .int at1), (0, .ref am), (1, .int (nI q0)), (2, .long nv)]) d_8_34_36 (by decide) rfl ?_
        refine g_aload_n cx 2 d_8_34_38 rfl rfl ?_
        refine m_get cx (k := 27) d_8_34_39 t_925 ⟨by decide, rfl⟩ hm rfl ?_
        refine g_aload_n cx 2 d_8_34_42 rfl rfl ?_
        refine m_get cx (k := 24) d_8_34_43 t_922 ⟨by decide, rfl⟩ hm rfl ?_
        refine g_iconst cx (v := 1) d_8_34_46 (by decide) ?_
        refine g_isub cx d_8_34_47 ?_
        refine m_ld1 cx d_8_34_48 (by decide) hm (show y.1 24 - 1 = nI u by rw [h24]; exact pk_sub (b := 1) (by omega)) ⟨(show u < 8 by omega), by decide⟩ ?_
        refine g_topi (fun nw enw => ?_)
        obtain rfl : nw = 0 := enw.trans (by rw [t3, ht]; rfl)
        refine g_istore cx (lv' := [(6, .int 0), (5, .int (nI (sf u))), (4, .int at1), (0, .ref am), (1, .int (nI q0)), (2, .long nv)]) d_8_34_49 (by decide) rfl ?_
        refine g_aload_n cx 3 d_8_34_51 rfl rfl ?_
        refine m_get cx (k := 27) d_8_34_52 t_925 ⟨by decide, rfl⟩ hm rfl ?_
        refine g_aload_n cx 3 d_8_34_55 rfl rfl ?_
        refine m_get cx (k := 24) d_8_34_56 t_922 ⟨by decide, rfl⟩ hm rfl ?_
        refine g_iconst cx (v := 1) d_8_34_59 (by decide) ?_
        refine g_isub cx d_8_34_60 ?_
        refine g_dup2_11 cx d_8_34_61 rfl rfl ?_
        refine m_ld1 cx d_8_34_62 (by decide) hm (show y.1 24 - 1 = nI u by rw [h24]; exact pk_sub (b := 1) (by omega)) ⟨(show u < 8 by omega), by decide⟩ ?_
        refine g_iconst cx (v := 1) d_8_34_63 (by decide) ?_
        refine g_iadd cx d_8_34_64 ?_
        refine g_topi (fun g9 eg9 => ?_)
        obtain rfl : g9 = nI (tf u + 1) := eg9.trans (by show y.2.1 27 u + 1 = _; rw [t3, nI_1])
        refine m_st1 cx hA d_8_34_65 (by decide) hm hs (show y.1 24 - 1 = nI u by rw [h24]; exact pk_sub (b := 1) (by omega)) ⟨(show u < 8 by omega), by decide⟩ (fun h hm hs => ?_)
        have hfy : Fx [24, 25] [9, 26, 27, 28] [] x (seta y 27 u (nI (tf u + 1))) := hSI.1.a (by decide)
        refine g_iload cx 0 d_8_34_66 rfl ?_
        refine g_if_ne cx d_8_34_68 rfl (fun c68 => absurd rfl c68) (fun c68 => ?_)
        refine g_aload_n cx 3 d_8_34_71 rfl rfl ?_
        refine g_iload cx 1 d_8_34_72 rfl ?_
        refine g_lload_n cx 5 d_8_34_74 rfl rfl ?_
        refine m_call 4 cx (As := [.int (nI (sf u)), .long nv]) (n := 2) (mc_byImports hSt hA (seta y 27 u (nI (tf u + 1))) (sf u) nv nm ld (by omega) (by rw [ILd, hfy.2.1 13 (by decide)]; exact hLd) (by rw [ILo, hfy.2.1 14 (by decide)]; exact hLo) (by rw [INm, hfy.2.1 8 (by decide)]; exact hNm) im mk (by rw [IIm, hfy.2.1 15 (by decide)]; exact hIm) (by rw [IFr, hfy.2.1 16 (by decide)]; exact hFr) hSI.2.2.1 (by omega)) d_8_34_75 t_1090 t_1092 ts_48 t_1093 rfl ⟨rfl, by decide +kernel⟩ rfl ⟨by decide, by decide⟩ (Nat.le_of_ble_eq_true rfl) hm hs (fun v75 x75 h hm hs r75 => ?_)
        obtain ⟨hf75, ⟨mk', hk75, hm75⟩, r75⟩ := r75
        have hS2 := hSI.stage (by omega) hf75 hk75
        have hmu := mu_stage (x := x) (sf := sf) (tf := tf) (k := u) (by omega)
        rcases r75 with ⟨w, hw, rfl, hnv⟩ | rfl
        · skip
          refine g_topi (fun at2 eat2 => ?_)
          refine g_istore cx (lv' := [(4, .int at2), (6, .int 0), (5, .int (nI (sf u))), (0, .ref am), (1, .int (nI q0)), (2, .long nv)]) d_8_34_78 (by decide) rfl ?_
          refine g_goto cx d_8_34_80 rfl ?_
          refine g_goto cx d_8_34_149 rfl ?_
          refine g_loc (lv' := [(4, .int at2), (0, .ref am), (1, .int (nI q0)), (2, .long nv)]) [0, 3, 4, 5] rfl ?_
          exact ih _ h hm hs (u + 1) mk' sf _ hS2 at2 (Or.inr ⟨w, hw, eat2, (by obtain ⟨b, t, hb, ht, hbt⟩ := hnv; exact ⟨b, t, hb, ht, by rw [hbt, hfy.2.2 10 (by decide)]⟩)⟩) (by omega) (by omega)
        · skip
          refine g_topi (fun at2 eat2 => ?_)
          refine g_istore cx (lv' := [(4, .int at2), (6, .int 0), (5, .int (nI (sf u))), (0, .ref am), (1, .int (nI q0)), (2, .long nv)]) d_8_34_78 (by decide) rfl ?_
          refine g_goto cx d_8_34_80 rfl ?_
          refine g_goto cx d_8_34_149 rfl ?_
          refine g_loc (lv' := [(4, .int at2), (0, .ref am), (1, .int (nI q0)), (2, .long nv)]) [0, 3, 4, 5] rfl ?_
          exact ih _ h hm hs (u + 1) mk' sf _ hS2 at2 (Or.inl eat2) (by omega) (by omega)
      · skip
        refine m_get cx (k := 26) d_8_34_26 t_924 ⟨by decide, rfl⟩ hm rfl ?_
        refine g_aload_n cx 1 d_8_34_29 rfl rfl ?_
        refine m_get cx (k := 24) d_8_34_30 t_922 ⟨by decide, rfl⟩ hm rfl ?_
        refine g_iconst cx (v := 1) d_8_34_33 (by decide) ?_
        refine g_isub cx d_8_34_34 ?_
        refine m_ld1 cx d_8_34_35 (by decide) hm (show y.1 24 - 1 = nI u by rw [h24]; exact pk_sub (b := 1) (by omega)) ⟨(show u < 8 by omega), by decide⟩ ?_
        refine g_topi (fun s5 es5 => ?_)
        obtain rfl : s5 = nI (sf u) := es5.trans t1
        refine g_istore cx (lv' := [(5, .int (nI (sf u))), (4, .int at1), (0, .ref am), (1, .int (nI q0)), (2, .long nv)]) d_8_34_36 (by decide) rfl ?_
        refine g_aload_n cx 2 d_8_34_38 rfl rfl ?_
        refine m_get cx (k := 27) d_8_34_39 t_925 ⟨by decide, rfl⟩ hm rfl ?_
        refine g_aload_n cx 2 d_8_34_42 rfl rfl ?_
        refine m_get cx (k := 24) d_8_34_43 t_922 ⟨by decide, rfl⟩ hm rfl ?_
        refine g_iconst cx (v := 1) d_8_34_46 (by decide) ?_
        refine g_isub cx d_8_34_47 ?_
        refine m_ld1 cx d_8_34_48 (by decide) hm (show y.1 24 - 1 = nI u by rw [h24]; exact pk_sub (b := 1) (by omega)) ⟨(show u < 8 by omega), by decide⟩ ?_
        refine g_topi (fun nw enw => ?_)
        obtain rfl : nw = 1 := enw.trans (by rw [t3, ht]; rfl)
        refine g_istore cx (lv' := [(6, .int 1), (5, .int (nI (sf u))), (4, .int at1), (0, .ref am), (1, .int (nI q0)), (2, .long nv)]) d_8_34_49 (by decide) rfl ?_
        refine g_aload_n cx 3 d_8_34_51 rfl rfl ?_
        refine m_get cx (k := 27) d_8_34_52 t_925 ⟨by decide, rfl⟩ hm rfl ?_
        refine g_aload_n cx 3 d_8_34_55 rfl rfl ?_
        refine m_get cx (k := 24) d_8_34_56 t_922 ⟨by decide, rfl⟩ hm rfl ?_
        refine g_iconst cx (v := 1) d_8_34_59 (by decide) ?_
        refine g_isub cx d_8_34_60 ?_
        refine g_dup2_11 cx d_8_34_61 rfl rfl ?_
        refine m_ld1 cx d_8_34_62 (by decide) hm (show y.1 24 - 1 = nI u by rw [h24]; exact pk_sub (b := 1) (by omega)) ⟨(show u < 8 by omega), by decide⟩ ?_
        refine g_iconst cx (v := 1) d_8_34_63 (by decide) ?_
        refine g_iadd cx d_8_34_64 ?_
        refine g_topi (fun g9 eg9 => ?_)
        obtain rfl : g9 = nI (tf u + 1) := eg9.trans (by show y.2.1 27 u + 1 = _; rw [t3, nI_1])
        refine m_st1 cx hA d_8_34_65 (by decide) hm hs (show y.1 24 - 1 = nI u by rw [h24]; exact pk_sub (b := 1) (by omega)) ⟨(show u < 8 by omega), by decide⟩ (fun h hm hs => ?_)
        have hfy : Fx [24, 25] [9, 26, 27, 28] [] x (seta y 27 u (nI (tf u + 1))) := hSI.1.a (by decide)
        refine g_iload cx 0 d_8_34_66 rfl ?_
        refine g_if_ne cx d_8_34_68 rfl (fun c68 => ?_) (fun c68 => absurd c68 (by decide))
        refine g_iload cx 0 d_8_34_83 rfl ?_
        refine g_iconst cx (v := 3) d_8_34_85 (by decide) ?_
        refine g_icmp_ne cx d_8_34_86 rfl (fun c86 => ?_) (fun c86 => absurd c86 (by decide))
        refine g_iload cx 0 d_8_34_102 rfl ?_
        refine g_iconst cx (v := 1) d_8_34_104 (by decide) ?_
        refine g_icmp_ne cx d_8_34_105 rfl (fun c105 => absurd rfl c105) (fun c105 => ?_)
        refine g_iconst cx (v := 1) d_8_34_108 (by decide) ?_
        refine g_goto cx d_8_34_109 rfl ?_
        refine g_aload_n cx 3 d_8_34_113 rfl rfl ?_
        refine m_get cx (k := 23) d_8_34_114 t_921 ⟨by decide, rfl⟩ hm rfl ?_
        refine g_iload cx 1 d_8_34_117 rfl ?_
        refine m_ld4 cx d_8_34_119 (by decide) hm rfl ⟨(show sf u < 8 by omega), by decide⟩ ?_
        refine g_icmp_eq cx d_8_34_120 rfl (fun c120 => ?_) (fun c120 => ?_)
        · skip
          have hpf : x.2.1 23 (sf u) = 1 := by
            rw [← hfy.2.1 23 (by decide)]; exact c120.symm
          have hp1 : pnd x (sf u) (tf u) = true := by rw [ht]; unfold pnd; rw [hpf]; decide
          have hp2 : pnd x (sf u) (tf u + 1) = false := by rw [ht]; unfold pnd; rw [hpf]; decide
          have hS2 := hSI.stage (y3 := (seta y 27 u (nI (tf u + 1)))) (mk' := mk) (by omega) Fx.rf hSI.2.2.1
          have hmu := mu_stage (x := x) (sf := sf) (tf := tf) (k := u) (by omega)
          have hpar := hPa (sf u) (by omega)
          rw [← show (seta y 27 u (nI (tf u + 1))).2.1 17 (sf u) = x.2.1 17 (sf u) from congrFun (hfy.2.1 17 (by decide)) (sf u)] at hpar
          refine g_aload_n cx 3 d_8_34_135 rfl rfl ?_
          refine g_aload_n cx 3 d_8_34_136 rfl rfl ?_
          refine m_get cx (k := 17) d_8_34_137 t_915 ⟨by decide, rfl⟩ hm rfl ?_
          refine g_iload cx 1 d_8_34_140 rfl ?_
          refine m_ld1 cx d_8_34_142 (by decide) hm rfl ⟨(show sf u < 8 by omega), by decide⟩ ?_
          refine g_topi (fun p9 ep9 => ?_)
          rcases hpar with hpar | ⟨g, hgs, hpar⟩
          · skip
            obtain rfl : p9 = -1 := ep9.trans hpar
            refine g_lload_n cx 5 d_8_34_143 rfl rfl ?_
            refine m_call 4 cx (As := [.int (-1), .long nv]) (n := 2) (mc_upN hSt hA (seta y 27 u (nI (tf u + 1))) nv) d_8_34_144 t_1117 t_1119 ts_52 t_1120 rfl ⟨rfl, by decide +kernel⟩ rfl ⟨by decide, by decide⟩ (Nat.le_of_ble_eq_true rfl) hm hs (fun v144 x144 h hm hs r144 => ?_)
            obtain ⟨rfl, rfl⟩ := r144
            refine g_topi (fun at2 eat2 => ?_)
            refine g_istore cx (lv' := [(4, .int at2), (6, .int 1), (5, .int (nI (sf u))), (0, .ref am), (1, .int (nI q0)), (2, .long nv)]) d_8_34_147 (by decide) rfl ?_
            refine g_goto cx d_8_34_149 rfl ?_
            refine g_loc (lv' := [(4, .int at2), (0, .ref am), (1, .int (nI q0)), (2, .long nv)]) [0, 3, 4, 5] rfl ?_
            exact ih _ h hm hs (u + 1) mk sf _ hS2 at2 (Or.inl eat2) (by omega) (by omega)
          · skip
            obtain rfl : p9 = nI g := ep9.trans hpar
            have hle := hSI.le u (by omega)
            refine g_lload_n cx 5 d_8_34_143 rfl rfl ?_
            refine m_call 4 cx (As := [.int (nI g), .long nv]) (n := 2) (mc_upP hSt hA (seta y 27 u (nI (tf u + 1))) g nv nm kp (u + 1) mk (by omega) (by rw [INm, hfy.2.1 8 (by decide)]; exact hNm) (by rw [IKp, hfy.2.1 18 (by decide), hfy.2.1 19 (by decide), hfy.2.2 21 (by decide), hfy.2.2 10 (by decide)]; exact hKp) h24 (by omega) hSI.2.2.1 (by omega)) d_8_34_144 t_1117 t_1119 ts_52 t_1120 rfl ⟨rfl, by decide +kernel⟩ rfl ⟨by decide, by decide⟩ (Nat.le_of_ble_eq_true rfl) hm hs (fun v144 x144 h hm hs r144 => ?_)
            rcases r144 with ⟨rfl, rfl⟩ | ⟨⟨w, hw, rfl, hnv⟩, rfl⟩ | ⟨rfl, hno, rfl⟩
            · skip
              refine g_topi (fun at2 eat2 => ?_)
              refine g_istore cx (lv' := [(4, .int at2), (6, .int 1), (5, .int (nI (sf u))), (0, .ref am), (1, .int (nI q0)), (2, .long nv)]) d_8_34_147 (by decide) rfl ?_
              refine g_goto cx d_8_34_149 rfl ?_
              refine g_loc (lv' := [(4, .int at2), (0, .ref am), (1, .int (nI q0)), (2, .long nv)]) [0, 3, 4, 5] rfl ?_
              exact ih _ h hm hs (u + 1) mk sf _ hS2 at2 (Or.inl eat2) (by omega) (by omega)
            · skip
              refine g_topi (fun at2 eat2 => ?_)
              refine g_istore cx (lv' := [(4, .int at2), (6, .int 1), (5, .int (nI (sf u))), (0, .ref am), (1, .int (nI q0)), (2, .long nv)]) d_8_34_147 (by decide) rfl ?_
              refine g_goto cx d_8_34_149 rfl ?_
              refine g_loc (lv' := [(4, .int at2), (0, .ref am), (1, .int (nI q0)), (2, .long nv)]) [0, 3, 4, 5] rfl ?_
              exact ih _ h hm hs (u + 1) mk sf _ hS2 at2 (Or.inr ⟨w, hw, eat2, (by obtain ⟨b, t, hb, ht, hbt⟩ := hnv; exact ⟨b, t, hb, ht, by rw [hbt, hfy.2.2 10 (by decide)]⟩)⟩) (by omega) (by omega)
            · skip
              refine g_topi (fun at2 eat2 => ?_)
              refine g_istore cx (lv' := [(4, .int at2), (6, .int 1), (5, .int (nI (sf u))), (0, .ref am), (1, .int (nI q0)), (2, .long nv)]) d_8_34_147 (by decide) rfl ?_
              refine g_goto cx d_8_34_149 rfl ?_
              refine g_loc (lv' := [(4, .int at2), (0, .ref am), (1, .int (nI q0)), (2, .long nv)]) [0, 3, 4, 5] rfl ?_
              have hno' : ∀ j, j < kp g → x.2.2 21 (36 * g + j) ≠ nv := fun j hj => by rw [← hfy.2.2 21 (by decide)]; exact hno j hj
              have hS3 := hSI.push (by omega) hgs hno' hp2
              have hmu3 := mu_push (x := x) (sf := sf) (tf := tf) (k := u) (g := g) (by omega) hgs hp1
              exact ih _ h hm hs (u + 2) (mk + 1) _ _ hS3 at2 (Or.inl eat2) (by omega) (by omega)
        · skip
          refine g_aload_n cx 3 d_8_34_123 rfl rfl ?_
          refine g_iload cx 1 d_8_34_124 rfl ?_
          refine g_lload_n cx 5 d_8_34_126 rfl rfl ?_
          refine m_call 4 cx (As := [.int (nI (sf u)), .long nv]) (n := 2) (mc_ownPlace hSt hA (seta y 27 u (nI (tf u + 1))) (sf u) nv nm ld (by omega) (by rw [ILd, hfy.2.1 13 (by decide)]; exact hLd) (by rw [ILo, hfy.2.1 14 (by decide)]; exact hLo) (by rw [INm, hfy.2.1 8 (by decide)]; exact hNm)) d_8_34_127 t_1113 t_1115 ts_51 t_1116 rfl ⟨rfl, by decide +kernel⟩ rfl ⟨by decide, by decide⟩ (Nat.le_of_ble_eq_true rfl) hm hs (fun v127 x127 h hm hs r127 => ?_)
          obtain ⟨hf9, r9⟩ := r127
          have hS2 := hSI.stage (mk' := mk) (by omega) (hf9.le (by decide) (by decide) (by decide)) ((hf9.1 25 (by decide)).trans hSI.2.2.1)
          have hmu := mu_stage (x := x) (sf := sf) (tf := tf) (k := u) (by omega)
          rcases r9 with ⟨w, hw, rfl, hnv⟩ | rfl
          · skip
            refine g_topi (fun at2 eat2 => ?_)
            refine g_istore cx (lv' := [(4, .int at2), (6, .int 1), (5, .int (nI (sf u))), (0, .ref am), (1, .int (nI q0)), (2, .long nv)]) d_8_34_130 (by decide) rfl ?_
            refine g_goto cx d_8_34_132 rfl ?_
            refine g_goto cx d_8_34_149 rfl ?_
            refine g_loc (lv' := [(4, .int at2), (0, .ref am), (1, .int (nI q0)), (2, .long nv)]) [0, 3, 4, 5] rfl ?_
            exact ih _ h hm hs (u + 1) mk sf _ hS2 at2 (Or.inr ⟨w, hw, eat2, (by obtain ⟨b, t, hb, ht, hbt⟩ := hnv; exact ⟨b, t, hb, ht, by rw [hbt, hfy.2.2 10 (by decide)]⟩)⟩) (by omega) (by omega)
          · skip
            refine g_topi (fun at2 eat2 => ?_)
            refine g_istore cx (lv' := [(4, .int at2), (6, .int 1), (5, .int (nI (sf u))), (0, .ref am), (1, .int (nI q0)), (2, .long nv)]) d_8_34_130 (by decide) rfl ?_
            refine g_goto cx d_8_34_132 rfl ?_
            refine g_goto cx d_8_34_149 rfl ?_
            refine g_loc (lv' := [(4, .int at2), (0, .ref am), (1, .int (nI q0)), (2, .long nv)]) [0, 3, 4, 5] rfl ?_
            exact ih _ h hm hs (u + 1) mk sf _ hS2 at2 (Or.inl eat2) (by omega) (by omega)
      · skip
        refine m_get cx (k := 26) d_8_34_26 t_924 ⟨by decide, rfl⟩ hm rfl ?_
        refine g_aload_n cx 1 d_8_34_29 rfl rfl ?_
        refine m_get cx (k := 24) d_8_34_30 t_922 ⟨by decide, rfl⟩ hm rfl ?_
        refine g_iconst cx (v := 1) d_8_34_33 (by decide) ?_
        refine g_isub cx d_8_34_34 ?_
        refine m_ld1 cx d_8_34_35 (by decide) hm (show y.1 24 - 1 = nI u by rw [h24]; exact pk_sub (b := 1) (by omega)) ⟨(show u < 8 by omega), by decide⟩ ?_
        refine g_topi (fun s5 es5 => ?_)
        obtain rfl : s5 = nI (sf u) := es5.trans t1
        refine g_istore cx (lv' := [(5, .int (nI (sf u))), (4, .int at1), (0, .ref am), (1, .int (nI q0)), (2, .long nv)]) d_8_34_36 (by decide) rfl ?_
        refine g_aload_n cx 2 d_8_34_38 rfl rfl ?_
        refine m_get cx (k := 27) d_8_34_39 t_925 ⟨by decide, rfl⟩ hm rfl ?_
        refine g_aload_n cx 2 d_8_34_42 rfl rfl ?_
        refine m_get cx (k := 24) d_8_34_43 t_922 ⟨by decide, rfl⟩ hm rfl ?_
        refine g_iconst cx (v := 1) d_8_34_46 (by decide) ?_
        refine g_isub cx d_8_34_47 ?_
        refine m_ld1 cx d_8_34_48 (by decide) hm (show y.1 24 - 1 = nI u by rw [h24]; exact pk_sub (b := 1) (by omega)) ⟨(show u < 8 by omega), by decide⟩ ?_
        refine g_topi (fun nw enw => ?_)
        obtain rfl : nw = 2 := enw.trans (by rw [t3, ht]; rfl)
        refine g_istore cx (lv' := [(6, .int 2), (5, .int (nI (sf u))), (4, .int at1), (0, .ref am), (1, .int (nI q0)), (2, .long nv)]) d_8_34_49 (by decide) rfl ?_
        refine g_aload_n cx 3 d_8_34_51 rfl rfl ?_
        refine m_get cx (k := 27) d_8_34_52 t_925 ⟨by decide, rfl⟩ hm rfl ?_
        refine g_aload_n cx 3 d_8_34_55 rfl rfl ?_
        refine m_get cx (k := 24) d_8_34_56 t_922 ⟨by decide, rfl⟩ hm rfl ?_
        refine g_iconst cx (v := 1) d_8_34_59 (by decide) ?_
        refine g_isub cx d_8_34_60 ?_
        refine g_dup2_11 cx d_8_34_61 rfl rfl ?_
        refine m_ld1 cx d_8_34_62 (by decide) hm (show y.1 24 - 1 = nI u by rw [h24]; exact pk_sub (b := 1) (by omega)) ⟨(show u < 8 by omega), by decide⟩ ?_
        refine g_iconst cx (v := 1) d_8_34_63 (by decide) ?_
        refine g_iadd cx d_8_34_64 ?_
        refine g_topi (fun g9 eg9 => ?_)
        obtain rfl : g9 = nI (tf u + 1) := eg9.trans (by show y.2.1 27 u + 1 = _; rw [t3, nI_1])
        refine m_st1 cx hA d_8_34_65 (by decide) hm hs (show y.1 24 - 1 = nI u by rw [h24]; exact pk_sub (b := 1) (by omega)) ⟨(show u < 8 by omega), by decide⟩ (fun h hm hs => ?_)
        have hfy : Fx [24, 25] [9, 26, 27, 28] [] x (seta y 27 u (nI (tf u + 1))) := hSI.1.a (by decide)
        refine g_iload cx 0 d_8_34_66 rfl ?_
        refine g_if_ne cx d_8_34_68 rfl (fun c68 => ?_) (fun c68 => absurd c68 (by decide))
        refine g_iload cx 0 d_8_34_83 rfl ?_
        refine g_iconst cx (v := 3) d_8_34_85 (by decide) ?_
        refine g_icmp_ne cx d_8_34_86 rfl (fun c86 => ?_) (fun c86 => absurd c86 (by decide))
        refine g_iload cx 0 d_8_34_102 rfl ?_
        refine g_iconst cx (v := 1) d_8_34_104 (by decide) ?_
        refine g_icmp_ne cx d_8_34_105 rfl (fun c105 => ?_) (fun c105 => absurd c105 (by decide))
        refine g_iconst cx (v := 0) d_8_34_112 (by decide) ?_
        refine g_aload_n cx 3 d_8_34_113 rfl rfl ?_
        refine m_get cx (k := 23) d_8_34_114 t_921 ⟨by decide, rfl⟩ hm rfl ?_
        refine g_iload cx 1 d_8_34_117 rfl ?_
        refine m_ld4 cx d_8_34_119 (by decide) hm rfl ⟨(show sf u < 8 by omega), by decide⟩ ?_
        refine g_icmp_eq cx d_8_34_120 rfl (fun c120 => ?_) (fun c120 => ?_)
        · skip
          have hpf : x.2.1 23 (sf u) = 0 := by
            rw [← hfy.2.1 23 (by decide)]; exact c120.symm
          have hp1 : pnd x (sf u) (tf u) = true := by rw [ht]; unfold pnd; rw [hpf]; decide
          have hp2 : pnd x (sf u) (tf u + 1) = false := by rw [ht]; unfold pnd; rw [hpf]; decide
          have hS2 := hSI.stage (y3 := (seta y 27 u (nI (tf u + 1)))) (mk' := mk) (by omega) Fx.rf hSI.2.2.1
          have hmu := mu_stage (x := x) (sf := sf) (tf := tf) (k := u) (by omega)
          have hpar := hPa (sf u) (by omega)
          rw [← show (seta y 27 u (nI (tf u + 1))).2.1 17 (sf u) = x.2.1 17 (sf u) from congrFun (hfy.2.1 17 (by decide)) (sf u)] at hpar
          refine g_aload_n cx 3 d_8_34_135 rfl rfl ?_
          refine g_aload_n cx 3 d_8_34_136 rfl rfl ?_
          refine m_get cx (k := 17) d_8_34_137 t_915 ⟨by decide, rfl⟩ hm rfl ?_
          refine g_iload cx 1 d_8_34_140 rfl ?_
          refine m_ld1 cx d_8_34_142 (by decide) hm rfl ⟨(show sf u < 8 by omega), by decide⟩ ?_
          refine g_topi (fun p9 ep9 => ?_)
          rcases hpar with hpar | ⟨g, hgs, hpar⟩
          · skip
            obtain rfl : p9 = -1 := ep9.trans hpar
            refine g_lload_n cx 5 d_8_34_143 rfl rfl ?_
            refine m_call 4 cx (As := [.int (-1), .long nv]) (n := 2) (mc_upN hSt hA (seta y 27 u (nI (tf u + 1))) nv) d_8_34_144 t_1117 t_1119 ts_52 t_1120 rfl ⟨rfl, by decide +kernel⟩ rfl ⟨by decide, by decide⟩ (Nat.le_of_ble_eq_true rfl) hm hs (fun v144 x144 h hm hs r144 => ?_)
            obtain ⟨rfl, rfl⟩ := r144
            refine g_topi (fun at2 eat2 => ?_)
            refine g_istore cx (lv' := [(4, .int at2), (6, .int 2), (5, .int (nI (sf u))), (0, .ref am), (1, .int (nI q0)), (2, .long nv)]) d_8_34_147 (by decide) rfl ?_
            refine g_goto cx d_8_34_149 rfl ?_
            refine g_loc (lv' := [(4, .int at2), (0, .ref am), (1, .int (nI q0)), (2, .long nv)]) [0, 3, 4, 5] rfl ?_
            exact ih _ h hm hs (u + 1) mk sf _ hS2 at2 (Or.inl eat2) (by omega) (by omega)
          · skip
            obtain rfl : p9 = nI g := ep9.trans hpar
            have hle := hSI.le u (by omega)
            refine g_lload_n cx 5 d_8_34_143 rfl rfl ?_
            refine m_call 4 cx (As := [.int (nI g), .long nv]) (n := 2) (mc_upP hSt hA (seta y 27 u (nI (tf u + 1))) g nv nm kp (u + 1) mk (by omega) (by rw [INm, hfy.2.1 8 (by decide)]; exact hNm) (by rw [IKp, hfy.2.1 18 (by decide), hfy.2.1 19 (by decide), hfy.2.2 21 (by decide), hfy.2.2 10 (by decide)]; exact hKp) h24 (by omega) hSI.2.2.1 (by omega)) d_8_34_144 t_1117 t_1119 ts_52 t_1120 rfl ⟨rfl, by decide +kernel⟩ rfl ⟨by decide, by decide⟩ (Nat.le_of_ble_eq_true rfl) hm hs (fun v144 x144 h hm hs r144 => ?_)
            rcases r144 with ⟨rfl, rfl⟩ | ⟨⟨w, hw, rfl, hnv⟩, rfl⟩ | ⟨rfl, hno, rfl⟩
            · skip
              refine g_topi (fun at2 eat2 => ?_)
              refine g_istore cx (lv' := [(4, .int at2), (6, .int 2), (5, .int (nI (sf u))), (0, .ref am), (1, .int (nI q0)), (2, .long nv)]) d_8_34_147 (by decide) rfl ?_
              refine g_goto cx d_8_34_149 rfl ?_
              refine g_loc (lv' := [(4, .int at2), (0, .ref am), (1, .int (nI q0)), (2, .long nv)]) [0, 3, 4, 5] rfl ?_
              exact ih _ h hm hs (u + 1) mk sf _ hS2 at2 (Or.inl eat2) (by omega) (by omega)
            · skip
              refine g_topi (fun at2 eat2 => ?_)
              refine g_istore cx (lv' := [(4, .int at2), (6, .int 2), (5, .int (nI (sf u))), (0, .ref am), (1, .int (nI q0)), (2, .long nv)]) d_8_34_147 (by decide) rfl ?_
              refine g_goto cx d_8_34_149 rfl ?_
              refine g_loc (lv' := [(4, .int at2), (0, .ref am), (1, .int (nI q0)), (2, .long nv)]) [0, 3, 4, 5] rfl ?_
              exact ih _ h hm hs (u + 1) mk sf _ hS2 at2 (Or.inr ⟨w, hw, eat2, (by obtain ⟨b, t, hb, ht, hbt⟩ := hnv; exact ⟨b, t, hb, ht, by rw [hbt, hfy.2.2 10 (by decide)]⟩)⟩) (by omega) (by omega)
            · skip
              refine g_topi (fun at2 eat2 => ?_)
              refine g_istore cx (lv' := [(4, .int at2), (6, .int 2), (5, .int (nI (sf u))), (0, .ref am), (1, .int (nI q0)), (2, .long nv)]) d_8_34_147 (by decide) rfl ?_
              refine g_goto cx d_8_34_149 rfl ?_
              refine g_loc (lv' := [(4, .int at2), (0, .ref am), (1, .int (nI q0)), (2, .long nv)]) [0, 3, 4, 5] rfl ?_
              have hno' : ∀ j, j < kp g → x.2.2 21 (36 * g + j) ≠ nv := fun j hj => by rw [← hfy.2.2 21 (by decide)]; exact hno j hj
              have hS3 := hSI.push (by omega) hgs hno' hp2
              have hmu3 := mu_push (x := x) (sf := sf) (tf := tf) (k := u) (g := g) (by omega) hgs hp1
              exact ih _ h hm hs (u + 2) (mk + 1) _ _ hS3 at2 (Or.inl eat2) (by omega) (by omega)
        · skip
          refine g_aload_n cx 3 d_8_34_123 rfl rfl ?_
          refine g_iload cx 1 d_8_34_124 rfl ?_
          refine g_lload_n cx 5 d_8_34_126 rfl rfl ?_
          refine m_call 4 cx (As := [.int (nI (sf u)), .long nv]) (n := 2) (mc_ownPlace hSt hA (seta y 27 u (nI (tf u + 1))) (sf u) nv nm ld (by omega) (by rw [ILd, hfy.2.1 13 (by decide)]; exact hLd) (by rw [ILo, hfy.2.1 14 (by decide)]; exact hLo) (by rw [INm, hfy.2.1 8 (by decide)]; exact hNm)) d_8_34_127 t_1113 t_1115 ts_51 t_1116 rfl ⟨rfl, by decide +kernel⟩ rfl ⟨by decide, by decide⟩ (Nat.le_of_ble_eq_true rfl) hm hs (fun v127 x127 h hm hs r127 => ?_)
          obtain ⟨hf9, r9⟩ := r127
          have hS2 := hSI.stage (mk' := mk) (by omega) (hf9.le (by decide) (by decide) (by decide)) ((hf9.1 25 (by decide)).trans hSI.2.2.1)
          have hmu := mu_stage (x := x) (sf := sf) (tf := tf) (k := u) (by omega)
          rcases r9 with ⟨w, hw, rfl, hnv⟩ | rfl
          · skip
            refine g_topi (fun at2 eat2 => ?_)
            refine g_istore cx (lv' := [(4, .int at2), (6, .int 2), (5, .int (nI (sf u))), (0, .ref am), (1, .int (nI q0)), (2, .long nv)]) d_8_34_130 (by decide) rfl ?_
            refine g_goto cx d_8_34_132 rfl ?_
            refine g_goto cx d_8_34_149 rfl ?_
            refine g_loc (lv' := [(4, .int at2), (0, .ref am), (1, .int (nI q0)), (2, .long nv)]) [0, 3, 4, 5] rfl ?_
            exact ih _ h hm hs (u + 1) mk sf _ hS2 at2 (Or.inr ⟨w, hw, eat2, (by obtain ⟨b, t, hb, ht, hbt⟩ := hnv; exact ⟨b, t, hb, ht, by rw [hbt, hfy.2.2 10 (by decide)]⟩)⟩) (by omega) (by omega)
          · skip
            refine g_topi (fun at2 eat2 => ?_)
            refine g_istore cx (lv' := [(4, .int at2), (6, .int 2), (5, .int (nI (sf u))), (0, .ref am), (1, .int (nI q0)), (2, .long nv)]) d_8_34_130 (by decide) rfl ?_
            refine g_goto cx d_8_34_132 rfl ?_
            refine g_goto cx d_8_34_149 rfl ?_
            refine g_loc (lv' := [(4, .int at2), (0, .ref am), (1, .int (nI q0)), (2, .long nv)]) [0, 3, 4, 5] rfl ?_
            exact ih _ h hm hs (u + 1) mk sf _ hS2 at2 (Or.inl eat2) (by omega) (by omega)
      · skip
        refine m_get cx (k := 26) d_8_34_26 t_924 ⟨by decide, rfl⟩ hm rfl ?_
        refine g_aload_n cx 1 d_8_34_29 rfl rfl ?_
        refine m_get cx (k := 24) d_8_34_30 t_922 ⟨by decide, rfl⟩ hm rfl ?_
        refine g_iconst cx (v := 1) d_8_34_33 (by decide) ?_
        refine g_isub cx d_8_34_34 ?_
        refine m_ld1 cx d_8_34_35 (by decide) hm (show y.1 24 - 1 = nI u by rw [h24]; exact pk_sub (b := 1) (by omega)) ⟨(show u < 8 by omega), by decide⟩ ?_
        refine g_topi (fun s5 es5 => ?_)
        obtain rfl : s5 = nI (sf u) := es5.trans t1
        refine g_istore cx (lv' := [(5, .int (nI (sf u))), (4, .int at1), (0, .ref am), (1, .int (nI q0)), (2, .long nv)]) d_8_34_36 (by decide) rfl ?_
        refine g_aload_n cx 2 d_8_34_38 rfl rfl ?_
        refine m_get cx (k := 27) d_8_34_39 t_925 ⟨by decide, rfl⟩ hm rfl ?_
        refine g_aload_n cx 2 d_8_34_42 rfl rfl ?_
        refine m_get cx (k := 24) d_8_34_43 t_922 ⟨by decide, rfl⟩ hm rfl ?_
        refine g_iconst cx (v := 1) d_8_34_46 (by decide) ?_
        refine g_isub cx d_8_34_47 ?_
        refine m_ld1 cx d_8_34_48 (by decide) hm (show y.1 24 - 1 = nI u by rw [h24]; exact pk_sub (b := 1) (by omega)) ⟨(show u < 8 by omega), by decide⟩ ?_
        refine g_topi (fun nw enw => ?_)
        obtain rfl : nw = 3 := enw.trans (by rw [t3, ht]; rfl)
        refine g_istore cx (lv' := [(6, .int 3), (5, .int (nI (sf u))), (4, .int at1), (0, .ref am), (1, .int (nI q0)), (2, .long nv)]) d_8_34_49 (by decide) rfl ?_
        refine g_aload_n cx 3 d_8_34_51 rfl rfl ?_
        refine m_get cx (k := 27) d_8_34_52 t_925 ⟨by decide, rfl⟩ hm rfl ?_
        refine g_aload_n cx 3 d_8_34_55 rfl rfl ?_
        refine m_get cx (k := 24) d_8_34_56 t_922 ⟨by decide, rfl⟩ hm rfl ?_
        refine g_iconst cx (v := 1) d_8_34_59 (by decide) ?_
        refine g_isub cx d_8_34_60 ?_
        refine g_dup2_11 cx d_8_34_61 rfl rfl ?_
        refine m_ld1 cx d_8_34_62 (by decide) hm (show y.1 24 - 1 = nI u by rw [h24]; exact pk_sub (b := 1) (by omega)) ⟨(show u < 8 by omega), by decide⟩ ?_
        refine g_iconst cx (v := 1) d_8_34_63 (by decide) ?_
        refine g_iadd cx d_8_34_64 ?_
        refine g_topi (fun g9 eg9 => ?_)
        obtain rfl : g9 = nI (tf u + 1) := eg9.trans (by show y.2.1 27 u + 1 = _; rw [t3, nI_1])
        refine m_st1 cx hA d_8_34_65 (by decide) hm hs (show y.1 24 - 1 = nI u by rw [h24]; exact pk_sub (b := 1) (by omega)) ⟨(show u < 8 by omega), by decide⟩ (fun h hm hs => ?_)
        refine g_iload cx 0 d_8_34_66 rfl ?_
        refine g_if_ne cx d_8_34_68 rfl (fun c68 => ?_) (fun c68 => absurd c68 (by decide))
        refine g_iload cx 0 d_8_34_83 rfl ?_
        refine g_iconst cx (v := 3) d_8_34_85 (by decide) ?_
        refine g_icmp_ne cx d_8_34_86 rfl (fun c86 => absurd rfl c86) (fun c86 => ?_)
        refine g_aload_n cx 3 d_8_34_89 rfl rfl ?_
        refine g_dup cx d_8_34_90 rfl ?_
        refine m_get cx (k := 24) d_8_34_91 t_922 ⟨by decide, rfl⟩ hm rfl ?_
        refine g_iconst cx (v := 1) d_8_34_94 (by decide) ?_
        refine g_isub cx d_8_34_95 ?_
        refine g_topi (fun o9 eo9 => ?_)
        obtain rfl : o9 = nI u := eo9.trans (by show y.1 24 - 1 = nI u; rw [h24]; exact pk_sub (b := 1) (by omega))
        refine m_put cx (k := 24) hA d_8_34_96 t_922 ⟨by decide, rfl, rfl, rfl, by decide +kernel⟩ hm hs (fun h hm hs => ?_)
        refine g_goto cx d_8_34_99 rfl ?_
        refine g_goto cx d_8_34_149 rfl ?_
        refine g_loc (lv' := [(4, .int at1), (0, .ref am), (1, .int (nI q0)), (2, .long nv)]) [2, 3, 4, 5] rfl ?_
        have hmu := mu_pop (x := x) (sf := sf) (tf := tf) (k := u) ht (fun i hi => (hSI.2.2.2.2 i (by omega)).2)
        exact ih _ h hm hs u mk sf tf hSI.pop at1 hat (by omega) (by omega)
  refine g_aload_n cx 0 d_8_34_0 rfl rfl ?_
  refine g_iconst cx (v := 0) d_8_34_1 (by decide) ?_
  refine m_put cx (k := 24) hA d_8_34_2 t_922 ⟨by decide, rfl, rfl, rfl, by decide +kernel⟩ hm hs (fun h hm hs => ?_)
  refine g_aload_n cx 0 d_8_34_5 rfl rfl ?_
  refine g_iload_n cx 1 d_8_34_6 rfl rfl ?_
  refine m_call 4 cx (As := [.int (nI q0)]) (n := 1) (mc_push hSt hA (seti x 24 0) (nI q0) 0 mn rfl (by decide) hMn.1 (by omega)) d_8_34_7 t_1082 t_1084 ts_46 t_1085 rfl ⟨rfl, by decide +kernel⟩ rfl ⟨by decide, by decide⟩ (Nat.le_of_ble_eq_true rfl) hm hs (fun v7 x7 h hm hs r7 => ?_)
  obtain ⟨rfl, ex7⟩ := r7
  obtain ⟨y1, ey1⟩ : ∃ z, z = x7 := ⟨_, rfl⟩
  rw [← ey1] at hm ex7
  have hy : y1 = pushS (seti x 24 0) (nI q0) 0 mn := ex7
  have hSI : SI x y1 1 (mn + 1) (fun _ => q0) (fun _ => 0) nv kp r := by
    rw [hy]
    unfold pushS
    by_cases z : mn < 20
    · rw [if_pos z]
      exact ⟨(((((Fx.rf.i (by decide)).a (by decide)).a (by decide)).i (by decide)).a (by decide)).i (by decide), rfl, rfl, fun k hk => by
        obtain rfl : k = 0 := by omega
        exact ⟨rfl, hq0, rfl, Nat.zero_le 3, hno⟩, fun k hk => absurd hk (by omega)⟩
    · rw [if_neg z]
      exact ⟨((((Fx.rf.i (by decide)).a (by decide)).a (by decide)).i (by decide)).i (by decide), rfl, rfl, fun k hk => by
        obtain rfl : k = 0 := by omega
        exact ⟨rfl, hq0, rfl, Nat.zero_le 3, hno⟩, fun k hk => absurd hk (by omega)⟩
  have hmu0 : mu x (fun _ => q0) (fun _ => 0) 1 ≤ 39 := by
    show 0 + (4 - 0) + pw x q0 0 ≤ 39
    unfold pw
    have hrl := hIR.2
    by_cases z : pnd x q0 0 = true
    · rw [if_pos z]; omega
    · rw [if_neg z]; omega
  refine g_iconst cx (v := (-1)) d_8_34_10 (by decide) ?_
  refine g_topi (fun at1 eat1 => ?_)
  refine g_istore cx (lv' := [(4, .int at1), (0, .ref am), (1, .int (nI q0)), (2, .long nv)]) d_8_34_11 (by decide) rfl ?_
  exact lp (mu x (fun _ => q0) (fun _ => 0) 1 + 1) y1 h hm hs 1 (mn + 1) (fun _ => q0) (fun _ => 0) hSI at1 (Or.inl eat1) (by omega) (by omega)
set_option maxHeartbeats 4000000 in
theorem mc_look (hSt : Stb z0 E) (hA : Ad am ad) (x : MS) (v : Int32) (w : Nat) (hw : x.1 2 = nI w) (hwl : w ≤ 30) (a r : Nat) (nm ld im kp : Nat → Nat) (mn : Nat) (hM : MI x a r nm ld im kp mn) : MC l y_176 prog_8_method_36_code 5 (Option.some Jvm.ClassFile.FieldType.int) 5 D z0 E am ad [.int v] x (fun r x' => (∃ v, r = some (.int v)) ∧ MIx x' ∧ x'.1 2 = nI 0) := by
  refine mc_of hSt rfl (Nat.le_of_ble_eq_true rfl) ?_
  intro h0 h p e s m args below meth c cx hm hs
  refine g_aload_n cx 0 d_8_36_0 rfl rfl ?_
  refine g_iconst cx (v := 0) d_8_36_1 (by decide) ?_
  refine m_put cx (k := 0) hA d_8_36_2 t_898 ⟨by decide, rfl, rfl, rfl, by decide +kernel⟩ hm hs (fun h hm hs => ?_)
  refine g_aload_n cx 0 d_8_36_5 rfl rfl ?_
  refine m_call 5 cx (As := []) (n := 0) (mc_split hSt hA (seti x 0 0) w hw hwl) d_8_36_6 t_997 t_999 ts_26 t_1000 rfl ⟨rfl, by decide +kernel⟩ rfl ⟨by decide, by decide⟩ (Nat.le_of_ble_eq_true rfl) hm hs (fun v6 x6 h hm hs r6 => ?_)
  obtain ⟨rfl, pn, bg, en, hpt, hw6, hf6⟩ := r6
  have hM6 : MI x6 a r nm ld im kp mn := MI.fx (show MI (seti x 0 0) a r nm ld im kp mn from hM) hf6 (by decide) (by decide) (by decide)
  have hM6' : ∀ v, MIx (seti x6 0 v) := fun v => MIx.of (show MI (seti x6 0 v) a r nm ld im kp mn from hM6)
  have c86 : ∀ (v : Int32) (y : MS) (at1 : Int32) (nv : Int64) (hMy : MIx y) (hMy' : ∀ v, MIx (seti y 0 v)) (hwy : y.1 2 = nI 0) (h : hp) (hm : Mo D am ad y h) (hs : Sm am ad h0 h), G p l e (rmL 5) s m args below meth c 5 D z0 E (MQp D am ad h0 (fun r x' => (∃ v, r = some (.int v)) ∧ MIx x' ∧ x'.1 2 = nI 0)) 0 0 86 [(4, .int at1), (2, .long nv), (0, .ref am), (1, .int v)] [] h 0 0 := by
    intro v y at1 nv hMy hMy' hwy h hm hs
    refine g_iload cx 0 d_8_36_86 rfl ?_
    refine g_if_ge cx d_8_36_88 rfl (fun c88 => ?_) (fun c88 => ?_)
    · skip
      refine g_iload cx 0 d_8_36_99 rfl ?_
      first
        | exact m_iret cx d_8_36_101 rfl rfl hm hs ⟨⟨_, rfl⟩, hMy, hwy⟩
        | exact m_iret cx d_8_36_101 rfl rfl hm hs ⟨⟨_, rfl⟩, hMy' _, hwy⟩
    · skip
      refine g_aload_n cx 2 d_8_36_91 rfl rfl ?_
      refine g_iconst cx (v := 2) d_8_36_92 (by decide) ?_
      refine m_call 5 cx (As := [.int _]) (n := 1) (mc_fails hSt hA y _) d_8_36_93 t_1066 t_1068 ts_43 t_1069 rfl ⟨rfl, by decide +kernel⟩ rfl ⟨by decide, by decide⟩ (Nat.le_of_ble_eq_true rfl) hm hs (fun v93 x93 h hm hs r93 => ?_)
      obtain ⟨rfl, rfl⟩ := r93
      refine g_goto cx d_8_36_96 rfl ?_
      first
        | exact m_iret cx d_8_36_101 rfl rfl hm hs ⟨⟨_, rfl⟩, hMy, hwy⟩
        | exact m_iret cx d_8_36_101 rfl rfl hm hs ⟨⟨_, rfl⟩, hMy' _, hwy⟩
  have c27 : ∀ (nv : Int64) (h : hp) (hm : Mo D am ad x6 h) (hs : Sm am ad h0 h), G p l e (rmL 5) s m args below meth c 5 D z0 E (MQp D am ad h0 (fun r x' => (∃ v, r = some (.int v)) ∧ MIx x' ∧ x'.1 2 = nI 0)) 0 0 27 [(2, .long nv), (0, .ref am), (1, .int v)] [] h 0 0 := by
    intro nv h hm hs
    refine g_lload_n cx 0 d_8_36_27 rfl rfl ?_
    refine g_lconst cx (v := 0) d_8_36_28 (by decide) ?_
    refine g_lcmp cx d_8_36_29 ?_
    refine g_if_eq cx d_8_36_30 rfl (fun c30 => ?_) (fun c30 => ?_)
    · skip
      refine g_aload_n cx 1 d_8_36_54 rfl rfl ?_
      refine g_iconst cx (v := 1) d_8_36_55 (by decide) ?_
      refine m_call 5 cx (As := [.int _]) (n := 1) (mc_fails hSt hA x6 _) d_8_36_56 t_1066 t_1068 ts_43 t_1069 rfl ⟨rfl, by decide +kernel⟩ rfl ⟨by decide, by decide⟩ (Nat.le_of_ble_eq_true rfl) hm hs (fun v56 x56 h hm hs r56 => ?_)
      obtain ⟨rfl, rfl⟩ := r56
      exact m_iret cx d_8_36_59 rfl rfl hm hs ⟨⟨_, rfl⟩, hM6' _, hw6⟩
    · skip
      refine g_iload_n cx 2 d_8_36_33 rfl rfl ?_
      refine g_if_lt cx d_8_36_34 rfl (fun c34 => ?_) (fun c34 => ?_)
      · skip
        refine g_aload_n cx 1 d_8_36_54 rfl rfl ?_
        refine g_iconst cx (v := 1) d_8_36_55 (by decide) ?_
        refine m_call 5 cx (As := [.int _]) (n := 1) (mc_fails hSt hA x6 _) d_8_36_56 t_1066 t_1068 ts_43 t_1069 rfl ⟨rfl, by decide +kernel⟩ rfl ⟨by decide, by decide⟩ (Nat.le_of_ble_eq_true rfl) hm hs (fun v56 x56 h hm hs r56 => ?_)
        obtain ⟨rfl, rfl⟩ := r56
        exact m_iret cx d_8_36_59 rfl rfl hm hs ⟨⟨_, rfl⟩, hM6' _, hw6⟩
      · skip
        refine g_iload_n cx 2 d_8_36_37 rfl rfl ?_
        refine g_aload_n cx 1 d_8_36_38 rfl rfl ?_
        refine m_get cx (k := 11) d_8_36_39 t_909 ⟨by decide, rfl⟩ hm rfl ?_
        refine g_icmp_ge cx d_8_36_42 rfl (fun c42 => ?_) (fun c42 => ?_)
        · skip
          refine g_aload_n cx 1 d_8_36_54 rfl rfl ?_
          refine g_iconst cx (v := 1) d_8_36_55 (by decide) ?_
          refine m_call 5 cx (As := [.int _]) (n := 1) (mc_fails hSt hA x6 _) d_8_36_56 t_1066 t_1068 ts_43 t_1069 rfl ⟨rfl, by decide +kernel⟩ rfl ⟨by decide, by decide⟩ (Nat.le_of_ble_eq_true rfl) hm hs (fun v56 x56 h hm hs r56 => ?_)
          obtain ⟨rfl, rfl⟩ := r56
          exact m_iret cx d_8_36_59 rfl rfl hm hs ⟨⟨_, rfl⟩, hM6' _, hw6⟩
        · skip
          obtain ⟨q, hq, hv, -⟩ := pk_mu c34 (fun z => c42 (by show x6.1 11 ≤ v; rw [hM6.2.1.1]; exact z)) (by have := hM6.2.1.2; omega)
          have hr8 := hM6.2.1.2
          refine g_aload_n cx 1 d_8_36_45 rfl rfl ?_
          refine m_get cx (k := 22) d_8_36_46 t_920 ⟨by decide, rfl⟩ hm rfl ?_
          refine g_iload_n cx 2 d_8_36_49 rfl rfl ?_
          refine m_ld4 cx d_8_36_50 (by decide) hm hv ⟨(show q < 8 by omega), by decide⟩ ?_
          refine g_if_eq cx d_8_36_51 rfl (fun c51 => ?_) (fun c51 => ?_)
          · skip
            subst hv
            have hM7 : MI (seti x6 25 0) a r nm ld im kp 0 := by
              obtain ⟨q1, q2, q3, q4, q5, q6, q7, q8, q9, q10⟩ := id hM6
              exact ⟨q1, q2, q3, q4, q5, q6, q7, q8, q9, rfl, by omega⟩
            have hK7 : IKp (seti x6 25 0) nm kp := hM7.2.2.2.2.2.2.2.2.1
            have hN7 : INm (seti x6 25 0) nm := hM7.2.2.1
            have hq8 : q < 8 := by omega
            refine g_aload_n cx 1 d_8_36_60 rfl rfl ?_
            refine g_iconst cx (v := 0) d_8_36_61 (by decide) ?_
            refine m_put cx (k := 25) hA d_8_36_62 t_923 ⟨by decide, rfl, rfl, rfl, by decide +kernel⟩ hm hs (fun h hm hs => ?_)
            refine g_aload_n cx 1 d_8_36_65 rfl rfl ?_
            refine g_iload_n cx 2 d_8_36_66 rfl rfl ?_
            refine g_lload_n cx 0 d_8_36_67 rfl rfl ?_
            refine m_call 5 cx (As := [.int (nI q), .long nv]) (n := 2) (mc_keptOf hSt hA (seti x6 25 0) q (kp q) nv hq8 (hK7 q hq8).1 (hK7.le hN7 hq8)) d_8_36_68 t_1074 t_1076 ts_44 t_1077 rfl ⟨rfl, by decide +kernel⟩ rfl ⟨by decide, by decide⟩ (Nat.le_of_ble_eq_true rfl) hm hs (fun v68 x68 h hm hs r68 => ?_)
            obtain ⟨e68, r68⟩ := r68
            rw [e68] at hm
            rcases r68 with ⟨j, hj, hjx, rfl⟩ | ⟨rfl, hno⟩
            · skip
              refine g_topi (fun at1 eat1 => ?_)
              obtain ⟨⟨w9, hw9, hwx⟩, -⟩ := (hK7 q hq8).2.1 j hj
              obtain rfl : at1 = nI w9 := eat1.trans hwx
              refine g_istore cx (lv' := [(4, .int (nI w9)), (2, .long nv), (0, .ref am), (1, .int (nI q))]) d_8_36_71 (by decide) rfl ?_
              refine g_iload cx 0 d_8_36_73 rfl ?_
              refine g_if_ge cx d_8_36_75 rfl (fun c75 => ?_) (fun c75 => absurd (nI_pos' (by omega)) c75)
              exact c86 (nI q) (seti x6 25 0) (nI w9) nv (MIx.of hM7) (fun v => MIx.of (show MI (seti (seti x6 25 0) 0 v) a r nm ld im kp 0 from hM7)) hw6 h hm hs
            · skip
              refine g_topi (fun at1 eat1 => ?_)
              obtain rfl : at1 = -1 := eat1
              refine g_istore cx (lv' := [(4, .int (-1)), (2, .long nv), (0, .ref am), (1, .int (nI q))]) d_8_36_71 (by decide) rfl ?_
              refine g_iload cx 0 d_8_36_73 rfl ?_
              refine g_if_ge cx d_8_36_75 rfl (fun c75 => absurd c75 (by decide)) (fun c75 => ?_)
              refine g_aload_n cx 2 d_8_36_78 rfl rfl ?_
              refine g_iload_n cx 3 d_8_36_79 rfl rfl ?_
              refine g_lload_n cx 1 d_8_36_80 rfl rfl ?_
              refine m_call 5 cx (As := [.int (nI q), .long nv]) (n := 2) (mc_search hSt hA (seti x6 25 0) q nv a r nm ld im kp 0 hM7 hq (by decide) hno) d_8_36_81 t_1078 t_1080 ts_45 t_1081 rfl ⟨rfl, by decide +kernel⟩ rfl ⟨by decide, by decide⟩ (Nat.le_of_ble_eq_true rfl) hm hs (fun v81 x81 h hm hs r81 => ?_)
              obtain ⟨⟨v81, rfl⟩, hM81, hw81⟩ := r81
              refine g_topi (fun at2 eat2 => ?_)
              refine g_istore cx (lv' := [(4, .int at2), (2, .long nv), (0, .ref am), (1, .int (nI q))]) d_8_36_84 (by decide) rfl ?_
              exact c86 (nI q) x81 at2 nv hM81 (fun v => by
                obtain ⟨a9, r9, n9, l9, i9, k9, m9, z⟩ := hM81
                exact ⟨a9, r9, n9, l9, i9, k9, m9, z⟩) (hw81.trans hw6) h hm hs
          · skip
            refine g_aload_n cx 1 d_8_36_54 rfl rfl ?_
            refine g_iconst cx (v := 1) d_8_36_55 (by decide) ?_
            refine m_call 5 cx (As := [.int _]) (n := 1) (mc_fails hSt hA x6 _) d_8_36_56 t_1066 t_1068 ts_43 t_1069 rfl ⟨rfl, by decide +kernel⟩ rfl ⟨by decide, by decide⟩ (Nat.le_of_ble_eq_true rfl) hm hs (fun v56 x56 h hm hs r56 => ?_)
            obtain ⟨rfl, rfl⟩ := r56
            exact m_iret cx d_8_36_59 rfl rfl hm hs ⟨⟨_, rfl⟩, hM6' _, hw6⟩
  refine g_aload_n cx 0 d_8_36_9 rfl rfl ?_
  refine m_get cx (k := 3) d_8_36_10 t_901 ⟨by decide, rfl⟩ hm rfl ?_
  refine g_iconst cx (v := 1) d_8_36_13 (by decide) ?_
  refine g_icmp_ne cx d_8_36_14 rfl (fun c14 => ?_) (fun c14 => ?_)
  · skip
    refine g_lconst cx (v := 0) d_8_36_25 (by decide) ?_
    refine g_topl (fun nv env => ?_)
    refine g_lstore_n cx (lv' := [(2, .long nv), (0, .ref am), (1, .int v)]) d_8_36_26 rfl (by decide) rfl ?_
    exact c27 nv h hm hs
  · skip
    refine g_aload_n cx 0 d_8_36_17 rfl rfl ?_
    refine g_iconst cx (v := 0) d_8_36_18 (by decide) ?_
    refine m_call 5 cx (As := [.int (nI 0)]) (n := 1) (mc_nameOf hSt hA x6 0 pn bg en hpt (by decide)) d_8_36_19 t_1021 t_1023 ts_32 t_1024 rfl ⟨rfl, by decide +kernel⟩ rfl ⟨by decide, by decide⟩ (Nat.le_of_ble_eq_true rfl) hm hs (fun v19 x19 h hm hs r19 => ?_)
    obtain ⟨e19, V19, rfl⟩ := r19
    rw [e19] at hm
    refine g_goto cx d_8_36_22 rfl ?_
    refine g_topl (fun nv env => ?_)
    refine g_lstore_n cx (lv' := [(2, .long nv), (0, .ref am), (1, .int v)]) d_8_36_26 rfl (by decide) rfl ?_
    exact c27 nv h hm hs
end M10
end
section
/-! More rules over the pool: new cells, statics, references, copies, calls of inherited methods, throws. -/
/-- closed under what may come: the tables grow warmer, cells from z0 on change -/
def Cl (z0 : Nat) (E0 : State → Prop) (U : State) : Prop := ∀ V : State, U.WarmedH V.vm → U.heap.size ≤ V.heap.size → (∀ q : Nat, q < z0 → V.heap[q]? = U.heap[q]?) → E0 V
theorem Cl.stb {z0 : Nat} {E0 : State → Prop} : Stb z0 (Cl z0 E0) := fun u U hW hz hq h V hW2 hz2 hq2 => h V (State.WarmedH.trans hW hW2) (Nat.le_trans hz hz2) (fun q hl => (hq2 q hl).trans (hq q hl))
theorem Cl.here {z0 : Nat} {E0 : State → Prop} {U : State} (h : Cl z0 E0 U) : E0 U := h U (State.WarmedH.refl U) (Nat.le_refl _) (fun _ _ => rfl)
theorem ctrN_of {l : Launch} {y : MethodName} {cc : ByteArray} {maxL : Nat} {ret : Option FieldType} {rm : Room} {D : va_G} {z0 : Nat} {E : State → Prop} {pre : List Value → hp → Prop} {post : List Value → hp → Outcome → hp → Prop} (hSt : Stb z0 E) (hy : plainName y.cls = true) (hsz : ∀ as h, pre as h → (lg_sl as).length ≤ maxL)
    (body : ∀ (as : List Value) (h : hp), pre as h → ∀ (p : Program) (e : Env) (s : State) (m : MethodId) (args : Array Value) (below : List Frame) (meth : Method) (c : Code), Cx p rm s m args meth c cc y.cls maxL ret D z0 E rm.cells rm.slots → meth.name = y.name →
      G p l e rm s m args below meth c maxL D z0 E (post as h) rm.cells rm.slots 0 (lv_args 0 as) [] h rm.cells rm.slots) : Ctr l y cc maxL ret rm D z0 E pre post := by
  intro as h hpre
  refine xt_ofW (cc := cc) (maxL := maxL) (ret := ret) hy rfl ?_
  intro p e s m args below meth c s₁ B hml hv
  obtain ⟨rfl, hW⟩ := hv
  have hts := atoms_spec (ws := Cond.code y cc maxL ret :: lw_g) B.pre
  have hno := BodyLoose.noHandlers B (hts _ List.mem_cons_self)
  have hno2 : ∀ z ∈ c.exceptionTable.toList, False := by
    intro z hz
    have h0 : c.exceptionTable = #[] := Array.isEmpty_iff.mp hno
    rw [h0] at hz
    cases hz
  have cx : Cx p rm s m as.toArray meth c cc y.cls maxL ret D z0 E rm.cells rm.slots :=
    ⟨B.exec, B.bytes, hml, findClass_of_methodNamed B.named, fun w h => hts w (List.mem_cons_of_mem _ h), hW.2.1, B.notSynchronized, hW.2.2.1, hW.2.2.2, hSt, B.returns, hno2, rfl, rfl⟩
  rw [lg_entry_eq]
  exact body as h hpre p e s m as.toArray below meth c cx (name_of_methodNamed B.named B.method).1 _ s.heap [] 0 0 (lv_entry as (hsz as h hpre)) hW.1 va_S.rf (by omega) (by omega)
theorem pl_in {h : hp} {k : Nat} {q : Nat × va_E} (hk : (va_pl h.1 h.2)[k]? = some q) : q.1 ∈ h.1 ∧ q.2 = h.2 q.1 := by
  obtain ⟨a, ha, rfl⟩ := List.mem_map.mp (List.mem_of_getElem? hk)
  exact ⟨ha, rfl⟩
theorem fresh_of {A : Nat → Prop} {h : hp} {q : Nat} {e : va_E} (hD : va_D A (va_pl h.1 h.2 ++ [(q, e)])) : q ∉ h.1 := by
  intro hq
  obtain ⟨k, hk⟩ := pl_at hq
  have hl : k < (va_pl h.1 h.2).length := (List.getElem?_eq_some_iff.mp hk).1
  have h1 := hD.1 k (va_pl h.1 h.2).length (q, h.2 q) (q, e) (by rw [List.getElem?_append_left hl]; exact hk) (by simp) rfl
  omega
theorem up_z {A : Nat → Prop} {h : hp} {q : Nat} {e : va_E} (hD : va_D A (va_pl h.1 h.2 ++ [(q, e)])) : A q := hD.2 (va_pl h.1 h.2).length (q, e) (by simp)
theorem Wd.push {z0 : Nat} {D : va_G} {h : hp} {q : Nat} {e : va_E} {H1 : Heap} (hP : va_P D CL (va_pl h.1 h.2 ++ [(q, e)]) H1) (hD : va_D (AA z0) (va_pl h.1 h.2 ++ [(q, e)])) : Wd z0 D (h.1 ++ [q], va_up h.2 q e) H1 := by
  have e1 := va_pl_push (f := h.2) (e := e) (fresh_of hD)
  rw [e1] at hP hD
  exact ⟨hP, hD⟩
section GN
variable {p : Program} {l : Launch} {e : Env} {R : Room} {s : State} {m : MethodId} {args : Array Value} {below : List Frame} {meth : Method} {c : Code} {cc : ByteArray} {own : String} {nL : Nat} {ret : Option FieldType} {D : va_G} {z0 : Nat} {E : State → Prop} {Qp : Outcome → hp → Prop} {mc ms pc : Nat} {lv lv' : List (Nat × Value)} {st rest : List Value} {h : hp} {rc rs : Nat}
theorem Cx.free (C : Cx p R s m args meth c cc own nL ret D z0 E mc ms) : ∀ q, s.heap.size ≤ q → AA z0 q := fun _ hq => Nat.le_trans C.2.2.2.2.2.2.2.1 hq
theorem Cx.tyq (C : Cx p R s m args meth c cc own nL ret D z0 E mc ms) (k : Nat) {q : ClassId × FieldType} (hq : (TY D)[k]? = some q) : va_RA s q.1 q.2 := (C.2.2.2.2.2.1.2 k q hq).2
theorem g_newarr (C : Cx p R s m args meth c cc own nL ret D z0 E mc ms) {at0 : ArrayType} {ty : FieldType} {k n : Nat} {i : Int32} {cA : ClassId} {a0 : vp_A} (hd : decode cc pc = .ok (.newarray at0, 2)) (hty : newarray.typeOf at0 = ty) (hw : Cond.arrayClass ty ∈ lw_g) (hk : (TY D)[k]? = some (cA, ty)) (hnr : va_RA s cA ty = (s.vm.findClass ("[" ++ ty.toString) = some cA)) (hi : i = nI n) (hn : n < 2 ^ 20) (hb : componentBytes ty ≤ 8) (ha : ∀ cA : ClassId, vp_cell cA a0 = arrV cA n (fun _ => defaultValue ty)) (hc : 1 ≤ rc ∧ n ≤ rs) (kk : ∀ q : Nat, q ∉ h.1 → z0 ≤ q → G p l e R s m args below meth c nL D z0 E Qp mc ms (pc + 2) lv (.ref q :: rest) (h.1 ++ [q], va_up h.2 q (.inl (cA, a0))) (rc - 1) (rs - n)) : G p l e R s m args below meth c nL D z0 E Qp mc ms pc lv (.int i :: rest) h rc rs := by
  intro ls H locs cells slots h1 h2 h3 h4 h5
  subst hi
  subst hty
  have hcl := C.2.2.2.2.2.2.2.2.2.2.2.2.1
  have hsl := C.2.2.2.2.2.2.2.2.2.2.2.2.2
  refine va_newa C.1 C.2.1 (C.2.2.2.2.1 _ hw) rfl C.2.2.2.2.2.1 h2.1 h2.2 h3 C.free ha (nI_pos (by omega)) (nI_clamp (by omega)) ?_ (by omega) (by omega) hd (fun q cB H1 hK1 hP1 hD1 hS1 => ?_)
  · exact Nat.le_trans (Nat.mul_le_mul (Nat.le_of_lt hn) hb) (by decide)
  · have e0 : cB = cA := by
      have hx : va_RA s cB (newarray.typeOf at0) := (hK1.2 (TY D).length (cB, newarray.typeOf at0) (by simp)).2
      have hy := C.tyq k hk
      have e3 : s.vm.findClass ("[" ++ (newarray.typeOf at0).toString) = some cB := by
        clear hy hnr
        cases at0 <;> exact hx
      rw [hnr] at hy
      exact Option.some.inj (e3.symm.trans hy)
    subst e0
    exact kk q (fresh_of hD1) (up_z hD1) ls H1 locs (cells + 1) (slots + n) h1 (Wd.push hP1 hD1) hS1 (by omega) (by omega)
theorem g_anew (C : Cx p R s m args meth c cc own nL ret D z0 E mc ms) {n : Nat} {i : Int32} {idx : Nat} (hd : decode cc pc = .ok (.anewarray idx, 3)) (hw : Cond.classLink own idx "java/lang/Object" ∈ lw_g) (hov : va_AO "java/lang/Object" s) (hi : i = nI n) (hn : n < 2 ^ 20) (hc : 1 ≤ rc ∧ n ≤ rs) (kk : ∀ q : Nat, q ∉ h.1 → z0 ≤ q → G p l e R s m args below meth c nL D z0 E Qp mc ms (pc + 3) lv (.ref q :: rest) (h.1 ++ [q], va_up h.2 q (.inl (D.1 105, n, .inr (.inr (.inr (.inr (fun _ => none))))))) (rc - 1) (rs - n)) : G p l e R s m args below meth c nL D z0 E Qp mc ms pc lv (.int i :: rest) h rc rs := by
  intro ls H locs cells slots h1 h2 h3 h4 h5
  subst hi
  have hcl := C.2.2.2.2.2.2.2.2.2.2.2.2.1
  have hsl := C.2.2.2.2.2.2.2.2.2.2.2.2.2
  refine va_newq C.1 C.2.1 C.2.2.2.1 (C.2.2.2.2.1 _ hw) hov C.2.2.2.2.2.1 h2.1 h2.2 h3 C.free (nI_pos (by omega)) (nI_clamp (by omega)) (by omega) (by omega) (by omega) hd (fun q cB H1 hK1 hP1 hD1 hS1 => ?_)
  have e0 : cB = D.1 105 := by
    obtain ⟨-, -, -, -, -, hx⟩ : va_RA s cB (.object "java/lang/Object") := (hK1.2 (TY D).length (cB, .object "java/lang/Object") (by simp)).2
    obtain ⟨-, -, -, -, -, hy⟩ := C.tyq 5 (q := (D.1 105, .object "java/lang/Object")) rfl
    exact Option.some.inj (hx.symm.trans hy)
  subst e0
  exact kk q (fresh_of hD1) (up_z hD1) ls H1 locs (cells + 1) (slots + n) h1 (Wd.push hP1 hD1) hS1 (by omega) (by omega)
theorem g_new (C : Cx p R s m args meth c cc own nL ret D z0 E mc ms) {idx ci N : Nat} {C0 : String} {T : u_T} {ty0 : Nat → FieldType} {fs : List Value} (hd : decode cc pc = .ok (.new idx, 3)) (hin : ∀ w ∈ u_ws C0 T N, w ∈ lw_g) (hty : ∀ k, k < N → parseFieldDescriptor (T k).2.2.1 = some (ty0 k)) (w1 : Cond.classLink own idx C0 ∈ lw_g) (w2 : Cond.instantiable C0 N ∈ lw_g) (w3 : Cond.initialized C0 ∈ lw_g) (hci : CL[ci]? = some (C0, T, N)) (hfs : ∀ j, j < N → defaultValue (ty0 j) = vp_V fs j) (hc : 1 ≤ rc ∧ N ≤ rs) (kk : ∀ q : Nat, q ∉ h.1 → z0 ≤ q → G p l e R s m args below meth c nL D z0 E Qp mc ms (pc + 3) lv (.ref q :: rest) (h.1 ++ [q], va_up h.2 q (.inr (ci, fs))) (rc - 1) (rs - N)) : G p l e R s m args below meth c nL D z0 E Qp mc ms pc lv rest h rc rs := by
  intro ls H locs cells slots h1 h2 h3 h4 h5
  have hcl := C.2.2.2.2.2.2.2.2.2.2.2.2.1
  have hsl := C.2.2.2.2.2.2.2.2.2.2.2.2.2
  refine va_new C.1 C.2.1 C.2.2.2.2.1 hin ty0 hty C.2.2.2.1 (C.2.2.2.2.1 _ w1) (C.2.2.2.2.1 _ w2) (C.2.2.2.2.1 _ w3) C.2.2.2.2.2.1 h2.1 h2.2 h3 C.free hci hfs (by omega) (by omega) hd (fun q H1 hP1 hD1 hS1 => ?_)
  exact kk q (fresh_of hD1) (up_z hD1) ls H1 locs (cells + 1) (slots + N) h1 (Wd.push hP1 hD1) hS1 (by omega) (by omega)
theorem g_objInit (C : Cx p R s m args meth c cc own nL ret D z0 E mc ms) {idx a : Nat} (hd : decode cc pc = .ok (.invokespecial idx, 3)) (w1 : Cond.methodLink own idx Lib.objectInit ∈ lw_g) (w2 : Cond.instanceMethod Lib.objectInit ∈ lw_g) (w3 : Cond.code Lib.objectInit ⟨#[0xb1]⟩ 1 none ∈ lw_g) (hR : 1 ≤ R.frames ∧ 20 ≤ R.locals) (hW : (rest.map fun v => v.category).sum ≤ 8) (kk : G p l e R s m args below meth c nL D z0 E Qp mc ms (pc + 3) lv rest h rc rs) : G p l e R s m args below meth c nL D z0 E Qp mc ms pc lv (.ref a :: rest) h rc rs := fun ls H locs cells slots h1 h2 h3 h4 h5 => W.objInit C.1 C.2.1 C.2.2.2.1 (C.2.2.2.2.1 _ w1) (C.2.2.2.2.1 _ w2) (C.2.2.2.2.1 _ w3) rfl (h1.1.trans C.2.2.1.symm) rfl hd hR.1 (by show 2 * 0 + _ + 12 ≤ _; omega) (kk ls H locs cells slots h1 h2 h3 h4 h5)
theorem g_alen (C : Cx p R s m args meth c cc own nL ret D z0 E mc ms) {a k : Nat} {cA : ClassId} {x : vp_A} {ty : FieldType} (hd : decode cc pc = .ok (.arraylength, 1)) (ha : a ∈ h.1) (hF : h.2 a = .inl (cA, x)) (hk : (TY D)[k]? = some (cA, ty)) (kk : G p l e R s m args below meth c nL D z0 E Qp mc ms (pc + 1) lv (.int (nI x.1) :: rest) h rc rs) : G p l e R s m args below meth c nL D z0 E Qp mc ms pc lv (.ref a :: rest) h rc rs := by
  intro ls H locs cells slots h1 h2 h3 h4 h5
  obtain ⟨q0, hq0⟩ := pl_at ha
  rw [hF] at hq0
  exact va_alen C.1 C.2.1 C.2.2.2.2.2.1 h2.1 q0 k hq0 hk rfl hd (kk ls H locs cells slots h1 h2 h3 h4 h5)
theorem g_aald (C : Cx p R s m args meth c cc own nL ret D z0 E mc ms) {a n : Nat} {f : Nat → Option Nat} {i : Int32} (hd : decode cc pc = .ok (.aaload, 1)) (ha : a ∈ h.1) (hF : h.2 a = .inl (D.1 105, n, .inr (.inr (.inr (.inr f))))) (hin : vp_in i n) (kk : G p l e R s m args below meth c nL D z0 E Qp mc ms (pc + 1) lv (va_rf (f i.toNatClampNeg) :: rest) h rc rs) : G p l e R s m args below meth c nL D z0 E Qp mc ms pc lv (.int i :: .ref a :: rest) h rc rs := by
  intro ls H locs cells slots h1 h2 h3 h4 h5
  obtain ⟨q0, hq0⟩ := pl_at ha
  rw [hF] at hq0
  exact va_aldq C.1 C.2.1 C.2.2.2.2.2.1 h2.1 q0 5 hq0 rfl hin hd (kk ls H locs cells slots h1 h2 h3 h4 h5)
theorem any_of (C : Cx p R s m args meth c cc own nL ret D z0 E mc ms) {H : Heap} {ci v : Nat} {vs : List Value} {r : vw_C} (h2 : Wd z0 D h H) (hc : CL[ci]? = some r) (hca : va_Nw (.castable r.1 "java/lang/Object") s) (hv : v ∈ h.1) (hV : h.2 v = .inr (ci, vs)) : va_Any "java/lang/Object" s H v := by
  obtain ⟨q1, hq1⟩ := pl_at hv
  rw [hV] at hq1
  exact va_rAny C.2.2.2.2.2.1 h2.1 hq1 hc (fun comp c0 e1 e2 => vb_asgC hca comp c0 e1 e2)
theorem g_aast (C : Cx p R s m args meth c cc own nL ret D z0 E mc ms) {a n v ci : Nat} {vs : List Value} {r : vw_C} {f : Nat → Option Nat} {i : Int32} (hd : decode cc pc = .ok (.aastore, 1)) (ha : a ∈ h.1) (hF : h.2 a = .inl (D.1 105, n, .inr (.inr (.inr (.inr f))))) (hin : vp_in i n) (hc : CL[ci]? = some r) (hca : va_Nw (.castable r.1 "java/lang/Object") s) (hv : v ∈ h.1) (hV : h.2 v = .inr (ci, vs)) (kk : G p l e R s m args below meth c nL D z0 E Qp mc ms (pc + 1) lv rest (h.1, va_up h.2 a (.inl (D.1 105, n, .inr (.inr (.inr (.inr (va_up f i.toNatClampNeg (some v)))))))) rc rs) : G p l e R s m args below meth c nL D z0 E Qp mc ms pc lv (.ref v :: .int i :: .ref a :: rest) h rc rs := by
  intro ls H locs cells slots h1 h2 h3 h4 h5
  obtain ⟨q0, hq0⟩ := pl_at ha
  have hq1 := hq0
  rw [hF] at hq0
  refine va_astqM C.1 C.2.1 C.2.2.2.2.2.1 h2.1 h2.2 h3 q0 5 hq0 rfl (any_of C h2 hc hca hv hV) hin hd (fun H1 locs1 hP1 hD1 hS1 => ?_)
  rw [pl_set h2.2 ha hq1] at hP1 hD1
  exact kk ls H1 locs1 cells slots h1 ⟨hP1, hD1⟩ hS1 h4 h5
theorem g_copyb (C : Cx p R s m args meth c cc own nL ret D z0 E mc ms) {idx a b n0 n1 sp dp n : Nat} {f g : Nat → Int32} {i0 i1 i2 : Int32} (hd : decode cc pc = .ok (.invokestatic idx, 3)) (w1 : Cond.methodLink own idx arraycopyName ∈ lw_g) (w2 : Cond.native arraycopyName ∈ lw_g) (w3 : Cond.static arraycopyName ∈ lw_g) (w4 : Cond.initialized "java/lang/System" ∈ lw_g) (ha : a ∈ h.1) (hF : h.2 a = .inl (D.1 104, n0, .inl f)) (hb : b ∈ h.1) (hG : h.2 b = .inl (D.1 104, n1, .inl g)) (hsp : i0 = nI sp) (hdp : i1 = nI dp) (hnn : i2 = nI n) (hl0 : sp + n ≤ n0 ∧ n0 < 2 ^ 31) (hl1 : dp + n ≤ n1 ∧ n1 < 2 ^ 31) (hfit : sb_Fit f) (hR : 1 ≤ R.frames ∧ 60 ≤ R.locals) (hW : (rest.map fun v => v.category).sum ≤ 8) (kk : G p l e R s m args below meth c nL D z0 E Qp mc ms (pc + 3) lv rest (h.1, va_up h.2 b (.inl (D.1 104, n1, .inl (va_cpy f g sp dp n)))) rc rs) : G p l e R s m args below meth c nL D z0 E Qp mc ms pc lv (.int i2 :: .int i1 :: .ref b :: .int i0 :: .ref a :: rest) h rc rs := by
  intro ls H locs cells slots h1 h2 h3 h4 h5
  subst hsp hdp hnn
  obtain ⟨q0, hq0⟩ := pl_at ha
  obtain ⟨q1, hq1⟩ := pl_at hb
  have hq2 := hq1
  rw [hF] at hq0
  rw [hG] at hq1
  have c0 : (nI sp).toNatClampNeg = sp := nI_clamp (by omega)
  have c1 : (nI dp).toNatClampNeg = dp := nI_clamp (by omega)
  have c2 : (nI n).toNatClampNeg = n := nI_clamp (by omega)
  have hw9 : nativeFrameWords "java/lang/System" "arraycopy" 5 ≤ 20 := by decide
  refine va_copyi C.1 C.2.1 (C.2.2.1.trans h1.1.symm) C.2.2.2.1 (C.2.2.2.2.1 _ w1) (C.2.2.2.2.1 _ w2) (C.2.2.2.2.1 _ w3) (C.2.2.2.2.1 _ w4) C.2.2.2.2.2.1 h2.1 h2.2 h3 q0 q1 4 4 hq0 hq1 rfl rfl rfl (nI_pos (by omega)) (nI_pos (by omega)) (nI_pos (by omega)) (by rw [c0, c2]; exact hl0.1) (by rw [c1, c2]; exact hl1.1) (fun i _ => hfit _) hR.1 (by omega) hd (fun H1 locs1 hP1 hD1 hS1 => ?_)
  rw [c0, c1, c2, pl_set h2.2 hb hq2] at hP1 hD1
  exact kk ls H1 locs1 cells slots h1 ⟨hP1, hD1⟩ hS1 h4 h5
theorem g_copyq (C : Cx p R s m args meth c cc own nL ret D z0 E mc ms) {idx a b n0 n1 sp dp n : Nat} {f g : Nat → Option Nat} {i0 i1 i2 : Int32} (hd : decode cc pc = .ok (.invokestatic idx, 3)) (w1 : Cond.methodLink own idx arraycopyName ∈ lw_g) (w2 : Cond.native arraycopyName ∈ lw_g) (w3 : Cond.static arraycopyName ∈ lw_g) (w4 : Cond.initialized "java/lang/System" ∈ lw_g) (ha : a ∈ h.1) (hF : h.2 a = .inl (D.1 105, n0, .inr (.inr (.inr (.inr f))))) (hb : b ∈ h.1) (hG : h.2 b = .inl (D.1 105, n1, .inr (.inr (.inr (.inr g))))) (hsp : i0 = nI sp) (hdp : i1 = nI dp) (hnn : i2 = nI n) (hl0 : sp + n ≤ n0 ∧ n0 < 2 ^ 31) (hl1 : dp + n ≤ n1 ∧ n1 < 2 ^ 31) (hel : ∀ j y, f j = some y → ∃ ci vs r, y ∈ h.1 ∧ h.2 y = .inr (ci, vs) ∧ CL[ci]? = some r ∧ va_Nw (.castable r.1 "java/lang/Object") s) (hR : 1 ≤ R.frames ∧ 60 ≤ R.locals) (hW : (rest.map fun v => v.category).sum ≤ 8) (kk : G p l e R s m args below meth c nL D z0 E Qp mc ms (pc + 3) lv rest (h.1, va_up h.2 b (.inl (D.1 105, n1, .inr (.inr (.inr (.inr (va_cpy f g sp dp n))))))) rc rs) : G p l e R s m args below meth c nL D z0 E Qp mc ms pc lv (.int i2 :: .int i1 :: .ref b :: .int i0 :: .ref a :: rest) h rc rs := by
  intro ls H locs cells slots h1 h2 h3 h4 h5
  subst hsp hdp hnn
  obtain ⟨q0, hq0⟩ := pl_at ha
  obtain ⟨q1, hq1⟩ := pl_at hb
  have hq2 := hq1
  rw [hF] at hq0
  rw [hG] at hq1
  have c0 : (nI sp).toNatClampNeg = sp := nI_clamp (by omega)
  have c1 : (nI dp).toNatClampNeg = dp := nI_clamp (by omega)
  have c2 : (nI n).toNatClampNeg = n := nI_clamp (by omega)
  have hw9 : nativeFrameWords "java/lang/System" "arraycopy" 5 ≤ 20 := by decide
  refine va_copyM C.1 C.2.1 (C.2.2.1.trans h1.1.symm) C.2.2.2.1 (C.2.2.2.2.1 _ w1) (C.2.2.2.2.1 _ w2) (C.2.2.2.2.1 _ w3) (C.2.2.2.2.1 _ w4) C.2.2.2.2.2.1 h2.1 h2.2 h3 q0 q1 5 5 hq0 hq1 rfl rfl (nI_pos (by omega)) (nI_pos (by omega)) (nI_pos (by omega)) (by rw [c0, c2]; exact hl0.1) (by rw [c1, c2]; exact hl1.1) (fun i _ y hy => by
    obtain ⟨ci, vs, r, x1, x2, x3, x4⟩ := hel _ y hy
    exact any_of C h2 x3 x4 x1 x2) hR.1 (by omega) hd (fun H1 locs1 hP1 hD1 hS1 => ?_)
  rw [c0, c1, c2, pl_set h2.2 hb hq2] at hP1 hD1
  exact kk ls H1 locs1 cells slots h1 ⟨hP1, hD1⟩ hS1 h4 h5
theorem g_clone (C : Cx p R s m args meth c cc own nL ret D z0 E mc ms) {idx a n : Nat} {f : Nat → Int32} (hd : decode cc pc = .ok (.invokevirtual idx, 3)) (w1 : Cond.methodLink own idx ⟨"[B", "clone", "()Ljava/lang/Object;"⟩ ∈ lw_g) (w2 : Cond.sameMethod "[B" "java/lang/Object" "clone" "()Ljava/lang/Object;" ∈ lw_g) (w3 : Cond.native ⟨"java/lang/Object", "clone", "()Ljava/lang/Object;"⟩ ∈ lw_g) (w4 : Cond.instanceMethod ⟨"java/lang/Object", "clone", "()Ljava/lang/Object;"⟩ ∈ lw_g) (w5 : Cond.selects "[B" ⟨"[B", "clone", "()Ljava/lang/Object;"⟩ ⟨"java/lang/Object", "clone", "()Ljava/lang/Object;"⟩ ∈ lw_g) (hca : va_Nw (.castable "[B" "java/lang/Cloneable") s) (ha : a ∈ h.1) (hF : h.2 a = .inl (D.1 104, n, .inl f)) (hfit : sb_Fit f) (hR : 1 ≤ R.frames ∧ 60 ≤ R.locals) (hW : (rest.map fun v => v.category).sum ≤ 8) (hc : 1 ≤ rc ∧ n ≤ rs) (kk : ∀ q : Nat, q ∉ h.1 → z0 ≤ q → G p l e R s m args below meth c nL D z0 E Qp mc ms (pc + 3) lv (.ref q :: rest) (h.1 ++ [q], va_up h.2 q (.inl (D.1 104, n, .inl f))) (rc - 1) (rs - n)) : G p l e R s m args below meth c nL D z0 E Qp mc ms pc lv (.ref a :: rest) h rc rs := by
  intro ls H locs cells slots h1 h2 h3 h4 h5
  have hcl := C.2.2.2.2.2.2.2.2.2.2.2.2.1
  have hsl := C.2.2.2.2.2.2.2.2.2.2.2.2.2
  obtain ⟨q0, hq0⟩ := pl_at ha
  rw [hF] at hq0
  have hy := C.tyq 4 (q := (D.1 104, .byte)) rfl
  have hnm : s.vm.findClass "[B" = some (D.1 104) := hy
  refine va_clone C.1 C.2.1 (C.2.2.1.trans h1.1.symm) C.2.2.2.1 (C.2.2.2.2.1 _ w1) (C.2.2.2.2.1 _ w2) (C.2.2.2.2.1 _ w3) (C.2.2.2.2.1 _ w4) (C.2.2.2.2.1 _ w5) hca C.2.2.2.2.2.1 h2.1 h2.2 h3 C.free q0 4 hq0 rfl hnm ?_ hR.1 (by omega) (by omega) (by show slots + n ≤ _; omega) hd (fun q H1 hK1 hP1 hD1 hS1 => ?_)
  · intro i v hv
    rw [vp_cell_i] at hv
    by_cases hl : i < n
    · rw [arrV_read _ _ hl] at hv
      cases hv
      exact hfit i
    · have hz : (arrV (D.1 104) n (fun j => .int (f j))).slots.size ≤ i := by rw [arrV_size]; omega
      rw [Array.getElem?_eq_none hz] at hv
      cases hv
  · exact kk q (fresh_of hD1) (up_z hD1) ls H1 locs (cells + 1) (slots + n) h1 (Wd.push hP1 hD1) hS1 (by omega) (by show slots + n + _ ≤ _; omega)
theorem g_gets (C : Cx p R s m args meth c cc own nL ret D z0 E mc ms) {idx : Nat} {ref n d : String} {v : Value} (hd : decode cc pc = .ok (.getstatic idx, 3)) (hw : Cond.fieldLink own idx ref n d ∈ lw_g) (hZ : va_Z ref n d v (AA z0) s s.heap) (kk : G p l e R s m args below meth c nL D z0 E Qp mc ms (pc + 3) lv (v :: rest) h rc rs) : G p l e R s m args below meth c nL D z0 E Qp mc ms pc lv rest h rc rs := fun ls H locs cells slots h1 h2 h3 h4 h5 => va_gets C.1 C.2.1 hZ h3 C.2.2.2.1 (C.2.2.2.2.1 _ hw) (fun x hx => hx) hd (kk ls H locs cells slots h1 h2 h3 h4 h5)
theorem g_ldc (C : Cx p R s m args meth c cc own nL ret D z0 E mc ms) {idx : Nat} {v : Int32} (hd : decode cc pc = .ok (.ldc idx, 2)) (hw : Cond.constant own idx v ∈ lw_g) (kk : G p l e R s m args below meth c nL D z0 E Qp mc ms (pc + 2) lv (.int v :: rest) h rc rs) : G p l e R s m args below meth c nL D z0 E Qp mc ms pc lv rest h rc rs := fun ls H locs cells slots h1 h2 h3 h4 h5 => lv_ldc C.1 C.2.1 C.2.2.2.1 (C.2.2.2.2.1 _ hw) hd (kk ls H locs cells slots h1 h2 h3 h4 h5)
theorem g_ldcS (C : Cx p R s m args meth c cc own nL ret D z0 E mc ms) {idx q : Nat} {tx : String} (hd : decode cc pc = .ok (.ldc idx, 2)) (hZ : vk_R own idx tx q s) (kk : G p l e R s m args below meth c nL D z0 E Qp mc ms (pc + 2) lv (.ref q :: rest) h rc rs) : G p l e R s m args below meth c nL D z0 E Qp mc ms pc lv rest h rc rs := fun ls H locs cells slots h1 h2 h3 h4 h5 => va_ldcS C.1 C.2.1 C.2.2.2.1 hZ hd (kk ls H locs cells slots h1 h2 h3 h4 h5)
theorem g_ldcM (C : Cx p R s m args meth c cc own nL ret D z0 E mc ms) {idx q : Nat} {nm : String} (hd : decode cc pc = .ok (.ldc idx, 2)) (hw : Cond.classLink own idx nm ∈ lw_g) (hM : va_Mi nm q s) (kk : G p l e R s m args below meth c nL D z0 E Qp mc ms (pc + 2) lv (.ref q :: rest) h rc rs) : G p l e R s m args below meth c nL D z0 E Qp mc ms pc lv rest h rc rs := fun ls H locs cells slots h1 h2 h3 h4 h5 => va_ldcM C.1 C.2.1 C.2.2.2.1 (C.2.2.2.2.1 _ hw) hM hd (kk ls H locs cells slots h1 h2 h3 h4 h5)
theorem g_ifnull (C : Cx p R s m args meth c cc own nL ret D z0 E mc ms) {x : Nat} {off : Int} (hd : decode cc pc = .ok (.ifnull off, 3)) (kk : G p l e R s m args below meth c nL D z0 E Qp mc ms (pc + 3) lv rest h rc rs) : G p l e R s m args below meth c nL D z0 E Qp mc ms pc lv (.ref x :: rest) h rc rs := fun ls H locs cells slots h1 h2 h3 h4 h5 => lv_ifnull C.1 C.2.1 hd (kk ls H locs cells slots h1 h2 h3 h4 h5)
theorem g_ifnullN (C : Cx p R s m args meth c cc own nL ret D z0 E mc ms) {off : Int} {tgt : Nat} (hd : decode cc pc = .ok (.ifnull off, 3)) (ht : (pc : Int) + off = (tgt : Int)) (kk : G p l e R s m args below meth c nL D z0 E Qp mc ms tgt lv rest h rc rs) : G p l e R s m args below meth c nL D z0 E Qp mc ms pc lv (.null :: rest) h rc rs := fun ls H locs cells slots h1 h2 h3 h4 h5 => lv_ifnullN C.1 C.2.1 hd ht (kk ls H locs cells slots h1 h2 h3 h4 h5)
theorem g_ifnonnull (C : Cx p R s m args meth c cc own nL ret D z0 E mc ms) {x : Nat} {off : Int} {tgt : Nat} (hd : decode cc pc = .ok (.ifnonnull off, 3)) (ht : (pc : Int) + off = (tgt : Int)) (kk : G p l e R s m args below meth c nL D z0 E Qp mc ms tgt lv rest h rc rs) : G p l e R s m args below meth c nL D z0 E Qp mc ms pc lv (.ref x :: rest) h rc rs := fun ls H locs cells slots h1 h2 h3 h4 h5 => lv_ifnonnull C.1 C.2.1 hd ht (kk ls H locs cells slots h1 h2 h3 h4 h5)
theorem g_ifnonnullN (C : Cx p R s m args meth c cc own nL ret D z0 E mc ms) {off : Int} (hd : decode cc pc = .ok (.ifnonnull off, 3)) (kk : G p l e R s m args below meth c nL D z0 E Qp mc ms (pc + 3) lv rest h rc rs) : G p l e R s m args below meth c nL D z0 E Qp mc ms pc lv (.null :: rest) h rc rs := fun ls H locs cells slots h1 h2 h3 h4 h5 => lv_ifnonnullN C.1 C.2.1 hd (kk ls H locs cells slots h1 h2 h3 h4 h5)
theorem g_acmp_eq (C : Cx p R s m args meth c cc own nL ret D z0 E mc ms) {rx ry : Option Nat} {off : Int} {tgt : Nat} (hd : decode cc pc = .ok (.if_acmp .eq off, 3)) (ht : (pc : Int) + off = (tgt : Int)) (kt : rx = ry → G p l e R s m args below meth c nL D z0 E Qp mc ms tgt lv rest h rc rs) (kf : ¬ rx = ry → G p l e R s m args below meth c nL D z0 E Qp mc ms (pc + 3) lv rest h rc rs) : G p l e R s m args below meth c nL D z0 E Qp mc ms pc lv (va_rf ry :: va_rf rx :: rest) h rc rs := fun ls H locs cells slots h1 h2 h3 h4 h5 => lv_acmp_eq C.1 C.2.1 hd ht (fun z => kt z ls H locs cells slots h1 h2 h3 h4 h5) (fun z => kf z ls H locs cells slots h1 h2 h3 h4 h5)
theorem g_acmp_ne (C : Cx p R s m args meth c cc own nL ret D z0 E mc ms) {rx ry : Option Nat} {off : Int} {tgt : Nat} (hd : decode cc pc = .ok (.if_acmp .ne off, 3)) (ht : (pc : Int) + off = (tgt : Int)) (kt : ¬ rx = ry → G p l e R s m args below meth c nL D z0 E Qp mc ms tgt lv rest h rc rs) (kf : rx = ry → G p l e R s m args below meth c nL D z0 E Qp mc ms (pc + 3) lv rest h rc rs) : G p l e R s m args below meth c nL D z0 E Qp mc ms pc lv (va_rf ry :: va_rf rx :: rest) h rc rs := fun ls H locs cells slots h1 h2 h3 h4 h5 => lv_acmp_ne C.1 C.2.1 hd ht (fun z => kt z ls H locs cells slots h1 h2 h3 h4 h5) (fun z => kf z ls H locs cells slots h1 h2 h3 h4 h5)
theorem g_aloadN (C : Cx p R s m args meth c cc own nL ret D z0 E mc ms) {i : Nat} (q : Nat) (hd : decode cc pc = .ok (.aload i, 2)) (hk : lv[q]? = some (i, .null)) (kk : G p l e R s m args below meth c nL D z0 E Qp mc ms (pc + 2) lv (.null :: rest) h rc rs) : G p l e R s m args below meth c nL D z0 E Qp mc ms pc lv rest h rc rs := fun ls H locs cells slots h1 h2 h3 h4 h5 => lv_aloadN C.1 C.2.1 hd (lv_at h1 q hk) (kk ls H locs cells slots h1 h2 h3 h4 h5)
theorem g_astore_nN (C : Cx p R s m args meth c cc own nL ret D z0 E mc ms) {i : Nat} {j : Fin 4} (hd : decode cc pc = .ok (.astore_n j, 1)) (hi : (j : Nat) = i) (hn : i < nL) (hl : (i, Value.null) :: lv.filter (fun q => !(q.1 == i) && !(q.1 + 1 == i && q.2.category == 2)) = lv') (kk : G p l e R s m args below meth c nL D z0 E Qp mc ms (pc + 1) lv' rest h rc rs) : G p l e R s m args below meth c nL D z0 E Qp mc ms pc lv (.null :: rest) h rc rs := fun ls H locs cells slots h1 h2 h3 h4 h5 => lv_astore_nN C.1 C.2.1 hd hi h1 hn hl (fun ls' h1' => kk ls' H locs cells slots h1' h2 h3 h4 h5)
theorem g_astoreN (C : Cx p R s m args meth c cc own nL ret D z0 E mc ms) {i : Nat} (hd : decode cc pc = .ok (.astore i, 2)) (hn : i < nL) (hl : (i, Value.null) :: lv.filter (fun q => !(q.1 == i) && !(q.1 + 1 == i && q.2.category == 2)) = lv') (kk : G p l e R s m args below meth c nL D z0 E Qp mc ms (pc + 2) lv' rest h rc rs) : G p l e R s m args below meth c nL D z0 E Qp mc ms pc lv (.null :: rest) h rc rs := fun ls H locs cells slots h1 h2 h3 h4 h5 => lv_astoreN C.1 C.2.1 hd h1 hn hl (fun ls' h1' => kk ls' H locs cells slots h1' h2 h3 h4 h5)
theorem rc_of (C : Cx p R s m args meth c cc own nL ret D z0 E mc ms) {H : Heap} {a ci : Nat} {fs : List Value} {r : vw_C} (h2 : Wd z0 D h H) (hc : CL[ci]? = some r) (ha : a ∈ h.1) (hF : h.2 a = .inr (ci, fs)) : ∃ cell : Cell, H[a]? = some cell ∧ cell.vm.isStatics = false ∧ s.vm.findClass r.1 = some cell.cls := by
  obtain ⟨q0, hq0⟩ := pl_at ha
  rw [hF] at hq0
  exact va_recv C.2.2.2.2.2.1 h2.1 hc hq0
theorem g_ccast (C : Cx p R s m args meth c cc own nL ret D z0 E mc ms) {idx a ci N : Nat} {nm : String} {T : u_T} {fs : List Value} (hd : decode cc pc = .ok (.checkcast idx, 3)) (hw : Cond.classLink own idx nm ∈ lw_g) (hc : CL[ci]? = some (nm, T, N)) (ha : a ∈ h.1) (hF : h.2 a = .inr (ci, fs)) (kk : G p l e R s m args below meth c nL D z0 E Qp mc ms (pc + 3) lv (.ref a :: rest) h rc rs) : G p l e R s m args below meth c nL D z0 E Qp mc ms pc lv (.ref a :: rest) h rc rs := fun ls H locs cells slots h1 h2 h3 h4 h5 => va_castE C.1 C.2.1 C.2.2.2.1 (C.2.2.2.2.1 _ hw) (rc_of C h2 hc ha hF) hd (kk ls H locs cells slots h1 h2 h3 h4 h5)
theorem g_castB (C : Cx p R s m args meth c cc own nL ret D z0 E mc ms) {idx a n : Nat} {x : (Nat → Int32) ⊕ ((Nat → Int64) ⊕ ((Nat → UInt32) ⊕ ((Nat → UInt64) ⊕ (Nat → Option Nat))))} (hd : decode cc pc = .ok (.checkcast idx, 3)) (hw : Cond.classLink own idx "[B" ∈ lw_g) (ha : a ∈ h.1) (hF : h.2 a = .inl (D.1 104, n, x)) (kk : G p l e R s m args below meth c nL D z0 E Qp mc ms (pc + 3) lv (.ref a :: rest) h rc rs) : G p l e R s m args below meth c nL D z0 E Qp mc ms pc lv (.ref a :: rest) h rc rs := by
  intro ls H locs cells slots h1 h2 h3 h4 h5
  obtain ⟨q0, hq0⟩ := pl_at ha
  rw [hF] at hq0
  have hy : s.vm.findClass "[B" = some (D.1 104) := C.tyq 4 (q := (D.1 104, .byte)) rfl
  have hz : va_at D CL (a, .inl (D.1 104, n, x)) H := h2.1 q0 _ hq0
  refine va_castE C.1 C.2.1 C.2.2.2.1 (C.2.2.2.2.1 _ hw) ⟨vp_cell (D.1 104) (n, x), hz, ?_, ?_⟩ hd (kk ls H locs cells slots h1 h2 h3 h4 h5)
  · rcases x with x | x | x | x | x <;> rfl
  · rw [hy]
    rcases x with x | x | x | x | x <;> rfl
end GN
section GT
variable {p : Program} {l : Launch} {e : Env} {R : Room} {s : State} {m : MethodId} {args : Array Value} {below : List Frame} {meth : Method} {c : Code} {cc : ByteArray} {own : String} {nL : Nat} {ret : Option FieldType} {D : va_G} {z0 : Nat} {E : State → Prop} {Qp : Outcome → hp → Prop} {mc ms pc : Nat} {lv lv' : List (Nat × Value)} {st rest : List Value} {h : hp} {rc rs : Nat}
theorem g_throw (C : Cx p R s m args meth c cc own nL ret D z0 E mc ms) (htr : l.stackTraces = false) {cls : String} {names : List String} {ix ic ci : Nat} (hci : CL[ci]? = some (cls, TX, 0)) (hcls : Bundle.fit cls = true) (hnames : ∀ n ∈ names, Bundle.fit n = true) (w1 : Cond.classLink own ix cls ∈ lw_g) (w2 : Cond.instantiable cls 6 ∈ lw_g) (w3 : Cond.initialized cls ∈ lw_g) (hE0 : ∀ U : State, E U → ∀ a ∈ Bundle.ownAtoms0 own ic cls names, ∀ A, a.before A U = true) (d0 : decode cc pc = .ok (.new ix, 3)) (d3 : decode cc (pc + 3) = .ok (.dup, 1)) (d4 : decode cc (pc + 4) = .ok (.invokespecial ic, 3)) (d7 : decode cc (pc + 7) = .ok (.athrow, 1)) (hR : names.length + 4 ≤ R.frames ∧ 13 * (names.length + 1) + 50 ≤ R.locals) (hW : (rest.map fun v => v.category).sum ≤ 8) (hc : 1 ≤ rc ∧ 6 ≤ rs) (hq : ∀ x : Nat, x ∉ h.1 → z0 ≤ x → Qp (.threw x) (h.1 ++ [x], va_up h.2 x (.inr (ci, [])))) : G p l e R s m args below meth c nL D z0 E Qp mc ms pc lv rest h rc rs := by
  intro ls H locs cells slots h1 h2 h3 h4 h5
  have hcl := C.2.2.2.2.2.2.2.2.2.2.2.2.1
  have hsl := C.2.2.2.2.2.2.2.2.2.2.2.2.2
  have hz := C.2.2.2.2.2.2.2.1
  refine W.widen (k := mc - 1) (n := ms - 6) (by omega) (by omega) ?_
  have e1 : mc - 1 + 1 = mc := by omega
  have e2 : ms - 6 + 6 = ms := by omega
  have key := xt_throw (p := p) (l := l) (e := e) (R := R) (s := s) (m := m) (args := args) (below := below) (meth := meth) (c := c) (H := H) (locs := locs) (cells := mc - 1) (slots := ms - 6) (Qc := QcO z0 D E Qp) (free := AA z0) (rest := rest) (ls := ls) (pc := pc) C.1 C.2.1 htr C.2.2.2.1 hcls hnames (C.2.2.2.2.1 _ w1) (C.2.2.2.2.1 _ w2) (C.2.2.2.2.1 _ w3)
    (fun a ha U hU hWm => hE0 U (C.world h2 h3 U hU hWm).1.2.2.2 a ha args) (h1.1.trans C.2.2.1.symm) d0 d3 d4 d7 (fun z hz => absurd (C.2.2.2.2.2.2.2.2.2.2.2.1 z hz) id) C.2.2.2.2.2.2.1 (by omega) (by omega) hR.1 (by omega) ?_ h3.2.2
  · rw [e1, e2] at key
    exact key
  · intro U hWm hkeep hce
    obtain ⟨ce, hc1, hc2, hc3⟩ := hce
    have hszU : H.size < U.heap.size := (Array.getElem?_eq_some_iff.mp hc1).1
    have hHz : z0 ≤ H.size := Nat.le_trans hz h3.1
    have hk2 : ∀ q : Nat, q < H.size → U.heap[q]? = H[q]? := by
      intro q hq
      obtain ⟨cq, hcq⟩ : ∃ cq, H[q]? = some cq := ⟨H[q], Array.getElem?_eq_getElem hq⟩
      rw [hkeep q cq hcq, hcq]
    have hkp : ∀ (k : Nat) (x : Nat × va_E), (va_pl h.1 h.2)[k]? = some x → U.heap[x.1]? = H[x.1]? := fun k x hx => hk2 x.1 ((h2.1 k x hx).lt)
    have hP1 : va_P D CL (va_pl h.1 h.2 ++ [(H.size, .inr (ci, []))]) U.heap := by
      refine (h2.1.kept hkp).app (fun k x hx => ?_)
      have hz1 : k < 1 := (List.getElem?_eq_some_iff.mp hx).1
      rw [show k = 0 by omega] at hx
      cases hx
      have hcA := (C.2.2.2.2.2.1.1 ci _ hci).2.1
      refine ⟨_, hci, ce, hc1, Option.some.inj (hc2.symm.trans hcA), hc3, fun k hk => absurd hk (Nat.not_lt_zero _)⟩
    have hD1 : va_D (AA z0) (va_pl h.1 h.2 ++ [(H.size, .inr (ci, []))]) := h2.2.push h2.1 rfl hHz
    refine ⟨(h.1 ++ [H.size], va_up h.2 H.size (.inr (ci, []))), hq H.size (fresh_of hD1) hHz, ⟨Wd.push hP1 hD1, va_K.moved hWm.alike C.2.2.2.2.2.1, Nat.le_trans hHz (Nat.le_of_lt hszU), ?_⟩, ?_⟩
    · refine C.2.2.2.2.2.2.2.2.2.1 s U hWm (Nat.le_trans h3.1 (Nat.le_of_lt hszU)) (fun q hq => ?_) C.2.2.2.2.2.2.2.2.1
      rw [hk2 q (Nat.lt_of_lt_of_le hq hHz)]
      exact h3.2.1 q (Nat.lt_of_lt_of_le hq hz) (Nat.not_le.mpr hq)
    · refine ⟨Nat.le_trans h3.1 (Nat.le_of_lt hszU), fun q hq => ?_⟩
      rw [hk2 q (Nat.lt_of_lt_of_le hq hHz)]
      exact h3.2.1 q (Nat.lt_of_lt_of_le hq hz) (Nat.not_le.mpr hq)
end GT
end
section
/-! Calls of the superclass's own methods, of inherited and overriding ones, of private ones on an object of a subclass. -/
section XU
variable {p : Program} {l : Launch} {e : Env} {R : Room} {s : State} {m : MethodId} {args : Array Value} {below : List Frame} {meth : Method} {c : Code} {H : Heap} {locs : List Loc} {cells slots : Nat} {Q : State → Prop}
variable {x y : MethodName} {bytes cc : ByteArray} {maxL nL mc ms n index : Nat} {ret : Option FieldType} {ws : List Cond} {rm : Room} {Pc : Array Value → State → Prop} {Qc : Array Value → State → Outcome → State → Prop} {free : Addr → Prop} {Ts : List Cond} {own C : String} {b : Addr} {As rest : List Value} {pc : Nat} {ls : Array Slot}
theorem xt_callSU (S : CallFix p m c cc nL s args Ts own) (hM : xt_Met l y ws rm Pc Qc mc ms free) (cw : rm.cells = mc ∧ rm.slots = ms ∧ rm.frames + 1 ≤ R.frames ∧ 8 + (maxL + 11) + rm.locals ≤ R.locals ∧ (∀ w ∈ ws, ∀ (a' : Array Value) (U : State), s.WarmedH U.vm → w.before a' U = true) ∧ Cond.code y bytes maxL ret ∈ ws) (hcode : (Cond.code y bytes maxL ret).before args s = true) (hini : (Cond.initialized y.cls).before args s = true) (hin : (Cond.instanceMethod y).before args s = true) {cC : ClassId} (hat : ClassAt s C cC) (hl1 : (Cond.methodLink own index y).before args s = true) (hl2 : (Cond.sameMethod y.cls y.cls y.name y.desc).before args s = true) (hl3 : (Cond.superclass own y.cls).before args s = true) (hno : y.name ≠ "<init>") (hlen : ∀ sig, parseMethodDescriptor y.desc = some sig → n = sig.parameters.length) (hp : PreV s H C b Pc As)
    (hn : As.length = n) (hsize : ls.size = nL) (hW : (rest.map fun v => v.category).sum ≤ 8) (hdg : decode cc pc = .ok (.invokespecial index, 3)) (hf : cells + mc ≤ R.cells ∧ slots + ms ≤ R.slots)
    (kr : ∀ (v : Option Value) (st t : State) (L : List Loc), st.heap = H → s.vm.Alike t.vm → (∀ q ∈ L, free q.base) → Qc (Value.ref b :: As).toArray st (.returned v) t → W p l e R s m args below meth c t.heap (locs ++ L) (cells + mc) (slots + ms) Q (F0 m (pc + 3) ls (v.toList ++ rest)))
    (kx : ∀ (x : Addr) (st t : State) (L : List Loc), st.heap = H → s.vm.Alike t.vm → (∀ q ∈ L, free q.base) → Qc (Value.ref b :: As).toArray st (.threw x) t → xt_X p l e R s m args below meth c t.heap (locs ++ L) (cells + mc) (slots + ms) Q (F0 m pc ls rest) x) :
    W p l e R s m args below meth c H locs cells slots Q (F0 m pc ls (As.reverse ++ .ref b :: rest)) := by
  obtain ⟨hrc, hrs, hfr, hlo, hws, hcw⟩ := cw
  obtain ⟨hx, hb, hml, ho, -⟩ := S
  obtain ⟨hbl, ⟨cellB, hcB, hoB, hclB⟩, hPc⟩ := hp
  intro T hT X
  obtain ⟨mk, methM, hnamed, hmethM, hstM, habM⟩ := Cond.instanceMethod_spec hin
  obtain ⟨methM', cM, hmethM', -, -, -, -, -, -, hsigM⟩ := Cond.code_spec hnamed hcode
  cases hmethM.symm.trans hmethM'
  obtain ⟨hfc, kB, hkB, -⟩ := hat
  cases hfc.symm.trans hclB
  obtain ⟨ps, dk, kp, hps, hdk, hkp, hsuper, -, -, hnid⟩ := Cond.superclass_spec ho hl3
  have hn0 : s.methodNamed? ⟨y.cls, y.name, y.desc⟩ = some mk := hnamed
  have hpm : ps = mk.cls := Option.some.inj (hps.symm.trans (findClass_of_methodNamed hnamed))
  have hsub : s.vm.isSubclass ps mk.cls = true := by rw [hpm]; simp [Vm.isSubclass, Vm.isSubclassAux]
  obtain ⟨vm₁, X₁, hstep₁⟩ := X.invokespecialUp hx ho hl1 hl2 hn0 hmethM hstM habM hno hdk hnid hps hsuper hsub (a := b) (cell := cellB) (by rw [hT]; exact hcB)
    (fun z h => by rw [h] at hoB; cases hoB) hkB (g := F0 m pc ls (As.reverse ++ .ref b :: rest)) rfl (argsL := As) (rest := rest) (hn.trans (hlen _ hsigM)) rfl (by rw [hb]; exact hdg)
  obtain ⟨o, t, T', L, X', e1, e2, hL, hq, hst, hr, hth⟩ := xt_back X₁ (g := F0 m pc ls rest) rfl (hsize.trans hml.symm) (by rw [hb]; exact hdg) hM (X₁.named hnamed) (fun w hw => hws w hw _ _ X₁.warmed) (hws _ hcw _ _ X₁.warmed)
    (word_at X₁.warmed (Or.inl (by first | rfl | simp [Cond.onTables, Cond.keeps, Cond.steady])) hini) hrc hrs hfr (by show 2 * 0 + (rest.map fun v => v.category).sum + (maxL + 11) + rm.locals ≤ R.locals; omega) hf.1 hf.2 (hbl _ _ _ _ (hPc (T.setVm vm₁) hT X₁.warmed))
  have hal : s.vm.Alike t.vm := by rw [← e2]; exact X'.warmed.alike
  cases o with
  | returned v =>
    obtain ⟨t2, a1, b1⟩ := kr v _ t L (by show T.heap = H; exact hT) hal hL hq T' e1 X'
    have h1 := hr v rfl
    exact ⟨t2, hstep₁ _ (by rw [doInvoke_state]; exact hst.trans (by rw [h1]; exact a1)), b1⟩
  | threw x =>
    obtain ⟨t2, a1, b1⟩ := kx x _ t L (by show T.heap = H; exact hT) hal hL hq T' e1 X'
    have h1 := hth x rfl
    exact ⟨t2, hstep₁ _ (by rw [doInvoke_state]; exact hst.trans (by rw [h1]; exact a1)), b1⟩
theorem xt_callU {owner : String} (S : CallFix p m c cc nL s args Ts own) (hM : xt_Met l y ws rm Pc Qc mc ms free) (cw : rm.cells = mc ∧ rm.slots = ms ∧ rm.frames + 1 ≤ R.frames ∧ 8 + (maxL + 11) + rm.locals ≤ R.locals ∧ (∀ w ∈ ws, ∀ (a' : Array Value) (U : State), s.WarmedH U.vm → w.before a' U = true) ∧ Cond.code y bytes maxL ret ∈ ws) (hcode : (Cond.code y bytes maxL ret).before args s = true) (hini : (Cond.initialized y.cls).before args s = true) (hin : (Cond.instanceMethod y).before args s = true) (hl1 : (Cond.methodLink own index x).before args s = true) (hl2 : (Cond.sameMethod x.cls owner x.name x.desc).before args s = true) (hd0 : va_Decl s ⟨owner, x.name, x.desc⟩) (howner : owner ≠ "java/lang/invoke/MethodHandle" ∧ owner ≠ "java/lang/invoke/VarHandle") (hse : (Cond.selects C x y).before args s = true) (hlen : ∀ sig, parseMethodDescriptor x.desc = some sig → n = sig.parameters.length) (hp : PreV s H C b Pc As)
    (hn : As.length = n) (hsize : ls.size = nL) (hW : (rest.map fun v => v.category).sum ≤ 8) (hdg : decode cc pc = .ok (.invokevirtual index, 3)) (hf : cells + mc ≤ R.cells ∧ slots + ms ≤ R.slots)
    (kr : ∀ (v : Option Value) (st t : State) (L : List Loc), st.heap = H → s.vm.Alike t.vm → (∀ q ∈ L, free q.base) → Qc (Value.ref b :: As).toArray st (.returned v) t → W p l e R s m args below meth c t.heap (locs ++ L) (cells + mc) (slots + ms) Q (F0 m (pc + 3) ls (v.toList ++ rest)))
    (kx : ∀ (x : Addr) (st t : State) (L : List Loc), st.heap = H → s.vm.Alike t.vm → (∀ q ∈ L, free q.base) → Qc (Value.ref b :: As).toArray st (.threw x) t → xt_X p l e R s m args below meth c t.heap (locs ++ L) (cells + mc) (slots + ms) Q (F0 m pc ls rest) x) :
    W p l e R s m args below meth c H locs cells slots Q (F0 m pc ls (As.reverse ++ .ref b :: rest)) := by
  obtain ⟨hrc, hrs, hfr, hlo, hws, hcw⟩ := cw
  obtain ⟨hx, hb, hml, ho, -⟩ := S
  obtain ⟨hbl, ⟨cellB, hcB, hoB, hclB⟩, hPc⟩ := hp
  intro T hT X
  obtain ⟨mk, methM, hnamed, hmethM, hstM, habM⟩ := Cond.instanceMethod_spec hin
  obtain ⟨methM', cM, hmethM', -, -, -, -, -, -, hsigM⟩ := Cond.code_spec hnamed hcode
  cases hmethM.symm.trans hmethM'
  obtain ⟨r0, r, hn0, hrm, hstR, hsigR⟩ := hd0
  obtain ⟨cn, ck, r1, hcn, hck, hni, hf0, hn1⟩ := Cond.sameMethod_found hl2
  cases hn0.symm.trans hn1
  obtain ⟨c2, r2, m2, q1, q2, q3, q4, kP, hkP, hkPi⟩ := Cond.selects_spec hse
  cases hclB.symm.trans q1
  cases hf0.symm.trans q2
  cases hnamed.symm.trans q3
  have hselP : selectMethod e.platform s.vm cellB.cls r0 = .method mk := by rw [Launch.admits_selectMethod X.admits]; exact q4
  obtain ⟨vm₁, X₁, hstep₁⟩ := X.invokevirtualUp hx ho hl1 hl2 howner hn0 hrm hstR (a := b) (cell := cellB) (by rw [hT]; exact hcB)
    (fun z h => by rw [h] at hoB; cases hoB) hselP hmethM habM hkP hkPi (g := F0 m pc ls (As.reverse ++ .ref b :: rest)) rfl (argsL := As) (rest := rest) (hn.trans (hlen _ hsigR)) rfl (by rw [hb]; exact hdg)
  obtain ⟨o, t, T', L, X', e1, e2, hL, hq, hst, hr, hth⟩ := xt_back X₁ (g := F0 m pc ls rest) rfl (hsize.trans hml.symm) (by rw [hb]; exact hdg) hM (X₁.named hnamed) (fun w hw => hws w hw _ _ X₁.warmed) (hws _ hcw _ _ X₁.warmed)
    (word_at X₁.warmed (Or.inl (by first | rfl | simp [Cond.onTables, Cond.keeps, Cond.steady])) hini) hrc hrs hfr (by show 2 * 0 + (rest.map fun v => v.category).sum + (maxL + 11) + rm.locals ≤ R.locals; omega) hf.1 hf.2 (hbl _ _ _ _ (hPc (T.setVm vm₁) hT X₁.warmed))
  have hal : s.vm.Alike t.vm := by rw [← e2]; exact X'.warmed.alike
  cases o with
  | returned v =>
    obtain ⟨t2, a1, b1⟩ := kr v _ t L (by show T.heap = H; exact hT) hal hL hq T' e1 X'
    have h1 := hr v rfl
    exact ⟨t2, hstep₁ _ (fun acts => by rw [doInvoke_state]; exact hst.trans (by rw [h1]; exact a1)), b1⟩
  | threw x =>
    obtain ⟨t2, a1, b1⟩ := kx x _ t L (by show T.heap = H; exact hT) hal hL hq T' e1 X'
    have h1 := hth x rfl
    exact ⟨t2, hstep₁ _ (fun acts => by rw [doInvoke_state]; exact hst.trans (by rw [h1]; exact a1)), b1⟩
theorem xt_callP (S : CallFix p m c cc nL s args Ts own) (hM : xt_Met l y ws rm Pc Qc mc ms free) (cw : rm.cells = mc ∧ rm.slots = ms ∧ rm.frames + 1 ≤ R.frames ∧ 8 + (maxL + 11) + rm.locals ≤ R.locals ∧ (∀ w ∈ ws, ∀ (a' : Array Value) (U : State), s.WarmedH U.vm → w.before a' U = true) ∧ Cond.code y bytes maxL ret ∈ ws) (hcode : (Cond.code y bytes maxL ret).before args s = true) (hini : (Cond.initialized y.cls).before args s = true) (hin : (Cond.instanceMethod y).before args s = true) (hl1 : (Cond.methodLink own index y).before args s = true) (hl2 : (Cond.sameMethod y.cls y.cls y.name y.desc).before args s = true) (hy : y.cls ≠ "java/lang/invoke/MethodHandle" ∧ y.cls ≠ "java/lang/invoke/VarHandle") (hpriv : (Cond.privateMethod y).before args s = true) (hlen : ∀ sig, parseMethodDescriptor y.desc = some sig → n = sig.parameters.length) (hp : PreV s H C b Pc As)
    (hn : As.length = n) (hsize : ls.size = nL) (hW : (rest.map fun v => v.category).sum ≤ 8) (hdg : decode cc pc = .ok (.invokevirtual index, 3)) (hf : cells + mc ≤ R.cells ∧ slots + ms ≤ R.slots)
    (kr : ∀ (v : Option Value) (st t : State) (L : List Loc), st.heap = H → s.vm.Alike t.vm → (∀ q ∈ L, free q.base) → Qc (Value.ref b :: As).toArray st (.returned v) t → W p l e R s m args below meth c t.heap (locs ++ L) (cells + mc) (slots + ms) Q (F0 m (pc + 3) ls (v.toList ++ rest)))
    (kx : ∀ (x : Addr) (st t : State) (L : List Loc), st.heap = H → s.vm.Alike t.vm → (∀ q ∈ L, free q.base) → Qc (Value.ref b :: As).toArray st (.threw x) t → xt_X p l e R s m args below meth c t.heap (locs ++ L) (cells + mc) (slots + ms) Q (F0 m pc ls rest) x) :
    W p l e R s m args below meth c H locs cells slots Q (F0 m pc ls (As.reverse ++ .ref b :: rest)) := by
  obtain ⟨hrc, hrs, hfr, hlo, hws, hcw⟩ := cw
  obtain ⟨hx, hb, hml, ho, -⟩ := S
  obtain ⟨hbl, ⟨cellB, hcB, hoB, hclB⟩, hPc⟩ := hp
  intro T hT X
  obtain ⟨mk, methM, hnamed, hmethM, hstM, habM⟩ := Cond.instanceMethod_spec hin
  obtain ⟨methM', cM, hmethM', -, -, -, -, -, -, hsigM⟩ := Cond.code_spec hnamed hcode
  cases hmethM.symm.trans hmethM'
  obtain ⟨kP, hkP, -⟩ := className_of_methodNamed hnamed
  have hkPi : kP.init = .initialized := Cond.initialized_spec (findClass_of_methodNamed hnamed) hkP hini
  obtain ⟨cn, ck, r1, hcn, hck, hni, -, -⟩ := Cond.sameMethod_found hl2
  have e9 : cn = mk.cls := Option.some.inj (hcn.symm.trans (findClass_of_methodNamed hnamed))
  subst e9
  cases hck.symm.trans hkP
  have hselP : selectMethod e.platform s.vm cellB.cls mk = .method mk := selectMethod_private hmethM (Cond.privateMethod_at hpriv mk methM hnamed hmethM)
  obtain ⟨vm₁, X₁, hstep₁⟩ := X.invokevirtual hx ho hl1 hnamed hmethM hstM hkP hni hy (a := b) (cell := cellB) (by rw [hT]; exact hcB)
    (fun z h => by rw [h] at hoB; cases hoB) hselP hmethM habM hkP hni (g := F0 m pc ls (As.reverse ++ .ref b :: rest)) rfl (argsL := As) (rest := rest) (hn.trans (hlen _ hsigM)) rfl (by rw [hb]; exact hdg)
  obtain ⟨o, t, T', L, X', e1, e2, hL, hq, hst, hr, hth⟩ := xt_back X₁ (g := F0 m pc ls rest) rfl (hsize.trans hml.symm) (by rw [hb]; exact hdg) hM (X₁.named hnamed) (fun w hw => hws w hw _ _ X₁.warmed) (hws _ hcw _ _ X₁.warmed)
    (word_at X₁.warmed (Or.inl (by first | rfl | simp [Cond.onTables, Cond.keeps, Cond.steady])) hini) hrc hrs hfr (by show 2 * 0 + (rest.map fun v => v.category).sum + (maxL + 11) + rm.locals ≤ R.locals; omega) hf.1 hf.2 (hbl _ _ _ _ (hPc (T.setVm vm₁) hT X₁.warmed))
  have hal : s.vm.Alike t.vm := by rw [← e2]; exact X'.warmed.alike
  cases o with
  | returned v =>
    obtain ⟨t2, a1, b1⟩ := kr v _ t L (by show T.heap = H; exact hT) hal hL hq T' e1 X'
    have h1 := hr v rfl
    exact ⟨t2, hstep₁ _ (fun acts => by rw [doInvoke_state]; exact hst.trans (by rw [h1]; exact a1)), b1⟩
  | threw x =>
    obtain ⟨t2, a1, b1⟩ := kx x _ t L (by show T.heap = H; exact hT) hal hL hq T' e1 X'
    have h1 := hth x rfl
    exact ⟨t2, hstep₁ _ (fun acts => by rw [doInvoke_state]; exact hst.trans (by rw [h1]; exact a1)), b1⟩
end XU
section GU
variable {p : Program} {l : Launch} {e : Env} {R : Room} {s : State} {m : MethodId} {args : Array Value} {below : List Frame} {meth : Method} {c : Code} {cc : ByteArray} {own : String} {nL : Nat} {ret : Option FieldType} {D : va_G} {z0 : Nat} {E : State → Prop} {Qp : Outcome → hp → Prop} {mc ms pc : Nat} {lv lv' : List (Nat × Value)} {st rest : List Value} {h : hp} {rc rs : Nat}
theorem len_of {d : String} {n : Nat} (h : (parseMethodDescriptor d).map (fun d => d.parameters.length) = some n) : ∀ sig, parseMethodDescriptor d = some sig → n = sig.parameters.length := by
  intro sig h2
  rw [h2] at h
  exact (Option.some.inj h).symm
theorem g_callSU (C : Cx p R s m args meth c cc own nL ret D z0 E mc ms) {idx n maxL' : Nat} {y : MethodName} {cc' : ByteArray} {ret' : Option FieldType} {rm' : Room} {pre : List Value → hp → Prop} {post : List Value → hp → Outcome → hp → Prop} {As : List Value} {a : Nat} {C0 : String} (hc : Ctr l y cc' maxL' ret' rm' D z0 E pre post) (hd : decode cc pc = .ok (.invokespecial idx, 3)) (w2 : Cond.instanceMethod y ∈ lw_g) (w4 : Cond.initialized y.cls ∈ lw_g) (w5 : Cond.code y cc' maxL' ret' ∈ lw_g) (w1 : Cond.methodLink own idx y ∈ lw_g) (w6 : Cond.sameMethod y.cls y.cls y.name y.desc ∈ lw_g) (w7 : Cond.superclass own y.cls ∈ lw_g) (hy : y.name ≠ "<init>") (hpn : (parseMethodDescriptor y.desc).map (fun d => d.parameters.length) = some n) (hn : As.length = n) {ci N : Nat} {T : u_T} {fs : List Value} (hci : CL[ci]? = some (C0, T, N)) (ha : a ∈ h.1) (hF : h.2 a = .inr (ci, fs)) (hpre : pre (.ref a :: As) h) (hR : rm'.frames + 1 ≤ R.frames ∧ 8 + (maxL' + 11) + rm'.locals ≤ R.locals) (hW : (rest.map fun v => v.category).sum ≤ 8) (hcost : rm'.cells ≤ rc ∧ rm'.slots ≤ rs)
    (kr : ∀ (v : Option Value) (h' : hp), post (.ref a :: As) h (.returned v) h' → G p l e R s m args below meth c nL D z0 E Qp mc ms (pc + 3) lv (v.toList ++ rest) h' (rc - rm'.cells) (rs - rm'.slots)) (kx : ∀ (x : Addr) (h' : hp), post (.ref a :: As) h (.threw x) h' → Qp (.threw x) h') : G p l e R s m args below meth c nL D z0 E Qp mc ms pc lv (As.reverse ++ .ref a :: rest) h rc rs := by
  intro ls H locs cells slots h1 h2 h3 h4 h5
  have hb9 : FrameBlind (fun a9 U => a9 = (.ref a :: As).toArray ∧ World z0 D E h U) := fun a9 U g mk q => ⟨q.1, World.blind C.2.2.2.2.2.2.2.2.2.1 q.2⟩
  have hw9 : ∀ U : State, U.heap = H → s.WarmedH U.vm → World z0 D E h U := fun U hU hWm => (C.world h2 h3 U hU hWm).1
  have hr9 := rc_of C h2 hci ha hF
  have cw9 : rm'.cells = rm'.cells ∧ rm'.slots = rm'.slots ∧ rm'.frames + 1 ≤ R.frames ∧ 8 + (maxL' + 11) + rm'.locals ≤ R.locals ∧ (∀ w ∈ (Cond.code y cc' maxL' ret' :: lw_g), ∀ (a' : Array Value) (U : State), s.WarmedH U.vm → w.before a' U = true) ∧ Cond.code y cc' maxL' ret' ∈ (Cond.code y cc' maxL' ret' :: lw_g) := ⟨rfl, rfl, hR.1, hR.2, pay_in C.2.2.2.2.1 (goodC w5), List.mem_cons_self⟩
  refine xt_callSU (C := C0) (As := As) (rest := rest) (bytes := cc') (maxL := maxL') (ret := ret') ⟨C.1, C.2.1, C.2.2.1, C.2.2.2.1, C.2.2.2.2.1⟩ (hc (.ref a :: As) h hpre) cw9 (C.2.2.2.2.1 _ w5) (C.2.2.2.2.1 _ w4) (C.2.2.2.2.1 _ w2) (C.2.2.2.2.2.1.1 ci _ hci).2 (C.2.2.2.2.1 _ w1) (C.2.2.2.2.1 _ w6) (C.2.2.2.2.1 _ w7) hy (len_of hpn) ⟨hb9, hr9, fun U hU hWm => ⟨rfl, hw9 U hU hWm⟩⟩ hn h1.1 hW hd ⟨by have := C.2.2.2.2.2.2.2.2.2.2.2.2.1; omega, by have := C.2.2.2.2.2.2.2.2.2.2.2.2.2; omega⟩ ?_ ?_
  · intro v st t L hst hal hL hq
    obtain ⟨h', hp', ⟨w1', -, -, -⟩, hF'⟩ := hq
    exact kr v h' hp' ls t.heap (locs ++ L) _ _ h1 w1' (va_S.call C.2.2.2.2.2.2.2.1 h3 hst hL hF') (by omega) (by omega)
  · intro x st t L hst hal hL hq
    obtain ⟨h', hp', ⟨w1', -, -, -⟩, hF'⟩ := hq
    have hS' := va_S.call C.2.2.2.2.2.2.2.1 h3 hst hL hF'
    refine xt_Xwiden (k := mc) (n := ms) (by omega) (by omega) ?_
    refine xt_out rfl rfl rfl (fun z hz => absurd (C.2.2.2.2.2.2.2.2.2.2.2.1 z hz) id) C.2.2.2.2.2.2.1 (fun t' ht' hW' => ?_) hS'.2.2
    obtain ⟨u1, u2⟩ := C.world w1' hS' t' ht' hW'
    exact ⟨h', kx x h' hp', u1, u2⟩
theorem g_callU (C : Cx p R s m args meth c cc own nL ret D z0 E mc ms) {idx n maxL' : Nat} {y : MethodName} {cc' : ByteArray} {ret' : Option FieldType} {rm' : Room} {pre : List Value → hp → Prop} {post : List Value → hp → Outcome → hp → Prop} {As : List Value} {a : Nat} {C0 : String} (hc : Ctr l y cc' maxL' ret' rm' D z0 E pre post) (hd : decode cc pc = .ok (.invokevirtual idx, 3)) (w2 : Cond.instanceMethod y ∈ lw_g) (w4 : Cond.initialized y.cls ∈ lw_g) (w5 : Cond.code y cc' maxL' ret' ∈ lw_g) {x : MethodName} {owner : String} {b0 : ByteArray} {m0 : Nat} {r0 : Option FieldType} (w1 : Cond.methodLink own idx x ∈ lw_g) (w6 : Cond.sameMethod x.cls owner x.name x.desc ∈ lw_g) (w7 : Cond.instanceMethod ⟨owner, x.name, x.desc⟩ ∈ lw_g) (w8 : Cond.code ⟨owner, x.name, x.desc⟩ b0 m0 r0 ∈ lw_g) (w3 : Cond.selects C0 x y ∈ lw_g) (hy : owner ≠ "java/lang/invoke/MethodHandle" ∧ owner ≠ "java/lang/invoke/VarHandle") (hpn : (parseMethodDescriptor x.desc).map (fun d => d.parameters.length) = some n) (hn : As.length = n) {ci N : Nat} {T : u_T} {fs : List Value} (hci : CL[ci]? = some (C0, T, N)) (ha : a ∈ h.1) (hF : h.2 a = .inr (ci, fs)) (hpre : pre (.ref a :: As) h) (hR : rm'.frames + 1 ≤ R.frames ∧ 8 + (maxL' + 11) + rm'.locals ≤ R.locals) (hW : (rest.map fun v => v.category).sum ≤ 8) (hcost : rm'.cells ≤ rc ∧ rm'.slots ≤ rs)
    (kr : ∀ (v : Option Value) (h' : hp), post (.ref a :: As) h (.returned v) h' → G p l e R s m args below meth c nL D z0 E Qp mc ms (pc + 3) lv (v.toList ++ rest) h' (rc - rm'.cells) (rs - rm'.slots)) (kx : ∀ (x : Addr) (h' : hp), post (.ref a :: As) h (.threw x) h' → Qp (.threw x) h') : G p l e R s m args below meth c nL D z0 E Qp mc ms pc lv (As.reverse ++ .ref a :: rest) h rc rs := by
  intro ls H locs cells slots h1 h2 h3 h4 h5
  have hb9 : FrameBlind (fun a9 U => a9 = (.ref a :: As).toArray ∧ World z0 D E h U) := fun a9 U g mk q => ⟨q.1, World.blind C.2.2.2.2.2.2.2.2.2.1 q.2⟩
  have hw9 : ∀ U : State, U.heap = H → s.WarmedH U.vm → World z0 D E h U := fun U hU hWm => (C.world h2 h3 U hU hWm).1
  have hr9 := rc_of C h2 hci ha hF
  have cw9 : rm'.cells = rm'.cells ∧ rm'.slots = rm'.slots ∧ rm'.frames + 1 ≤ R.frames ∧ 8 + (maxL' + 11) + rm'.locals ≤ R.locals ∧ (∀ w ∈ (Cond.code y cc' maxL' ret' :: lw_g), ∀ (a' : Array Value) (U : State), s.WarmedH U.vm → w.before a' U = true) ∧ Cond.code y cc' maxL' ret' ∈ (Cond.code y cc' maxL' ret' :: lw_g) := ⟨rfl, rfl, hR.1, hR.2, pay_in C.2.2.2.2.1 (goodC w5), List.mem_cons_self⟩
  refine xt_callU (C := C0) (As := As) (rest := rest) (bytes := cc') (maxL := maxL') (ret := ret') ⟨C.1, C.2.1, C.2.2.1, C.2.2.2.1, C.2.2.2.2.1⟩ (hc (.ref a :: As) h hpre) cw9 (C.2.2.2.2.1 _ w5) (C.2.2.2.2.1 _ w4) (C.2.2.2.2.1 _ w2) (C.2.2.2.2.1 _ w1) (C.2.2.2.2.1 _ w6) (va_Decl.of (C.2.2.2.2.1 _ w7) (C.2.2.2.2.1 _ w8)) hy (C.2.2.2.2.1 _ w3) (len_of hpn) ⟨hb9, hr9, fun U hU hWm => ⟨rfl, hw9 U hU hWm⟩⟩ hn h1.1 hW hd ⟨by have := C.2.2.2.2.2.2.2.2.2.2.2.2.1; omega, by have := C.2.2.2.2.2.2.2.2.2.2.2.2.2; omega⟩ ?_ ?_
  · intro v st t L hst hal hL hq
    obtain ⟨h', hp', ⟨w1', -, -, -⟩, hF'⟩ := hq
    exact kr v h' hp' ls t.heap (locs ++ L) _ _ h1 w1' (va_S.call C.2.2.2.2.2.2.2.1 h3 hst hL hF') (by omega) (by omega)
  · intro x st t L hst hal hL hq
    obtain ⟨h', hp', ⟨w1', -, -, -⟩, hF'⟩ := hq
    have hS' := va_S.call C.2.2.2.2.2.2.2.1 h3 hst hL hF'
    refine xt_Xwiden (k := mc) (n := ms) (by omega) (by omega) ?_
    refine xt_out rfl rfl rfl (fun z hz => absurd (C.2.2.2.2.2.2.2.2.2.2.2.1 z hz) id) C.2.2.2.2.2.2.1 (fun t' ht' hW' => ?_) hS'.2.2
    obtain ⟨u1, u2⟩ := C.world w1' hS' t' ht' hW'
    exact ⟨h', kx x h' hp', u1, u2⟩
theorem g_callP (C : Cx p R s m args meth c cc own nL ret D z0 E mc ms) {idx n maxL' : Nat} {y : MethodName} {cc' : ByteArray} {ret' : Option FieldType} {rm' : Room} {pre : List Value → hp → Prop} {post : List Value → hp → Outcome → hp → Prop} {As : List Value} {a : Nat} {C0 : String} (hc : Ctr l y cc' maxL' ret' rm' D z0 E pre post) (hd : decode cc pc = .ok (.invokevirtual idx, 3)) (w2 : Cond.instanceMethod y ∈ lw_g) (w4 : Cond.initialized y.cls ∈ lw_g) (w5 : Cond.code y cc' maxL' ret' ∈ lw_g) (w1 : Cond.methodLink own idx y ∈ lw_g) (w6 : Cond.sameMethod y.cls y.cls y.name y.desc ∈ lw_g) (hy : y.cls ≠ "java/lang/invoke/MethodHandle" ∧ y.cls ≠ "java/lang/invoke/VarHandle") (hpriv : va_Nw (.privateMethod y) s) (hpn : (parseMethodDescriptor y.desc).map (fun d => d.parameters.length) = some n) (hn : As.length = n) {ci N : Nat} {T : u_T} {fs : List Value} (hci : CL[ci]? = some (C0, T, N)) (ha : a ∈ h.1) (hF : h.2 a = .inr (ci, fs)) (hpre : pre (.ref a :: As) h) (hR : rm'.frames + 1 ≤ R.frames ∧ 8 + (maxL' + 11) + rm'.locals ≤ R.locals) (hW : (rest.map fun v => v.category).sum ≤ 8) (hcost : rm'.cells ≤ rc ∧ rm'.slots ≤ rs)
    (kr : ∀ (v : Option Value) (h' : hp), post (.ref a :: As) h (.returned v) h' → G p l e R s m args below meth c nL D z0 E Qp mc ms (pc + 3) lv (v.toList ++ rest) h' (rc - rm'.cells) (rs - rm'.slots)) (kx : ∀ (x : Addr) (h' : hp), post (.ref a :: As) h (.threw x) h' → Qp (.threw x) h') : G p l e R s m args below meth c nL D z0 E Qp mc ms pc lv (As.reverse ++ .ref a :: rest) h rc rs := by
  intro ls H locs cells slots h1 h2 h3 h4 h5
  have hb9 : FrameBlind (fun a9 U => a9 = (.ref a :: As).toArray ∧ World z0 D E h U) := fun a9 U g mk q => ⟨q.1, World.blind C.2.2.2.2.2.2.2.2.2.1 q.2⟩
  have hw9 : ∀ U : State, U.heap = H → s.WarmedH U.vm → World z0 D E h U := fun U hU hWm => (C.world h2 h3 U hU hWm).1
  have hr9 := rc_of C h2 hci ha hF
  have cw9 : rm'.cells = rm'.cells ∧ rm'.slots = rm'.slots ∧ rm'.frames + 1 ≤ R.frames ∧ 8 + (maxL' + 11) + rm'.locals ≤ R.locals ∧ (∀ w ∈ (Cond.code y cc' maxL' ret' :: lw_g), ∀ (a' : Array Value) (U : State), s.WarmedH U.vm → w.before a' U = true) ∧ Cond.code y cc' maxL' ret' ∈ (Cond.code y cc' maxL' ret' :: lw_g) := ⟨rfl, rfl, hR.1, hR.2, pay_in C.2.2.2.2.1 (goodC w5), List.mem_cons_self⟩
  refine xt_callP (C := C0) (As := As) (rest := rest) (bytes := cc') (maxL := maxL') (ret := ret') ⟨C.1, C.2.1, C.2.2.1, C.2.2.2.1, C.2.2.2.2.1⟩ (hc (.ref a :: As) h hpre) cw9 (C.2.2.2.2.1 _ w5) (C.2.2.2.2.1 _ w4) (C.2.2.2.2.1 _ w2) (C.2.2.2.2.1 _ w1) (C.2.2.2.2.1 _ w6) hy (va_Nw.use rfl hpriv) (len_of hpn) ⟨hb9, hr9, fun U hU hWm => ⟨rfl, hw9 U hU hWm⟩⟩ hn h1.1 hW hd ⟨by have := C.2.2.2.2.2.2.2.2.2.2.2.2.1; omega, by have := C.2.2.2.2.2.2.2.2.2.2.2.2.2; omega⟩ ?_ ?_
  · intro v st t L hst hal hL hq
    obtain ⟨h', hp', ⟨w1', -, -, -⟩, hF'⟩ := hq
    exact kr v h' hp' ls t.heap (locs ++ L) _ _ h1 w1' (va_S.call C.2.2.2.2.2.2.2.1 h3 hst hL hF') (by omega) (by omega)
  · intro x st t L hst hal hL hq
    obtain ⟨h', hp', ⟨w1', -, -, -⟩, hF'⟩ := hq
    have hS' := va_S.call C.2.2.2.2.2.2.2.1 h3 hst hL hF'
    refine xt_Xwiden (k := mc) (n := ms) (by omega) (by omega) ?_
    refine xt_out rfl rfl rfl (fun z hz => absurd (C.2.2.2.2.2.2.2.2.2.2.2.1 z hz) id) C.2.2.2.2.2.2.1 (fun t' ht' hW' => ?_) hS'.2.2
    obtain ⟨u1, u2⟩ := C.world w1' hS' t' ht' hW'
    exact ⟨h', kx x h' hp', u1, u2⟩
theorem g_getC (C : Cx p R s m args meth c cc own nL ret D z0 E mc ms) {idx a n mi : Nat} {f : Nat → Option Nat} (hd : decode cc pc = .ok (.invokevirtual idx, 3)) (w1 : Cond.methodLink own idx ⟨"java/lang/Object", "getClass", "()Ljava/lang/Class;"⟩ ∈ lw_g) (w2 : Cond.selects "[Ljava/lang/Object;" ⟨"java/lang/Object", "getClass", "()Ljava/lang/Class;"⟩ ⟨"java/lang/Object", "getClass", "()Ljava/lang/Class;"⟩ ∈ lw_g) (w3 : Cond.instanceMethod ⟨"java/lang/Object", "getClass", "()Ljava/lang/Class;"⟩ ∈ lw_g) (w4 : Cond.native ⟨"java/lang/Object", "getClass", "()Ljava/lang/Class;"⟩ ∈ lw_g) (hDc : va_Dc s) (hM : va_Mi "[Ljava/lang/Object;" mi s) (ha : a ∈ h.1) (hF : h.2 a = .inl (D.1 105, n, .inr (.inr (.inr (.inr f))))) (hR : 1 ≤ R.frames ∧ 60 ≤ R.locals) (hW : (rest.map fun v => v.category).sum ≤ 8) (kk : G p l e R s m args below meth c nL D z0 E Qp mc ms (pc + 3) lv (.ref mi :: rest) h rc rs) : G p l e R s m args below meth c nL D z0 E Qp mc ms pc lv (.ref a :: rest) h rc rs := by
  intro ls H locs cells slots h1 h2 h3 h4 h5
  obtain ⟨q0, hq0⟩ := pl_at ha
  rw [hF] at hq0
  have hz : va_at D CL (a, .inl (D.1 105, n, .inr (.inr (.inr (.inr f))))) H := h2.1 q0 _ hq0
  have hnm : s.vm.findClass "[Ljava/lang/Object;" = some (D.1 105) := va_nmO (C.tyq 5 (q := (D.1 105, .object "java/lang/Object")) rfl) (by decide)
  exact va_getC C.1 C.2.1 (C.2.2.1.trans h1.1.symm) C.2.2.2.1 (C.2.2.2.2.1 _ w1) hDc.use (C.2.2.2.2.1 _ w2) (C.2.2.2.2.1 _ w3) (C.2.2.2.2.1 _ w4) hM ⟨_, hz, rfl, hnm⟩ hR.1 (by omega) hd (kk ls H locs cells slots h1 h2 h3 h4 h5)
theorem g_lookup (C : Cx p R s m args meth c cc own nL ret D z0 E mc ms) {dflt : Int} {ps : Array (Int × Int)} {len : Nat} {x : Int32} {off : Int} {tgt : Nat} (hd : decode cc pc = .ok (.lookupswitch dflt ps, len)) (hp : (ps.toList.zip (ps.toList.drop 1)).all (fun (a, next) => a.1 < next.1) = true) (ho : Op.lookupswitch.offset ps.toList dflt x.toInt = off) (ht : (pc : Int) + off = (tgt : Int)) (kk : G p l e R s m args below meth c nL D z0 E Qp mc ms tgt lv rest h rc rs) : G p l e R s m args below meth c nL D z0 E Qp mc ms pc lv (.int x :: rest) h rc rs := fun ls H locs cells slots h1 h2 h3 h4 h5 => lv_lookup C.1 C.2.1 hd hp ho ht (kk ls H locs cells slots h1 h2 h3 h4 h5)
theorem g_tableOut (C : Cx p R s m args meth c cc own nL ret D z0 E mc ms) {dflt lo hi : Int} {offs : Array Int} {len : Nat} {x : Int32} {tgt : Nat} (hd : decode cc pc = .ok (.tableswitch dflt lo hi offs, len)) (hx : x.toInt < lo ∨ hi < x.toInt) (ht : (pc : Int) + dflt = (tgt : Int)) (kk : G p l e R s m args below meth c nL D z0 E Qp mc ms tgt lv rest h rc rs) : G p l e R s m args below meth c nL D z0 E Qp mc ms pc lv (.int x :: rest) h rc rs := fun ls H locs cells slots h1 h2 h3 h4 h5 => lv_tableOut C.1 C.2.1 hd hx ht (kk ls H locs cells slots h1 h2 h3 h4 h5)
theorem g_tableIn (C : Cx p R s m args meth c cc own nL ret D z0 E mc ms) {dflt lo hi : Int} {offs : Array Int} {len : Nat} {x : Int32} {off : Int} {tgt : Nat} (hd : decode cc pc = .ok (.tableswitch dflt lo hi offs, len)) (hx1 : ¬ x.toInt < lo) (hx2 : ¬ hi < x.toInt) (ho : offs[(x.toInt - lo).toNat]? = some off) (ht : (pc : Int) + off = (tgt : Int)) (kk : G p l e R s m args below meth c nL D z0 E Qp mc ms tgt lv rest h rc rs) : G p l e R s m args below meth c nL D z0 E Qp mc ms pc lv (.int x :: rest) h rc rs := fun ls H locs cells slots h1 h2 h3 h4 h5 => lv_tableIn C.1 C.2.1 hd hx1 hx2 ho ht (kk ls H locs cells slots h1 h2 h3 h4 h5)
end GU
end
section
/-! What stays true of the cells below z0; strings of the pool and constant ones alike. -/
def ln : Nat → Nat := fun i => [0, 7, 4, 5, 4, 6, 6, 4, 5, 4].getD i 0
def notStr : Cond → Bool
  | .stringRef .. => false
  | _ => true
def wE : List Cond := tables_1.filter notStr ++ [.isRef (.static "java/lang/Throwable" "UNASSIGNED_STACK" "[Ljava/lang/StackTraceElement;"), .isRef (.static "java/lang/Throwable" "SUPPRESSED_SENTINEL" "Ljava/util/List;")]
def ConS (z0 : Nat) (k : Nat → Nat) (U : State) (i : Nat) : Prop := va_O "java/lang/String" (k (10 + i)) (AA z0) U U.heap ∧ va_OF "java/lang/String" "coder" "B" (.int 0) (k (10 + i)) (AA z0) U U.heap ∧ va_OF "java/lang/String" "value" "[B" (.ref (k (30 + i))) (k (10 + i)) (AA z0) U U.heap ∧ ∃ f : Nat → Int32, va_T .byte (k (30 + i)) (ln i) (fun j => .int (f j)) (AA z0) U U.heap
def E0 (z0 : Nat) (k : Nat → Nat) (U : State) : Prop :=
  (∀ w ∈ wE, ∀ A, w.before A U = true) ∧ va_Z "java/lang/String" "COMPACT_STRINGS" "Z" (.int 1) (AA z0) U U.heap ∧ va_Z "java/util/ArrayList" "DEFAULTCAPACITY_EMPTY_ELEMENTDATA" "[Ljava/lang/Object;" (.ref (k 1)) (AA z0) U U.heap ∧ va_T (.object "java/lang/Object") (k 1) 0 (fun _ => .null) (AA z0) U U.heap ∧ va_Zq "jdk/internal/util/Preconditions" "SIOOBE_FORMATTER" "Ljava/util/function/BiFunction;" (AA z0) U U.heap ∧ va_Mi "[Ljava/lang/Object;" (k 2) U ∧ (∀ i, i < 10 → ConS z0 k U i) ∧ k 1 < z0 ∧ vk_R "java/lang/StringLatin1" 151 "" (k 10) U ∧ vk_R "RealmDesk" 156 "archive" (k 11) U ∧ vk_R "RealmDesk" 161 "name" (k 12) U ∧ vk_R "RealmDesk" 166 "realm" (k 13) U ∧ vk_R "RealmDesk" 171 "load" (k 14) U ∧ vk_R "RealmDesk" 176 "parent" (k 15) U ∧ vk_R "RealmDesk" 181 "import" (k 16) U ∧ vk_R "RealmDesk" 183 "from" (k 17) U ∧ vk_R "RealmDesk" 235 "first" (k 18) U ∧ vk_R "RealmDesk" 237 "self" (k 19) U
abbrev EE (z0 : Nat) (k : Nat → Nat) : State → Prop := Cl z0 (E0 z0 k)
theorem wE_t (i : Nat) {w : Cond} (h : tables_1[i]? = some w) (g : notStr w = true) : w ∈ wE := List.mem_append_left _ (List.mem_filter.mpr ⟨List.mem_of_getElem? h, g⟩)
def StrP (D : va_G) (k : Nat → Nat) (h : hp) (a v n : Nat) : Prop := (∃ (x y : Int32) (f : Nat → Int32), a ∈ h.1 ∧ h.2 a = .inr (3, [.ref v, .int 0, .int x, .int y]) ∧ v ∈ h.1 ∧ h.2 v = .inl (D.1 104, n, .inl f) ∧ sb_Fit f ∧ n ≤ 30) ∨ (∃ i, i < 10 ∧ a = k (10 + i) ∧ v = k (30 + i) ∧ n = ln i)
def BaP (D : va_G) (k : Nat → Nat) (h : hp) (v n : Nat) : Prop := (∃ f : Nat → Int32, v ∈ h.1 ∧ h.2 v = .inl (D.1 104, n, .inl f) ∧ n ≤ 30) ∨ (∃ i, i < 10 ∧ v = k (30 + i) ∧ n = ln i)
theorem ln_le : ∀ i, i < 10 → ln i ≤ 30 := by decide
theorem StrP.ba {D : va_G} {k : Nat → Nat} {h : hp} {a v n : Nat} (q : StrP D k h a v n) : BaP D k h v n := by
  rcases q with ⟨x, y, f, -, -, h1, h2, -, h3⟩ | ⟨i, hi, -, hv, hn⟩
  · exact Or.inl ⟨f, h1, h2, h3⟩
  · exact Or.inr ⟨i, hi, hv, hn⟩
theorem BaP.le {D : va_G} {k : Nat → Nat} {h : hp} {v n : Nat} (q : BaP D k h v n) : n ≤ 30 := by
  rcases q with ⟨f, -, -, h3⟩ | ⟨i, hi, -, rfl⟩
  · exact h3
  · exact ln_le i hi
section GS
variable {p : Program} {l : Launch} {e : Env} {R : Room} {s : State} {m : MethodId} {args : Array Value} {below : List Frame} {meth : Method} {c : Code} {cc : ByteArray} {own : String} {nL : Nat} {ret : Option FieldType} {D : va_G} {z0 : Nat} {Qp : Outcome → hp → Prop} {mc ms pc : Nat} {lv lv' : List (Nat × Value)} {st rest : List Value} {h : hp} {rc rs : Nat}
variable {k : Nat → Nat}
theorem Cx.ee (C : Cx p R s m args meth c cc own nL ret D z0 (EE z0 k) mc ms) : E0 z0 k s := Cl.here C.2.2.2.2.2.2.2.2.1
theorem Cx.nw (C : Cx p R s m args meth c cc own nL ret D z0 (EE z0 k) mc ms) {w : Cond} (hw : w ∈ wE) : va_Nw w s := C.ee.1 w hw #[]
theorem g_gvS (C : Cx p R s m args meth c cc own nL ret D z0 (EE z0 k) mc ms) {idx a v n : Nat} (hd : decode cc pc = .ok (.getfield idx, 3)) (hw : Cond.fieldLink own idx "java/lang/String" "value" "[B" ∈ lw_g) (hs : StrP D k h a v n) (kk : G p l e R s m args below meth c nL D z0 (EE z0 k) Qp mc ms (pc + 3) lv (.ref v :: rest) h rc rs) : G p l e R s m args below meth c nL D z0 (EE z0 k) Qp mc ms pc lv (.ref a :: rest) h rc rs := by
  rcases hs with ⟨x, y, f, h1, h2, -⟩ | ⟨i, hi, rfl, rfl, -⟩
  · exact g_getf C (k := 0) hd in3 rfl (by decide) hw (Or.inl rfl) h1 h2 rfl kk
  · intro ls H locs cells slots h1 h2 h3 h4 h5
    exact vk_getf C.1 C.2.1 (C.ee.2.2.2.2.2.2.1 i hi).2.2.1 h3 C.2.2.2.1 (C.2.2.2.2.1 _ hw) (fun x hx => hx) hd (kk ls H locs cells slots h1 h2 h3 h4 h5)
theorem g_gcS (C : Cx p R s m args meth c cc own nL ret D z0 (EE z0 k) mc ms) {idx a v n : Nat} (hd : decode cc pc = .ok (.getfield idx, 3)) (hw : Cond.fieldLink own idx "java/lang/String" "coder" "B" ∈ lw_g) (hs : StrP D k h a v n) (kk : G p l e R s m args below meth c nL D z0 (EE z0 k) Qp mc ms (pc + 3) lv (.int 0 :: rest) h rc rs) : G p l e R s m args below meth c nL D z0 (EE z0 k) Qp mc ms pc lv (.ref a :: rest) h rc rs := by
  rcases hs with ⟨x, y, f, h1, h2, -⟩ | ⟨i, hi, rfl, rfl, -⟩
  · exact g_getf C (k := 1) hd in3 rfl (by decide) hw (Or.inl rfl) h1 h2 rfl kk
  · intro ls H locs cells slots h1 h2 h3 h4 h5
    exact vk_getf C.1 C.2.1 (C.ee.2.2.2.2.2.2.1 i hi).2.1 h3 C.2.2.2.1 (C.2.2.2.2.1 _ hw) (fun x hx => hx) hd (kk ls H locs cells slots h1 h2 h3 h4 h5)
theorem g_alenB (C : Cx p R s m args meth c cc own nL ret D z0 (EE z0 k) mc ms) {v n : Nat} (hd : decode cc pc = .ok (.arraylength, 1)) (hs : BaP D k h v n) (kk : G p l e R s m args below meth c nL D z0 (EE z0 k) Qp mc ms (pc + 1) lv (.int (nI n) :: rest) h rc rs) : G p l e R s m args below meth c nL D z0 (EE z0 k) Qp mc ms pc lv (.ref v :: rest) h rc rs := by
  rcases hs with ⟨f, h1, h2, -⟩ | ⟨i, hi, rfl, rfl⟩
  · exact g_alen C (k := 4) hd h1 h2 rfl kk
  · intro ls H locs cells slots h1 h2 h3 h4 h5
    obtain ⟨f, hT⟩ := (C.ee.2.2.2.2.2.2.1 i hi).2.2.2
    obtain ⟨cell, g1, g2, g3, g4, g5, g6, g7⟩ := hT.kept h3.2.1
    exact W.alen C.1 C.2.1 g1 g2 g5 rfl rfl hd (kk ls H locs cells slots h1 h2 h3 h4 h5)
theorem g_baldB (C : Cx p R s m args meth c cc own nL ret D z0 (EE z0 k) mc ms) {v n j : Nat} {i : Int32} (hd : decode cc pc = .ok (.baload, 1)) (hs : BaP D k h v n) (hi : i = nI j) (hj : j < n) (kk : ∀ b : Int32, G p l e R s m args below meth c nL D z0 (EE z0 k) Qp mc ms (pc + 1) lv (.int b :: rest) h rc rs) : G p l e R s m args below meth c nL D z0 (EE z0 k) Qp mc ms pc lv (.int i :: .ref v :: rest) h rc rs := by
  subst hi
  have hle := hs.le
  rcases hs with ⟨f, h1, h2, -⟩ | ⟨i, hi, rfl, rfl⟩
  · exact g_bald C hd h1 h2 (vp_in_nI hj (by omega)) (kk _)
  · intro ls H locs cells slots h1 h2 h3 h4 h5
    obtain ⟨f, hT⟩ := (C.ee.2.2.2.2.2.2.1 i hi).2.2.2
    exact va_tb C.1 C.2.1 hT h3 (vp_in_nI hj (by omega)) rfl hd (kk _ ls H locs cells slots h1 h2 h3 h4 h5)
theorem StrP.recv (C : Cx p R s m args meth c cc own nL ret D z0 (EE z0 k) mc ms) {H : Heap} {locs : List Loc} {a v n : Nat} (h2 : Wd z0 D h H) (h3 : va_S (AA z0) s.heap H locs) (hs : StrP D k h a v n) : ∃ cell : Cell, H[a]? = some cell ∧ cell.vm.isStatics = false ∧ s.vm.findClass "java/lang/String" = some cell.cls := by
  rcases hs with ⟨x, y, f, g1, g2, -⟩ | ⟨i, hi, rfl, rfl, -⟩
  · exact rc_of C (ci := 3) h2 rfl g1 g2
  · obtain ⟨cell, g1, g2, g3, -⟩ := (C.ee.2.2.2.2.2.2.1 i hi).1.kept h3.2.1
    exact ⟨cell, g1, g2, g3⟩
theorem g_instS (C : Cx p R s m args meth c cc own nL ret D z0 (EE z0 k) mc ms) {idx a v n : Nat} (hd : decode cc pc = .ok (.instanceof idx, 3)) (hw : Cond.classLink own idx "java/lang/String" ∈ lw_g) (hs : StrP D k h a v n) (kk : G p l e R s m args below meth c nL D z0 (EE z0 k) Qp mc ms (pc + 3) lv (.int 1 :: rest) h rc rs) : G p l e R s m args below meth c nL D z0 (EE z0 k) Qp mc ms pc lv (.ref a :: rest) h rc rs := fun ls H locs cells slots h1 h2 h3 h4 h5 => va_instE C.1 C.2.1 C.2.2.2.1 (C.2.2.2.2.1 _ hw) (StrP.recv C h2 h3 hs) hd (kk ls H locs cells slots h1 h2 h3 h4 h5)
theorem g_castS (C : Cx p R s m args meth c cc own nL ret D z0 (EE z0 k) mc ms) {idx a v n : Nat} (hd : decode cc pc = .ok (.checkcast idx, 3)) (hw : Cond.classLink own idx "java/lang/String" ∈ lw_g) (hs : StrP D k h a v n) (kk : G p l e R s m args below meth c nL D z0 (EE z0 k) Qp mc ms (pc + 3) lv (.ref a :: rest) h rc rs) : G p l e R s m args below meth c nL D z0 (EE z0 k) Qp mc ms pc lv (.ref a :: rest) h rc rs := fun ls H locs cells slots h1 h2 h3 h4 h5 => va_castE C.1 C.2.1 C.2.2.2.1 (C.2.2.2.2.1 _ hw) (StrP.recv C h2 h3 hs) hd (kk ls H locs cells slots h1 h2 h3 h4 h5)
theorem g_callVS (C : Cx p R s m args meth c cc own nL ret D z0 (EE z0 k) mc ms) {idx n maxL' : Nat} {y : MethodName} {cc' : ByteArray} {ret' : Option FieldType} {rm' : Room} {pre : List Value → hp → Prop} {post : List Value → hp → Outcome → hp → Prop} {As : List Value} {a v0 n0 : Nat} (hc : Ctr l y cc' maxL' ret' rm' D z0 (EE z0 k) pre post) (hd : decode cc pc = .ok (.invokevirtual idx, 3)) (w1 : Cond.methodLink own idx y ∈ lw_g) (w2 : Cond.instanceMethod y ∈ lw_g) (w3 : Cond.selects y.cls y y ∈ lw_g) (w4 : Cond.initialized y.cls ∈ lw_g) (w5 : Cond.code y cc' maxL' ret' ∈ lw_g) (hy0 : y.cls = "java/lang/String") (hpn : (parseMethodDescriptor y.desc).map (fun d => d.parameters.length) = some n) (hn : As.length = n) (hs : StrP D k h a v0 n0) (hpre : pre (.ref a :: As) h) (hR : rm'.frames + 1 ≤ R.frames ∧ 8 + (maxL' + 11) + rm'.locals ≤ R.locals) (hW : (rest.map fun v => v.category).sum ≤ 8) (hcost : rm'.cells ≤ rc ∧ rm'.slots ≤ rs)
    (kr : ∀ (v : Option Value) (h' : hp), post (.ref a :: As) h (.returned v) h' → G p l e R s m args below meth c nL D z0 (EE z0 k) Qp mc ms (pc + 3) lv (v.toList ++ rest) h' (rc - rm'.cells) (rs - rm'.slots)) (kx : ∀ (x : Addr) (h' : hp), post (.ref a :: As) h (.threw x) h' → Qp (.threw x) h') : G p l e R s m args below meth c nL D z0 (EE z0 k) Qp mc ms pc lv (As.reverse ++ .ref a :: rest) h rc rs := by
  intro ls H locs cells slots h1 h2 h3 h4 h5
  have hb9 : FrameBlind (fun a9 U => a9 = (.ref a :: As).toArray ∧ World z0 D (EE z0 k) h U) := fun a9 U g mk q => ⟨q.1, World.blind C.2.2.2.2.2.2.2.2.2.1 q.2⟩
  have hw9 : ∀ U : State, U.heap = H → s.WarmedH U.vm → World z0 D (EE z0 k) h U := fun U hU hWm => (C.world h2 h3 U hU hWm).1
  have hr9 := StrP.recv C h2 h3 hs
  rw [← hy0] at hr9
  refine xt_callV (As := As) (rest := rest) ⟨C.1, C.2.1, C.2.2.1, C.2.2.2.1, C.2.2.2.2.1⟩ (hc (.ref a :: As) h hpre) (cwV (C := y.cls) n C.2.2.2.2.1 (goodV w1 w2 w3 w4 w5) rfl rfl rfl ⟨rfl, by rw [hy0]; decide, by rw [hy0]; decide, hpn⟩ hR) ⟨hb9, hr9, fun U hU hWm => ⟨rfl, hw9 U hU hWm⟩⟩ hn h1.1 hW hd ⟨by have := C.2.2.2.2.2.2.2.2.2.2.2.2.1; omega, by have := C.2.2.2.2.2.2.2.2.2.2.2.2.2; omega⟩ ?_ ?_
  · intro v st t L hst hal hL hq
    obtain ⟨h', hp', ⟨w1', -, -, -⟩, hF'⟩ := hq
    exact kr v h' hp' ls t.heap (locs ++ L) _ _ h1 w1' (va_S.call C.2.2.2.2.2.2.2.1 h3 hst hL hF') (by omega) (by omega)
  · intro x st t L hst hal hL hq
    obtain ⟨h', hp', ⟨w1', -, -, -⟩, hF'⟩ := hq
    have hS' := va_S.call C.2.2.2.2.2.2.2.1 h3 hst hL hF'
    refine xt_Xwiden (k := mc) (n := ms) (by omega) (by omega) ?_
    refine xt_out rfl rfl rfl (fun z hz => absurd (C.2.2.2.2.2.2.2.2.2.2.2.1 z hz) id) C.2.2.2.2.2.2.1 (fun t' ht' hW' => ?_) hS'.2.2
    obtain ⟨u1, u2⟩ := C.world w1' hS' t' ht' hW'
    exact ⟨h', kx x h' hp', u1, u2⟩
end GS
end
section
/-! The class's cells by kinds: K a = (kind, length, how many are surely there); each cell's own conformity speaks of K and of itself alone. -/
abbrev KM : Type := Nat → Nat × Nat × Nat
def bd (κ B : Nat) : Nat := if κ = 24 then 40 else if κ = 25 then 6 else if κ = 26 then 8 else if κ = 27 then 4 else B
def Tx (k0 : Nat) (K : KM) (L : List Nat) (w : Nat) : Prop := (K w).1 = 3 ∧ (w ∈ L ∨ w = k0)
def okl (e0 : Nat) (K : KM) (L : List Nat) (B : Nat) (q : Nat × Nat × Nat) (e : va_E) : Prop := ∃ (ea : Nat) (mo : Int32), e = .inr (2, [.ref ea, .int (nI q.2.2), .int mo]) ∧ q.2.2 ≤ bd q.1 B ∧ ((ea = e0 ∧ q.2.2 = 0) ∨ (ea ∈ L ∧ (K ea).1 = q.1 + 10 ∧ q.2.2 ≤ (K ea).2.2))
def oka (D : va_G) (K : KM) (L : List Nat) (q : Nat × Nat × Nat) (e : va_E) : Prop := ∃ f : Nat → Option Nat, e = .inl (D.1 105, q.2.1, .inr (.inr (.inr (.inr f)))) ∧ q.2.2 ≤ q.2.1 ∧ q.2.1 < 2 ^ 20 ∧ (∀ j y, f j = some y → y ∈ L ∧ (K y).1 + 30 = q.1) ∧ ∀ j, j < q.2.2 → f j ≠ none
def oko (D : va_G) (k0 : Nat) (K : KM) (L : List Nat) (T : Nat) (q : Nat × Nat × Nat) (e : va_E) : Prop := match q.1 with
  | 1 => ∃ la lr tr t : Nat, e = .inr (0, [.ref q.2.1, .ref la, .ref lr, .ref tr, .int (nI t)]) ∧ (la ∈ L ∧ (K la).1 = 25) ∧ (lr ∈ L ∧ (K lr).1 = 26) ∧ (tr ∈ L ∧ (K tr).1 = 50) ∧ t ≤ T
  | 3 => ∃ (v : Nat) (x y : Int32), e = .inr (3, [.ref v, .int 0, .int x, .int y]) ∧ (v ∈ L ∧ (K v).1 = 40) ∧ (K v).2.1 = q.2.1 ∧ q.2.1 ≤ 30
  | 4 => ∃ w : Nat, e = .inr (4, [.ref w]) ∧ Tx k0 K L w
  | 5 => ∃ (n t : Int32) (w l : Nat), e = .inr (5, [.int n, .ref w, .ref l, .int t]) ∧ Tx k0 K L w ∧ (l ∈ L ∧ (K l).1 = 24)
  | 6 => ∃ (n b1 b2 b3 : Int32) (w lo im fi : Nat) (pa : Option Nat), e = .inr (6, [.int n, .ref w, .ref lo, .ref im, .ref fi, va_rf pa, .int b1, .int b2, .int b3]) ∧ Tx k0 K L w ∧ (lo ∈ L ∧ (K lo).1 = 25) ∧ (im ∈ L ∧ (K im).1 = 27) ∧ (fi ∈ L ∧ (K fi).1 = 28) ∧ ∀ y, pa = some y → (y ∈ L ∧ (K y).1 = 6)
  | 7 => ∃ w r : Nat, e = .inr (7, [.ref w, .ref r]) ∧ Tx k0 K L w ∧ (r ∈ L ∧ (K r).1 = 6)
  | 8 => ∃ (w : Nat) (pl : Int32), e = .inr (8, [.ref w, .int pl]) ∧ Tx k0 K L w
  | 40 => ∃ f : Nat → Int32, e = .inl (D.1 104, q.2.1, .inl f) ∧ sb_Fit f
  | 50 => ∃ f : Nat → Int32, e = .inl (D.1 100, 20, .inl f)
  | _ => True
def okc (D : va_G) (k : Nat → Nat) (K : KM) (L : List Nat) (B T : Nat) (q : Nat × Nat × Nat) (e : va_E) : Prop := (24 ≤ q.1 ∧ q.1 ≤ 28 → okl (k 1) K L B q e) ∧ (34 ≤ q.1 ∧ q.1 ≤ 38 → oka D K L q e) ∧ oko D (k 10) K L T q e
def TP (D : va_G) (z0 : Nat) (k : Nat → Nat) (K : KM) (B T : Nat) (h : hp) : Prop := (∀ a, a ∈ h.1 → okc D k K h.1 B T (K a) (h.2 a)) ∧ (K (k 10)).1 = 3 ∧ (K (k 10)).2.1 = 0 ∧ (∀ a, a ∈ h.1 → z0 ≤ a) ∧ k 10 < z0 ∧ k 1 < z0
def KLe (p q : Nat × Nat × Nat) : Prop := q.1 = p.1 ∧ q.2.1 = p.2.1 ∧ p.2.2 ≤ q.2.2
theorem KLe.rf {p : Nat × Nat × Nat} : KLe p p := ⟨rfl, rfl, Nat.le_refl _⟩
/-- nothing but what X names and what the kinds allow has changed -/
def Ev (k : Nat → Nat) (X : Nat → Prop) (K : KM) (h : hp) (K' : KM) (h' : hp) : Prop := (∀ a, a ∈ h.1 → a ∈ h'.1 ∧ ((K a).1 ≠ 0 → KLe (K a) (K' a)) ∧ (¬ X a → (K a).1 = 0 ∨ (K a).1 = 99 → K' a = K a ∧ h'.2 a = h.2 a)) ∧ K' (k 10) = K (k 10)
abbrev X0 : Nat → Prop := fun _ => False
theorem Ev.rf {k : Nat → Nat} {X : Nat → Prop} {K : KM} {h : hp} : Ev k X K h K h := ⟨fun _ ha => ⟨ha, fun _ => KLe.rf, fun _ _ => ⟨rfl, rfl⟩⟩, rfl⟩
theorem Ev.trX {k : Nat → Nat} {X Y Z : Nat → Prop} {K K1 K2 : KM} {h h1 h2 : hp} (hXZ : ∀ a, a ∈ h.1 → X a → Z a) (hYZ : ∀ a, a ∈ h.1 → Y a → Z a) (a : Ev k X K h K1 h1) (b : Ev k Y K1 h1 K2 h2) : Ev k Z K h K2 h2 := by
  refine ⟨fun q hq => ?_, b.2.trans a.2⟩
  obtain ⟨a1, a2, a3⟩ := a.1 q hq
  obtain ⟨b1, b2, b3⟩ := b.1 q a1
  refine ⟨b1, fun hn => ?_, fun hz hk => ?_⟩
  · have c1 := a2 hn
    have c2 := b2 (by rw [c1.1]; exact hn)
    exact ⟨c2.1.trans c1.1, c2.2.1.trans c1.2.1, Nat.le_trans c1.2.2 c2.2.2⟩
  · have c1 := a3 (fun hx => hz (hXZ q hq hx)) hk
    have c2 := b3 (fun hy => hz (hYZ q hq hy)) (by rw [c1.1]; exact hk)
    exact ⟨c2.1.trans c1.1, c2.2.trans c1.2⟩
theorem Ev.tr {k : Nat → Nat} {X : Nat → Prop} {K K1 K2 : KM} {h h1 h2 : hp} (a : Ev k X K h K1 h1) (b : Ev k X0 K1 h1 K2 h2) : Ev k X K h K2 h2 := a.trX (fun _ _ x => x) (fun _ _ y => y.elim) b
/-- a fresh cell, then what is done to it -/
theorem Ev.trN {k : Nat → Nat} {X : Nat → Prop} {K K1 K2 : KM} {h h1 h2 : hp} {q : Nat} (a : Ev k X K h K1 h1) (hq : q ∉ h.1) (b : Ev k (fun z => z = q) K1 h1 K2 h2) : Ev k X K h K2 h2 := a.trX (fun _ _ x => x) (fun z hz y => absurd (y ▸ hz) hq) b
def Ty (K : KM) (h : hp) (κ a : Nat) : Prop := a ∈ h.1 ∧ (K a).1 = κ
def Tw (k : Nat → Nat) (K : KM) (h : hp) (w n : Nat) : Prop := (K w).1 = 3 ∧ (K w).2.1 = n ∧ (w ∈ h.1 ∨ w = k 10)
theorem Ev.ty {k : Nat → Nat} {X : Nat → Prop} {K K' : KM} {h h' : hp} (ev : Ev k X K h K' h') {κ a : Nat} (t : Ty K h (κ + 1) a) : Ty K' h' (κ + 1) a := by
  obtain ⟨a1, a2, -⟩ := ev.1 a t.1
  have hk : (K a).1 = κ + 1 := t.2
  exact ⟨a1, (a2 (by omega)).1.trans hk⟩
theorem Ev.tx {k : Nat → Nat} {X : Nat → Prop} {K K' : KM} {h h' : hp} (ev : Ev k X K h K' h') {w n : Nat} (t : Tw k K h w n) : Tw k K' h' w n := by
  obtain ⟨t1, t2, t3⟩ := t
  rcases t3 with t3 | rfl
  · obtain ⟨a1, a2, -⟩ := ev.1 w t3
    have c := a2 (by omega)
    exact ⟨c.1.trans t1, c.2.1.trans t2, Or.inl a1⟩
  · have e := ev.2
    exact ⟨by rw [e]; exact t1, by rw [e]; exact t2, Or.inr rfl⟩
theorem Ev.sz {k : Nat → Nat} {X : Nat → Prop} {K K' : KM} {h h' : hp} (ev : Ev k X K h K' h') {κ a j : Nat} (t : Ty K h (κ + 1) a) (hj : j < (K a).2.2) : j < (K' a).2.2 := by
  obtain ⟨a1, a2, -⟩ := ev.1 a t.1
  have hk : (K a).1 = κ + 1 := t.2
  have c := (a2 (by omega)).2.2
  omega
theorem Tx.tx {k : Nat → Nat} {K : KM} {h : hp} {w : Nat} (t : Tx (k 10) K h.1 w) : Tw k K h w (K w).2.1 := ⟨t.1, rfl, t.2⟩
theorem Tw.tx {k : Nat → Nat} {K : KM} {h : hp} {w n : Nat} (t : Tw k K h w n) : Tx (k 10) K h.1 w := ⟨t.1, t.2.2⟩
section TPL
variable {D : va_G} {z0 : Nat} {k : Nat → Nat} {K K' : KM} {B B' T T' : Nat} {h h' : hp} {a κ : Nat}
theorem TP.c (t : TP D z0 k K B T h) (ha : a ∈ h.1) : okc D k K h.1 B T (K a) (h.2 a) := t.1 a ha
theorem TP.o (t : TP D z0 k K B T h) (ha : Ty K h κ a) : oko D (k 10) K h.1 T (κ, (K a).2) (h.2 a) := by
  have c := (t.1 a ha.1).2.2
  rw [show K a = (κ, (K a).2) from Prod.ext ha.2 rfl] at c
  exact c
theorem TP.l (t : TP D z0 k K B T h) (ha : Ty K h κ a) (hk : 24 ≤ κ ∧ κ ≤ 28) : okl (k 1) K h.1 B (κ, (K a).2) (h.2 a) := by
  have c := (t.1 a ha.1).1
  rw [show K a = (κ, (K a).2) from Prod.ext ha.2 rfl] at c
  exact c hk
theorem TP.ar (t : TP D z0 k K B T h) (ha : Ty K h κ a) (hk : 34 ≤ κ ∧ κ ≤ 38) : oka D K h.1 (κ, (K a).2) (h.2 a) := by
  have c := (t.1 a ha.1).2.1
  rw [show K a = (κ, (K a).2) from Prod.ext ha.2 rfl] at c
  exact c hk
theorem TP.nk0 (t : TP D z0 k K B T h) : k 10 ∉ h.1 := fun q => absurd (t.2.2.2.1 _ q) (Nat.not_le.mpr t.2.2.2.2.1)
theorem TP.nk1 (t : TP D z0 k K B T h) : k 1 ∉ h.1 := fun q => absurd (t.2.2.2.1 _ q) (Nat.not_le.mpr t.2.2.2.2.2)
theorem TP.str (t : TP D z0 k K B T h) {w n : Nat} (q : Tw k K h w n) : ∃ v, StrP D k h w v n := by
  obtain ⟨q1, q2, q3⟩ := q
  rcases q3 with q3 | rfl
  · obtain ⟨v, x, y, e1, ⟨e2, e3⟩, e4, e5⟩ : ∃ (v : Nat) (x y : Int32), h.2 w = .inr (3, [.ref v, .int 0, .int x, .int y]) ∧ (v ∈ h.1 ∧ (K v).1 = 40) ∧ (K v).2.1 = (K w).2.1 ∧ (K w).2.1 ≤ 30 := TP.o (κ := 3) t ⟨q3, q1⟩
    obtain ⟨f, g1, g2⟩ : ∃ f : Nat → Int32, h.2 v = .inl (D.1 104, (K v).2.1, .inl f) ∧ sb_Fit f := TP.o (κ := 40) t ⟨e2, e3⟩
    refine ⟨v, Or.inl ⟨x, y, f, q3, e1, e2, ?_, g2, by omega⟩⟩
    rw [g1, e4, q2]
  · exact ⟨k 30, Or.inr ⟨0, by decide, rfl, rfl, q2.symm.trans t.2.2.1⟩⟩
theorem Tw.le {w n : Nat} (q : Tw k K h w n) (t : TP D z0 k K B T h) : n ≤ 30 := by
  obtain ⟨v, hv⟩ := t.str q
  exact hv.ba.le
theorem bd_mono (hB : B ≤ B') : bd κ B ≤ bd κ B' := by
  unfold bd
  repeat' split
  all_goals omega
theorem okc.mono {L L' : List Nat} {q : Nat × Nat × Nat} {e : va_E} (hB : B ≤ B') (hT : T ≤ T') (hL : ∀ a, a ∈ L → a ∈ L' ∧ ((K a).1 ≠ 0 → KLe (K a) (K' a))) (h0 : (K (k 10)).1 = 3 → (K' (k 10)).1 = 3) (c : okc D k K L B T q e) : okc D k K' L' B' T' q e := by
  have key : ∀ {x c : Nat}, c ≠ 0 → x ∈ L ∧ (K x).1 = c → x ∈ L' ∧ (K' x).1 = c := by
    intro x c hc hx
    obtain ⟨b1, b2⟩ := hL x hx.1
    exact ⟨b1, (b2 (by rw [hx.2]; exact hc)).1.trans hx.2⟩
  have keyT : ∀ {w : Nat}, Tx (k 10) K L w → Tx (k 10) K' L' w := by
    intro w hw
    obtain ⟨w1, w2⟩ := hw
    rcases w2 with w2 | rfl
    · have b := key (by decide) ⟨w2, w1⟩
      exact ⟨b.2, Or.inl b.1⟩
    · exact ⟨h0 w1, Or.inr rfl⟩
  refine ⟨fun hk => ?_, fun hk => ?_, ?_⟩
  · obtain ⟨ea, mo, e1, e2, e3⟩ := c.1 hk
    refine ⟨ea, mo, e1, Nat.le_trans e2 (bd_mono hB), ?_⟩
    rcases e3 with e3 | ⟨e3, e4, e5⟩
    · exact Or.inl e3
    · obtain ⟨b1, b2⟩ := hL ea e3
      have b3 := b2 (by omega)
      exact Or.inr ⟨b1, b3.1.trans e4, Nat.le_trans e5 b3.2.2⟩
  · obtain ⟨f, e1, e2, e3, e4, e5⟩ := c.2.1 hk
    refine ⟨f, e1, e2, e3, fun j y hy => ?_, e5⟩
    obtain ⟨g1, g2⟩ := e4 j y hy
    obtain ⟨b1, b2⟩ := hL y g1
    have b3 := (b2 (by omega)).1
    exact ⟨b1, by rw [b3]; exact g2⟩
  · have o := c.2.2
    unfold oko at o ⊢
    split at o
    · obtain ⟨la, lr, tr, t, e1, e2, e3, e4, e5⟩ := o
      exact ⟨la, lr, tr, t, e1, key (by decide) e2, key (by decide) e3, key (by decide) e4, Nat.le_trans e5 hT⟩
    · obtain ⟨v, x, y, e1, e2, e3, e4⟩ := o
      obtain ⟨b1, b2⟩ := hL v e2.1
      have b3 := b2 (by omega)
      exact ⟨v, x, y, e1, key (by decide) e2, b3.2.1.trans e3, e4⟩
    · obtain ⟨w, e1, e2⟩ := o
      exact ⟨w, e1, keyT e2⟩
    · obtain ⟨n, t, w, l, e1, e2, e3⟩ := o
      exact ⟨n, t, w, l, e1, keyT e2, key (by decide) e3⟩
    · obtain ⟨n, b1, b2, b3, w, lo, im, fi, pa, e1, e2, e3, e4, e5, e6⟩ := o
      exact ⟨n, b1, b2, b3, w, lo, im, fi, pa, e1, keyT e2, key (by decide) e3, key (by decide) e4, key (by decide) e5, fun y hy => key (by decide) (e6 y hy)⟩
    · obtain ⟨w, r, e1, e2, e3⟩ := o
      exact ⟨w, r, e1, keyT e2, key (by decide) e3⟩
    · obtain ⟨w, pl, e1, e2⟩ := o
      exact ⟨w, pl, e1, keyT e2⟩
    · exact o
    · exact o
    · exact trivial
theorem TP.mono (hB : B ≤ B') (hT : T ≤ T') (t : TP D z0 k K B T h) : TP D z0 k K B' T' h := ⟨fun a ha => (t.1 a ha).mono hB hT (fun x hx => ⟨hx, fun _ => KLe.rf⟩) id, t.2⟩
/-- a cell that is there is written; its kind may become known, its counts may grow -/
theorem TP.put {q : Nat × Nat × Nat} {e : va_E} (t : TP D z0 k K B T h) (ha : a ∈ h.1) (hq : (K a).1 ≠ 0 → KLe (K a) q) (c : okc D k (va_up K a q) h.1 B T q e) : TP D z0 k (va_up K a q) B T (h.1, va_up h.2 a e) := by
  have hne : k 10 ≠ a := fun x => t.nk0 (x ▸ ha)
  have e0 : va_up K a q (k 10) = K (k 10) := va_up_ne _ _ hne
  refine ⟨fun b hb => ?_, by rw [e0]; exact t.2.1, by rw [e0]; exact t.2.2.1, t.2.2.2⟩
  by_cases hba : b = a
  · subst hba
    show okc D k _ _ _ _ (va_up K b q b) (va_up h.2 b e b)
    rw [va_up_self, va_up_self]
    exact c
  · show okc D k _ _ _ _ (va_up K a q b) (va_up h.2 a e b)
    rw [va_up_ne _ _ hba, va_up_ne _ _ hba]
    refine (t.1 b hb).mono (Nat.le_refl _) (Nat.le_refl _) (fun x hx => ⟨hx, fun hn => ?_⟩) (by rw [e0]; exact id)
    by_cases hxa : x = a
    · subst hxa
      rw [va_up_self]
      exact hq hn
    · rw [va_up_ne _ _ hxa]
      exact KLe.rf
theorem Ev.put {q : Nat × Nat × Nat} {e : va_E} (t : TP D z0 k K B T h) (ha : a ∈ h.1) (hq : (K a).1 ≠ 0 → KLe (K a) q) : Ev k (fun z => z = a) K h (va_up K a q) (h.1, va_up h.2 a e) := by
  refine ⟨fun b hb => ⟨hb, fun hn => ?_, fun hx hk => ?_⟩, va_up_ne _ _ (fun x => t.nk0 (x ▸ ha))⟩
  · by_cases hba : b = a
    · subst hba
      rw [va_up_self]
      exact hq hn
    · rw [va_up_ne _ _ hba]
      exact KLe.rf
  · exact ⟨va_up_ne _ _ hx, va_up_ne _ _ hx⟩
theorem Ev.put0 {q : Nat × Nat × Nat} {e : va_E} (t : TP D z0 k K B T h) (ha : Ty K h (κ + 1) a) (h99 : κ + 1 ≠ 99) (hq : KLe (K a) q) : Ev k X0 K h (va_up K a q) (h.1, va_up h.2 a e) := by
  refine ⟨fun b hb => ⟨hb, fun hn => ?_, fun hx hk => ?_⟩, va_up_ne _ _ (fun x => t.nk0 (x ▸ ha.1))⟩
  · by_cases hba : b = a
    · subst hba
      rw [va_up_self]
      exact hq
    · rw [va_up_ne _ _ hba]
      exact KLe.rf
  · have hba : b ≠ a := by
      intro e1
      subst e1
      have := ha.2
      omega
    exact ⟨va_up_ne _ _ hba, va_up_ne _ _ hba⟩
theorem up_same {α : Type} {f : Nat → α} {a : Nat} : va_up f a (f a) = f := by
  funext x
  by_cases hx : x = a
  · subst hx
    rw [va_up_self]
  · rw [va_up_ne _ _ hx]
theorem up_up {α : Type} {f : Nat → α} {a : Nat} {x y : α} : va_up (va_up f a x) a y = va_up f a y := by
  funext z
  by_cases hz : z = a
  · subst hz
    rw [va_up_self, va_up_self]
  · rw [va_up_ne _ _ hz, va_up_ne _ _ hz, va_up_ne _ _ hz]
/-- the same, with the kinds as they are -/
theorem TP.putS {e : va_E} (t : TP D z0 k K B T h) (ha : a ∈ h.1) (c : okc D k K h.1 B T (K a) e) : TP D z0 k K B T (h.1, va_up h.2 a e) := by
  have x := TP.put (q := K a) (e := e) t ha (fun _ => KLe.rf) (by rw [up_same]; exact c)
  rw [up_same] at x
  exact x
theorem Ev.putS {e : va_E} (t : TP D z0 k K B T h) (ha : Ty K h (κ + 1) a) (h99 : κ + 1 ≠ 99) : Ev k X0 K h K (h.1, va_up h.2 a e) := by
  have x := Ev.put0 (q := K a) (e := e) t ha h99 KLe.rf
  rw [up_same] at x
  exact x
theorem TP.push {q : Nat × Nat × Nat} {e : va_E} (t : TP D z0 k K B T h) (ha : a ∉ h.1) (hz : z0 ≤ a) (c : okc D k (va_up K a q) (h.1 ++ [a]) B T q e) : TP D z0 k (va_up K a q) B T (h.1 ++ [a], va_up h.2 a e) := by
  have hne : k 10 ≠ a := fun x => absurd (x ▸ hz) (Nat.not_le.mpr t.2.2.2.2.1)
  have e0 : va_up K a q (k 10) = K (k 10) := va_up_ne _ _ hne
  refine ⟨fun b hb => ?_, by rw [e0]; exact t.2.1, by rw [e0]; exact t.2.2.1, fun b hb => ?_, t.2.2.2.2⟩
  · by_cases hba : b = a
    · subst hba
      show okc D k _ _ _ _ (va_up K b q b) (va_up h.2 b e b)
      rw [va_up_self, va_up_self]
      exact c
    · have hb1 : b ∈ h.1 := by
        rcases List.mem_append.mp hb with x | x
        · exact x
        · exact absurd (List.mem_singleton.mp x) hba
      show okc D k _ _ _ _ (va_up K a q b) (va_up h.2 a e b)
      rw [va_up_ne _ _ hba, va_up_ne _ _ hba]
      refine (t.1 b hb1).mono (Nat.le_refl _) (Nat.le_refl _) (fun x hx => ⟨List.mem_append_left _ hx, fun hn => ?_⟩) (by rw [e0]; exact id)
      have hxa : x ≠ a := fun z => ha (z ▸ hx)
      rw [va_up_ne _ _ hxa]
      exact KLe.rf
  · rcases List.mem_append.mp hb with x | x
    · exact t.2.2.2.1 b x
    · rw [List.mem_singleton.mp x]
      exact hz
theorem Ev.push {X : Nat → Prop} {q : Nat × Nat × Nat} {e : va_E} (t : TP D z0 k K B T h) (ha : a ∉ h.1) (hz : z0 ≤ a) : Ev k X K h (va_up K a q) (h.1 ++ [a], va_up h.2 a e) := by
  refine ⟨fun b hb => ?_, va_up_ne _ _ (fun x => absurd (x ▸ hz) (Nat.not_le.mpr t.2.2.2.2.1))⟩
  have hba : b ≠ a := fun x => ha (x ▸ hb)
  refine ⟨List.mem_append_left _ hb, fun _ => ?_, fun _ _ => ⟨va_up_ne _ _ hba, va_up_ne _ _ hba⟩⟩
  rw [va_up_ne _ _ hba]
  exact KLe.rf
theorem TP.raw {e : va_E} (t : TP D z0 k K B T h) (ha : a ∉ h.1) (hz : z0 ≤ a) : TP D z0 k (va_up K a (0, 0, 0)) B T (h.1 ++ [a], va_up h.2 a e) := t.push ha hz ⟨fun x => absurd x.1 (by decide), fun x => absurd x.1 (by decide), trivial⟩
theorem TP.frz {e : va_E} (t : TP D z0 k K B T h) (ha : a ∉ h.1) (hz : z0 ≤ a) : TP D z0 k (va_up K a (99, 0, 0)) B T (h.1 ++ [a], va_up h.2 a e) := t.push ha hz ⟨fun x => absurd x.2 (by decide), fun x => absurd x.2 (by decide), trivial⟩
theorem okc.ob {L : List Nat} {q : Nat × Nat × Nat} {e : va_E} (h1 : ¬ (24 ≤ q.1 ∧ q.1 ≤ 28)) (h2 : ¬ (34 ≤ q.1 ∧ q.1 ≤ 38)) (c : oko D (k 10) K L T q e) : okc D k K L B T q e := ⟨fun x => absurd x h1, fun x => absurd x h2, c⟩
theorem oko.none {L : List Nat} {q : Nat × Nat × Nat} {e : va_E} (h1 : (24 ≤ q.1 ∧ q.1 ≤ 28) ∨ (34 ≤ q.1 ∧ q.1 ≤ 38)) : oko D (k 10) K L T q e := by
  unfold oko
  split <;> first | (exact trivial) | omega
end TPL
end
