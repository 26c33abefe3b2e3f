section
-- ===== PART A: goes FIRST, ahead of the names: the tables' words, and 'selects' of the private methods out of them =====
/-- a private method of a class that the tables say can be made, by its rows of tables_1 -/
def lw_okq (q : MethodName × Nat) : Prop := (q.1.cls ≠ "java/lang/invoke/MethodHandle" ∧ q.1.cls ≠ "java/lang/invoke/VarHandle") ∧ Cond.instantiable q.1.cls q.2 ∈ tables_1 ∧ Cond.privateMethod q.1 ∈ tables_1 ∧ Cond.instanceMethod q.1 ∈ tables_1
theorem lw_p0 : lw_okq (⟨"SapNetwork", "volumeInTanks", "()J"⟩, 11) := ⟨⟨by decide +kernel, by decide +kernel⟩, List.mem_of_getElem? (i := 22) (by decide +kernel), List.mem_of_getElem? (i := 240) (by decide +kernel), List.mem_of_getElem? (i := 241) (by decide +kernel)⟩
theorem lw_p1 : lw_okq (⟨"SapNetwork", "sugarInTanks", "()J"⟩, 11) := ⟨⟨by decide +kernel, by decide +kernel⟩, List.mem_of_getElem? (i := 22) (by decide +kernel), List.mem_of_getElem? (i := 252) (by decide +kernel), List.mem_of_getElem? (i := 253) (by decide +kernel)⟩
theorem lw_p2 : lw_okq (⟨"java/lang/Throwable", "fillInStackTrace", "(I)Ljava/lang/Throwable;"⟩, 6) := ⟨⟨by decide +kernel, by decide +kernel⟩, List.mem_of_getElem? (i := 295) (by decide +kernel), List.mem_of_getElem? (i := 293) (by decide +kernel), List.mem_of_getElem? (i := 294) (by decide +kernel)⟩
theorem lw_p3 : lw_okq (⟨"SapNetwork", "requireNode", "(I)V"⟩, 11) := ⟨⟨by decide +kernel, by decide +kernel⟩, List.mem_of_getElem? (i := 22) (by decide +kernel), List.mem_of_getElem? (i := 348) (by decide +kernel), List.mem_of_getElem? (i := 349) (by decide +kernel)⟩
theorem lw_p4 : lw_okq (⟨"SapNetwork", "requireRoomBelow", "(I)V"⟩, 11) := ⟨⟨by decide +kernel, by decide +kernel⟩, List.mem_of_getElem? (i := 22) (by decide +kernel), List.mem_of_getElem? (i := 388) (by decide +kernel), List.mem_of_getElem? (i := 389) (by decide +kernel)⟩
theorem lw_p5 : lw_okq (⟨"SapNetwork$Tubes", "lossAt", "(I)I"⟩, 7) := ⟨⟨by decide +kernel, by decide +kernel⟩, List.mem_of_getElem? (i := 30) (by decide +kernel), List.mem_of_getElem? (i := 567) (by decide +kernel), List.mem_of_getElem? (i := 568) (by decide +kernel)⟩
theorem lw_p6 : lw_okq (⟨"SapNetwork", "requireRanked", "(I)I"⟩, 11) := ⟨⟨by decide +kernel, by decide +kernel⟩, List.mem_of_getElem? (i := 22) (by decide +kernel), List.mem_of_getElem? (i := 571) (by decide +kernel), List.mem_of_getElem? (i := 572) (by decide +kernel)⟩
theorem lw_p7 : lw_okq (⟨"SapNetwork", "nodeAt", "(I)I"⟩, 11) := ⟨⟨by decide +kernel, by decide +kernel⟩, List.mem_of_getElem? (i := 22) (by decide +kernel), List.mem_of_getElem? (i := 575) (by decide +kernel), List.mem_of_getElem? (i := 576) (by decide +kernel)⟩
theorem lw_p8 : lw_okq (⟨"SapNetwork", "nodesAhead", "(I)I"⟩, 11) := ⟨⟨by decide +kernel, by decide +kernel⟩, List.mem_of_getElem? (i := 22) (by decide +kernel), List.mem_of_getElem? (i := 579) (by decide +kernel), List.mem_of_getElem? (i := 580) (by decide +kernel)⟩
theorem lw_p9 : lw_okq (⟨"SapNetwork", "runTaps", "(I)I"⟩, 11) := ⟨⟨by decide +kernel, by decide +kernel⟩, List.mem_of_getElem? (i := 22) (by decide +kernel), List.mem_of_getElem? (i := 604) (by decide +kernel), List.mem_of_getElem? (i := 605) (by decide +kernel)⟩
theorem lw_p10 : lw_okq (⟨"SapNetwork", "pour", "(II)V"⟩, 11) := ⟨⟨by decide +kernel, by decide +kernel⟩, List.mem_of_getElem? (i := 22) (by decide +kernel), List.mem_of_getElem? (i := 619) (by decide +kernel), List.mem_of_getElem? (i := 620) (by decide +kernel)⟩
theorem lw_p11 : lw_okq (⟨"SapNetwork", "requireTap", "(I)LSapNetwork$Tap;"⟩, 11) := ⟨⟨by decide +kernel, by decide +kernel⟩, List.mem_of_getElem? (i := 22) (by decide +kernel), List.mem_of_getElem? (i := 651) (by decide +kernel), List.mem_of_getElem? (i := 652) (by decide +kernel)⟩
theorem lw_p12 : lw_okq (⟨"SapNetwork", "requireTank", "(I)LSapNetwork$Tank;"⟩, 11) := ⟨⟨by decide +kernel, by decide +kernel⟩, List.mem_of_getElem? (i := 22) (by decide +kernel), List.mem_of_getElem? (i := 711) (by decide +kernel), List.mem_of_getElem? (i := 712) (by decide +kernel)⟩
theorem lw_p13 : lw_okq (⟨"SapNetwork", "requireEndOfBoiling", "()V"⟩, 11) := ⟨⟨by decide +kernel, by decide +kernel⟩, List.mem_of_getElem? (i := 22) (by decide +kernel), List.mem_of_getElem? (i := 763) (by decide +kernel), List.mem_of_getElem? (i := 764) (by decide +kernel)⟩
theorem lw_p14 : lw_okq (⟨"SapNetwork", "requireBatch", "(I)V"⟩, 11) := ⟨⟨by decide +kernel, by decide +kernel⟩, List.mem_of_getElem? (i := 22) (by decide +kernel), List.mem_of_getElem? (i := 808) (by decide +kernel), List.mem_of_getElem? (i := 809) (by decide +kernel)⟩
theorem lw_p15 : lw_okq (⟨"SapNetwork", "requireSap", "()V"⟩, 11) := ⟨⟨by decide +kernel, by decide +kernel⟩, List.mem_of_getElem? (i := 22) (by decide +kernel), List.mem_of_getElem? (i := 845) (by decide +kernel), List.mem_of_getElem? (i := 846) (by decide +kernel)⟩
def lw_privs_1 : List (MethodName × Nat) := [(⟨"SapNetwork", "volumeInTanks", "()J"⟩, 11), (⟨"SapNetwork", "sugarInTanks", "()J"⟩, 11), (⟨"java/lang/Throwable", "fillInStackTrace", "(I)Ljava/lang/Throwable;"⟩, 6), (⟨"SapNetwork", "requireNode", "(I)V"⟩, 11), (⟨"SapNetwork", "requireRoomBelow", "(I)V"⟩, 11), (⟨"SapNetwork$Tubes", "lossAt", "(I)I"⟩, 7), (⟨"SapNetwork", "requireRanked", "(I)I"⟩, 11), (⟨"SapNetwork", "nodeAt", "(I)I"⟩, 11), (⟨"SapNetwork", "nodesAhead", "(I)I"⟩, 11), (⟨"SapNetwork", "runTaps", "(I)I"⟩, 11), (⟨"SapNetwork", "pour", "(II)V"⟩, 11), (⟨"SapNetwork", "requireTap", "(I)LSapNetwork$Tap;"⟩, 11), (⟨"SapNetwork", "requireTank", "(I)LSapNetwork$Tank;"⟩, 11), (⟨"SapNetwork", "requireEndOfBoiling", "()V"⟩, 11), (⟨"SapNetwork", "requireBatch", "(I)V"⟩, 11), (⟨"SapNetwork", "requireSap", "()V"⟩, 11)]
theorem lw_r1 : ∀ q ∈ lw_privs_1, lw_okq q := List.forall_mem_cons.mpr ⟨lw_p0, List.forall_mem_cons.mpr ⟨lw_p1, List.forall_mem_cons.mpr ⟨lw_p2, List.forall_mem_cons.mpr ⟨lw_p3, List.forall_mem_cons.mpr ⟨lw_p4, List.forall_mem_cons.mpr ⟨lw_p5, List.forall_mem_cons.mpr ⟨lw_p6, List.forall_mem_cons.mpr ⟨lw_p7, List.forall_mem_cons.mpr ⟨lw_p8, List.forall_mem_cons.mpr ⟨lw_p9, List.forall_mem_cons.mpr ⟨lw_p10, List.forall_mem_cons.mpr ⟨lw_p11, List.forall_mem_cons.mpr ⟨lw_p12, List.forall_mem_cons.mpr ⟨lw_p13, List.forall_mem_cons.mpr ⟨lw_p14, List.forall_mem_cons.mpr ⟨lw_p15, fun _ h => absurd h List.not_mem_nil⟩⟩⟩⟩⟩⟩⟩⟩⟩⟩⟩⟩⟩⟩⟩⟩
theorem lw_p16 : lw_okq (⟨"SapNetworkModel", "cannotAdd", "(IZ)Z"⟩, 30) := ⟨⟨by decide +kernel, by decide +kernel⟩, List.mem_of_getElem? (i := 859) (by decide +kernel), List.mem_of_getElem? (i := 967) (by decide +kernel), List.mem_of_getElem? (i := 968) (by decide +kernel)⟩
theorem lw_p17 : lw_okq (⟨"SapNetworkModel", "isNone", "(I)Z"⟩, 30) := ⟨⟨by decide +kernel, by decide +kernel⟩, List.mem_of_getElem? (i := 859) (by decide +kernel), List.mem_of_getElem? (i := 971) (by decide +kernel), List.mem_of_getElem? (i := 972) (by decide +kernel)⟩
theorem lw_p18 : lw_okq (⟨"SapNetworkModel", "fails", "(I)Z"⟩, 30) := ⟨⟨by decide +kernel, by decide +kernel⟩, List.mem_of_getElem? (i := 859) (by decide +kernel), List.mem_of_getElem? (i := 975) (by decide +kernel), List.mem_of_getElem? (i := 976) (by decide +kernel)⟩
theorem lw_p19 : lw_okq (⟨"SapNetworkModel", "adds", "(III)I"⟩, 30) := ⟨⟨by decide +kernel, by decide +kernel⟩, List.mem_of_getElem? (i := 859) (by decide +kernel), List.mem_of_getElem? (i := 979) (by decide +kernel), List.mem_of_getElem? (i := 980) (by decide +kernel)⟩
theorem lw_p20 : lw_okq (⟨"SapNetworkModel", "tells", "(I)I"⟩, 30) := ⟨⟨by decide +kernel, by decide +kernel⟩, List.mem_of_getElem? (i := 859) (by decide +kernel), List.mem_of_getElem? (i := 1003) (by decide +kernel), List.mem_of_getElem? (i := 1004) (by decide +kernel)⟩
theorem lw_p21 : lw_okq (⟨"SapNetworkModel", "asked", "(I)I"⟩, 30) := ⟨⟨by decide +kernel, by decide +kernel⟩, List.mem_of_getElem? (i := 859) (by decide +kernel), List.mem_of_getElem? (i := 1011) (by decide +kernel), List.mem_of_getElem? (i := 1012) (by decide +kernel)⟩
theorem lw_p22 : lw_okq (⟨"SapNetworkModel", "sucked", "(I)I"⟩, 30) := ⟨⟨by decide +kernel, by decide +kernel⟩, List.mem_of_getElem? (i := 859) (by decide +kernel), List.mem_of_getElem? (i := 1015) (by decide +kernel), List.mem_of_getElem? (i := 1016) (by decide +kernel)⟩
theorem lw_p23 : lw_okq (⟨"SapNetworkModel", "expected", "(I)I"⟩, 30) := ⟨⟨by decide +kernel, by decide +kernel⟩, List.mem_of_getElem? (i := 859) (by decide +kernel), List.mem_of_getElem? (i := 1030) (by decide +kernel), List.mem_of_getElem? (i := 1031) (by decide +kernel)⟩
theorem lw_p24 : lw_okq (⟨"SapNetworkModel", "ownLoss", "(I)I"⟩, 30) := ⟨⟨by decide +kernel, by decide +kernel⟩, List.mem_of_getElem? (i := 859) (by decide +kernel), List.mem_of_getElem? (i := 1038) (by decide +kernel), List.mem_of_getElem? (i := 1039) (by decide +kernel)⟩
theorem lw_p25 : lw_okq (⟨"SapNetworkModel", "loses", "(I)I"⟩, 30) := ⟨⟨by decide +kernel, by decide +kernel⟩, List.mem_of_getElem? (i := 859) (by decide +kernel), List.mem_of_getElem? (i := 1042) (by decide +kernel), List.mem_of_getElem? (i := 1043) (by decide +kernel)⟩
theorem lw_p26 : lw_okq (⟨"SapNetworkModel", "gives", "(II)I"⟩, 30) := ⟨⟨by decide +kernel, by decide +kernel⟩, List.mem_of_getElem? (i := 859) (by decide +kernel), List.mem_of_getElem? (i := 1054) (by decide +kernel), List.mem_of_getElem? (i := 1055) (by decide +kernel)⟩
theorem lw_p27 : lw_okq (⟨"SapNetworkModel", "pours", "(II)V"⟩, 30) := ⟨⟨by decide +kernel, by decide +kernel⟩, List.mem_of_getElem? (i := 859) (by decide +kernel), List.mem_of_getElem? (i := 1061) (by decide +kernel), List.mem_of_getElem? (i := 1062) (by decide +kernel)⟩
theorem lw_p28 : lw_okq (⟨"SapNetworkModel", "wastes", "(II)V"⟩, 30) := ⟨⟨by decide +kernel, by decide +kernel⟩, List.mem_of_getElem? (i := 859) (by decide +kernel), List.mem_of_getElem? (i := 1065) (by decide +kernel), List.mem_of_getElem? (i := 1066) (by decide +kernel)⟩
theorem lw_p29 : lw_okq (⟨"SapNetworkModel", "boils", "()V"⟩, 30) := ⟨⟨by decide +kernel, by decide +kernel⟩, List.mem_of_getElem? (i := 859) (by decide +kernel), List.mem_of_getElem? (i := 1069) (by decide +kernel), List.mem_of_getElem? (i := 1070) (by decide +kernel)⟩
theorem lw_p30 : lw_okq (⟨"SapNetworkModel", "isNoTap", "(I)Z"⟩, 30) := ⟨⟨by decide +kernel, by decide +kernel⟩, List.mem_of_getElem? (i := 859) (by decide +kernel), List.mem_of_getElem? (i := 1084) (by decide +kernel), List.mem_of_getElem? (i := 1085) (by decide +kernel)⟩
theorem lw_p31 : lw_okq (⟨"SapNetworkModel", "total", "(I)I"⟩, 30) := ⟨⟨by decide +kernel, by decide +kernel⟩, List.mem_of_getElem? (i := 859) (by decide +kernel), List.mem_of_getElem? (i := 1096) (by decide +kernel), List.mem_of_getElem? (i := 1097) (by decide +kernel)⟩
def lw_privs_2 : List (MethodName × Nat) := [(⟨"SapNetworkModel", "cannotAdd", "(IZ)Z"⟩, 30), (⟨"SapNetworkModel", "isNone", "(I)Z"⟩, 30), (⟨"SapNetworkModel", "fails", "(I)Z"⟩, 30), (⟨"SapNetworkModel", "adds", "(III)I"⟩, 30), (⟨"SapNetworkModel", "tells", "(I)I"⟩, 30), (⟨"SapNetworkModel", "asked", "(I)I"⟩, 30), (⟨"SapNetworkModel", "sucked", "(I)I"⟩, 30), (⟨"SapNetworkModel", "expected", "(I)I"⟩, 30), (⟨"SapNetworkModel", "ownLoss", "(I)I"⟩, 30), (⟨"SapNetworkModel", "loses", "(I)I"⟩, 30), (⟨"SapNetworkModel", "gives", "(II)I"⟩, 30), (⟨"SapNetworkModel", "pours", "(II)V"⟩, 30), (⟨"SapNetworkModel", "wastes", "(II)V"⟩, 30), (⟨"SapNetworkModel", "boils", "()V"⟩, 30), (⟨"SapNetworkModel", "isNoTap", "(I)Z"⟩, 30), (⟨"SapNetworkModel", "total", "(I)I"⟩, 30)]
theorem lw_r2 : ∀ q ∈ lw_privs_2, lw_okq q := List.forall_mem_cons.mpr ⟨lw_p16, List.forall_mem_cons.mpr ⟨lw_p17, List.forall_mem_cons.mpr ⟨lw_p18, List.forall_mem_cons.mpr ⟨lw_p19, List.forall_mem_cons.mpr ⟨lw_p20, List.forall_mem_cons.mpr ⟨lw_p21, List.forall_mem_cons.mpr ⟨lw_p22, List.forall_mem_cons.mpr ⟨lw_p23, List.forall_mem_cons.mpr ⟨lw_p24, List.forall_mem_cons.mpr ⟨lw_p25, List.forall_mem_cons.mpr ⟨lw_p26, List.forall_mem_cons.mpr ⟨lw_p27, List.forall_mem_cons.mpr ⟨lw_p28, List.forall_mem_cons.mpr ⟨lw_p29, List.forall_mem_cons.mpr ⟨lw_p30, List.forall_mem_cons.mpr ⟨lw_p31, fun _ h => absurd h List.not_mem_nil⟩⟩⟩⟩⟩⟩⟩⟩⟩⟩⟩⟩⟩⟩⟩⟩
theorem lw_p32 : lw_okq (⟨"SapNetworkModel", "isNoTank", "(I)Z"⟩, 30) := ⟨⟨by decide +kernel, by decide +kernel⟩, List.mem_of_getElem? (i := 859) (by decide +kernel), List.mem_of_getElem? (i := 1112) (by decide +kernel), List.mem_of_getElem? (i := 1113) (by decide +kernel)⟩
theorem lw_p33 : lw_okq (⟨"SapNetworkModel", "isDone", "()Z"⟩, 30) := ⟨⟨by decide +kernel, by decide +kernel⟩, List.mem_of_getElem? (i := 859) (by decide +kernel), List.mem_of_getElem? (i := 1144) (by decide +kernel), List.mem_of_getElem? (i := 1145) (by decide +kernel)⟩
theorem lw_p34 : lw_okq (⟨"SapNetworkModel", "longs", "()I"⟩, 30) := ⟨⟨by decide +kernel, by decide +kernel⟩, List.mem_of_getElem? (i := 859) (by decide +kernel), List.mem_of_getElem? (i := 1152) (by decide +kernel), List.mem_of_getElem? (i := 1153) (by decide +kernel)⟩
theorem lw_p35 : lw_okq (⟨"SapNetworkModel", "empties", "()V"⟩, 30) := ⟨⟨by decide +kernel, by decide +kernel⟩, List.mem_of_getElem? (i := 859) (by decide +kernel), List.mem_of_getElem? (i := 1164) (by decide +kernel), List.mem_of_getElem? (i := 1165) (by decide +kernel)⟩
theorem lw_p36 : lw_okq (⟨"SapNetworkModel", "isNoBatch", "(I)Z"⟩, 30) := ⟨⟨by decide +kernel, by decide +kernel⟩, List.mem_of_getElem? (i := 859) (by decide +kernel), List.mem_of_getElem? (i := 1180) (by decide +kernel), List.mem_of_getElem? (i := 1181) (by decide +kernel)⟩
theorem lw_p37 : lw_okq (⟨"SapNetworkModel", "tellsLong", "(J)J"⟩, 30) := ⟨⟨by decide +kernel, by decide +kernel⟩, List.mem_of_getElem? (i := 859) (by decide +kernel), List.mem_of_getElem? (i := 1192) (by decide +kernel), List.mem_of_getElem? (i := 1193) (by decide +kernel)⟩
theorem lw_p38 : lw_okq (⟨"SapNetworkModel", "missing", "()J"⟩, 30) := ⟨⟨by decide +kernel, by decide +kernel⟩, List.mem_of_getElem? (i := 859) (by decide +kernel), List.mem_of_getElem? (i := 1208) (by decide +kernel), List.mem_of_getElem? (i := 1209) (by decide +kernel)⟩
def lw_privs_3 : List (MethodName × Nat) := [(⟨"SapNetworkModel", "isNoTank", "(I)Z"⟩, 30), (⟨"SapNetworkModel", "isDone", "()Z"⟩, 30), (⟨"SapNetworkModel", "longs", "()I"⟩, 30), (⟨"SapNetworkModel", "empties", "()V"⟩, 30), (⟨"SapNetworkModel", "isNoBatch", "(I)Z"⟩, 30), (⟨"SapNetworkModel", "tellsLong", "(J)J"⟩, 30), (⟨"SapNetworkModel", "missing", "()J"⟩, 30)]
theorem lw_r3 : ∀ q ∈ lw_privs_3, lw_okq q := List.forall_mem_cons.mpr ⟨lw_p32, List.forall_mem_cons.mpr ⟨lw_p33, List.forall_mem_cons.mpr ⟨lw_p34, List.forall_mem_cons.mpr ⟨lw_p35, List.forall_mem_cons.mpr ⟨lw_p36, List.forall_mem_cons.mpr ⟨lw_p37, List.forall_mem_cons.mpr ⟨lw_p38, fun _ h => absurd h List.not_mem_nil⟩⟩⟩⟩⟩⟩⟩
def lw_privs : List (MethodName × Nat) := lw_privs_1 ++ (lw_privs_2 ++ (lw_privs_3))
def lw_tbl : List Cond := k2_sels lw_privs ++ tables_1
theorem lw_privs_ok : ∀ q ∈ lw_privs, lw_okq q := by
  show ∀ q ∈ lw_privs_1 ++ (lw_privs_2 ++ (lw_privs_3)), lw_okq q
  exact List.forall_mem_append.mpr ⟨lw_r1, List.forall_mem_append.mpr ⟨lw_r2, lw_r3⟩⟩
/-- the streams that the claim lets the run draw from -/
abbrev lw_cs : List Choice := [Jvm.Choice.named "NaN.bits"]
theorem lw_bits : nanBits ∈ lw_cs := by first | decide | exact List.mem_cons_self | simp [lw_cs, nanBits]
end
section
/-! ===== BEGIN words of one list among another's, by their places ===== -/
theorem goodIn_r {big : List Cond} (ws : List Cond) (ps : List Nat) (hp : ws = ps.filterMap (fun i => big[i]?)) (h : ws.all goodWord = true) : GoodIn big ws := by
  intro w hw
  have h1 := List.all_eq_true.mp h w hw
  rw [hp] at hw
  obtain ⟨i, -, hi⟩ := List.mem_filterMap.mp hw
  have hm : w ∈ big := by first | exact List.mem_of_getElem? hi | exact List.getElem?_mem hi
  exact ⟨hm, good_of_word h1⟩
theorem goodIn_app {big a b : List Cond} (ha : GoodIn big a) (hb : GoodIn big b) : GoodIn big (a ++ b) := fun w h => (List.mem_append.mp h).elim (ha w) (hb w)
theorem goodIn_ca {big a b : List Cond} {c : Cond} (ha : GoodIn big (c :: a)) (hb : GoodIn big b) : GoodIn big (c :: (a ++ b)) := fun w h => (List.mem_cons.mp h).elim (fun e => ha w (List.mem_cons.mpr (Or.inl e))) (fun h => (List.mem_append.mp h).elim (fun h => ha w (List.mem_cons.mpr (Or.inr h))) (hb w))
theorem goodIn_sub {big ws : List Cond} (hm : ∀ w ∈ ws, w ∈ big) (h : ws.all goodWord = true) : GoodIn big ws := fun w hw => ⟨hm w hw, good_of_word (List.all_eq_true.mp h w hw)⟩
/-! ===== END ===== -/

/-! ===== BEGIN exceptions that leave a method, and their catching by the caller (launches without stack traces) ===== -/
section VXA
/-! The laws vx_back, vx_callV, vx_callS, vx_callSW, vx_throw0, vx_throwS follow proofs of the library, with one case more: JvmDerived/Free/Laws.lean (Back.of_free), Shelf42/LK1.lean (callV, callS), Shelf/KitTraced.lean (throwNew0V, throwNewS). -/
/-- where a method has thrown q: the class by its name, the cell, what was written, the world -/
def vx_T (XC : String → State → State → Prop) (st : State) (q : Addr) (t : State) (mc ms : Nat) (free : Addr → Prop) : Prop :=
  ∃ (E : String) (ce : Cell) (L : List Loc), XC E st t ∧ t.heap[q]? = some ce ∧ ce.vm = .none ∧ st.vm.findClass E = some ce.cls ∧ st.WarmedH t.vm ∧ st.sameButNew ({ t with vm := st.vm } : State) L mc ms ∧ ∀ z ∈ L, free z.base
def vx_Q (Qc : Array Value → State → Outcome → State → Prop) (XC : String → State → State → Prop) (mc ms : Nat) (free : Addr → Prop) : Array Value → State → Outcome → State → Prop := fun a st o t =>
  (Qc a st o t ∧ ∃ L, FrameEnd st o t L mc ms ∧ ∀ q ∈ L, free q.base) ∨ ∃ q, o = .threw q ∧ vx_T XC st q t mc ms free
/-- a callee that returns or throws -/
def vx_Met (l : Launch) (y : MethodName) (ws : List Cond) (rm : Room) (Pc : Array Value → State → Prop) (Qc : Array Value → State → Outcome → State → Prop) (XC : String → State → State → Prop) (mc ms : Nat) (free : Addr → Prop) : Prop :=
  MetFree l y (headSpec ws rm) Pc (fun _ _ _ _ _ => True) (vx_Q Qc XC mc ms free)
def vx_Post (XC : String → State → State → Prop) (mc ms : Nat) (free : Addr → Prop) : Pt → Array Value → Addr → Pt → Prop := fun A a q B =>
  ∃ (g : JFrame) (mk : MethodId) (t : State) (L : List Loc) (E : String) (ce : Cell), B.U.heap = t.heap ∧ B.U.vm = t.vm ∧ XC E (A.U.calling g mk a) t ∧ t.heap[q]? = some ce ∧ ce.vm = .none ∧ A.U.vm.findClass E = some ce.cls ∧ B.locs = A.locs ++ L ∧ (∀ z ∈ L, free z.base) ∧ B.cells = A.cells + mc ∧ B.slots = A.slots + ms
def vx_Back (l : Launch) (R : Room) (p : Program) (e : Env) (below : List Frame) (s : State) (sargs : Array Value) (y : MethodName) (len W9 : Nat)
    (Pre : Pt → Array Value → Prop) (Post : Pt → Array Value → Option Value → Pt → Prop) (PostX : Pt → Array Value → Addr → Pt → Prop) : Prop :=
  ∀ (m : MethodId) (meth : Method) (c : Code) (A : Pt) (g : JFrame) (ig : Instr) (mk : MethodId) (a : Array Value),
    Stand p l e R s m sargs below meth c A.U A.locs A.cells A.slots → g.method = m → g.locals.size = c.maxLocals → decode c.code g.pc = .ok (ig, len) →
    2 * g.monitorRoom + (g.stack.map fun v => v.category).sum ≤ W9 → A.U.methodNamed? y = some mk → Pre A a →
    (∃ (v : Option Value) (B : Pt), Stand p l e R s m sargs below meth c B.U B.locs B.cells B.slots ∧ Post A a v B ∧
      Steps p.tables e below (doInvoke e (A.U.setTop g) [] mk a).1 (B.U.setTop { g with pc := g.pc + len, stack := v.toList ++ g.stack })) ∨
    (∃ (q : Addr) (B : Pt), Stand p l e R s m sargs below meth c B.U B.locs B.cells B.slots ∧ PostX A a q B ∧
      Steps p.tables e below (doInvoke e (A.U.setTop g) [] mk a).1 ((B.U.setTop g).pushFrame (.throwing q)))
section Payer
variable {l : Launch} {R : Room} {p : Program} {e : Env} {below : List Frame} {s : State} {sargs : Array Value} {y : MethodName} {len W9 : Nat}
theorem vx_back {ws : List Cond} {rm : Room} {Pc : Array Value → State → Prop} {Qc : Array Value → State → Outcome → State → Prop} {XC : String → State → State → Prop} {mc ms : Nat} {free : Addr → Prop} {bytes : ByteArray} {maxL : Nat} {ret : Option FieldType}
    (hM : vx_Met l y ws rm Pc Qc XC mc ms free) (hblind : FrameBlind Pc) (hrc : rm.cells = mc) (hrs : rm.slots = ms)
    (hframes : rm.frames + 1 ≤ R.frames) (hlocals : W9 + (maxL + 11) + rm.locals ≤ R.locals)
    (hws : ∀ w ∈ ws, ∀ a' U, s.WarmedH U.vm → w.before a' U = true) (hcode : Cond.code y bytes maxL ret ∈ ws) (hinit : ∀ a' U, s.WarmedH U.vm → (Cond.initialized y.cls).before a' U = true) :
    vx_Back l R p e below s sargs y len W9 (PreOf R mc ms Pc) (PostOf Qc mc ms free) (vx_Post XC mc ms free) := by
  intro m meth c A g ig mk a X hg hsize hdg hW hn hp
  have h1 : (headSpec ws rm).pre.before a A.U = true := atoms_intro fun w hw => hws w hw _ _ X.warmed
  have h2 : (Cond.code y bytes maxL ret).before a A.U = true := hws _ hcode _ _ X.warmed
  have h3 : (Cond.initialized y.cls).before a A.U = true := hinit _ _ X.warmed
  have h4 : A.cells + (headSpec ws rm).room.cells ≤ R.cells := by rw [show (headSpec ws rm).room.cells = mc from hrc]; exact hp.1
  have h5 : A.slots + (headSpec ws rm).room.slots ≤ R.slots := by rw [show (headSpec ws rm).room.slots = ms from hrs]; exact hp.2.1
  have hPc : Pc a (A.U.calling g mk a) := hblind _ _ _ _ hp.2.2
  obtain ⟨U, Ls, c0, s0⟩ := A
  dsimp only [Pt.U, Pt.locs, Pt.cells, Pt.slots] at h1 h2 h3 h4 h5 X hn hPc ⊢
  obtain ⟨methY, cY, hmY, hcY, -, hlY, -, -, -, -⟩ := Cond.code_spec hn h2
  obtain ⟨kY, hkY, -⟩ := className_of_methodNamed hn
  have hinitY : kY.init = .initialized := Cond.initialized_spec (findClass_of_methodNamed hn) hkY h3
  have h : At U g.method c below := by rw [hg]; exact X.here
  have hlocals9 : W9 + (maxL + 11) + (headSpec ws rm).room.locals ≤ R.locals := hlocals
  have happ : (headSpec ws rm).appliesLoose y e.platform (U.calling g mk a) = true :=
    Spec.appliesLoose_calling (g := g) h hdg hn hkY hinitY
      (X.room_calling (g := g) (R' := (headSpec ws rm).room) hsize hmY hcY hframes (by rw [hlY]; omega) h4 h5) h1
  obtain ⟨mid, hmid⟩ := h.above
  have hfr : (U.setTop g).frames = (.java g :: mid) ++ below := by rw [State.frames_setTop' g h.top, hmid]; rfl
  obtain ⟨o, s₂, hsteps, -, hend, hq⟩ := Steps.callFree hM p X.admits X.cas X.clock (acts := []) hfr happ hPc trivial
  have hq' : vx_Q Qc XC mc ms free a (U.calling g mk a) o s₂ := hq
  rw [State.frames_setTop' g h.top] at hend
  obtain ⟨g₀, hg0⟩ := Option.isSome_iff_exists.mp h.top
  obtain ⟨r, hr⟩ := State.topJava?_eq_some.mp hg0
  have hr' : (({ U with heap := s₂.heap, slotsUsed := s₂.slotsUsed } : State).setVm s₂.vm).frames = .java g₀ :: r := hr
  rcases hq' with ⟨hqc, L, hfe, hL⟩ | ⟨q, rfl, E, ce, L, hx, hce, hcv, hcl, hW₂, hsm, hL⟩
  · obtain ⟨⟨v, rfl⟩, hW₂, e2, q2, q3, q4, q5, q6⟩ := id hfe
    have e3 : s₂ = ({ (U.calling g mk a).setFrames s₂.frames with heap := s₂.heap, slotsUsed := s₂.slotsUsed } : State).setVm s₂.vm := by
      have : s₂ = ({ s₂ with vm := (U.calling g mk a).vm } : State).setVm s₂.vm := rfl
      rw [e2] at this
      exact this
    obtain ⟨c₂, i₂, len₂, hc₂, hd₂, hf₂⟩ := hend
    have hW' : U.WarmedH s₂.vm := hW₂
    have hcc : c₂ = c := by
      have h1 : s₂.code? g.method = U.code? g.method := by
        rw [State.code?_eq, State.code?_eq, hW'.alike.method?]
      exact Option.some.inj (hc₂.symm.trans (h1.trans h.code))
    subst hcc
    have hlen : len₂ = len := by rw [hdg] at hd₂; cases hd₂; rfl
    subst hlen
    have hs₂ : s₂ = (({ U with heap := s₂.heap, slotsUsed := s₂.slotsUsed } : State).setVm s₂.vm).setTop { g with pc := g.pc + len₂, stack := v.toList ++ g.stack } := by
      refine e3.trans ?_
      rw [hf₂, State.calling_eq h.top, State.setFrames_setFrames, State.setTop_of_frames _ hr', hr]
      rfl
    have hsame : U.sameButNew ({ U with heap := s₂.heap, slotsUsed := s₂.slotsUsed } : State) L mc ms := by
      refine ⟨?_, q2, q3, q4, q5, q6⟩
      obtain ⟨t, ht, -⟩ := State.frames_cons hr
      show ({ U with heap := s₂.heap, slotsUsed := s₂.slotsUsed } : State) = { U.setFrames U.frames with heap := s₂.heap, slotsUsed := s₂.slotsUsed }
      rw [State.setFrames_self ht]
    subst hg
    refine Or.inl ⟨v, ⟨(({ U with heap := s₂.heap, slotsUsed := s₂.slotsUsed } : State).setVm s₂.vm), Ls ++ L, c0 + mc, s0 + ms⟩,
      ⟨X.admits, X.cas, X.clock, X.frames, X.room, X.hears, X.method, X.code, (X.here.setHeapUsed s₂.heap s₂.slotsUsed).setVm hW'.alike, X.tail, State.WarmedH.trans X.warmed hW', X.limits, X.bytes, X.same.trans (hsame.setVm s.vm)⟩,
      ⟨g, mk, s₂, L, rfl, rfl, hqc, rfl, hL, rfl, rfl⟩, ?_⟩
    show Steps p.tables e below _ ((({ U with heap := s₂.heap, slotsUsed := s₂.slotsUsed } : State).setVm s₂.vm).setTop { g with pc := g.pc + len₂, stack := v.toList ++ g.stack })
    rw [← hs₂]
    exact hsteps
  · obtain ⟨e2, q2, q3, q4, q5, q6⟩ := id hsm
    have e3 : s₂ = ({ (U.calling g mk a).setFrames s₂.frames with heap := s₂.heap, slotsUsed := s₂.slotsUsed } : State).setVm s₂.vm := by
      have : s₂ = ({ s₂ with vm := (U.calling g mk a).vm } : State).setVm s₂.vm := rfl
      rw [e2] at this
      exact this
    have hf₂ : s₂.frames = .throwing q :: .java g :: U.frames.tail := hend
    have hW' : U.WarmedH s₂.vm := hW₂
    have hs₂ : s₂ = ((({ U with heap := s₂.heap, slotsUsed := s₂.slotsUsed } : State).setVm s₂.vm).setTop g).pushFrame (.throwing q) := by
      refine e3.trans ?_
      rw [hf₂, State.calling_eq h.top, State.setFrames_setFrames, State.pushFrame, State.frames_setTop _ hr', State.setTop_of_frames _ hr', State.setFrames_setFrames, hr]
      rfl
    have hsame : U.sameButNew ({ U with heap := s₂.heap, slotsUsed := s₂.slotsUsed } : State) L mc ms := by
      refine ⟨?_, q2, q3, q4, q5, q6⟩
      obtain ⟨t, ht, -⟩ := State.frames_cons hr
      show ({ U with heap := s₂.heap, slotsUsed := s₂.slotsUsed } : State) = { U.setFrames U.frames with heap := s₂.heap, slotsUsed := s₂.slotsUsed }
      rw [State.setFrames_self ht]
    subst hg
    refine Or.inr ⟨q, ⟨(({ U with heap := s₂.heap, slotsUsed := s₂.slotsUsed } : State).setVm s₂.vm), Ls ++ L, c0 + mc, s0 + ms⟩,
      ⟨X.admits, X.cas, X.clock, X.frames, X.room, X.hears, X.method, X.code, (X.here.setHeapUsed s₂.heap s₂.slotsUsed).setVm hW'.alike, X.tail, State.WarmedH.trans X.warmed hW', X.limits, X.bytes, X.same.trans (hsame.setVm s.vm)⟩,
      ⟨g, mk, s₂, L, E, ce, rfl, rfl, hx, hce, hcv, hcl, rfl, hL, rfl, rfl⟩, ?_⟩
    show Steps p.tables e below _ (((({ U with heap := s₂.heap, slotsUsed := s₂.slotsUsed } : State).setVm s₂.vm).setTop g).pushFrame (.throwing q))
    rw [← hs₂]
    exact hsteps
end Payer
section Calls
variable {p : Program} {l : Launch} {e : Env} {R : Room} {s : State} {m : MethodId} {args : Array Value} {below : List Frame} {meth : Method} {c : Code} {T : State} {locs : List Loc} {cells slots : Nat}
theorem vx_callV (X : Stand p l e R s m args below meth c T locs cells slots) (hexec : p.tables.exec = Jvm.exec) {own C : String} {index : Nat} {y : MethodName} {bytes : ByteArray} {maxL : Nat} {ret : Option FieldType}
    (hown : s.vm.findClass own = some m.cls) (hlink : (Cond.methodLink own index y).before args s = true) (hinst : (Cond.instanceMethod y).before args s = true) (hsel : (Cond.selects C y y).before args s = true)
    (hcode : (Cond.code y bytes maxL ret).before args s = true) (hy : y.cls ≠ "java/lang/invoke/MethodHandle" ∧ y.cls ≠ "java/lang/invoke/VarHandle")
    {W9 : Nat} {Pre : Pt → Array Value → Prop} {Post : Pt → Array Value → Option Value → Pt → Prop} {PostX : Pt → Array Value → Addr → Pt → Prop} (hK : vx_Back l R p e below s args y 3 W9 Pre Post PostX)
    {b : Addr} {cellB : Cell} (hcell : T.heap[b]? = some cellB) (hobj : cellB.vm.isStatics = false) (hcls : s.vm.findClass C = some cellB.cls)
    {g : JFrame} (hg : g.method = m) (hsize : g.locals.size = c.maxLocals) {argsL rest : List Value} (hlen : ∀ sig, parseMethodDescriptor y.desc = some sig → argsL.length = sig.parameters.length)
    (hstack : g.stack = argsL.reverse ++ .ref b :: rest) (hW : 2 * g.monitorRoom + (rest.map fun v => v.category).sum ≤ W9) (hdg : decode c.code g.pc = .ok (.invokevirtual index, 3))
    (hpre : ∀ vm₁, s.WarmedH vm₁ → Pre ⟨T.setVm vm₁, locs, cells, slots⟩ (Value.ref b :: argsL).toArray) :
    (∃ (v : Option Value) (vm₁ : Vm) (B : Pt), s.WarmedH vm₁ ∧ Stand p l e R s m args below meth c B.U B.locs B.cells B.slots ∧ Post ⟨T.setVm vm₁, locs, cells, slots⟩ (Value.ref b :: argsL).toArray v B ∧
      ∀ target, Steps p.tables e below (B.U.setTop { g with pc := g.pc + 3, stack := v.toList ++ rest }) target → Steps p.tables e below (T.setTop g) target) ∨
    (∃ (q : Addr) (vm₁ : Vm) (B : Pt), s.WarmedH vm₁ ∧ Stand p l e R s m args below meth c B.U B.locs B.cells B.slots ∧ PostX ⟨T.setVm vm₁, locs, cells, slots⟩ (Value.ref b :: argsL).toArray q B ∧
      Steps p.tables e below (T.setTop g) ((B.U.setTop { g with stack := rest }).pushFrame (.throwing q))) := by
  obtain ⟨mk, methM, hnamed, hmethM, hstM, habM⟩ := Cond.instanceMethod_spec hinst
  obtain ⟨methM', cM, hmethM', -, -, -, -, -, -, hsigM⟩ := Cond.code_spec hnamed hcode
  cases hmethM.symm.trans hmethM'
  obtain ⟨c2, r2, m2, q1, q2, q3, q4, kP, hkP, hkPi⟩ := Cond.selects_spec hsel
  cases hcls.symm.trans q1
  cases (State.methodFound?_of_named hnamed hy).symm.trans q2
  cases hnamed.symm.trans q3
  have hselP : selectMethod e.platform s.vm cellB.cls mk = .method mk := by rw [Launch.admits_selectMethod X.admits]; exact q4
  obtain ⟨vm₁, X₁, hstep₁⟩ := X.invokevirtual hexec hown hlink hnamed hmethM hstM hkP hkPi hy (a := b) (cell := cellB) hcell
    (fun z h => by rw [h] at hobj; cases hobj) hselP hmethM habM hkP hkPi (g := g) hg (argsL := argsL) (rest := rest) (hlen _ hsigM) hstack hdg
  rcases hK m meth c ⟨T.setVm vm₁, locs, cells, slots⟩ { g with stack := rest } (.invokevirtual index) mk (Value.ref b :: argsL).toArray X₁ hg hsize hdg hW (X₁.named hnamed) (hpre vm₁ X₁.warmed) with ⟨v, B, X', hpost, hsteps⟩ | ⟨q, B, X', hpost, hsteps⟩
  · exact Or.inl ⟨v, vm₁, B, X₁.warmed, X', hpost, fun target h => hstep₁ _ fun acts => by rw [doInvoke_state]; exact hsteps.trans h⟩
  · exact Or.inr ⟨q, vm₁, B, X₁.warmed, X', hpost, hstep₁ _ fun acts => by rw [doInvoke_state]; exact hsteps⟩
theorem vx_callS (X : Stand p l e R s m args below meth c T locs cells slots) (hexec : p.tables.exec = Jvm.exec) {own : String} {index : Nat} {y : MethodName} {bytes : ByteArray} {maxL : Nat} {ret : Option FieldType}
    (hown : s.vm.findClass own = some m.cls) (hlink : (Cond.methodLink own index y).before args s = true) (hstat : (Cond.static y).before args s = true) (hinit : (Cond.initialized y.cls).before args s = true)
    (hcode : (Cond.code y bytes maxL ret).before args s = true) (hy : y.cls ≠ "java/lang/invoke/MethodHandle" ∧ y.cls ≠ "java/lang/invoke/VarHandle")
    {W9 : Nat} {Pre : Pt → Array Value → Prop} {Post : Pt → Array Value → Option Value → Pt → Prop} {PostX : Pt → Array Value → Addr → Pt → Prop} (hK : vx_Back l R p e below s args y 3 W9 Pre Post PostX)
    {g : JFrame} (hg : g.method = m) (hsize : g.locals.size = c.maxLocals) {argsL rest : List Value} (hlen : ∀ sig, parseMethodDescriptor y.desc = some sig → argsL.length = sig.parameters.length)
    (hstack : g.stack = argsL.reverse ++ rest) (hW : 2 * g.monitorRoom + (rest.map fun v => v.category).sum ≤ W9) (hdg : decode c.code g.pc = .ok (.invokestatic index, 3))
    (hpre : ∀ vm₁, s.WarmedH vm₁ → Pre ⟨T.setVm vm₁, locs, cells, slots⟩ argsL.toArray) :
    (∃ (v : Option Value) (vm₁ : Vm) (B : Pt), s.WarmedH vm₁ ∧ Stand p l e R s m args below meth c B.U B.locs B.cells B.slots ∧ Post ⟨T.setVm vm₁, locs, cells, slots⟩ argsL.toArray v B ∧
      ∀ target, Steps p.tables e below (B.U.setTop { g with pc := g.pc + 3, stack := v.toList ++ rest }) target → Steps p.tables e below (T.setTop g) target) ∨
    (∃ (q : Addr) (vm₁ : Vm) (B : Pt), s.WarmedH vm₁ ∧ Stand p l e R s m args below meth c B.U B.locs B.cells B.slots ∧ PostX ⟨T.setVm vm₁, locs, cells, slots⟩ argsL.toArray q B ∧
      Steps p.tables e below (T.setTop g) ((B.U.setTop { g with stack := rest }).pushFrame (.throwing q))) := by
  obtain ⟨mk, hnamed⟩ := Cond.code_named hcode
  obtain ⟨methM, cM, hmethM, -, -, -, -, -, -, hsigM⟩ := Cond.code_spec hnamed hcode
  have hstatic : methM.isStatic = true := Cond.static_spec hnamed hmethM hstat
  obtain ⟨kP, hkP, -⟩ := className_of_methodNamed hnamed
  have hinitP : kP.init = .initialized := Cond.initialized_spec (findClass_of_methodNamed hnamed) hkP hinit
  obtain ⟨vm₁, X₁, hstep₁⟩ := X.invokestatic hexec hown hlink hnamed hmethM hstatic hkP hinitP hy (g := g) hg (argsL := argsL) (rest := rest) (hlen _ hsigM) hstack hdg
  rcases hK m meth c ⟨T.setVm vm₁, locs, cells, slots⟩ { g with stack := rest } (.invokestatic index) mk argsL.toArray X₁ hg hsize hdg hW (X₁.named hnamed) (hpre vm₁ X₁.warmed) with ⟨v, B, X', hpost, hsteps⟩ | ⟨q, B, X', hpost, hsteps⟩
  · exact Or.inl ⟨v, vm₁, B, X₁.warmed, X', hpost, fun target h => hstep₁ _ fun acts => by rw [doInvoke_state]; exact hsteps.trans h⟩
  · exact Or.inr ⟨q, vm₁, B, X₁.warmed, X', hpost, hstep₁ _ fun acts => by rw [doInvoke_state]; exact hsteps⟩
end Calls
theorem vx_cls {s : State} {T : State} {vm₁ : Vm} {E : String} {k : ClassId} (hW : s.WarmedH vm₁) (h : (T.setVm vm₁).vm.findClass E = some k) : s.vm.findClass E = some k := by
  have h1 : vm₁.findClass E = some k := h
  rw [hW.alike.findClass] at h1
  exact h1
/-- the method's frame g, with q thrown over it -/
def vx_W (p : Program) (l : Launch) (e : Env) (R : Room) (s : State) (m : MethodId) (args : Array Value) (below : List Frame) (meth : Method) (c : Code) (H : Heap) (locs : List Loc) (cells slots : Nat) (Q : State → Prop) (g : JFrame) (q : Addr) : Prop :=
  ∀ T : State, T.heap = H → Stand p l e R s m args below meth c T locs cells slots → ∃ t, Steps p.tables e below ((T.setTop g).pushFrame (.throwing q)) t ∧ Q t
def vx_Run (p : Program) (l : Launch) (e : Env) (R : Room) (s : State) (m : MethodId) (args : Array Value) (below : List Frame) (meth : Method) (c : Code) (H : Heap) (locs : List Loc) (cells slots mc ms : Nat) (g : JFrame) (rest : List Value) (Qa : State → Outcome → State → Prop) (XC : String → State → State → Prop) (free : Addr → Prop) : Prop :=
  ∀ T : State, T.heap = H → Stand p l e R s m args below meth c T locs cells slots →
    (∃ (v : Option Value) (st₀ t T' : State) (L : List Loc), st₀.heap = H ∧ Stand p l e R s m args below meth c T' (locs ++ L) (cells + mc) (slots + ms) ∧ (∀ q ∈ L, free q.base) ∧ T'.heap = t.heap ∧ T'.vm = t.vm ∧ Qa st₀ (.returned v) t ∧
      Goes p e below T g T' { g with pc := g.pc + 3, stack := v.toList ++ rest }) ∨
    (∃ (q : Addr) (st₀ t T' : State) (L : List Loc) (E : String) (ce : Cell), st₀.heap = H ∧ Stand p l e R s m args below meth c T' (locs ++ L) (cells + mc) (slots + ms) ∧ (∀ z ∈ L, free z.base) ∧ T'.heap = t.heap ∧ T'.vm = t.vm ∧ XC E st₀ t ∧ t.heap[q]? = some ce ∧ ce.vm = .none ∧ s.vm.findClass E = some ce.cls ∧
      Steps p.tables e below (T.setTop g) ((T'.setTop { g with stack := rest }).pushFrame (.throwing q)))
def vx_X {S : Type} (px : S → Prop) (B : String → S → State → Prop) (A : Nat → Prop) : String → State → State → Prop := fun E st t => ∃ u : S, px u ∧ B E u t ∧ va_F A st t
section Runs
variable {p : Program} {l : Launch} {e : Env} {R : Room} {s : State} {m : MethodId} {args : Array Value} {below : List Frame} {meth : Method} {c : Code} {H : Heap} {locs : List Loc} {cells slots : Nat}
variable {y : MethodName} {bytes cc : ByteArray} {maxL nL mc ms n index : Nat} {ret : Option FieldType} {ws : List Cond} {rm : Room} {Pc : Array Value → State → Prop} {Qc : Array Value → State → Outcome → State → Prop} {XC : String → State → State → Prop} {free : Addr → Prop} {Ts : List Cond} {own C : String} {b : Addr} {As rest : List Value} {g : JFrame}
theorem vx_callBack (cb : CallB R s args own index y bytes maxL ret ws rm mc ms n) (hM : vx_Met l y ws rm Pc Qc XC mc ms free) (hbl : FrameBlind Pc) : vx_Back l R p e below s args y 3 8 (PreOf R mc ms Pc) (PostOf Qc mc ms free) (vx_Post XC mc ms free) := by
  obtain ⟨hrc, hrs, hfr, hlo, hws, hcw, -, hini, -⟩ := cb
  exact vx_back (bytes := bytes) (maxL := maxL) (ret := ret) hM hbl hrc hrs hfr hlo hws hcw (fun a' U hW => word_at hW (Or.inl (by first | rfl | simp [Cond.onTables, Cond.keeps, Cond.steady])) hini)
theorem vx_runV (S : CallFix p m c cc nL s args Ts own) (hM : vx_Met l y ws rm Pc Qc XC mc ms free) (cw : CallW R s args own C index y bytes maxL ret ws rm mc ms n) (hp : PreV s H C b Pc As)
    (hg : g.method = m) (hn : As.length = n) (hsize : g.locals.size = nL) (hstack : g.stack = As.reverse ++ .ref b :: rest) (hW : 2 * g.monitorRoom + (rest.map fun v => v.category).sum ≤ 8) (hdg : decode cc g.pc = .ok (.invokevirtual index, 3)) (hf : cells + mc ≤ R.cells ∧ slots + ms ≤ R.slots) :
    vx_Run p l e R s m args below meth c H locs cells slots mc ms g rest (Qc (Value.ref b :: As).toArray) XC free := by
  have hK : vx_Back l R p e below s args y 3 8 (PreOf R mc ms Pc) (PostOf Qc mc ms free) (vx_Post XC mc ms free) := vx_callBack cw.1 hM hp.1
  obtain ⟨⟨-, -, -, -, -, -, hcode, -, hy, hlen, hl⟩, hin, hse⟩ := cw
  obtain ⟨hx, hb, hml, ho, -⟩ := S
  obtain ⟨-, ⟨cellB, hcB, hoB, hclB⟩, hPc⟩ := hp
  intro T hT X
  rcases vx_callV X hx (C := C) (bytes := bytes) (maxL := maxL) (ret := ret) ho hl hin hse hcode hy hK (by rw [hT]; exact hcB) hoB hclB hg (hsize.trans hml.symm) (argsL := As) (rest := rest) (fun sig h => hn.trans (hlen sig h)) hstack hW (by rw [hb]; exact hdg)
    (fun vm₁ hW₁ => ⟨hf.1, hf.2, hPc (T.setVm vm₁) hT hW₁⟩) with ⟨v, vm₁, ⟨U', l2, c2, s2⟩, hW₁, X', ⟨g', mk, t, L, e1, e2, hq, h1, hL, h2, h3⟩, st⟩ | ⟨q, vm₁, ⟨U', l2, c2, s2⟩, hW₁, X', ⟨g', mk, t, L, E, ce, e1, e2, hq, hce, hcv, hcl, h1, hL, h2, h3⟩, st⟩
  · dsimp only [Pt.U, Pt.locs, Pt.cells, Pt.slots] at X' e1 e2 h1 h2 h3 st
    subst h1; subst h2; subst h3
    exact Or.inl ⟨v, (T.setVm vm₁).calling g' mk (Value.ref b :: As).toArray, t, U', L, hT, X', hL, e1, e2, hq, st⟩
  · dsimp only [Pt.U, Pt.locs, Pt.cells, Pt.slots] at X' e1 e2 h1 h2 h3 st hcl
    subst h1; subst h2; subst h3
    exact Or.inr ⟨q, (T.setVm vm₁).calling g' mk (Value.ref b :: As).toArray, t, U', L, E, ce, hT, X', hL, e1, e2, hq, hce, hcv, vx_cls hW₁ hcl, st⟩
theorem vx_runS (S : CallFix p m c cc nL s args Ts own) (hM : vx_Met l y ws rm Pc Qc XC mc ms free) (cw : CallB R s args own index y bytes maxL ret ws rm mc ms n ∧ (Cond.static y).before args s = true) (hp : PreS s H Pc As)
    (hg : g.method = m) (hn : As.length = n) (hsize : g.locals.size = nL) (hstack : g.stack = As.reverse ++ rest) (hW : 2 * g.monitorRoom + (rest.map fun v => v.category).sum ≤ 8) (hdg : decode cc g.pc = .ok (.invokestatic index, 3)) (hf : cells + mc ≤ R.cells ∧ slots + ms ≤ R.slots) :
    vx_Run p l e R s m args below meth c H locs cells slots mc ms g rest (Qc As.toArray) XC free := by
  have hK : vx_Back l R p e below s args y 3 8 (PreOf R mc ms Pc) (PostOf Qc mc ms free) (vx_Post XC mc ms free) := vx_callBack cw.1 hM hp.1
  obtain ⟨⟨-, -, -, -, -, -, hcode, hini, hy, hlen, hl⟩, hstt⟩ := cw
  obtain ⟨hx, hb, hml, ho, -⟩ := S
  intro T hT X
  rcases vx_callS X hx (bytes := bytes) (maxL := maxL) (ret := ret) ho hl hstt hini hcode hy hK hg (hsize.trans hml.symm) (argsL := As) (rest := rest) (fun sig h => hn.trans (hlen sig h)) hstack hW (by rw [hb]; exact hdg)
    (fun vm₁ hW₁ => ⟨hf.1, hf.2, hp.2 (T.setVm vm₁) hT hW₁⟩) with ⟨v, vm₁, ⟨U', l2, c2, s2⟩, hW₁, X', ⟨g', mk, t, L, e1, e2, hq, h1, hL, h2, h3⟩, st⟩ | ⟨q, vm₁, ⟨U', l2, c2, s2⟩, hW₁, X', ⟨g', mk, t, L, E, ce, e1, e2, hq, hce, hcv, hcl, h1, hL, h2, h3⟩, st⟩
  · dsimp only [Pt.U, Pt.locs, Pt.cells, Pt.slots] at X' e1 e2 h1 h2 h3 st
    subst h1; subst h2; subst h3
    exact Or.inl ⟨v, (T.setVm vm₁).calling g' mk As.toArray, t, U', L, hT, X', hL, e1, e2, hq, st⟩
  · dsimp only [Pt.U, Pt.locs, Pt.cells, Pt.slots] at X' e1 e2 h1 h2 h3 st hcl
    subst h1; subst h2; subst h3
    exact Or.inr ⟨q, (T.setVm vm₁).calling g' mk As.toArray, t, U', L, E, ce, hT, X', hL, e1, e2, hq, hce, hcv, vx_cls hW₁ hcl, st⟩
end Runs
section Rows
variable {p : Program} {l : Launch} {e : Env} {R : Room} {s : State} {m : MethodId} {args : Array Value} {below : List Frame} {meth : Method} {c : Code} {H : Heap} {locs : List Loc} {cells slots : Nat} {Q : State → Prop}
variable {mc ms : Nat} {free : Addr → Prop} {A0 A1 : Nat → Prop} {H0 : Heap} {a : Array Value} {pc : Nat} {ls : Array Slot} {st0 rest : List Value}
theorem vx_keep {st₀ t T' : State} {L : List Loc} (h0 : st₀.heap = H) (e1 : T'.heap = t.heap) (hS : va_S A0 H0 H locs) (hA : ∀ q, q < H.size → A1 q → A0 q) (hf : ∀ q, free q → A0 q) (hL : ∀ q ∈ L, free q.base) (hF : va_F A1 st₀ t) :
    H.size ≤ T'.heap.size ∧ (∀ q : Nat, q < H.size → ¬ A1 q → T'.heap[q]? = H[q]?) ∧ va_S A0 H0 T'.heap (locs ++ L) := by
  obtain ⟨hz, hk⟩ := hF
  rw [h0] at hz hk
  exact ⟨by rw [e1]; exact hz, fun q h1 h2 => by rw [e1]; exact hk q h1 h2,
    ⟨Nat.le_trans hS.1 (by rw [e1]; exact hz), fun q h1 h2 => by rw [e1, hk q (Nat.lt_of_lt_of_le h1 hS.1) (fun z => h2 (hA q (Nat.lt_of_lt_of_le h1 hS.1) z))]; exact hS.2.1 q h1 h2, fun q hq => by
      rcases List.mem_append.mp hq with h | h
      · exact hS.2.2 q h
      · exact hf _ (hL q h)⟩⟩
theorem vx_calli {S SX : Type} {post : Int32 → S → Prop} {px : SX → Prop} {B : S → State → Prop} {BX : String → SX → State → Prop} {AX : Nat → Prop} (hr : vx_Run p l e R s m args below meth c H locs cells slots mc ms (F0 m pc ls st0) rest (va_Qi post B A1 a) (vx_X px BX AX) free) (hS : va_S A0 H0 H locs) (hA : ∀ q, q < H.size → A1 q → A0 q) (hf : ∀ q, free q → A0 q) (hAX : ∀ q, q < H.size → AX q → A0 q)
    (kx : ∀ (E : String) (ce : Cell) (q9 : Addr) (u : SX) (t : State) (H1 : Heap) (locs1 : List Loc), t.heap = H1 → s.vm.Alike t.vm → px u → BX E u t → H.size ≤ H1.size → (∀ q : Nat, q < H.size → ¬ AX q → H1[q]? = H[q]?) → va_S A0 H0 H1 locs1 → H1[q9]? = some ce → ce.vm = .none → s.vm.findClass E = some ce.cls → vx_W p l e R s m args below meth c H1 locs1 (cells + mc) (slots + ms) Q (F0 m pc ls rest) q9)
    (kk : ∀ (r : Int32) (u : S) (t : State) (H1 : Heap) (locs1 : List Loc), t.heap = H1 → s.vm.Alike t.vm → post r u → B u t → H.size ≤ H1.size → (∀ q : Nat, q < H.size → ¬ A1 q → H1[q]? = H[q]?) → va_S A0 H0 H1 locs1 → W p l e R s m args below meth c H1 locs1 (cells + mc) (slots + ms) Q (F0 m (pc + 3) ls (.int r :: rest))) : W p l e R s m args below meth c H locs cells slots Q (F0 m pc ls st0) := by
  intro T hT X
  rcases hr T hT X with ⟨v, st₀, t, T', L, h0, X', hL, e1, e2, ⟨⟨r, u, hv, hp, hb⟩, hF⟩, st⟩ | ⟨q, st₀, t, T', L, E, ce, h0, X', hL, e1, e2, ⟨u, hp, hb, hF⟩, hce, hcv, hcl, st⟩
  · cases hv
    obtain ⟨k1, k2, k3⟩ := vx_keep h0 e1 hS hA hf hL hF
    obtain ⟨t2, a1, b1⟩ := kk r u t T'.heap (locs ++ L) e1.symm (by rw [← e2]; exact X'.warmed.alike) hp hb k1 k2 k3 T' rfl X'
    exact ⟨t2, st t2 a1, b1⟩
  · obtain ⟨k1, k2, k3⟩ := vx_keep h0 e1 hS hAX hf hL hF
    obtain ⟨t2, a1, b1⟩ := kx E ce q u t T'.heap (locs ++ L) e1.symm (by rw [← e2]; exact X'.warmed.alike) hp hb k1 k2 k3 (by rw [e1]; exact hce) hcv hcl T' rfl X'
    exact ⟨t2, st.trans a1, b1⟩
theorem vx_calll {S SX : Type} {post : Int64 → S → Prop} {px : SX → Prop} {B : S → State → Prop} {BX : String → SX → State → Prop} {AX : Nat → Prop} (hr : vx_Run p l e R s m args below meth c H locs cells slots mc ms (F0 m pc ls st0) rest (va_Ql post B A1 a) (vx_X px BX AX) free) (hS : va_S A0 H0 H locs) (hA : ∀ q, q < H.size → A1 q → A0 q) (hf : ∀ q, free q → A0 q) (hAX : ∀ q, q < H.size → AX q → A0 q)
    (kx : ∀ (E : String) (ce : Cell) (q9 : Addr) (u : SX) (t : State) (H1 : Heap) (locs1 : List Loc), t.heap = H1 → s.vm.Alike t.vm → px u → BX E u t → H.size ≤ H1.size → (∀ q : Nat, q < H.size → ¬ AX q → H1[q]? = H[q]?) → va_S A0 H0 H1 locs1 → H1[q9]? = some ce → ce.vm = .none → s.vm.findClass E = some ce.cls → vx_W p l e R s m args below meth c H1 locs1 (cells + mc) (slots + ms) Q (F0 m pc ls rest) q9)
    (kk : ∀ (r : Int64) (u : S) (t : State) (H1 : Heap) (locs1 : List Loc), t.heap = H1 → s.vm.Alike t.vm → post r u → B u t → H.size ≤ H1.size → (∀ q : Nat, q < H.size → ¬ A1 q → H1[q]? = H[q]?) → va_S A0 H0 H1 locs1 → W p l e R s m args below meth c H1 locs1 (cells + mc) (slots + ms) Q (F0 m (pc + 3) ls (.long r :: rest))) : W p l e R s m args below meth c H locs cells slots Q (F0 m pc ls st0) := by
  intro T hT X
  rcases hr T hT X with ⟨v, st₀, t, T', L, h0, X', hL, e1, e2, ⟨⟨r, u, hv, hp, hb⟩, hF⟩, st⟩ | ⟨q, st₀, t, T', L, E, ce, h0, X', hL, e1, e2, ⟨u, hp, hb, hF⟩, hce, hcv, hcl, st⟩
  · cases hv
    obtain ⟨k1, k2, k3⟩ := vx_keep h0 e1 hS hA hf hL hF
    obtain ⟨t2, a1, b1⟩ := kk r u t T'.heap (locs ++ L) e1.symm (by rw [← e2]; exact X'.warmed.alike) hp hb k1 k2 k3 T' rfl X'
    exact ⟨t2, st t2 a1, b1⟩
  · obtain ⟨k1, k2, k3⟩ := vx_keep h0 e1 hS hAX hf hL hF
    obtain ⟨t2, a1, b1⟩ := kx E ce q u t T'.heap (locs ++ L) e1.symm (by rw [← e2]; exact X'.warmed.alike) hp hb k1 k2 k3 (by rw [e1]; exact hce) hcv hcl T' rfl X'
    exact ⟨t2, st.trans a1, b1⟩
theorem vx_callf {S SX : Type} {post : UInt32 → S → Prop} {px : SX → Prop} {B : S → State → Prop} {BX : String → SX → State → Prop} {AX : Nat → Prop} (hr : vx_Run p l e R s m args below meth c H locs cells slots mc ms (F0 m pc ls st0) rest (va_Qf post B A1 a) (vx_X px BX AX) free) (hS : va_S A0 H0 H locs) (hA : ∀ q, q < H.size → A1 q → A0 q) (hf : ∀ q, free q → A0 q) (hAX : ∀ q, q < H.size → AX q → A0 q)
    (kx : ∀ (E : String) (ce : Cell) (q9 : Addr) (u : SX) (t : State) (H1 : Heap) (locs1 : List Loc), t.heap = H1 → s.vm.Alike t.vm → px u → BX E u t → H.size ≤ H1.size → (∀ q : Nat, q < H.size → ¬ AX q → H1[q]? = H[q]?) → va_S A0 H0 H1 locs1 → H1[q9]? = some ce → ce.vm = .none → s.vm.findClass E = some ce.cls → vx_W p l e R s m args below meth c H1 locs1 (cells + mc) (slots + ms) Q (F0 m pc ls rest) q9)
    (kk : ∀ (r : UInt32) (u : S) (t : State) (H1 : Heap) (locs1 : List Loc), t.heap = H1 → s.vm.Alike t.vm → post r u → B u t → H.size ≤ H1.size → (∀ q : Nat, q < H.size → ¬ A1 q → H1[q]? = H[q]?) → va_S A0 H0 H1 locs1 → W p l e R s m args below meth c H1 locs1 (cells + mc) (slots + ms) Q (F0 m (pc + 3) ls (.float r :: rest))) : W p l e R s m args below meth c H locs cells slots Q (F0 m pc ls st0) := by
  intro T hT X
  rcases hr T hT X with ⟨v, st₀, t, T', L, h0, X', hL, e1, e2, ⟨⟨r, u, hv, hp, hb⟩, hF⟩, st⟩ | ⟨q, st₀, t, T', L, E, ce, h0, X', hL, e1, e2, ⟨u, hp, hb, hF⟩, hce, hcv, hcl, st⟩
  · cases hv
    obtain ⟨k1, k2, k3⟩ := vx_keep h0 e1 hS hA hf hL hF
    obtain ⟨t2, a1, b1⟩ := kk r u t T'.heap (locs ++ L) e1.symm (by rw [← e2]; exact X'.warmed.alike) hp hb k1 k2 k3 T' rfl X'
    exact ⟨t2, st t2 a1, b1⟩
  · obtain ⟨k1, k2, k3⟩ := vx_keep h0 e1 hS hAX hf hL hF
    obtain ⟨t2, a1, b1⟩ := kx E ce q u t T'.heap (locs ++ L) e1.symm (by rw [← e2]; exact X'.warmed.alike) hp hb k1 k2 k3 (by rw [e1]; exact hce) hcv hcl T' rfl X'
    exact ⟨t2, st.trans a1, b1⟩
theorem vx_calld {S SX : Type} {post : UInt64 → S → Prop} {px : SX → Prop} {B : S → State → Prop} {BX : String → SX → State → Prop} {AX : Nat → Prop} (hr : vx_Run p l e R s m args below meth c H locs cells slots mc ms (F0 m pc ls st0) rest (va_Qd post B A1 a) (vx_X px BX AX) free) (hS : va_S A0 H0 H locs) (hA : ∀ q, q < H.size → A1 q → A0 q) (hf : ∀ q, free q → A0 q) (hAX : ∀ q, q < H.size → AX q → A0 q)
    (kx : ∀ (E : String) (ce : Cell) (q9 : Addr) (u : SX) (t : State) (H1 : Heap) (locs1 : List Loc), t.heap = H1 → s.vm.Alike t.vm → px u → BX E u t → H.size ≤ H1.size → (∀ q : Nat, q < H.size → ¬ AX q → H1[q]? = H[q]?) → va_S A0 H0 H1 locs1 → H1[q9]? = some ce → ce.vm = .none → s.vm.findClass E = some ce.cls → vx_W p l e R s m args below meth c H1 locs1 (cells + mc) (slots + ms) Q (F0 m pc ls rest) q9)
    (kk : ∀ (r : UInt64) (u : S) (t : State) (H1 : Heap) (locs1 : List Loc), t.heap = H1 → s.vm.Alike t.vm → post r u → B u t → H.size ≤ H1.size → (∀ q : Nat, q < H.size → ¬ A1 q → H1[q]? = H[q]?) → va_S A0 H0 H1 locs1 → W p l e R s m args below meth c H1 locs1 (cells + mc) (slots + ms) Q (F0 m (pc + 3) ls (.double r :: rest))) : W p l e R s m args below meth c H locs cells slots Q (F0 m pc ls st0) := by
  intro T hT X
  rcases hr T hT X with ⟨v, st₀, t, T', L, h0, X', hL, e1, e2, ⟨⟨r, u, hv, hp, hb⟩, hF⟩, st⟩ | ⟨q, st₀, t, T', L, E, ce, h0, X', hL, e1, e2, ⟨u, hp, hb, hF⟩, hce, hcv, hcl, st⟩
  · cases hv
    obtain ⟨k1, k2, k3⟩ := vx_keep h0 e1 hS hA hf hL hF
    obtain ⟨t2, a1, b1⟩ := kk r u t T'.heap (locs ++ L) e1.symm (by rw [← e2]; exact X'.warmed.alike) hp hb k1 k2 k3 T' rfl X'
    exact ⟨t2, st t2 a1, b1⟩
  · obtain ⟨k1, k2, k3⟩ := vx_keep h0 e1 hS hAX hf hL hF
    obtain ⟨t2, a1, b1⟩ := kx E ce q u t T'.heap (locs ++ L) e1.symm (by rw [← e2]; exact X'.warmed.alike) hp hb k1 k2 k3 (by rw [e1]; exact hce) hcv hcl T' rfl X'
    exact ⟨t2, st.trans a1, b1⟩
theorem vx_callv {S SX : Type} {post : S → Prop} {px : SX → Prop} {B : S → State → Prop} {BX : String → SX → State → Prop} {AX : Nat → Prop} (hr : vx_Run p l e R s m args below meth c H locs cells slots mc ms (F0 m pc ls st0) rest (va_Qv post B A1 a) (vx_X px BX AX) free) (hS : va_S A0 H0 H locs) (hA : ∀ q, q < H.size → A1 q → A0 q) (hf : ∀ q, free q → A0 q) (hAX : ∀ q, q < H.size → AX q → A0 q)
    (kx : ∀ (E : String) (ce : Cell) (q9 : Addr) (u : SX) (t : State) (H1 : Heap) (locs1 : List Loc), t.heap = H1 → s.vm.Alike t.vm → px u → BX E u t → H.size ≤ H1.size → (∀ q : Nat, q < H.size → ¬ AX q → H1[q]? = H[q]?) → va_S A0 H0 H1 locs1 → H1[q9]? = some ce → ce.vm = .none → s.vm.findClass E = some ce.cls → vx_W p l e R s m args below meth c H1 locs1 (cells + mc) (slots + ms) Q (F0 m pc ls rest) q9)
    (kk : ∀ (u : S) (t : State) (H1 : Heap) (locs1 : List Loc), t.heap = H1 → s.vm.Alike t.vm → post u → B u t → H.size ≤ H1.size → (∀ q : Nat, q < H.size → ¬ A1 q → H1[q]? = H[q]?) → va_S A0 H0 H1 locs1 → W p l e R s m args below meth c H1 locs1 (cells + mc) (slots + ms) Q (F0 m (pc + 3) ls (rest))) : W p l e R s m args below meth c H locs cells slots Q (F0 m pc ls st0) := by
  intro T hT X
  rcases hr T hT X with ⟨v, st₀, t, T', L, h0, X', hL, e1, e2, ⟨⟨u, hv, hp, hb⟩, hF⟩, st⟩ | ⟨q, st₀, t, T', L, E, ce, h0, X', hL, e1, e2, ⟨u, hp, hb, hF⟩, hce, hcv, hcl, st⟩
  · cases hv
    obtain ⟨k1, k2, k3⟩ := vx_keep h0 e1 hS hA hf hL hF
    obtain ⟨t2, a1, b1⟩ := kk u t T'.heap (locs ++ L) e1.symm (by rw [← e2]; exact X'.warmed.alike) hp hb k1 k2 k3 T' rfl X'
    exact ⟨t2, st t2 a1, b1⟩
  · obtain ⟨k1, k2, k3⟩ := vx_keep h0 e1 hS hAX hf hL hF
    obtain ⟨t2, a1, b1⟩ := kx E ce q u t T'.heap (locs ++ L) e1.symm (by rw [← e2]; exact X'.warmed.alike) hp hb k1 k2 k3 (by rw [e1]; exact hce) hcv hcl T' rfl X'
    exact ⟨t2, st.trans a1, b1⟩
/-- caught by the row x of this method's table; the rows ahead don't take it -/
theorem vx_catch {own name : String} {E : String} {ce : Cell} {q : Addr} (hown : s.vm.findClass own = some m.cls) (pre : List ExceptionTableEntry) (x : ExceptionTableEntry) (suf : List ExceptionTableEntry) (hsplit : c.exceptionTable.toList = pre ++ x :: suf)
    (hpass : ∀ z ∈ pre, covers z pc = false ∨ (z.catchType ≠ 0 ∧ ∃ nm : String, (Cond.classLink own z.catchType nm).before args s = true ∧ va_Nc E nm s)) (hx : covers x pc = true) (h0 : x.catchType ≠ 0)
    (hlink : (Cond.classLink own x.catchType name).before args s = true) (hcast : (Cond.castable E name).before args s = true) (hcell : H[q]? = some ce) (hv : ce.vm = .none) (hcl : s.vm.findClass E = some ce.cls)
    (kk : W p l e R s m args below meth c H locs cells slots Q (F0 m x.handlerPc ls [.ref q])) : vx_W p l e R s m args below meth c H locs cells slots Q (F0 m pc ls rest) q := by
  intro T hT X
  have hpl : e.platform.magicAccessors = ({} : Platform).magicAccessors := by rw [X.admits.platform]
  obtain ⟨c3, c4, hc3, hc4, hasg⟩ := Cond.castable_spec hcast
  cases Option.some.inj (hc3.symm.trans hcl)
  obtain ⟨c5, hc5, hcl5⟩ := Cond.classLink_spec hown hlink e.platform hpl
  cases Option.some.inj (hc4.symm.trans hc5)
  obtain ⟨vm', X', st⟩ := X.thenCaughtThrough q (g := F0 m pc ls rest) rfl (Steps.refl _) (by rw [hT]; exact hcell) (by rw [hv]; rfl) (by obtain ⟨k9, h9, -⟩ := Vm.findClass_spec hcl; exact ⟨k9, h9⟩) pre x suf hsplit
    (fun z hz => by
      rcases hpass z hz with h | ⟨hz0, nm, hl1, hn1⟩
      · exact Or.inl h
      · obtain ⟨c6, hc6, hcl6⟩ := Cond.classLink_spec hown hl1 e.platform hpl
        obtain ⟨a8, b8, h1, h2, h3⟩ := hn1
        cases Option.some.inj (h1.symm.trans hcl)
        cases Option.some.inj (h2.symm.trans hc6)
        exact Or.inr ⟨hz0, _, hcl6, h3⟩) hx (Or.inr ⟨h0, c4, hcl5, hasg⟩)
  obtain ⟨t, a1, b1⟩ := kk (T.setVm vm') hT X'
  exact ⟨t, st.trans a1, b1⟩
end Rows
section Ends
variable {p : Program} {l : Launch} {e : Env} {R : Room} {s : State} {m : MethodId} {args : Array Value} {below : List Frame} {meth : Method} {c : Code} {H : Heap} {locs : List Loc} {cells slots : Nat} {Q : State → Prop}
variable {mc ms : Nat} {free : Addr → Prop} {A0 A1 : Nat → Prop} {H0 : Heap} {a : Array Value} {ls : Array Slot} {st0 rest : List Value}
variable {Qc : Array Value → State → Outcome → State → Prop} {XC : String → State → State → Prop}
/-- what a body that may throw owes at its end -/
def vx_MQ (below : List Frame) (Qc : Array Value → State → Outcome → State → Prop) (XC : String → State → State → Prop) (a : Array Value) (s : State) (mc ms : Nat) (free : Addr → Prop) : State → Prop := fun t =>
  ∃ o, t.status = .running ∧ Ended t below o ∧ vx_Q Qc XC mc ms free a s o t
theorem vx_ret {g : JFrame} {mc ms : Nat} (k : W p l e R s m args below meth c H locs cells slots (MQ below Qc args s mc ms free) g) : W p l e R s m args below meth c H locs cells slots (vx_MQ below Qc XC args s mc ms free) g := by
  intro T hT X
  obtain ⟨t, a1, o, b1, b2, b3, b4⟩ := k T hT X
  exact ⟨t, a1, o, b1, b2, Or.inl ⟨b3, b4⟩⟩
/-- not caught here: it goes on to the caller -/
theorem vx_widen {g : JFrame} {q : Addr} {k n : Nat} (h1 : cells ≤ k) (h2 : slots ≤ n) (kk : vx_W p l e R s m args below meth c H locs k n Q g q) : vx_W p l e R s m args below meth c H locs cells slots Q g q := fun T hT X => kk T hT (stand_widen X h1 h2)
theorem vx_out {pc : Nat} {E : String} {ce : Cell} {q : Addr} {mc ms : Nat} (hout : ∀ x ∈ c.exceptionTable.toList, covers x pc = false) (hlocks : meth.locks = false) (hcell : H[q]? = some ce) (hv : ce.vm = .none) (hcl : s.vm.findClass E = some ce.cls)
    (hx : ∀ t : State, t.heap = H → s.vm.Alike t.vm → XC E s t) (hf : ∀ z ∈ locs, free z.base) (hc : cells ≤ mc) (hs : slots ≤ ms) :
    vx_W p l e R s m args below meth c H locs cells slots (vx_MQ below Qc XC args s mc ms free) (F0 m pc ls rest) q := by
  intro T hT X
  obtain ⟨st1, hrun, hend, hW, hsm⟩ := X.leaveThrown q (g := F0 m pc ls rest) rfl rfl rfl hout hlocks
  have hcell9 : (T.setFrames (.throwing q :: below)).heap[q]? = some ce := by
    show T.heap[q]? = some ce
    rw [hT]; exact hcell
  exact ⟨_, st1, .threw q, hrun, hend, Or.inr ⟨q, rfl, E, ce, locs, hx _ hT hW.alike, hcell9, hv, hcl, hW, hsm.mono hc hs, hf⟩⟩
theorem vx_frame {U : State} {k n : Nat} (h : s.sameButNew ({ U with vm := s.vm } : State) locs k n) : s.heap.size ≤ U.heap.size ∧ ∀ q : Nat, q < s.heap.size → (∀ z ∈ locs, z.base ≠ q) → U.heap[q]? = s.heap[q]? := by
  obtain ⟨-, h2, -, -, -, h6⟩ := h
  refine ⟨h2, fun q hq hz => ?_⟩
  obtain ⟨c9, e1, e2, e3, e4⟩ := h6 q _ (Array.getElem?_eq_getElem hq)
  have hs : c9.slots = (s.heap[q]).slots := Array.ext_getElem? fun i => e4 i fun hm => hz _ hm rfl
  have h9 : c9 = s.heap[q] := by
    rw [hs] at e2
    exact e2
  have e5 : U.heap[q]? = some c9 := e1
  rw [e5, h9, Array.getElem?_eq_getElem hq]
/-- the words of a throw but the four that speak of the heap -/
def vx_no (w : Cond) : Bool := decide (w ≠ .isRef (.static Bundle.tN "UNASSIGNED_STACK" Bundle.steD)) && decide (w ≠ .isRef (.static Bundle.tN "SUPPRESSED_SENTINEL" Bundle.listD)) && decide (w ≠ .laysStatic Bundle.tN "UNASSIGNED_STACK" Bundle.steD) && decide (w ≠ .laysStatic Bundle.tN "SUPPRESSED_SENTINEL" Bundle.listD)
def vx_at0 (own : String) (ic : Nat) (X : String) (names : List String) : List Cond := (Bundle.ownAtoms0 own ic X names).filter vx_no
def vx_atS (own : String) (ic : Nat) (X : String) (names : List String) : List Cond := (Bundle.ownAtoms own ic X names).filter vx_no
/-- a word that the tables alone decide, or a good one -/
def vx_ot (w : Cond) : Bool := w.onTables || goodWord w
theorem vx_ot_at {args a' : Array Value} {s U : State} {w : Cond} (hW : s.WarmedH U.vm) (hvm : s.vm = U.vm) (hg : vx_ot w = true) (h : w.before args s = true) : w.before a' U = true := by
  simp only [vx_ot, Bool.or_eq_true] at hg
  rcases hg with hg | hg
  · exact va_tabs hg hvm h
  · exact word_at hW (good_of_word hg) h
/-- a list's words: the good ones out of the method's own list, the others by premises of their own -/
theorem vx_hat {args : Array Value} {s : State} {L B : List Cond} (h1 : ∀ w ∈ L.filter goodWord, w.before args s = true) (h2 : ∀ w ∈ L.filter (fun w => !goodWord w), w ∈ B) (h3 : ∀ w ∈ B, w.before args s = true) : ∀ w ∈ L, w.before args s = true := by
  intro w hw
  by_cases g : goodWord w = true
  · exact h1 w (List.mem_filter.mpr ⟨hw, g⟩)
  · refine h3 w (h2 w (List.mem_filter.mpr ⟨hw, ?_⟩))
    show (!goodWord w) = true
    cases hgw : goodWord w
    · rfl
    · exact absurd hgw g
theorem vx_c {args : Array Value} {s : State} {w : Cond} {B : List Cond} (h : w.before args s = true) (t : ∀ w ∈ B, w.before args s = true) : ∀ w' ∈ w :: B, w'.before args s = true := fun w' h' => (List.mem_cons.mp h').elim (fun e => by rw [e]; exact h) (t w')
theorem vx_n {args : Array Value} {s : State} : ∀ w ∈ ([] : List Cond), w.before args s = true := fun _ h => nomatch h
theorem vx_own {args : Array Value} {s : State} {L : List Cond} (h1 : ∀ w ∈ L.filter vx_no, w.before args s = true)
    (hU : (Cond.isRef (.static Bundle.tN "UNASSIGNED_STACK" Bundle.steD)).before args s = true) (hN : (Cond.isRef (.static Bundle.tN "SUPPRESSED_SENTINEL" Bundle.listD)).before args s = true)
    (lU : (Cond.laysStatic Bundle.tN "UNASSIGNED_STACK" Bundle.steD).before args s = true) (lN : (Cond.laysStatic Bundle.tN "SUPPRESSED_SENTINEL" Bundle.listD).before args s = true) : ∀ w ∈ L, w.before args s = true := by
  intro w hw
  by_cases e1 : w = .isRef (.static Bundle.tN "UNASSIGNED_STACK" Bundle.steD)
  · rw [e1]; exact hU
  · by_cases e2 : w = .isRef (.static Bundle.tN "SUPPRESSED_SENTINEL" Bundle.listD)
    · rw [e2]; exact hN
    · by_cases e3 : w = .laysStatic Bundle.tN "UNASSIGNED_STACK" Bundle.steD
      · rw [e3]; exact lU
      · by_cases e4 : w = .laysStatic Bundle.tN "SUPPRESSED_SENTINEL" Bundle.listD
        · rw [e4]; exact lN
        · exact h1 w (List.mem_filter.mpr ⟨hw, by unfold vx_no; rw [decide_eq_true e1, decide_eq_true e2, decide_eq_true e3, decide_eq_true e4]; rfl⟩)
/-- where a static field lies, its class's statics cell in H -/
def vx_L (C n d : String) (A : Nat → Prop) (U : State) (H : Heap) : Prop := ∃ (c : ClassId) (k : Class) (i : Nat) (f : Field) (a : Nat) (cell : Cell), U.vm.findClass C = some c ∧ U.fieldFound? C n d = some (c, k, i, f) ∧ f.isStatic = true ∧ k.statics = some a ∧ H[a]? = some cell ∧ cell.vm.isStatics = true ∧ cell.cls = c ∧ f.slot < cell.slots.size ∧ k.staticTypes[f.slot]? = some f.type ∧ ¬ A a
theorem vx_L.moved {C n d : String} {A : Nat → Prop} {u U : State} {H : Heap} (hvm : u.vm.Alike U.vm) (h : vx_L C n d A u H) : vx_L C n d A U H := by
  obtain ⟨c, k, i, f, a, cell, h1, h2, h3, h4, h5, h6, h7, h8, h9, h10⟩ := h
  obtain ⟨k', hi', he⟩ := State.fieldFound?_setVm hvm h2
  exact ⟨c, k', i, f, a, cell, by rw [hvm.findClass]; exact h1, hi', h3, by rw [he]; exact h4, h5, h6, h7, h8, by rw [he]; exact h9, h10⟩
theorem vx_L.kept {C n d : String} {A : Nat → Prop} {U : State} {H H1 : Heap} (h : vx_L C n d A U H) (hq : ∀ a : Nat, a < H.size → ¬ A a → H1[a]? = H[a]?) : vx_L C n d A U H1 := by
  obtain ⟨c, k, i, f, a, cell, h1, h2, h3, h4, h5, h6, h7, h8, h9, h10⟩ := h
  exact ⟨c, k, i, f, a, cell, h1, h2, h3, h4, by rw [hq a (Array.getElem?_eq_some_iff.mp h5).1 h10]; exact h5, h6, h7, h8, h9, h10⟩
theorem vx_L.narrow {C n d : String} {A B : Nat → Prop} {U : State} {H : Heap} (h : vx_L C n d A U H) (hAB : ∀ q, B q → A q) : vx_L C n d B U H := by
  obtain ⟨c, k, i, f, a, cell, h1, h2, h3, h4, h5, h6, h7, h8, h9, h10⟩ := h
  exact ⟨c, k, i, f, a, cell, h1, h2, h3, h4, h5, h6, h7, h8, h9, fun z => h10 (hAB _ z)⟩
theorem vx_L.word {C n d : String} {A : Nat → Prop} {s : State} {args : Array Value} (h : vx_L C n d A s s.heap) : (Cond.laysStatic C n d).before args s = true := by
  obtain ⟨c, k, i, f, a, cell, h1, h2, h3, h4, h5, h6, h7, h8, h9, -⟩ := h
  show (Cond.laysStatic C n d).holds args s none s [] = true
  exact Cond.laysStatic_of h1 h2 h3 h4 h5 h6 h7 h8 h9
/-- .. and what it holds: null or some reference -/
def vx_Zq (C n d : String) (A : Nat → Prop) (U : State) (H : Heap) : Prop := va_Zq C n d A U H ∧ vx_L C n d A U H
theorem vx_Zq.moved {C n d : String} {A : Nat → Prop} {u U : State} {H : Heap} (hvm : u.vm.Alike U.vm) (h : vx_Zq C n d A u H) : vx_Zq C n d A U H := ⟨va_Zq.moved hvm h.1, vx_L.moved hvm h.2⟩
theorem vx_Zq.kept {C n d : String} {A : Nat → Prop} {U : State} {H H1 : Heap} (h : vx_Zq C n d A U H) (hq : ∀ a : Nat, a < H.size → ¬ A a → H1[a]? = H[a]?) : vx_Zq C n d A U H1 := ⟨va_Zq.kept h.1 hq, vx_L.kept h.2 hq⟩
theorem vx_Zq.narrow {C n d : String} {A B : Nat → Prop} {U : State} {H : Heap} (h : vx_Zq C n d A U H) (hAB : ∀ q, B q → A q) : vx_Zq C n d B U H := ⟨va_Zq.narrow h.1 hAB, vx_L.narrow h.2 hAB⟩
theorem vx_Zqof {args : Array Value} {s : State} {C n d : String} {A : Nat → Prop} (hl : (Cond.laysStatic C n d).before args s = true) (hini : (Cond.initialized C).before args s = true) (h : (Cond.isRef (.static C n d)).before args s = true) (hA : ∀ a : Nat, a < s.heap.size → ¬ A a) : vx_Zq C n d A s s.heap := by
  refine ⟨va_Zqof hl hini h hA, ?_⟩
  obtain ⟨c, k, i, f, a, cell, h1, h2, h3, h4, h5, h6, h7, h8, h9⟩ := Cond.laysStatic_spec hl
  exact ⟨c, k, i, f, a, cell, h1, h2, h3, h4, h5, h6, h7, h8, h9, hA a (Array.getElem?_eq_some_iff.mp h5).1⟩
theorem vx_isRef {C n d : String} {v : Value} {A : Nat → Prop} {s : State} {args : Array Value} (h : va_Z C n d v A s s.heap) (hv : v.isRef = true) : (Cond.isRef (.static C n d)).before args s = true := by
  obtain ⟨cf, kf, fi, f, a, cell, h1, h2, h3, h4, h5, h6, h7, -⟩ := h
  have he : (Term.static C n d).eval args s none [] s = some v := by
    simp [Term.eval, State.fieldNamed?, h1, h2, h4, h5, h6, h7]
  simp only [Cond.before, Cond.holds, Cond.value, he]
  cases v <;> simp_all [Value.isRef]
theorem vx_isRefq {C n d : String} {A : Nat → Prop} {s : State} {args : Array Value} (h : va_Zq C n d A s s.heap) : (Cond.isRef (.static C n d)).before args s = true := by
  rcases h with h | ⟨t, h⟩
  · exact vx_isRef h rfl
  · exact vx_isRef h rfl
/-- the same frame, seen from here: as if the method were called anew in this heap -/
theorem vx_rebase {T : State} (X : Stand p l e R s m args below meth c T locs cells slots) {R' : Room} (hf : R'.frames ≤ R.frames) (hl : R'.locals ≤ R.locals) (hc : cells + R'.cells ≤ R.cells) (hs : slots + R'.slots ≤ R.slots) :
    Stand p l e R' ((T.setVm s.vm).setFrames (.invoking m args :: below)) m args below meth c T [] 0 0 := by
  have htop : (T.setVm s.vm).topJava?.isSome := X.here.top
  have hF : ((T.setVm s.vm).setFrames (.invoking m args :: below)).frames = .invoking m args :: below := State.frames_setFrames _ (State.cur_lt_of_top htop)
  obtain ⟨g₀, hg0⟩ := Option.isSome_iff_exists.mp htop
  obtain ⟨r, hr⟩ := State.topJava?_eq_some.mp hg0
  have hl9 : e.platform.stackLimits (T.setVm s.vm).me = e.platform.stackLimits s.me := X.limits
  have hb9 : (T.setVm s.vm).me.stackBytes = s.me.stackBytes := X.bytes
  refine ⟨X.admits, X.cas, X.clock, hF, ?_, X.hears, X.method, X.code, X.here, X.tail, X.warmed, ?_, ?_, ?_⟩
  · have h := X.room
    have hU : ((T.setVm s.vm).setFrames (.invoking m args :: below)).localsInUse = s.localsInUse := by
      rw [State.localsInUse_invoking hF (meth := meth) (c := c) X.method X.code, State.localsInUse_invoking X.frames X.method X.code]
    simp only [State.hasRoom, Bool.and_eq_true, decide_eq_true_eq] at h ⊢
    obtain ⟨⟨⟨⟨h1, h2, h3, h4, h5, h6⟩, h7⟩, h8⟩, h9⟩ := h
    rw [X.frames, List.length_cons] at h2 h3
    have q1 := X.heapSize
    have q2 := X.used
    simp only [hF, hU, List.length_cons, State.stackLimits_setFrames, State.stackBytes_setFrames, hl9, hb9]
    refine ⟨⟨⟨⟨by omega, by omega, by omega, by omega, by omega, h6⟩, ?_⟩, ?_⟩, X.book⟩
    · show T.heap.size + R'.cells ≤ e.platform.maxCells
      omega
    · show T.slotsUsed + R'.slots ≤ e.platform.maxSlots
      omega
  · rw [State.stackLimits_setFrames]; rfl
  · rw [State.stackBytes_setFrames]; rfl
  · refine ⟨?_, Nat.le_refl _, Nat.le_refl _, ?_, ?_, fun a c9 h9 => ⟨c9, h9, rfl, rfl, fun _ _ => rfl⟩⟩
    · obtain ⟨t, ht, -⟩ := State.frames_cons hr
      show T.setVm s.vm = { ((T.setVm s.vm).setFrames (.invoking m args :: below)).setFrames (T.setVm s.vm).frames with heap := T.heap, slotsUsed := T.slotsUsed }
      rw [State.setFrames_setFrames, State.setFrames_self ht]
      rfl
    · show T.slotsUsed = T.slotsUsed + ((T.heap.toList.drop T.heap.size).map (·.slots.size)).sum
      rw [List.drop_eq_nil_of_le (Nat.le_of_eq Array.length_toList)]
      rfl
    · show ((T.heap.toList.drop T.heap.size).map (·.slots.size)).sum ≤ 0
      rw [List.drop_eq_nil_of_le (Nat.le_of_eq Array.length_toList)]
      exact Nat.le_refl _
/-- 'throw new E()': new; dup; invokespecial; athrow -/
theorem vx_throw0 {cc : ByteArray} {pc : Nat} (hexec : p.tables.exec = Jvm.exec) (hb : c.code = cc) (hl : l.stackTraces = false) {own cls : String} {names : List String} {ik ic mc ms : Nat} {A : Nat → Prop}
    (hown : s.vm.findClass own = some m.cls) (hcls : Bundle.fit cls = true) (hnames : ∀ n ∈ names, Bundle.fit n = true)
    (hk : (Cond.classLink own ik cls).before args s = true) (hini : (Cond.initialized cls).before args s = true) (hat : ∀ w ∈ vx_at0 own ic cls names, w.before args s = true)
    (hgood : ∀ w ∈ Cond.classLink own ik cls :: Cond.initialized cls :: vx_at0 own ic cls names, vx_ot w = true)
    (hU : vx_Zq Bundle.tN "UNASSIGNED_STACK" Bundle.steD A s s.heap) (hN : vx_Zq Bundle.tN "SUPPRESSED_SENTINEL" Bundle.listD A s s.heap) (hS : va_S A s.heap H locs) (hsize : ls.size = c.maxLocals)
    (d0 : decode cc pc = .ok (.new ik, 3)) (d3 : decode cc (pc + 3) = .ok (.dup, 1)) (d4 : decode cc (pc + 4) = .ok (.invokespecial ic, 3)) (d7 : decode cc (pc + 7) = .ok (.athrow, 1))
    (hout : ∀ x ∈ c.exceptionTable.toList, covers x (pc + 7) = false)
    (hRframes : names.length + 3 < R.frames) (hRlocals : (rest.map fun v => v.category).sum + (13 * (names.length + 1) + 42) ≤ R.locals) (hRcells : cells + 1 ≤ R.cells) (hRslots : slots + 6 ≤ R.slots) (hlocks : meth.locks = false)
    (hx : ∀ t : State, s.vm.Alike t.vm → H.size ≤ t.heap.size → (∀ q : Nat, q < H.size → t.heap[q]? = H[q]?) → XC cls s t)
    (hf : ∀ z ∈ locs, free z.base) (hc : cells + 1 ≤ mc) (hs : slots + 6 ≤ ms) :
    W p l e R s m args below meth c H locs cells slots (vx_MQ below Qc XC args s mc ms free) (F0 m pc ls rest) := by
  intro T hT X
  have htr : e.platform.stackTraces = false := (show e.platform.stackTraces = l.stackTraces by rw [X.admits.platform]).trans hl
  have Y := vx_rebase X (R' := { frames := R.frames, locals := R.locals, cells := 1, slots := 6 }) (Nat.le_refl _) (Nat.le_refl _) hRcells hRslots
  obtain ⟨s', hA⟩ : ∃ z, z = (T.setVm s.vm).setFrames (.invoking m args :: below) := ⟨_, rfl⟩
  rw [← hA] at Y
  have hvm : s'.vm = s.vm := by rw [hA]; rfl
  have hhp : s'.heap = H := by rw [hA]; exact hT
  have hW0 : s.WarmedH s'.vm := by rw [hvm]; exact State.WarmedH.refl s
  have hat' : ∀ w ∈ vx_at0 own ic cls names, w.before args s' = true := fun w hw => vx_ot_at hW0 hvm.symm (hgood w (List.mem_cons_of_mem _ (List.mem_cons_of_mem _ hw))) (hat w hw)
  have hk' : (Cond.classLink own ik cls).before args s' = true := vx_ot_at hW0 hvm.symm (hgood _ List.mem_cons_self) hk
  have hini' : (Cond.initialized cls).before args s' = true := vx_ot_at hW0 hvm.symm (hgood _ (List.mem_cons_of_mem _ List.mem_cons_self)) hini
  have hU' : vx_Zq Bundle.tN "UNASSIGNED_STACK" Bundle.steD A s' s'.heap := by rw [hhp]; exact vx_Zq.moved hW0.alike (hU.kept hS.2.1)
  have hN' : vx_Zq Bundle.tN "SUPPRESSED_SENTINEL" Bundle.listD A s' s'.heap := by rw [hhp]; exact vx_Zq.moved hW0.alike (hN.kept hS.2.1)
  have h : ∀ w ∈ Bundle.ownAtoms0 own ic cls names, w.before args s' = true := vx_own hat' (vx_isRefq hU'.1) (vx_isRefq hN'.1) hU'.2.word hN'.2.word
  have hown' : s'.vm.findClass own = some m.cls := by rw [hvm]; exact hown
  have hins : (Cond.instantiable cls 6).before args s' = true := h _ (by simp [Bundle.ownAtoms0])
  obtain ⟨vm₁, cX, kX, hfX, hkX, -, -, X₁, st1⟩ := Y.newCold hexec (own := own) (C := cls) (index := ik) (n := 6) hown' hk' hins hini'
    (g := F0 m pc ls rest) rfl (by rw [hb]; exact d0) (Nat.le_refl _) (Nat.le_refl _)
  generalize hT1 : (T.setVm vm₁).pushCell { cls := cX, slots := kX.instanceTypes.map defaultValue, vm := .none } = T1 at X₁ st1
  have hcat : (Value.ref T.heap.size).category = 1 := rfl
  have hcellA : T1.heap[T.heap.size]? = some (freshCell cX kX) := by rw [← hT1]; exact State.heap_pushCell_size _ _
  have d3' : decode c.code (pc + 3) = .ok (.dup, 1) := by rw [hb]; exact d3
  obtain ⟨U, hsteps, hrun, hend, hW, hsame, ce, hce, hO⟩ := X₁.ctorThrow0 hexec htr (own := own) (cls := cls) (names := names) (ic := ic) hown' hcls hnames h (fun x hx => nomatch hx) hfX hkX hcellA (by rw [hhp, hT]; exact Nat.le_refl _)
    (g := { method := m, pc := pc + 4, locals := ls, stack := .ref T.heap.size :: .ref T.heap.size :: rest, locked := none }) rfl hsize rfl rfl (rest := rest) rfl
    (by rw [hb]; exact d4) (by rw [hb]; exact d7) hout hRframes (by simp only [List.map_cons, List.sum_cons, hcat]; omega) hlocks
  obtain ⟨f1, f2⟩ := vx_frame hsame
  rw [hhp] at f1 f2
  have hWs : s.WarmedH U.vm := State.WarmedH.trans hW0 hW
  have hcl : s.vm.findClass cls = some ce.cls := by
    have h9 := hO.cls
    rw [hvm] at h9
    exact h9
  have hall : s.sameButNew ({ U with vm := s.vm } : State) locs mc ms := by
    subst hA
    obtain ⟨e1, e2⟩ := hsame
    rw [State.setFrames_setFrames] at e1
    have h2 : (T.setVm s.vm).sameButNew ({ U with vm := s.vm } : State) [] (0 + 1) (0 + 6) := ⟨e1, e2⟩
    have h3 := X.same.trans h2
    rw [List.append_nil] at h3
    exact h3.mono hc hs
  refine ⟨U, ?_, .threw T.heap.size, hrun, hend, Or.inr ⟨T.heap.size, rfl, cls, ce, locs, hx U hWs.alike f1 (fun q hq => f2 q hq (fun z hz => nomatch hz)), hce, hO.vm, hcl, hWs, hall, hf⟩⟩
  refine st1 _ ?_
  show Steps p.tables e below (T1.setTop { method := m, pc := pc + 3, locals := ls, stack := .ref T.heap.size :: rest, locked := none }) _
  jvm_step X₁.here [X₁.here.top, hexec, d3', Value.category]
  exact hsteps
/-- 'throw new E("text")': new; dup; ldc; invokespecial; athrow -/
theorem vx_throwS {cc : ByteArray} {pc : Nat} (hexec : p.tables.exec = Jvm.exec) (hb : c.code = cc) (hl : l.stackTraces = false) {own cls text : String} {names : List String} {ik is ic mc ms sa : Nat} {A : Nat → Prop}
    (hown : s.vm.findClass own = some m.cls) (hcls : Bundle.fit cls = true) (hnames : ∀ n ∈ names, Bundle.fit n = true)
    (hk : (Cond.classLink own ik cls).before args s = true) (hini : (Cond.initialized cls).before args s = true) (hstr : vk_R own is text sa s) (hat : ∀ w ∈ vx_atS own ic cls names, w.before args s = true)
    (hgood : ∀ w ∈ Cond.classLink own ik cls :: Cond.initialized cls :: vx_atS own ic cls names, vx_ot w = true)
    (hU : vx_Zq Bundle.tN "UNASSIGNED_STACK" Bundle.steD A s s.heap) (hN : vx_Zq Bundle.tN "SUPPRESSED_SENTINEL" Bundle.listD A s s.heap) (hS : va_S A s.heap H locs) (hsize : ls.size = c.maxLocals)
    (d0 : decode cc pc = .ok (.new ik, 3)) (d3 : decode cc (pc + 3) = .ok (.dup, 1)) (d4 : decode cc (pc + 4) = .ok (.ldc is, 2)) (d6 : decode cc (pc + 6) = .ok (.invokespecial ic, 3)) (d9 : decode cc (pc + 9) = .ok (.athrow, 1))
    (hout : ∀ x ∈ c.exceptionTable.toList, covers x (pc + 9) = false)
    (hRframes : names.length + 3 < R.frames) (hRlocals : (rest.map fun v => v.category).sum + (13 * (names.length + 1) + 43) ≤ R.locals) (hRcells : cells + 1 ≤ R.cells) (hRslots : slots + 6 ≤ R.slots) (hlocks : meth.locks = false)
    (hx : ∀ t : State, s.vm.Alike t.vm → H.size ≤ t.heap.size → (∀ q : Nat, q < H.size → t.heap[q]? = H[q]?) → XC cls s t)
    (hf : ∀ z ∈ locs, free z.base) (hc : cells + 1 ≤ mc) (hs : slots + 6 ≤ ms) :
    W p l e R s m args below meth c H locs cells slots (vx_MQ below Qc XC args s mc ms free) (F0 m pc ls rest) := by
  intro T hT X
  have htr : e.platform.stackTraces = false := (show e.platform.stackTraces = l.stackTraces by rw [X.admits.platform]).trans hl
  have Y := vx_rebase X (R' := { frames := R.frames, locals := R.locals, cells := 1, slots := 6 }) (Nat.le_refl _) (Nat.le_refl _) hRcells hRslots
  obtain ⟨s', hA⟩ : ∃ z, z = (T.setVm s.vm).setFrames (.invoking m args :: below) := ⟨_, rfl⟩
  rw [← hA] at Y
  have hvm : s'.vm = s.vm := by rw [hA]; rfl
  have hhp : s'.heap = H := by rw [hA]; exact hT
  have hW0 : s.WarmedH s'.vm := by rw [hvm]; exact State.WarmedH.refl s
  have hat' : ∀ w ∈ vx_atS own ic cls names, w.before args s' = true := fun w hw => vx_ot_at hW0 hvm.symm (hgood w (List.mem_cons_of_mem _ (List.mem_cons_of_mem _ hw))) (hat w hw)
  have hk' : (Cond.classLink own ik cls).before args s' = true := vx_ot_at hW0 hvm.symm (hgood _ List.mem_cons_self) hk
  have hini' : (Cond.initialized cls).before args s' = true := vx_ot_at hW0 hvm.symm (hgood _ (List.mem_cons_of_mem _ List.mem_cons_self)) hini
  have hU' : vx_Zq Bundle.tN "UNASSIGNED_STACK" Bundle.steD A s' s'.heap := by rw [hhp]; exact vx_Zq.moved hW0.alike (hU.kept hS.2.1)
  have hN' : vx_Zq Bundle.tN "SUPPRESSED_SENTINEL" Bundle.listD A s' s'.heap := by rw [hhp]; exact vx_Zq.moved hW0.alike (hN.kept hS.2.1)
  have h : ∀ w ∈ Bundle.ownAtoms own ic cls names, w.before args s' = true := vx_own hat' (vx_isRefq hU'.1) (vx_isRefq hN'.1) hU'.2.word hN'.2.word
  have hown' : s'.vm.findClass own = some m.cls := by rw [hvm]; exact hown
  have hins : (Cond.instantiable cls 6).before args s' = true := h _ (by simp [Bundle.ownAtoms])
  obtain ⟨vm₁, cX, kX, hfX, hkX, -, -, X₁, st1⟩ := Y.newCold hexec (own := own) (C := cls) (index := ik) (n := 6) hown' hk' hins hini'
    (g := F0 m pc ls rest) rfl (by rw [hb]; exact d0) (Nat.le_refl _) (Nat.le_refl _)
  generalize hT1 : (T.setVm vm₁).pushCell { cls := cX, slots := kX.instanceTypes.map defaultValue, vm := .none } = T1 at X₁ st1
  have hcat : (Value.ref T.heap.size).category = 1 := rfl
  have hcellA : T1.heap[T.heap.size]? = some (freshCell cX kX) := by rw [← hT1]; exact State.heap_pushCell_size _ _
  have d3' : decode c.code (pc + 3) = .ok (.dup, 1) := by rw [hb]; exact d3
  have d4' : decode c.code (pc + 4) = .ok (.ldc is, 2) := by rw [hb]; exact d4
  have hstr' : vk_R own is text sa s' := vk_R.warm hW0 hstr
  obtain ⟨U, hsteps, hrun, hend, hW, hsame, ce, hce, hO⟩ := X₁.ctorThrowS hexec htr (own := own) (cls := cls) (names := names) (ic := ic) hown' hcls hnames h (fun x hx => nomatch hx) hfX hkX hcellA (by rw [hhp, hT]; exact Nat.le_refl _) (msg := .ref sa) rfl
    (g := { method := m, pc := pc + 6, locals := ls, stack := .ref sa :: .ref T.heap.size :: .ref T.heap.size :: rest, locked := none }) rfl hsize rfl rfl (rest := rest) rfl
    (by rw [hb]; exact d6) (by rw [hb]; exact d9) hout hRframes (by simp only [List.map_cons, List.sum_cons, hcat]; omega) hlocks
  obtain ⟨f1, f2⟩ := vx_frame hsame
  rw [hhp] at f1 f2
  have hWs : s.WarmedH U.vm := State.WarmedH.trans hW0 hW
  have hcl : s.vm.findClass cls = some ce.cls := by
    have h9 := hO.cls
    rw [hvm] at h9
    exact h9
  have hall : s.sameButNew ({ U with vm := s.vm } : State) locs mc ms := by
    subst hA
    obtain ⟨e1, e2⟩ := hsame
    rw [State.setFrames_setFrames] at e1
    have h2 : (T.setVm s.vm).sameButNew ({ U with vm := s.vm } : State) [] (0 + 1) (0 + 6) := ⟨e1, e2⟩
    have h3 := X.same.trans h2
    rw [List.append_nil] at h3
    exact h3.mono hc hs
  refine ⟨U, ?_, .threw T.heap.size, hrun, hend, Or.inr ⟨T.heap.size, rfl, cls, ce, locs, hx U hWs.alike f1 (fun q hq => f2 q hq (fun z hz => nomatch hz)), hce, hO.vm, hcl, hWs, hall, hf⟩⟩
  refine st1 _ ?_
  show Steps p.tables e below (T1.setTop { method := m, pc := pc + 3, locals := ls, stack := .ref T.heap.size :: rest, locked := none }) _
  jvm_step X₁.here [X₁.here.top, hexec, d3', Value.category]
  exact X₁.ldcString hexec (own := own) (text := text) (index := is) (a := sa) hown' hstr'.1 hstr'.2
    (g := { method := m, pc := pc + 4, locals := ls, stack := .ref T.heap.size :: .ref T.heap.size :: rest, locked := none }) rfl d4' _ hsteps
/-- 'throw new E("text")', the text by a wide index -/
theorem vx_throwSW {cc : ByteArray} {pc : Nat} (hexec : p.tables.exec = Jvm.exec) (hb : c.code = cc) (hl : l.stackTraces = false) {own cls text : String} {names : List String} {ik is ic mc ms sa : Nat} {A : Nat → Prop}
    (hown : s.vm.findClass own = some m.cls) (hcls : Bundle.fit cls = true) (hnames : ∀ n ∈ names, Bundle.fit n = true)
    (hk : (Cond.classLink own ik cls).before args s = true) (hini : (Cond.initialized cls).before args s = true) (hstr : vk_R own is text sa s) (hat : ∀ w ∈ vx_atS own ic cls names, w.before args s = true)
    (hgood : ∀ w ∈ Cond.classLink own ik cls :: Cond.initialized cls :: vx_atS own ic cls names, vx_ot w = true)
    (hU : vx_Zq Bundle.tN "UNASSIGNED_STACK" Bundle.steD A s s.heap) (hN : vx_Zq Bundle.tN "SUPPRESSED_SENTINEL" Bundle.listD A s s.heap) (hS : va_S A s.heap H locs) (hsize : ls.size = c.maxLocals)
    (d0 : decode cc pc = .ok (.new ik, 3)) (d3 : decode cc (pc + 3) = .ok (.dup, 1)) (d4 : decode cc (pc + 4) = .ok (.ldc_w is, 3)) (d7 : decode cc (pc + 7) = .ok (.invokespecial ic, 3)) (d10 : decode cc (pc + 10) = .ok (.athrow, 1))
    (hout : ∀ x ∈ c.exceptionTable.toList, covers x (pc + 10) = false)
    (hRframes : names.length + 3 < R.frames) (hRlocals : (rest.map fun v => v.category).sum + (13 * (names.length + 1) + 43) ≤ R.locals) (hRcells : cells + 1 ≤ R.cells) (hRslots : slots + 6 ≤ R.slots) (hlocks : meth.locks = false)
    (hx : ∀ t : State, s.vm.Alike t.vm → H.size ≤ t.heap.size → (∀ q : Nat, q < H.size → t.heap[q]? = H[q]?) → XC cls s t)
    (hf : ∀ z ∈ locs, free z.base) (hc : cells + 1 ≤ mc) (hs : slots + 6 ≤ ms) :
    W p l e R s m args below meth c H locs cells slots (vx_MQ below Qc XC args s mc ms free) (F0 m pc ls rest) := by
  intro T hT X
  have htr : e.platform.stackTraces = false := (show e.platform.stackTraces = l.stackTraces by rw [X.admits.platform]).trans hl
  have Y := vx_rebase X (R' := { frames := R.frames, locals := R.locals, cells := 1, slots := 6 }) (Nat.le_refl _) (Nat.le_refl _) hRcells hRslots
  obtain ⟨s', hA⟩ : ∃ z, z = (T.setVm s.vm).setFrames (.invoking m args :: below) := ⟨_, rfl⟩
  rw [← hA] at Y
  have hvm : s'.vm = s.vm := by rw [hA]; rfl
  have hhp : s'.heap = H := by rw [hA]; exact hT
  have hW0 : s.WarmedH s'.vm := by rw [hvm]; exact State.WarmedH.refl s
  have hat' : ∀ w ∈ vx_atS own ic cls names, w.before args s' = true := fun w hw => vx_ot_at hW0 hvm.symm (hgood w (List.mem_cons_of_mem _ (List.mem_cons_of_mem _ hw))) (hat w hw)
  have hk' : (Cond.classLink own ik cls).before args s' = true := vx_ot_at hW0 hvm.symm (hgood _ List.mem_cons_self) hk
  have hini' : (Cond.initialized cls).before args s' = true := vx_ot_at hW0 hvm.symm (hgood _ (List.mem_cons_of_mem _ List.mem_cons_self)) hini
  have hU' : vx_Zq Bundle.tN "UNASSIGNED_STACK" Bundle.steD A s' s'.heap := by rw [hhp]; exact vx_Zq.moved hW0.alike (hU.kept hS.2.1)
  have hN' : vx_Zq Bundle.tN "SUPPRESSED_SENTINEL" Bundle.listD A s' s'.heap := by rw [hhp]; exact vx_Zq.moved hW0.alike (hN.kept hS.2.1)
  have h : ∀ w ∈ Bundle.ownAtoms own ic cls names, w.before args s' = true := vx_own hat' (vx_isRefq hU'.1) (vx_isRefq hN'.1) hU'.2.word hN'.2.word
  have hown' : s'.vm.findClass own = some m.cls := by rw [hvm]; exact hown
  have hins : (Cond.instantiable cls 6).before args s' = true := h _ (by simp [Bundle.ownAtoms])
  obtain ⟨vm₁, cX, kX, hfX, hkX, -, -, X₁, st1⟩ := Y.newCold hexec (own := own) (C := cls) (index := ik) (n := 6) hown' hk' hins hini'
    (g := F0 m pc ls rest) rfl (by rw [hb]; exact d0) (Nat.le_refl _) (Nat.le_refl _)
  generalize hT1 : (T.setVm vm₁).pushCell { cls := cX, slots := kX.instanceTypes.map defaultValue, vm := .none } = T1 at X₁ st1
  have hcat : (Value.ref T.heap.size).category = 1 := rfl
  have hcellA : T1.heap[T.heap.size]? = some (freshCell cX kX) := by rw [← hT1]; exact State.heap_pushCell_size _ _
  have d3' : decode c.code (pc + 3) = .ok (.dup, 1) := by rw [hb]; exact d3
  have d4' : decode c.code (pc + 4) = .ok (.ldc_w is, 3) := by rw [hb]; exact d4
  have hstr' : vk_R own is text sa s' := vk_R.warm hW0 hstr
  obtain ⟨U, hsteps, hrun, hend, hW, hsame, ce, hce, hO⟩ := X₁.ctorThrowS hexec htr (own := own) (cls := cls) (names := names) (ic := ic) hown' hcls hnames h (fun x hx => nomatch hx) hfX hkX hcellA (by rw [hhp, hT]; exact Nat.le_refl _) (msg := .ref sa) rfl
    (g := { method := m, pc := pc + 7, locals := ls, stack := .ref sa :: .ref T.heap.size :: .ref T.heap.size :: rest, locked := none }) rfl hsize rfl rfl (rest := rest) rfl
    (by rw [hb]; exact d7) (by rw [hb]; exact d10) hout hRframes (by simp only [List.map_cons, List.sum_cons, hcat]; omega) hlocks
  obtain ⟨f1, f2⟩ := vx_frame hsame
  rw [hhp] at f1 f2
  have hWs : s.WarmedH U.vm := State.WarmedH.trans hW0 hW
  have hcl : s.vm.findClass cls = some ce.cls := by
    have h9 := hO.cls
    rw [hvm] at h9
    exact h9
  have hall : s.sameButNew ({ U with vm := s.vm } : State) locs mc ms := by
    subst hA
    obtain ⟨e1, e2⟩ := hsame
    rw [State.setFrames_setFrames] at e1
    have h2 : (T.setVm s.vm).sameButNew ({ U with vm := s.vm } : State) [] (0 + 1) (0 + 6) := ⟨e1, e2⟩
    have h3 := X.same.trans h2
    rw [List.append_nil] at h3
    exact h3.mono hc hs
  refine ⟨U, ?_, .threw T.heap.size, hrun, hend, Or.inr ⟨T.heap.size, rfl, cls, ce, locs, hx U hWs.alike f1 (fun q hq => f2 q hq (fun z hz => nomatch hz)), hce, hO.vm, hcl, hWs, hall, hf⟩⟩
  refine st1 _ ?_
  show Steps p.tables e below (T1.setTop { method := m, pc := pc + 3, locals := ls, stack := .ref T.heap.size :: rest, locked := none }) _
  jvm_step X₁.here [X₁.here.top, hexec, d3', Value.category]
  exact X₁.ldcStringW hexec (own := own) (text := text) (index := is) (a := sa) hown' hstr'.1 hstr'.2
    (g := { method := m, pc := pc + 4, locals := ls, stack := .ref T.heap.size :: .ref T.heap.size :: rest, locked := none }) rfl d4' _ hsteps
end Ends
section Bodies
variable {l : Launch}
theorem vx_ofW {y : MethodName} {ws ws' : List Cond} {rm : Room} {Pc : Array Value → State → Prop} {Qc : Array Value → State → Outcome → State → Prop} {XC : String → State → State → Prop} {mc ms : Nat} {free : Addr → Prop} {cc : ByteArray} {maxL : Nat} {ret : Option FieldType}
    (hy : plainName y.cls = true) (hw : ws = Cond.code y cc maxL ret :: ws')
    (body : ∀ p e s m args below meth c s₁, BodyLoose p l y (headSpec ws rm) cc maxL ret e s m args below meth c s₁ → c.maxLocals = maxL → (∀ x ∈ c.exceptionTable.toList, False) → Pc args s →
      W p l e (headSpec ws rm).room s m args below meth c s.heap [] 0 0 (vx_MQ below Qc XC args s mc ms free) (entryFrame m args maxL)) : vx_Met l y ws rm Pc Qc XC mc ms free := by
  refine MetFree.of_bodyS (code := cc) (maxLocals := maxL) (ret := ret) hy ?_ ?_
  · intro args s m h hn
    obtain ⟨meth, c, h1, h2, h3, h4, h5, h6, -, -⟩ := Cond.code_spec hn (atoms_spec (ws := ws) h _ (by rw [hw]; exact List.mem_cons_self))
    exact ⟨meth, c, h1, h2, h3, h4, h5, h6⟩
  · intro p e s m args below meth c s₁ B hml hP _
    have hh0 : s₁.heap = s.heap := by rw [B.state]; rfl
    have ht : ∀ x ∈ c.exceptionTable.toList, False := by
      obtain ⟨meth9, c9, h1, h2, -, -, -, -, h7, -⟩ := Cond.code_spec B.named (atoms_spec (ws := ws) B.pre _ (by rw [hw]; exact List.mem_cons_self))
      cases Option.some.inj (h1.symm.trans B.method)
      cases Option.some.inj (h2.symm.trans (Stand.of_body B).code)
      intro x hx
      rw [Array.isEmpty_iff.mp h7] at hx
      cases hx
    obtain ⟨t, a1, o, b1, b2, b3⟩ := body p e s m args below meth c s₁ B hml ht hP s₁ hh0 (Stand.of_body B)
    exact ⟨t, o, a1, b1, b2, b3⟩
/-- the table of a body with handlers -/
theorem vx_table {p : Program} {x y : MethodName} {S : Spec} {cc bytes : ByteArray} {maxL maxL' : Nat} {ret ret' : Option FieldType} {e : Env} {s s₁ : State} {m : MethodId} {args : Array Value} {below : List Frame} {meth : Method} {c : Code} {hh : List (Nat × Nat × Nat × Nat)}
    (B : BodyLoose p l y S cc maxL ret e s m args below meth c s₁) (h : (Cond.codeWith y bytes maxL' ret' hh).before args s = true) : c.exceptionTable.toList = tableOf hh := by
  obtain ⟨m9, meth9, c9, hn9, h1, h2, -, -, h6, -⟩ := Cond.codeWith_spec h
  cases Option.some.inj (hn9.symm.trans B.named)
  cases Option.some.inj (h1.symm.trans B.method)
  cases Option.some.inj (h2.symm.trans (Stand.of_body B).code)
  rw [← h6, table_eq]
end Bodies
end VXA
/-! ===== END ===== -/
/-! ===== BEGIN a static call of a method with an exception table ===== -/
section VXS
variable {p : Program} {l : Launch} {e : Env} {R : Room} {s : State} {m : MethodId} {args : Array Value} {below : List Frame} {meth : Method} {c : Code} {T : State} {H : Heap} {locs : List Loc} {cells slots : Nat}
abbrev vx_CSW (R : Room) (s : State) (args : Array Value) (own : String) (index : Nat) (y : MethodName) (bytes : ByteArray) (maxL : Nat) (ret : Option FieldType) (hh : List (Nat × Nat × Nat × Nat)) (ws : List Cond) (rm : Room) (mc ms n : Nat) : Prop :=
  (rm.cells = mc ∧ rm.slots = ms ∧ rm.frames + 1 ≤ R.frames ∧ 8 + (maxL + 11) + rm.locals ≤ R.locals ∧ (∀ w ∈ ws, ∀ (a' : Array Value) (U : State), s.WarmedH U.vm → w.before a' U = true) ∧ Cond.codeWith y bytes maxL ret hh ∈ ws) ∧
  (Cond.codeWith y bytes maxL ret hh).before args s = true ∧ (Cond.initialized y.cls).before args s = true ∧ (y.cls ≠ "java/lang/invoke/MethodHandle" ∧ y.cls ≠ "java/lang/invoke/VarHandle") ∧
  (∀ sig, parseMethodDescriptor y.desc = some sig → n = sig.parameters.length) ∧ (Cond.methodLink own index y).before args s = true ∧ (Cond.static y).before args s = true
theorem vx_cwSW {own : String} {index maxL mc ms : Nat} {y : MethodName} {bytes : ByteArray} {ret : Option FieldType} {hh : List (Nat × Nat × Nat × Nat)} {Ts ws ws' : List Cond} {rm : Room} (n : Nat) (ht : ∀ w ∈ Ts, w.before args s = true) (hT : GoodIn Ts (va_wsS own index y ws)) (hw : ws = Cond.codeWith y bytes maxL ret hh :: ws') (hrc : rm.cells = mc) (hrs : rm.slots = ms)
    (hd : y.cls ≠ "java/lang/invoke/MethodHandle" ∧ y.cls ≠ "java/lang/invoke/VarHandle" ∧ (parseMethodDescriptor y.desc).map (fun d => d.parameters.length) = some n) (hR : rm.frames + 1 ≤ R.frames ∧ 8 + (maxL + 11) + rm.locals ≤ R.locals) :
    vx_CSW R s args own index y bytes maxL ret hh ws rm mc ms n := by
  have ok : ∀ w ∈ va_wsS own index y ws, w.before args s = true := fun w h => ht w (hT w h).1
  have hG : GoodIn Ts ws := fun w h => hT w (by unfold va_wsS; exact List.mem_append_right _ h)
  have hc : Cond.codeWith y bytes maxL ret hh ∈ ws := by rw [hw]; exact List.mem_cons_self
  refine ⟨⟨hrc, hrs, hR.1, hR.2, pay_in ht hG, hc⟩, ht _ (hG _ hc).1, ok _ (by simp [va_wsS]), ⟨hd.1, hd.2.1⟩, fun sig h => ?_, ok _ (by simp [va_wsS]), ok _ (by simp [va_wsS])⟩
  have h2 := hd.2.2
  rw [h] at h2
  exact (Option.some.inj h2).symm
theorem vx_callSW (X : Stand p l e R s m args below meth c T locs cells slots) (hexec : p.tables.exec = Jvm.exec) {own : String} {index : Nat} {y : MethodName} {bytes : ByteArray} {maxL : Nat} {ret : Option FieldType} {hh : List (Nat × Nat × Nat × Nat)}
    (hown : s.vm.findClass own = some m.cls) (hlink : (Cond.methodLink own index y).before args s = true) (hstat : (Cond.static y).before args s = true) (hinit : (Cond.initialized y.cls).before args s = true)
    (hcode : (Cond.codeWith y bytes maxL ret hh).before args s = true) (hy : y.cls ≠ "java/lang/invoke/MethodHandle" ∧ y.cls ≠ "java/lang/invoke/VarHandle")
    {W9 : Nat} {Pre : Pt → Array Value → Prop} {Post : Pt → Array Value → Option Value → Pt → Prop} (hK : Back l R p e below s args y 3 W9 Pre Post)
    {g : JFrame} (hg : g.method = m) (hsize : g.locals.size = c.maxLocals) {argsL rest : List Value} (hlen : ∀ sig, parseMethodDescriptor y.desc = some sig → argsL.length = sig.parameters.length)
    (hstack : g.stack = argsL.reverse ++ rest) (hW : 2 * g.monitorRoom + (rest.map fun v => v.category).sum ≤ W9) (hdg : decode c.code g.pc = .ok (.invokestatic index, 3))
    (hpre : ∀ vm₁, s.WarmedH vm₁ → Pre ⟨T.setVm vm₁, locs, cells, slots⟩ argsL.toArray) :
    ∃ (v : Option Value) (vm₁ : Vm) (B : Pt), s.WarmedH vm₁ ∧ Stand p l e R s m args below meth c B.U B.locs B.cells B.slots ∧ Post ⟨T.setVm vm₁, locs, cells, slots⟩ argsL.toArray v B ∧
      ∀ target, Steps p.tables e below (B.U.setTop { g with pc := g.pc + 3, stack := v.toList ++ rest }) target → Steps p.tables e below (T.setTop g) target := by
  obtain ⟨mk, methM, cM, hnamed, hmethM, -, -, -, -, -, -, hsigM⟩ := Cond.codeWith_spec hcode
  have hstatic : methM.isStatic = true := Cond.static_spec hnamed hmethM hstat
  obtain ⟨kP, hkP, -⟩ := className_of_methodNamed hnamed
  have hinitP : kP.init = .initialized := Cond.initialized_spec (findClass_of_methodNamed hnamed) hkP hinit
  obtain ⟨vm₁, X₁, hstep₁⟩ := X.invokestatic hexec hown hlink hnamed hmethM hstatic hkP hinitP hy (g := g) hg (argsL := argsL) (rest := rest) (hlen _ hsigM) hstack hdg
  obtain ⟨v, B, X', hpost, hsteps⟩ := hK m meth c ⟨T.setVm vm₁, locs, cells, slots⟩ { g with stack := rest } (.invokestatic index) mk argsL.toArray X₁ hg hsize hdg hW (X₁.named hnamed) (hpre vm₁ X₁.warmed)
  exact ⟨v, vm₁, B, X₁.warmed, X', hpost, fun target h => hstep₁ _ fun acts => by rw [doInvoke_state]; exact hsteps.trans h⟩
theorem vx_runSW {y : MethodName} {bytes cc : ByteArray} {maxL nL mc ms n index : Nat} {ret : Option FieldType} {hh : List (Nat × Nat × Nat × Nat)} {ws : List Cond} {rm : Room} {Pc : Array Value → State → Prop} {Qc : Array Value → State → Outcome → State → Prop} {free : Addr → Prop} {Ts : List Cond} {own : String} {As rest : List Value} {g : JFrame}
    (S : CallFix p m c cc nL s args Ts own) (hM : Met l y ws rm Pc Qc mc ms free) (cw : vx_CSW R s args own index y bytes maxL ret hh ws rm mc ms n) (hp : PreS s H Pc As)
    (hg : g.method = m) (hn : As.length = n) (hsize : g.locals.size = nL) (hstack : g.stack = As.reverse ++ rest) (hW : 2 * g.monitorRoom + (rest.map fun v => v.category).sum ≤ 8) (hdg : decode cc g.pc = .ok (.invokestatic index, 3)) (hf : cells + mc ≤ R.cells ∧ slots + ms ≤ R.slots) :
    va_Run p l e R s m args below meth c H locs cells slots mc ms g rest (Qc As.toArray) (free) := by
  obtain ⟨⟨hrc, hrs, hfr, hlo, hws, hcw⟩, hcode, hini, hy, hlen, hl, hstt⟩ := cw
  have hK : Back l R p e below s args y 3 8 (PreOf R mc ms Pc) (PostOf Qc mc ms free) := va_backW (hh := hh) (bytes := bytes) (maxL := maxL) (ret := ret) hM hp.1 hrc hrs hfr hlo hws hcw (fun a' U hW => word_at hW (Or.inl (by first | rfl | simp [Cond.onTables, Cond.keeps, Cond.steady])) hini)
  obtain ⟨hx, hb, hml, ho, -⟩ := S
  intro T hT X
  obtain ⟨v, vm₁, ⟨U', l2, c2, s2⟩, hW₁, X', ⟨g', mk, t, L, e1, e2, hq, h1, hL, h2, h3⟩, st⟩ := vx_callSW X hx (hh := hh) (bytes := bytes) (maxL := maxL) (ret := ret) ho hl hstt hini hcode hy hK hg (hsize.trans hml.symm) (argsL := As) (rest := rest) (fun sig h => hn.trans (hlen sig h)) hstack hW (by rw [hb]; exact hdg)
    (fun vm₁ hW₁ => ⟨hf.1, hf.2, hp.2 (T.setVm vm₁) hT hW₁⟩)
  dsimp only [Pt.U, Pt.locs, Pt.cells, Pt.slots] at X' e1 e2 h1 h2 h3 st
  subst h1; subst h2; subst h3
  exact ⟨v, (T.setVm vm₁).calling g' mk As.toArray, t, U', L, hT, X', hL, e1, e2, hq, st⟩
/-- not caught here, past rows that name other classes: it goes on to the caller -/
theorem vx_outP {p : Program} {l : Launch} {e : Env} {R : Room} {s : State} {m : MethodId} {args : Array Value} {below : List Frame} {meth : Method} {c : Code} {H : Heap} {locs : List Loc} {cells slots : Nat} {free : Addr → Prop} {ls : Array Slot} {rest : List Value} {Qc : Array Value → State → Outcome → State → Prop} {XC : String → State → State → Prop}
    {pc : Nat} {own E : String} {ce : Cell} {q : Addr} {mc ms : Nat} (hown : s.vm.findClass own = some m.cls) (hlocks : meth.locks = false)
    (hpass : ∀ z ∈ c.exceptionTable.toList, covers z pc = false ∨ (z.catchType ≠ 0 ∧ ∃ nm : String, (Cond.classLink own z.catchType nm).before args s = true ∧ va_Nc E nm s)) (hcell : H[q]? = some ce) (hv : ce.vm = .none) (hcl : s.vm.findClass E = some ce.cls)
    (hx : ∀ t : State, t.heap = H → s.vm.Alike t.vm → XC E s t) (hf : ∀ z ∈ locs, free z.base) (hc : cells ≤ mc) (hs : slots ≤ ms) :
    vx_W p l e R s m args below meth c H locs cells slots (vx_MQ below Qc XC args s mc ms free) (F0 m pc ls rest) q := by
  intro T hT X
  have hpl : e.platform.magicAccessors = ({} : Platform).magicAccessors := by rw [X.admits.platform]
  obtain ⟨vm', hW', X', st⟩ := X.outThrough hlocks q (g := F0 m pc ls rest) rfl rfl rfl (cell := ce) (by rw [hT]; exact hcell) (by rw [hv]; rfl)
    (by obtain ⟨k9, h9, -⟩ := Vm.findClass_spec hcl; exact ⟨k9, h9⟩) (fun z hz => by
      rcases hpass z hz with h | ⟨hz0, nm, hl1, hn1⟩
      · exact Or.inl h
      · obtain ⟨c6, hc6, hcl6⟩ := Cond.classLink_spec hown hl1 e.platform hpl
        obtain ⟨a8, b8, h1, h2, h3⟩ := hn1
        cases Option.some.inj (h1.symm.trans hcl)
        cases Option.some.inj (h2.symm.trans hc6)
        exact Or.inr ⟨hz0, _, hcl6, h3⟩)
  obtain ⟨g₀, hfr⟩ := X'.frames_eq
  have hcell9 : ((T.setVm vm').setFrames (.throwing q :: below)).heap[q]? = some ce := by
    show T.heap[q]? = some ce
    rw [hT]; exact hcell
  have hend : Ended ((T.setVm vm').setFrames (.throwing q :: below)) below (.threw q) := State.frames_setFrames _ (State.cur_lt_of_frames hfr)
  refine ⟨(T.setVm vm').setFrames (.throwing q :: below), ?_, .threw q, X'.here.running, hend, Or.inr ⟨q, rfl, E, ce, locs, hx _ hT (X'.ends _).1.alike, hcell9, hv, hcl, (X'.ends _).1, (X'.ends _).2.mono hc hs, hf⟩⟩
  rw [X.pushThrowing_eq]
  exact st
/-- a thing of a world lies in the heap -/
theorem vx_lt {D : va_G} {cl : List vw_C} {ws : va_W} {H1 : Heap} (h : va_P D cl ws H1) {k : Nat} {q : Nat × va_E} (hk : ws[k]? = some q) : q.1 < H1.size := (h k q hk).lt
end VXS
/-! ===== END ===== -/
/-! ===== BEGIN methods with a table of their own: called by a name, returning or throwing ===== -/
section VXH
/-! vx_backW, vx_callVX, vx_callSX, vx_callVW, vx_runVW, vx_runVX, vx_runSX, vx_ofWH follow the same proofs as their sisters above (Free/Laws.lean, Shelf42/LK1.lean); vx_outP calls Shelf42/NT130.lean (outThrough). -/
section
variable {l : Launch} {R : Room} {p : Program} {e : Env} {below : List Frame} {s : State} {sargs : Array Value} {y : MethodName} {len W9 : Nat}
theorem vx_backW {ws : List Cond} {rm : Room} {Pc : Array Value → State → Prop} {Qc : Array Value → State → Outcome → State → Prop} {XC : String → State → State → Prop} {mc ms : Nat} {free : Addr → Prop} {bytes : ByteArray} {maxL : Nat} {ret : Option FieldType} {hh : List (Nat × Nat × Nat × Nat)}
    (hM : vx_Met l y ws rm Pc Qc XC mc ms free) (hblind : FrameBlind Pc) (hrc : rm.cells = mc) (hrs : rm.slots = ms)
    (hframes : rm.frames + 1 ≤ R.frames) (hlocals : W9 + (maxL + 11) + rm.locals ≤ R.locals)
    (hws : ∀ w ∈ ws, ∀ a' U, s.WarmedH U.vm → w.before a' U = true) (hcode : Cond.codeWith y bytes maxL ret hh ∈ ws) (hinit : ∀ a' U, s.WarmedH U.vm → (Cond.initialized y.cls).before a' U = true) :
    vx_Back l R p e below s sargs y len W9 (PreOf R mc ms Pc) (PostOf Qc mc ms free) (vx_Post XC mc ms free) := by
  intro m meth c A g ig mk a X hg hsize hdg hW hn hp
  have h1 : (headSpec ws rm).pre.before a A.U = true := atoms_intro fun w hw => hws w hw _ _ X.warmed
  have h2 : (Cond.codeWith y bytes maxL ret hh).before a A.U = true := hws _ hcode _ _ X.warmed
  have h3 : (Cond.initialized y.cls).before a A.U = true := hinit _ _ X.warmed
  have h4 : A.cells + (headSpec ws rm).room.cells ≤ R.cells := by rw [show (headSpec ws rm).room.cells = mc from hrc]; exact hp.1
  have h5 : A.slots + (headSpec ws rm).room.slots ≤ R.slots := by rw [show (headSpec ws rm).room.slots = ms from hrs]; exact hp.2.1
  have hPc : Pc a (A.U.calling g mk a) := hblind _ _ _ _ hp.2.2
  obtain ⟨U, Ls, c0, s0⟩ := A
  dsimp only [Pt.U, Pt.locs, Pt.cells, Pt.slots] at h1 h2 h3 h4 h5 X hn hPc ⊢
  obtain ⟨m9, methY, cY, hn9, hmY, hcY, -, hlY, -⟩ := Cond.codeWith_spec h2
  cases Option.some.inj (hn9.symm.trans hn)
  obtain ⟨kY, hkY, -⟩ := className_of_methodNamed hn
  have hinitY : kY.init = .initialized := Cond.initialized_spec (findClass_of_methodNamed hn) hkY h3
  have h : At U g.method c below := by rw [hg]; exact X.here
  have hlocals9 : W9 + (maxL + 11) + (headSpec ws rm).room.locals ≤ R.locals := hlocals
  have happ : (headSpec ws rm).appliesLoose y e.platform (U.calling g mk a) = true :=
    Spec.appliesLoose_calling (g := g) h hdg hn hkY hinitY
      (X.room_calling (g := g) (R' := (headSpec ws rm).room) hsize hmY hcY hframes (by rw [hlY]; omega) h4 h5) h1
  obtain ⟨mid, hmid⟩ := h.above
  have hfr : (U.setTop g).frames = (.java g :: mid) ++ below := by rw [State.frames_setTop' g h.top, hmid]; rfl
  obtain ⟨o, s₂, hsteps, -, hend, hq⟩ := Steps.callFree hM p X.admits X.cas X.clock (acts := []) hfr happ hPc trivial
  have hq' : vx_Q Qc XC mc ms free a (U.calling g mk a) o s₂ := hq
  rw [State.frames_setTop' g h.top] at hend
  obtain ⟨g₀, hg0⟩ := Option.isSome_iff_exists.mp h.top
  obtain ⟨r, hr⟩ := State.topJava?_eq_some.mp hg0
  have hr' : (({ U with heap := s₂.heap, slotsUsed := s₂.slotsUsed } : State).setVm s₂.vm).frames = .java g₀ :: r := hr
  rcases hq' with ⟨hqc, L, hfe, hL⟩ | ⟨q, rfl, E, ce, L, hx, hce, hcv, hcl, hW₂, hsm, hL⟩
  · obtain ⟨⟨v, rfl⟩, hW₂, e2, q2, q3, q4, q5, q6⟩ := id hfe
    have e3 : s₂ = ({ (U.calling g mk a).setFrames s₂.frames with heap := s₂.heap, slotsUsed := s₂.slotsUsed } : State).setVm s₂.vm := by
      have : s₂ = ({ s₂ with vm := (U.calling g mk a).vm } : State).setVm s₂.vm := rfl
      rw [e2] at this
      exact this
    obtain ⟨c₂, i₂, len₂, hc₂, hd₂, hf₂⟩ := hend
    have hW' : U.WarmedH s₂.vm := hW₂
    have hcc : c₂ = c := by
      have h1 : s₂.code? g.method = U.code? g.method := by
        rw [State.code?_eq, State.code?_eq, hW'.alike.method?]
      exact Option.some.inj (hc₂.symm.trans (h1.trans h.code))
    subst hcc
    have hlen : len₂ = len := by rw [hdg] at hd₂; cases hd₂; rfl
    subst hlen
    have hs₂ : s₂ = (({ U with heap := s₂.heap, slotsUsed := s₂.slotsUsed } : State).setVm s₂.vm).setTop { g with pc := g.pc + len₂, stack := v.toList ++ g.stack } := by
      refine e3.trans ?_
      rw [hf₂, State.calling_eq h.top, State.setFrames_setFrames, State.setTop_of_frames _ hr', hr]
      rfl
    have hsame : U.sameButNew ({ U with heap := s₂.heap, slotsUsed := s₂.slotsUsed } : State) L mc ms := by
      refine ⟨?_, q2, q3, q4, q5, q6⟩
      obtain ⟨t, ht, -⟩ := State.frames_cons hr
      show ({ U with heap := s₂.heap, slotsUsed := s₂.slotsUsed } : State) = { U.setFrames U.frames with heap := s₂.heap, slotsUsed := s₂.slotsUsed }
      rw [State.setFrames_self ht]
    subst hg
    refine Or.inl ⟨v, ⟨(({ U with heap := s₂.heap, slotsUsed := s₂.slotsUsed } : State).setVm s₂.vm), Ls ++ L, c0 + mc, s0 + ms⟩,
      ⟨X.admits, X.cas, X.clock, X.frames, X.room, X.hears, X.method, X.code, (X.here.setHeapUsed s₂.heap s₂.slotsUsed).setVm hW'.alike, X.tail, State.WarmedH.trans X.warmed hW', X.limits, X.bytes, X.same.trans (hsame.setVm s.vm)⟩,
      ⟨g, mk, s₂, L, rfl, rfl, hqc, rfl, hL, rfl, rfl⟩, ?_⟩
    show Steps p.tables e below _ ((({ U with heap := s₂.heap, slotsUsed := s₂.slotsUsed } : State).setVm s₂.vm).setTop { g with pc := g.pc + len₂, stack := v.toList ++ g.stack })
    rw [← hs₂]
    exact hsteps
  · obtain ⟨e2, q2, q3, q4, q5, q6⟩ := id hsm
    have e3 : s₂ = ({ (U.calling g mk a).setFrames s₂.frames with heap := s₂.heap, slotsUsed := s₂.slotsUsed } : State).setVm s₂.vm := by
      have : s₂ = ({ s₂ with vm := (U.calling g mk a).vm } : State).setVm s₂.vm := rfl
      rw [e2] at this
      exact this
    have hf₂ : s₂.frames = .throwing q :: .java g :: U.frames.tail := hend
    have hW' : U.WarmedH s₂.vm := hW₂
    have hs₂ : s₂ = ((({ U with heap := s₂.heap, slotsUsed := s₂.slotsUsed } : State).setVm s₂.vm).setTop g).pushFrame (.throwing q) := by
      refine e3.trans ?_
      rw [hf₂, State.calling_eq h.top, State.setFrames_setFrames, State.pushFrame, State.frames_setTop _ hr', State.setTop_of_frames _ hr', State.setFrames_setFrames, hr]
      rfl
    have hsame : U.sameButNew ({ U with heap := s₂.heap, slotsUsed := s₂.slotsUsed } : State) L mc ms := by
      refine ⟨?_, q2, q3, q4, q5, q6⟩
      obtain ⟨t, ht, -⟩ := State.frames_cons hr
      show ({ U with heap := s₂.heap, slotsUsed := s₂.slotsUsed } : State) = { U.setFrames U.frames with heap := s₂.heap, slotsUsed := s₂.slotsUsed }
      rw [State.setFrames_self ht]
    subst hg
    refine Or.inr ⟨q, ⟨(({ U with heap := s₂.heap, slotsUsed := s₂.slotsUsed } : State).setVm s₂.vm), Ls ++ L, c0 + mc, s0 + ms⟩,
      ⟨X.admits, X.cas, X.clock, X.frames, X.room, X.hears, X.method, X.code, (X.here.setHeapUsed s₂.heap s₂.slotsUsed).setVm hW'.alike, X.tail, State.WarmedH.trans X.warmed hW', X.limits, X.bytes, X.same.trans (hsame.setVm s.vm)⟩,
      ⟨g, mk, s₂, L, E, ce, rfl, rfl, hx, hce, hcv, hcl, rfl, hL, rfl, rfl⟩, ?_⟩
    show Steps p.tables e below _ (((({ U with heap := s₂.heap, slotsUsed := s₂.slotsUsed } : State).setVm s₂.vm).setTop g).pushFrame (.throwing q))
    rw [← hs₂]
    exact hsteps
end
variable {p : Program} {l : Launch} {e : Env} {R : Room} {s : State} {m : MethodId} {args : Array Value} {below : List Frame} {meth : Method} {c : Code} {T : State} {H : Heap} {locs : List Loc} {cells slots : Nat}
theorem vx_callVX (X : Stand p l e R s m args below meth c T locs cells slots) (hexec : p.tables.exec = Jvm.exec) {own C : String} {index : Nat} {y : MethodName} {bytes : ByteArray} {maxL : Nat} {ret : Option FieldType} {hh : List (Nat × Nat × Nat × Nat)}
    (hown : s.vm.findClass own = some m.cls) (hlink : (Cond.methodLink own index y).before args s = true) (hinst : (Cond.instanceMethod y).before args s = true) (hsel : (Cond.selects C y y).before args s = true)
    (hcode : (Cond.codeWith y bytes maxL ret hh).before args s = true) (hy : y.cls ≠ "java/lang/invoke/MethodHandle" ∧ y.cls ≠ "java/lang/invoke/VarHandle")
    {W9 : Nat} {Pre : Pt → Array Value → Prop} {Post : Pt → Array Value → Option Value → Pt → Prop} {PostX : Pt → Array Value → Addr → Pt → Prop} (hK : vx_Back l R p e below s args y 3 W9 Pre Post PostX)
    {b : Addr} {cellB : Cell} (hcell : T.heap[b]? = some cellB) (hobj : cellB.vm.isStatics = false) (hcls : s.vm.findClass C = some cellB.cls)
    {g : JFrame} (hg : g.method = m) (hsize : g.locals.size = c.maxLocals) {argsL rest : List Value} (hlen : ∀ sig, parseMethodDescriptor y.desc = some sig → argsL.length = sig.parameters.length)
    (hstack : g.stack = argsL.reverse ++ .ref b :: rest) (hW : 2 * g.monitorRoom + (rest.map fun v => v.category).sum ≤ W9) (hdg : decode c.code g.pc = .ok (.invokevirtual index, 3))
    (hpre : ∀ vm₁, s.WarmedH vm₁ → Pre ⟨T.setVm vm₁, locs, cells, slots⟩ (Value.ref b :: argsL).toArray) :
    (∃ (v : Option Value) (vm₁ : Vm) (B : Pt), s.WarmedH vm₁ ∧ Stand p l e R s m args below meth c B.U B.locs B.cells B.slots ∧ Post ⟨T.setVm vm₁, locs, cells, slots⟩ (Value.ref b :: argsL).toArray v B ∧
      ∀ target, Steps p.tables e below (B.U.setTop { g with pc := g.pc + 3, stack := v.toList ++ rest }) target → Steps p.tables e below (T.setTop g) target) ∨
    (∃ (q : Addr) (vm₁ : Vm) (B : Pt), s.WarmedH vm₁ ∧ Stand p l e R s m args below meth c B.U B.locs B.cells B.slots ∧ PostX ⟨T.setVm vm₁, locs, cells, slots⟩ (Value.ref b :: argsL).toArray q B ∧
      Steps p.tables e below (T.setTop g) ((B.U.setTop { g with stack := rest }).pushFrame (.throwing q))) := by
  obtain ⟨mk, methM, hnamed, hmethM, hstM, habM⟩ := Cond.instanceMethod_spec hinst
  obtain ⟨m8, methM', cM, hn8, hmethM', -, -, -, -, -, -, hsigM⟩ := Cond.codeWith_spec hcode
  cases Option.some.inj (hn8.symm.trans hnamed)
  cases hmethM.symm.trans hmethM'
  obtain ⟨c2, r2, m2, q1, q2, q3, q4, kP, hkP, hkPi⟩ := Cond.selects_spec hsel
  cases hcls.symm.trans q1
  cases (State.methodFound?_of_named hnamed hy).symm.trans q2
  cases hnamed.symm.trans q3
  have hselP : selectMethod e.platform s.vm cellB.cls mk = .method mk := by rw [Launch.admits_selectMethod X.admits]; exact q4
  obtain ⟨vm₁, X₁, hstep₁⟩ := X.invokevirtual hexec hown hlink hnamed hmethM hstM hkP hkPi hy (a := b) (cell := cellB) hcell
    (fun z h => by rw [h] at hobj; cases hobj) hselP hmethM habM hkP hkPi (g := g) hg (argsL := argsL) (rest := rest) (hlen _ hsigM) hstack hdg
  rcases hK m meth c ⟨T.setVm vm₁, locs, cells, slots⟩ { g with stack := rest } (.invokevirtual index) mk (Value.ref b :: argsL).toArray X₁ hg hsize hdg hW (X₁.named hnamed) (hpre vm₁ X₁.warmed) with ⟨v, B, X', hpost, hsteps⟩ | ⟨q, B, X', hpost, hsteps⟩
  · exact Or.inl ⟨v, vm₁, B, X₁.warmed, X', hpost, fun target h => hstep₁ _ fun acts => by rw [doInvoke_state]; exact hsteps.trans h⟩
  · exact Or.inr ⟨q, vm₁, B, X₁.warmed, X', hpost, hstep₁ _ fun acts => by rw [doInvoke_state]; exact hsteps⟩
theorem vx_callSX (X : Stand p l e R s m args below meth c T locs cells slots) (hexec : p.tables.exec = Jvm.exec) {own : String} {index : Nat} {y : MethodName} {bytes : ByteArray} {maxL : Nat} {ret : Option FieldType} {hh : List (Nat × Nat × Nat × Nat)}
    (hown : s.vm.findClass own = some m.cls) (hlink : (Cond.methodLink own index y).before args s = true) (hstat : (Cond.static y).before args s = true) (hinit : (Cond.initialized y.cls).before args s = true)
    (hcode : (Cond.codeWith y bytes maxL ret hh).before args s = true) (hy : y.cls ≠ "java/lang/invoke/MethodHandle" ∧ y.cls ≠ "java/lang/invoke/VarHandle")
    {W9 : Nat} {Pre : Pt → Array Value → Prop} {Post : Pt → Array Value → Option Value → Pt → Prop} {PostX : Pt → Array Value → Addr → Pt → Prop} (hK : vx_Back l R p e below s args y 3 W9 Pre Post PostX)
    {g : JFrame} (hg : g.method = m) (hsize : g.locals.size = c.maxLocals) {argsL rest : List Value} (hlen : ∀ sig, parseMethodDescriptor y.desc = some sig → argsL.length = sig.parameters.length)
    (hstack : g.stack = argsL.reverse ++ rest) (hW : 2 * g.monitorRoom + (rest.map fun v => v.category).sum ≤ W9) (hdg : decode c.code g.pc = .ok (.invokestatic index, 3))
    (hpre : ∀ vm₁, s.WarmedH vm₁ → Pre ⟨T.setVm vm₁, locs, cells, slots⟩ argsL.toArray) :
    (∃ (v : Option Value) (vm₁ : Vm) (B : Pt), s.WarmedH vm₁ ∧ Stand p l e R s m args below meth c B.U B.locs B.cells B.slots ∧ Post ⟨T.setVm vm₁, locs, cells, slots⟩ argsL.toArray v B ∧
      ∀ target, Steps p.tables e below (B.U.setTop { g with pc := g.pc + 3, stack := v.toList ++ rest }) target → Steps p.tables e below (T.setTop g) target) ∨
    (∃ (q : Addr) (vm₁ : Vm) (B : Pt), s.WarmedH vm₁ ∧ Stand p l e R s m args below meth c B.U B.locs B.cells B.slots ∧ PostX ⟨T.setVm vm₁, locs, cells, slots⟩ argsL.toArray q B ∧
      Steps p.tables e below (T.setTop g) ((B.U.setTop { g with stack := rest }).pushFrame (.throwing q))) := by
  obtain ⟨mk, methM, cM, hnamed, hmethM, -, -, -, -, -, -, hsigM⟩ := Cond.codeWith_spec hcode
  have hstatic : methM.isStatic = true := Cond.static_spec hnamed hmethM hstat
  obtain ⟨kP, hkP, -⟩ := className_of_methodNamed hnamed
  have hinitP : kP.init = .initialized := Cond.initialized_spec (findClass_of_methodNamed hnamed) hkP hinit
  obtain ⟨vm₁, X₁, hstep₁⟩ := X.invokestatic hexec hown hlink hnamed hmethM hstatic hkP hinitP hy (g := g) hg (argsL := argsL) (rest := rest) (hlen _ hsigM) hstack hdg
  rcases hK m meth c ⟨T.setVm vm₁, locs, cells, slots⟩ { g with stack := rest } (.invokestatic index) mk argsL.toArray X₁ hg hsize hdg hW (X₁.named hnamed) (hpre vm₁ X₁.warmed) with ⟨v, B, X', hpost, hsteps⟩ | ⟨q, B, X', hpost, hsteps⟩
  · exact Or.inl ⟨v, vm₁, B, X₁.warmed, X', hpost, fun target h => hstep₁ _ fun acts => by rw [doInvoke_state]; exact hsteps.trans h⟩
  · exact Or.inr ⟨q, vm₁, B, X₁.warmed, X', hpost, hstep₁ _ fun acts => by rw [doInvoke_state]; exact hsteps⟩
theorem vx_callVW (X : Stand p l e R s m args below meth c T locs cells slots) (hexec : p.tables.exec = Jvm.exec) {own C : String} {index : Nat} {y : MethodName} {bytes : ByteArray} {maxL : Nat} {ret : Option FieldType} {hh : List (Nat × Nat × Nat × Nat)}
    (hown : s.vm.findClass own = some m.cls) (hlink : (Cond.methodLink own index y).before args s = true) (hinst : (Cond.instanceMethod y).before args s = true) (hsel : (Cond.selects C y y).before args s = true)
    (hcode : (Cond.codeWith y bytes maxL ret hh).before args s = true) (hy : y.cls ≠ "java/lang/invoke/MethodHandle" ∧ y.cls ≠ "java/lang/invoke/VarHandle")
    {W9 : Nat} {Pre : Pt → Array Value → Prop} {Post : Pt → Array Value → Option Value → Pt → Prop} (hK : Back l R p e below s args y 3 W9 Pre Post)
    {b : Addr} {cellB : Cell} (hcell : T.heap[b]? = some cellB) (hobj : cellB.vm.isStatics = false) (hcls : s.vm.findClass C = some cellB.cls)
    {g : JFrame} (hg : g.method = m) (hsize : g.locals.size = c.maxLocals) {argsL rest : List Value} (hlen : ∀ sig, parseMethodDescriptor y.desc = some sig → argsL.length = sig.parameters.length)
    (hstack : g.stack = argsL.reverse ++ .ref b :: rest) (hW : 2 * g.monitorRoom + (rest.map fun v => v.category).sum ≤ W9) (hdg : decode c.code g.pc = .ok (.invokevirtual index, 3))
    (hpre : ∀ vm₁, s.WarmedH vm₁ → Pre ⟨T.setVm vm₁, locs, cells, slots⟩ (Value.ref b :: argsL).toArray) :
    ∃ (v : Option Value) (vm₁ : Vm) (B : Pt), s.WarmedH vm₁ ∧ Stand p l e R s m args below meth c B.U B.locs B.cells B.slots ∧ Post ⟨T.setVm vm₁, locs, cells, slots⟩ (Value.ref b :: argsL).toArray v B ∧
      ∀ target, Steps p.tables e below (B.U.setTop { g with pc := g.pc + 3, stack := v.toList ++ rest }) target → Steps p.tables e below (T.setTop g) target := by
  obtain ⟨mk, methM, hnamed, hmethM, hstM, habM⟩ := Cond.instanceMethod_spec hinst
  obtain ⟨m8, methM', cM, hn8, hmethM', -, -, -, -, -, -, hsigM⟩ := Cond.codeWith_spec hcode
  cases Option.some.inj (hn8.symm.trans hnamed)
  cases hmethM.symm.trans hmethM'
  obtain ⟨c2, r2, m2, q1, q2, q3, q4, kP, hkP, hkPi⟩ := Cond.selects_spec hsel
  cases hcls.symm.trans q1
  cases (State.methodFound?_of_named hnamed hy).symm.trans q2
  cases hnamed.symm.trans q3
  have hselP : selectMethod e.platform s.vm cellB.cls mk = .method mk := by rw [Launch.admits_selectMethod X.admits]; exact q4
  obtain ⟨vm₁, X₁, hstep₁⟩ := X.invokevirtual hexec hown hlink hnamed hmethM hstM hkP hkPi hy (a := b) (cell := cellB) hcell
    (fun z h => by rw [h] at hobj; cases hobj) hselP hmethM habM hkP hkPi (g := g) hg (argsL := argsL) (rest := rest) (hlen _ hsigM) hstack hdg
  obtain ⟨v, B, X', hpost, hsteps⟩ := hK m meth c ⟨T.setVm vm₁, locs, cells, slots⟩ { g with stack := rest } (.invokevirtual index) mk (Value.ref b :: argsL).toArray X₁ hg hsize hdg hW (X₁.named hnamed) (hpre vm₁ X₁.warmed)
  exact ⟨v, vm₁, B, X₁.warmed, X', hpost, fun target h => hstep₁ _ fun acts => by rw [doInvoke_state]; exact hsteps.trans h⟩
abbrev vx_CVW (R : Room) (s : State) (args : Array Value) (own C : String) (index : Nat) (y : MethodName) (bytes : ByteArray) (maxL : Nat) (ret : Option FieldType) (hh : List (Nat × Nat × Nat × Nat)) (ws : List Cond) (rm : Room) (mc ms n : Nat) : Prop :=
  (rm.cells = mc ∧ rm.slots = ms ∧ rm.frames + 1 ≤ R.frames ∧ 8 + (maxL + 11) + rm.locals ≤ R.locals ∧ (∀ w ∈ ws, ∀ (a' : Array Value) (U : State), s.WarmedH U.vm → w.before a' U = true) ∧ Cond.codeWith y bytes maxL ret hh ∈ ws) ∧
  (Cond.codeWith y bytes maxL ret hh).before args s = true ∧ (Cond.initialized y.cls).before args s = true ∧ (y.cls ≠ "java/lang/invoke/MethodHandle" ∧ y.cls ≠ "java/lang/invoke/VarHandle") ∧
  (∀ sig, parseMethodDescriptor y.desc = some sig → n = sig.parameters.length) ∧ (Cond.methodLink own index y).before args s = true ∧ (Cond.instanceMethod y).before args s = true ∧ (Cond.selects C y y).before args s = true
theorem vx_cwVW {own C : String} {index maxL mc ms : Nat} {y : MethodName} {bytes : ByteArray} {ret : Option FieldType} {hh : List (Nat × Nat × Nat × Nat)} {Ts ws ws' : List Cond} {rm : Room} (n : Nat) (ht : ∀ w ∈ Ts, w.before args s = true) (hT : GoodIn Ts (wsV own index C y ws)) (hw : ws = Cond.codeWith y bytes maxL ret hh :: ws') (hrc : rm.cells = mc) (hrs : rm.slots = ms)
    (hd : y.cls = C ∧ y.cls ≠ "java/lang/invoke/MethodHandle" ∧ y.cls ≠ "java/lang/invoke/VarHandle" ∧ (parseMethodDescriptor y.desc).map (fun d => d.parameters.length) = some n) (hR : rm.frames + 1 ≤ R.frames ∧ 8 + (maxL + 11) + rm.locals ≤ R.locals) :
    vx_CVW R s args own C index y bytes maxL ret hh ws rm mc ms n := by
  obtain ⟨hC, hd⟩ := hd
  subst hC
  have ok : ∀ w ∈ wsV own index y.cls y ws, w.before args s = true := fun w h => ht w (hT w h).1
  have hG : GoodIn Ts ws := fun w h => hT w (by unfold wsV; exact List.mem_append_right _ h)
  have hc : Cond.codeWith y bytes maxL ret hh ∈ ws := by rw [hw]; exact List.mem_cons_self
  refine ⟨⟨hrc, hrs, hR.1, hR.2, pay_in ht hG, hc⟩, ht _ (hG _ hc).1, ok _ (by simp [wsV]), ⟨hd.1, hd.2.1⟩, fun sig h => ?_, ok _ (by simp [wsV]), ok _ (by simp [wsV]), ok _ (by simp [wsV])⟩
  have h2 := hd.2.2
  rw [h] at h2
  exact (Option.some.inj h2).symm
theorem vx_runVW {y : MethodName} {bytes cc : ByteArray} {maxL nL mc ms n index : Nat} {ret : Option FieldType} {hh : List (Nat × Nat × Nat × Nat)} {ws : List Cond} {rm : Room} {Pc : Array Value → State → Prop} {Qc : Array Value → State → Outcome → State → Prop} {free : Addr → Prop} {Ts : List Cond} {own C : String} {b : Addr} {As rest : List Value} {g : JFrame}
    (S : CallFix p m c cc nL s args Ts own) (hM : Met l y ws rm Pc Qc mc ms free) (cw : vx_CVW R s args own C index y bytes maxL ret hh ws rm mc ms n) (hp : PreV s H C b Pc As)
    (hg : g.method = m) (hn : As.length = n) (hsize : g.locals.size = nL) (hstack : g.stack = As.reverse ++ .ref b :: rest) (hW : 2 * g.monitorRoom + (rest.map fun v => v.category).sum ≤ 8) (hdg : decode cc g.pc = .ok (.invokevirtual index, 3)) (hf : cells + mc ≤ R.cells ∧ slots + ms ≤ R.slots) :
    va_Run p l e R s m args below meth c H locs cells slots mc ms g rest (Qc (Value.ref b :: As).toArray) free := by
  obtain ⟨⟨hrc, hrs, hfr, hlo, hws, hcw⟩, hcode, hini, hy, hlen, hl, hin, hse⟩ := cw
  have hK : Back l R p e below s args y 3 8 (PreOf R mc ms Pc) (PostOf Qc mc ms free) := va_backW (hh := hh) (bytes := bytes) (maxL := maxL) (ret := ret) hM hp.1 hrc hrs hfr hlo hws hcw (fun a' U hW => word_at hW (Or.inl (by first | rfl | simp [Cond.onTables, Cond.keeps, Cond.steady])) hini)
  obtain ⟨hx, hb, hml, ho, -⟩ := S
  obtain ⟨-, ⟨cellB, hcB, hoB, hclB⟩, hPc⟩ := hp
  intro T hT X
  obtain ⟨v, vm₁, ⟨U', l2, c2, s2⟩, hW₁, X', ⟨g', mk, t, L, e1, e2, hq, h1, hL, h2, h3⟩, st⟩ := vx_callVW X hx (C := C) (hh := hh) (bytes := bytes) (maxL := maxL) (ret := ret) ho hl hin hse hcode hy hK (by rw [hT]; exact hcB) hoB hclB hg (hsize.trans hml.symm) (argsL := As) (rest := rest) (fun sig h => hn.trans (hlen sig h)) hstack hW (by rw [hb]; exact hdg)
    (fun vm₁ hW₁ => ⟨hf.1, hf.2, hPc (T.setVm vm₁) hT hW₁⟩)
  dsimp only [Pt.U, Pt.locs, Pt.cells, Pt.slots] at X' e1 e2 h1 h2 h3 st
  subst h1; subst h2; subst h3
  exact ⟨v, (T.setVm vm₁).calling g' mk (Value.ref b :: As).toArray, t, U', L, hT, X', hL, e1, e2, hq, st⟩
section
variable {y : MethodName} {bytes cc : ByteArray} {maxL nL mc ms n index : Nat} {ret : Option FieldType} {ws : List Cond} {rm : Room} {Pc : Array Value → State → Prop} {Qc : Array Value → State → Outcome → State → Prop} {XC : String → State → State → Prop} {free : Addr → Prop} {Ts : List Cond} {own C : String} {b : Addr} {As rest : List Value} {g : JFrame}
theorem vx_runVX {hh : List (Nat × Nat × Nat × Nat)} (S : CallFix p m c cc nL s args Ts own) (hM : vx_Met l y ws rm Pc Qc XC mc ms free) (cw : vx_CVW R s args own C index y bytes maxL ret hh ws rm mc ms n) (hp : PreV s H C b Pc As)
    (hg : g.method = m) (hn : As.length = n) (hsize : g.locals.size = nL) (hstack : g.stack = As.reverse ++ .ref b :: rest) (hW : 2 * g.monitorRoom + (rest.map fun v => v.category).sum ≤ 8) (hdg : decode cc g.pc = .ok (.invokevirtual index, 3)) (hf : cells + mc ≤ R.cells ∧ slots + ms ≤ R.slots) :
    vx_Run p l e R s m args below meth c H locs cells slots mc ms g rest (Qc (Value.ref b :: As).toArray) XC free := by
  obtain ⟨⟨hrc, hrs, hfr, hlo, hws, hcw⟩, hcode, hini, hy, hlen, hl, hin, hse⟩ := cw
  have hK : vx_Back l R p e below s args y 3 8 (PreOf R mc ms Pc) (PostOf Qc mc ms free) (vx_Post XC mc ms free) := vx_backW (hh := hh) (bytes := bytes) (maxL := maxL) (ret := ret) hM hp.1 hrc hrs hfr hlo hws hcw (fun a' U hW => word_at hW (Or.inl (by first | rfl | simp [Cond.onTables, Cond.keeps, Cond.steady])) hini)
  obtain ⟨hx, hb, hml, ho, -⟩ := S
  obtain ⟨-, ⟨cellB, hcB, hoB, hclB⟩, hPc⟩ := hp
  intro T hT X
  rcases vx_callVX X hx (C := C) (hh := hh) (bytes := bytes) (maxL := maxL) (ret := ret) ho hl hin hse hcode hy hK (by rw [hT]; exact hcB) hoB hclB hg (hsize.trans hml.symm) (argsL := As) (rest := rest) (fun sig h => hn.trans (hlen sig h)) hstack hW (by rw [hb]; exact hdg)
    (fun vm₁ hW₁ => ⟨hf.1, hf.2, hPc (T.setVm vm₁) hT hW₁⟩) with ⟨v, vm₁, ⟨U', l2, c2, s2⟩, hW₁, X', ⟨g', mk, t, L, e1, e2, hq, h1, hL, h2, h3⟩, st⟩ | ⟨q, vm₁, ⟨U', l2, c2, s2⟩, hW₁, X', ⟨g', mk, t, L, E, ce, e1, e2, hq, hce, hcv, hcl, h1, hL, h2, h3⟩, st⟩
  · dsimp only [Pt.U, Pt.locs, Pt.cells, Pt.slots] at X' e1 e2 h1 h2 h3 st
    subst h1; subst h2; subst h3
    exact Or.inl ⟨v, (T.setVm vm₁).calling g' mk (Value.ref b :: As).toArray, t, U', L, hT, X', hL, e1, e2, hq, st⟩
  · dsimp only [Pt.U, Pt.locs, Pt.cells, Pt.slots] at X' e1 e2 h1 h2 h3 st hcl
    subst h1; subst h2; subst h3
    exact Or.inr ⟨q, (T.setVm vm₁).calling g' mk (Value.ref b :: As).toArray, t, U', L, E, ce, hT, X', hL, e1, e2, hq, hce, hcv, vx_cls hW₁ hcl, st⟩
theorem vx_runSX {hh : List (Nat × Nat × Nat × Nat)} (S : CallFix p m c cc nL s args Ts own) (hM : vx_Met l y ws rm Pc Qc XC mc ms free) (cw : vx_CSW R s args own index y bytes maxL ret hh ws rm mc ms n) (hp : PreS s H Pc As)
    (hg : g.method = m) (hn : As.length = n) (hsize : g.locals.size = nL) (hstack : g.stack = As.reverse ++ rest) (hW : 2 * g.monitorRoom + (rest.map fun v => v.category).sum ≤ 8) (hdg : decode cc g.pc = .ok (.invokestatic index, 3)) (hf : cells + mc ≤ R.cells ∧ slots + ms ≤ R.slots) :
    vx_Run p l e R s m args below meth c H locs cells slots mc ms g rest (Qc As.toArray) XC free := by
  obtain ⟨⟨hrc, hrs, hfr, hlo, hws, hcw⟩, hcode, hini, hy, hlen, hl, hstt⟩ := cw
  have hK : vx_Back l R p e below s args y 3 8 (PreOf R mc ms Pc) (PostOf Qc mc ms free) (vx_Post XC mc ms free) := vx_backW (hh := hh) (bytes := bytes) (maxL := maxL) (ret := ret) hM hp.1 hrc hrs hfr hlo hws hcw (fun a' U hW => word_at hW (Or.inl (by first | rfl | simp [Cond.onTables, Cond.keeps, Cond.steady])) hini)
  obtain ⟨hx, hb, hml, ho, -⟩ := S
  intro T hT X
  rcases vx_callSX X hx (hh := hh) (bytes := bytes) (maxL := maxL) (ret := ret) ho hl hstt hini hcode hy hK hg (hsize.trans hml.symm) (argsL := As) (rest := rest) (fun sig h => hn.trans (hlen sig h)) hstack hW (by rw [hb]; exact hdg)
    (fun vm₁ hW₁ => ⟨hf.1, hf.2, hp.2 (T.setVm vm₁) hT hW₁⟩) with ⟨v, vm₁, ⟨U', l2, c2, s2⟩, hW₁, X', ⟨g', mk, t, L, e1, e2, hq, h1, hL, h2, h3⟩, st⟩ | ⟨q, vm₁, ⟨U', l2, c2, s2⟩, hW₁, X', ⟨g', mk, t, L, E, ce, e1, e2, hq, hce, hcv, hcl, h1, hL, h2, h3⟩, st⟩
  · dsimp only [Pt.U, Pt.locs, Pt.cells, Pt.slots] at X' e1 e2 h1 h2 h3 st
    subst h1; subst h2; subst h3
    exact Or.inl ⟨v, (T.setVm vm₁).calling g' mk As.toArray, t, U', L, hT, X', hL, e1, e2, hq, st⟩
  · dsimp only [Pt.U, Pt.locs, Pt.cells, Pt.slots] at X' e1 e2 h1 h2 h3 st hcl
    subst h1; subst h2; subst h3
    exact Or.inr ⟨q, (T.setVm vm₁).calling g' mk As.toArray, t, U', L, E, ce, hT, X', hL, e1, e2, hq, hce, hcv, vx_cls hW₁ hcl, st⟩
end
end VXH
theorem vx_ofWH {l : Launch} {y : MethodName} {ws ws' : List Cond} {rm : Room} {Pc : Array Value → State → Prop} {Qc : Array Value → State → Outcome → State → Prop} {XC : String → State → State → Prop} {mc ms : Nat} {free : Addr → Prop} {cc : ByteArray} {maxL : Nat} {ret : Option FieldType} {hh : List (Nat × Nat × Nat × Nat)}
    (hy : plainName y.cls = true) (hw : ws = Cond.codeWith y cc maxL ret hh :: ws')
    (body : ∀ p e s m args below meth c s₁, BodyLoose p l y (headSpec ws rm) cc maxL ret e s m args below meth c s₁ → c.maxLocals = maxL → Pc args s →
      W p l e (headSpec ws rm).room s m args below meth c s.heap [] 0 0 (vx_MQ below Qc XC args s mc ms free) (entryFrame m args maxL)) : vx_Met l y ws rm Pc Qc XC mc ms free := by
  refine MetFree.of_bodyS (code := cc) (maxLocals := maxL) (ret := ret) hy ?_ ?_
  · intro args s m h hn
    obtain ⟨m9, meth, c, hn9, h1, h2, h3, h4, -, h5, h6, -⟩ := Cond.codeWith_spec (atoms_spec (ws := ws) h _ (by rw [hw]; exact List.mem_cons_self))
    cases hn.symm.trans hn9
    exact ⟨meth, c, h1, h2, h3, h4, h5, h6⟩
  · intro p e s m args below meth c s₁ B hml hP _
    have hh0 : s₁.heap = s.heap := by rw [B.state]; rfl
    obtain ⟨t, a1, o, b1, b2, b3⟩ := body p e s m args below meth c s₁ B hml hP s₁ hh0 (Stand.of_body B)
    exact ⟨t, o, a1, b1, b2, b3⟩
/-! ===== END ===== -/

/-! ===== BEGIN what the machine throws by itself, no traces kept ===== -/
section VXM
set_option maxHeartbeats 1000000 in
/-- the machine throws cls with the message text, no traces kept: from its note over the frame g to 'throwing' over the same frame (follows the proofs of Stand.vmThrowsMessage, Shelf/KitTracedVmS.lean, and Stand.throwsMessageColdBareV, StandMessageColdV.lean, without the step out of the frame) -/
theorem vx_vmAt {p : Program} {l : Launch} {e : Env} {R : Room} {s : State} {m₀ : MethodId} {args : Array Value} {below : List Frame} {meth : Method} {c : Code} {W : State} {locs : List Loc} {cells slots : Nat}
    (X : Stand p l e R s m₀ args below meth c W locs cells slots) (hexec : p.tables.exec = Jvm.exec) (htr : e.platform.stackTraces = false) {cls : String} {names : List String} {text : String}
    (hcls : Bundle.fit cls = true) (hnames : ∀ n ∈ names, Bundle.fit n = true) (hsoe : (cls == "java/lang/StackOverflowError") = false) (hoom : (cls == "java/lang/OutOfMemoryError") = false)
    (h : ∀ a ∈ Bundle.messageArmAtoms cls names, a.before args s = true)
    (hlocs : ∀ x ∈ locs, ∀ cell, s.heap[x.base]? = some cell → cell.vm.isStatics = false)
    (htext : (text == notModelled) = false) (hlimit : ¬ (stringBytes (stringToUtf16 text)).size > e.platform.arrayLengthLimit) (hheap : ¬ (stringBytes (stringToUtf16 text)).size * componentBytes .byte > e.platform.maxHeapBytes)
    {g : JFrame} (hg : g.method = m₀) (hsize : g.locals.size = c.maxLocals)
    (hRframes : names.length + 4 < R.frames) (hRlocals : 2 * g.monitorRoom + (g.stack.map fun v => v.category).sum + 10240 ≤ R.locals) (hshort : 13 * names.length + 55 ≤ 10240)
    (hRcells : cells + 3 ≤ R.cells) (hRslots : slots + ((stringBytes (stringToUtf16 text)).size + 4 + 6) ≤ R.slots) (hlocks : meth.locks = false) :
    ∃ (S : State) (q : Addr) (ce : Cell), (∀ target, Steps p.tables e below ((S.setTop g).pushFrame (.throwing q)) target → Steps p.tables e below ((W.setTop g).pushFrame (.throwNew cls (some text) none)) target) ∧
      Stand p l e R s m₀ args below meth c S locs (cells + 3) (slots + ((stringBytes (stringToUtf16 text)).size + 4 + 6)) ∧ S.heap[q]? = some ce ∧ s.vm.findClass cls = some ce.cls ∧ ce.vm = .none := by
  have howns : e.platform.frameOwnsMonitors = true := by rw [X.admits.platform]
  have hfin : e.platform.finalization = false := by rw [X.admits.platform]
  have hpl : e.platform.magicAccessors = ({} : Platform).magicAccessors := by rw [X.admits.platform]
  have a : ∀ x, x ∈ Bundle.messageArmAtoms cls names → x.holds args s none s [] = true := fun x hx => h x hx
  obtain ⟨T, Z0, L, -, Y⟩ := ThrowableC.of_atoms (args := args) howns hfin hpl (fun x hx => h x (by simp [Bundle.messageArmAtoms, hx]))
  obtain ⟨Z, M, LZ, LM, hnZ⟩ := Init0T.ofS_atoms (args := args) hpl L Y (fun x hx => h x (by simp [Bundle.messageArmAtoms, hx]))
  obtain ⟨P1, Ps, hlen, L1, hL, hP1m, hlink1, hlink⟩ := Bundle.chainS (args := args) hpl hnZ names cls hcls hnames (fun x hx => h x (by simp [Bundle.messageArmAtoms, hx]))
  obtain ⟨Zs, LZs, hn4, hfitv, hfitc⟩ := StringT.of_atoms (args := args) (fun x hx => h x (by simp [Bundle.messageArmAtoms, hx]))
  have hfound : s.vm.findClass cls = some P1.m.cls := findClass_of_methodNamed hP1m
  obtain ⟨c1, kX, hc1, hk, hord, -, -, hn6⟩ := Cond.instantiable_spec (a (.instantiable cls 6) (by simp [Bundle.messageArmAtoms]))
  cases Option.some.inj (hc1.symm.trans hfound)
  have hinit := Cond.initialized_spec hfound hk (a (.initialized cls) (by simp [Bundle.messageArmAtoms]))
  have hctor : kX.findMethod "<init>" "(Ljava/lang/String;)V" = some P1.m.idx := findMethod_of_methodNamed hP1m hk
  have hsel0 : selectMethod e.platform s.vm P1.m.cls T.fill0 = .method T.fill0 := by
    obtain ⟨c2, r2, m2, q1, q2, q3, q4, -⟩ := Cond.selects_spec (a (.selects cls Bundle.tFill0 Bundle.tFill0) (by simp [Bundle.messageArmAtoms]))
    cases Option.some.inj (q1.symm.trans hfound)
    cases Option.some.inj (q2.symm.trans (State.methodFound?_of_named Y.fill0 (by decide)))
    cases Option.some.inj (q3.symm.trans Y.fill0)
    rw [Launch.admits_selectMethod X.admits]; exact q4
  have hselF : selectMethod e.platform s.vm P1.m.cls T.fill = .method T.fill := by
    obtain ⟨c2, r2, m2, q1, q2, q3, q4, -⟩ := Cond.selects_spec (a (.selects cls Bundle.tFill Bundle.tFill) (by simp [Bundle.messageArmAtoms]))
    cases Option.some.inj (q1.symm.trans hfound)
    cases Option.some.inj (q2.symm.trans (State.methodFound?_of_named Y.fill (by decide)))
    cases Option.some.inj (q3.symm.trans Y.fill)
    rw [Launch.admits_selectMethod X.admits]; exact q4
  obtain ⟨cellS0, hcS0, hiss⟩ := Y.statics
  obtain ⟨u0, hu0⟩ := Cond.staticRefV Y.unassigned L.unassignedStatic L.statics hcS0 hiss (a (.isRef (.static Bundle.tN "UNASSIGNED_STACK" Bundle.steD)) (by simp [Bundle.messageArmAtoms]))
  obtain ⟨sen, hsen⟩ := Cond.staticRefV Y.sentinel L.sentinelStatic L.statics hcS0 hiss (a (.isRef (.static Bundle.tN "SUPPRESSED_SENTINEL" Bundle.listD)) (by simp [Bundle.messageArmAtoms]))
  obtain ⟨ci198, i198, fB, hk198, hg198, ha198, hsB, -, hnB, htB, hffB⟩ := Cond.ownField (t := .object "java/lang/Object") Y.found L.cls (by decide +kernel) (a (.fieldLink Bundle.tN 198 Bundle.tN "backtrace" "Ljava/lang/Object;") (by simp [Bundle.messageArmAtoms])) (a (.lays Bundle.tN Bundle.tN "backtrace" "Ljava/lang/Object;") (by simp [Bundle.messageArmAtoms])) e.platform hpl
  obtain ⟨cellS, hcS', heS, -, hkeep⟩ := X.same.2.2.2.2.2 T.aS cellS0 hcS0
  have hcellS : W.heap[T.aS]? = some cellS := hcS'
  have hout' : ∀ i, (⟨T.aS, i⟩ : Loc) ∉ locs := fun i hmem => by
    have := hlocs _ hmem cellS0 hcS0
    rw [hiss] at this; cases this
  have hknownS : cellS.vm ≠ .unknown := by
    rw [heS]; intro hu
    rw [show cellS0.vm = .unknown from hu] at hiss
    cases hiss
  have hvU : cellS.slots[T.fUnassigned.slot]? = some u0.v := by rw [hkeep _ (hout' _)]; exact hu0
  have hvSen : cellS.slots[T.fSentinel.slot]? = some sen.v := by rw [hkeep _ (hout' _)]; exact hsen
  obtain ⟨iM, hffM⟩ := Y.msg
  obtain ⟨tyC, dC, hdC, hdnC⟩ := Cond.laysAt hfound hk Y.cause (a (.lays cls Bundle.tN "cause" "Ljava/lang/Throwable;") (by simp [Bundle.messageArmAtoms]))
  obtain ⟨tyS, dS, hdS, hdnS⟩ := Cond.laysAt hfound hk Y.stack (a (.lays cls Bundle.tN "stackTrace" Bundle.steD) (by simp [Bundle.messageArmAtoms]))
  obtain ⟨tyP, dP, hdP, hdnP⟩ := Cond.laysAt hfound hk Y.supp (a (.lays cls Bundle.tN "suppressedExceptions" Bundle.listD) (by simp [Bundle.messageArmAtoms]))
  obtain ⟨tyM, dM, hdM, hdnM⟩ := Cond.laysAt hfound hk hffM (a (.lays cls Bundle.tN "detailMessage" "Ljava/lang/String;") (by simp [Bundle.messageArmAtoms]))
  obtain ⟨tyB, dB, hdB, hdnB⟩ := Cond.laysAt hfound hk hffB (a (.lays cls Bundle.tN "backtrace" "Ljava/lang/Object;") (by simp [Bundle.messageArmAtoms]))
  have bC := Cond.laysApart hdB hdC hdnB hdnC (by rw [hnB, Y.causeName]; decide)
  have bS := Cond.laysApart hdB hdS hdnB hdnS (by rw [hnB, Y.stackName]; decide)
  have bP := Cond.laysApart hdB hdP hdnB hdnP (by rw [hnB, Y.suppName]; decide)
  have hbk : ((preparedCellV T.toThrowableT (freshCell P1.m.cls kX) (W.heap.size + 2) u0 sen).withEntry W.cur).slots[fB.slot]? = some .null := by
    have := fresh_default (c := P1.m.cls) tyB
    rw [htB] at this
    simpa [preparedCellV, Cell.setSlot, Cell.withEntry, Array.getElem?_setIfInBounds, bC, bS, bP, bC.symm, bS.symm, bP.symm, defaultValue] using this
  have tkC := Takes.of_laid (v := .ref (W.heap.size + 2)) hk hord tyC (by rw [Y.causeType]; rfl)
  have tkS := Takes.of_laid (v := u0.v) hk hord tyS (by rw [Y.stackType]; exact fits_refV_array _ u0)
  have tkP := Takes.of_laid (v := sen.v) hk hord tyP (by rw [Y.suppType]; exact fits_refV_object _ sen)
  have tkM := Takes.of_laid (v := .ref (W.heap.size + 1)) hk hord tyM (by rw [Y.msgType]; rfl)
  have hskip : SkipFacts T e.platform s (fun u => u) u0 ((preparedCellV T.toThrowableT (freshCell P1.m.cls kX) (W.heap.size + 2) u0 sen).withEntry W.cur) := ⟨{ ci198 := ci198, i198 := i198, fBack := fB }, ⟨hk198, hg198, ha198, hsB⟩, hbk, fun _ _ => rfl⟩
  have h0 : At W g.method c below := by rw [hg]; exact X.here
  obtain ⟨hbeyond, hfreeW⟩ := X.vmMayThrow hsize (.throwNew cls (some text) none) (fun f hf => by cases hf) rfl hRlocals
  have hfr' : W.frames.length + Ps.length + 4 < (e.platform.stackLimits W.me).1 := by have := X.framesAbove hRframes; omega
  have hwd' : (stackUse (.java g :: W.frames.tail)).2 + 13 * Ps.length + 55 ≤ (e.platform.stackLimits W.me).2 := by have := X.stackAbove hsize (K := 13 * Ps.length + 55) (by omega); omega
  have hslots : W.slotsUsed + (stringBytes (stringToUtf16 text)).size + Zs.kS.instanceTypes.size + kX.instanceTypes.size ≤ e.platform.maxSlots := by
    have := X.slotsAbove hRslots
    rw [hn4, hn6]
    omega
  obtain ⟨vm', hW', st⟩ := Steps.vmThrowsMessageColdByV p (s₀ := s) (S := W) (g := g) h0 hexec T L Z LZ M LM X.warmed (t := W.cur) rfl Zs LZs P1 L1 Ps hL hlink1 hlink hsoe hoom hfound hk hinit hord hctor
    (Launch.admits_hotImplicitExceptions X.admits) hbeyond hfreeW htext hlimit hheap (X.cellsAbove hRcells) hslots (hfitv _) (hfitc _)
    (Nn := fun u => u) heapOnly_id (fun _ _ => rfl) (fun _ => rfl) (fun u x y => setCell_twice _ _ _ _) (fun _ => Nat.le_refl _) (cN := ((preparedCellV T.toThrowableT (freshCell P1.m.cls kX) (W.heap.size + 2) u0 sen).withEntry W.cur))
    hsel0 hcellS hknownS hvU tkS (fun _ hu => hu) (fun _ hu => hu) rfl rfl rfl (by simp [preparedCellV, Cell.setSlot, Cell.withEntry]) hskip (fun _ _ hA hW _ hroom _ hrest => L.nativeOff p htr hA hW hroom hrest) hselF hvSen tkC tkP tkM Y.objLocals rfl hfr' hwd'
  rw [plainBareV_eq T.toThrowableT (W.heap.size + 2) u0 sen (.ref (W.heap.size + 1)) W.cur rfl rfl] at st
  obtain ⟨-, -, w3, w4, -, -, -⟩ := withThrown_facts e.platform W Zs text P1.m.cls kX
  have X3 := ((X.pushed (bytesOf Zs.cB (stringToUtf16 text))).pushed (stringAt Zs.cS Zs.kS Zs.fv Zs.fc (stringToUtf16 text) W.heap.size)).pushed (freshCell P1.m.cls kX)
  rw [← withString_eq] at X3
  have X4 := X3.noted hW'
  have ha : (W.heap.size + 2) < ((withThrown W Zs text P1.m.cls kX).setVm vm').heap.size := by show _ < (withThrown W Zs text P1.m.cls kX).heap.size; rw [w3]; omega
  have hcell : ((withThrown W Zs text P1.m.cls kX).setVm vm').heap[(W.heap.size + 2)]? = some (freshCell P1.m.cls kX) := w4
  have X5 := ((((X4.stored hcell T.fCause.slot (.ref (W.heap.size + 2))).storedAgain ha T.fStack.slot u0.v).storedAgain ha T.fSupp.slot sen.v).storedAgain ha T.fStack.slot u0.v).storedAgain ha T.fMsg.slot (.ref (W.heap.size + 1))
  obtain ⟨g₁, hfrM⟩ := X5.frames_eq
  have hU : ((((withThrown W Zs text P1.m.cls kX).setVm vm').setCell (W.heap.size + 2) (plainBareV T.toThrowableT (freshCell P1.m.cls kX) (W.heap.size + 2) u0 sen (.ref (W.heap.size + 1)))).setTop g).pushFrame (.throwing (W.heap.size + 2)) = (((withThrown W Zs text P1.m.cls kX).setVm vm').setCell (W.heap.size + 2) (plainBareV T.toThrowableT (freshCell P1.m.cls kX) (W.heap.size + 2) u0 sen (.ref (W.heap.size + 1)))).setFrames (.throwing (W.heap.size + 2) :: .java g :: below) := by
    rw [State.pushFrame, State.frames_setTop _ hfrM, State.setTop_of_frames _ hfrM, State.setFrames_setFrames]
  have b1 : (bytesOf Zs.cB (stringToUtf16 text)).slots.size = (stringBytes (stringToUtf16 text)).size := by
    rw [(Cell.writeAll_facts _ _).2.2]; simp [bytes0]
  have b2 : (stringAt Zs.cS Zs.kS Zs.fv Zs.fc (stringToUtf16 text) W.heap.size).slots.size = 4 := by simp [string0, Cell.setSlot, hn4]
  have b3 : (freshCell P1.m.cls kX).slots.size = 6 := by simp [hn6]
  rw [b1, b2, b3] at X5
  have e9 : slots + (stringBytes (stringToUtf16 text)).size + 4 + 6 = slots + ((stringBytes (stringToUtf16 text)).size + 4 + 6) := by omega
  rw [e9] at X5
  simp only [List.append_assoc, List.cons_append, List.nil_append] at X5
  refine ⟨((withThrown W Zs text P1.m.cls kX).setVm vm').setCell (W.heap.size + 2) (plainBareV T.toThrowableT (freshCell P1.m.cls kX) (W.heap.size + 2) u0 sen (.ref (W.heap.size + 1))), W.heap.size + 2, _, fun target ht => st _ (by rw [X.tail, ← hU]; exact ht),
    X5.forget (fun y hy => ?_), heapAt_setCell_self _ ha, hfound, rfl⟩
  simp only [List.mem_cons, List.not_mem_nil, or_false] at hy
  have hge : s.heap.size ≤ W.heap.size := X.same.2.1
  rcases hy with rfl | rfl | rfl | rfl | rfl <;> exact Nat.le_trans hge (Nat.le_add_right _ 2)
set_option maxHeartbeats 1000000 in
/-- the machine throws NullPointerException, no traces kept: from its note over the frame g to 'throwing' over the same frame (follows the proof of Stand.vmThrowsNpe, Shelf42/KT2.lean; throwsNpeColdBareVAt, Shelf42/NT91.lean, called) -/
theorem vx_npeAt {p : Program} {l : Launch} {e : Env} {R : Room} {s : State} {m₀ : MethodId} {args : Array Value} {below : List Frame} {meth : Method} {c : Code} {W : State} {locs : List Loc} {cells slots : Nat}
    (X : Stand p l e R s m₀ args below meth c W locs cells slots) (hexec : p.tables.exec = Jvm.exec) (htr : e.platform.stackTraces = false) {n : Nat}
    (h : ∀ a ∈ Bundle.npeArmAtoms n, a.before args s = true)
    (hlocs : ∀ x ∈ locs, ∀ cell, s.heap[x.base]? = some cell → cell.vm.isStatics = false)
    {g : JFrame} (hg : g.method = m₀) (hsize : g.locals.size = c.maxLocals)
    (hRframes : 7 < R.frames) (hRlocals : 2 * g.monitorRoom + (g.stack.map fun v => v.category).sum + 10240 ≤ R.locals)
    (hRcells : cells + 1 ≤ R.cells) (hRslots : slots + n ≤ R.slots) (hlocks : meth.locks = false) :
    ∃ (S : State) (q : Addr) (ce : Cell), (∀ target, Steps p.tables e below ((S.setTop g).pushFrame (.throwing q)) target → Steps p.tables e below ((W.setTop g).pushFrame (.throwNew "java/lang/NullPointerException" none none)) target) ∧
      Stand p l e R s m₀ args below meth c S locs (cells + 1) (slots + n) ∧ S.heap[q]? = some ce ∧ s.vm.findClass "java/lang/NullPointerException" = some ce.cls ∧ ce.vm = .none := by
  have howns : e.platform.frameOwnsMonitors = true := by rw [X.admits.platform]
  have hfin : e.platform.finalization = false := by rw [X.admits.platform]
  have hpl : e.platform.magicAccessors = ({} : Platform).magicAccessors := by rw [X.admits.platform]
  have hpl2 : e.platform.arrayCloneIsPublic = true := by rw [X.admits.platform]
  have a' : ∀ x, x ∈ Bundle.npeArmAtoms n → x.holds args s none s [] = true := fun x hx => h x hx
  obtain ⟨T, Z, L, LZ, Y⟩ := ThrowableC.of_atoms (args := args) howns hfin hpl (fun x hx => h x (by simp [Bundle.npeArmAtoms, hx]))
  obtain ⟨N, LN, hcN, hnNF, hordN, hffS⟩ := NpeC.of_atoms (args := args) hpl hpl2 L Y (fun x hx => h x (by simp [Bundle.npeArmAtoms, hx]))
  obtain ⟨P1, L1, hP1m, hP1s⟩ := PassC.of_atoms (args := args) (s := s) hpl (X := Bundle.nN) (Y := Bundle.rN) (by decide) (by decide) LibCode.NullPointerException.Init0.at_0 LibCode.NullPointerException.Init0.at_1 LibCode.NullPointerException.Init0.at_4 (fun x hx => h x (by simp [Bundle.npeArmAtoms, hx]))
  obtain ⟨PR, LR, hPRm, hPRs⟩ := PassC.of_atoms (args := args) (s := s) hpl (X := Bundle.rN) (Y := Bundle.eN) (by decide) (by decide) LibCode.RuntimeException.Init0.at_0 LibCode.RuntimeException.Init0.at_1 LibCode.RuntimeException.Init0.at_4 (fun x hx => h x (by simp [Bundle.npeArmAtoms, hx]))
  obtain ⟨PE, LEx, hPEm, hPEs⟩ := PassC.of_atoms (args := args) (s := s) hpl (X := Bundle.eN) (Y := Bundle.tN) (by decide) (by decide) LibCode.Exception.Init0.at_0 LibCode.Exception.Init0.at_1 LibCode.Exception.Init0.at_4 (fun x hx => h x (by simp [Bundle.npeArmAtoms, hx]))
  have hfound : s.vm.findClass Bundle.nN = some P1.m.cls := findClass_of_methodNamed hP1m
  have ecls : N.cN = P1.m.cls := Option.some.inj (hcN.symm.trans hfound)
  have hk : s.vm.classes[P1.m.cls]? = some N.kN := by rw [← ecls]; exact LN.cls
  have hinit := Cond.initialized_spec hfound hk (a' (.initialized Bundle.nN) (by simp [Bundle.npeArmAtoms]))
  have hctor : N.kN.findMethod "<init>" "()V" = some P1.m.idx := findMethod_of_methodNamed hP1m hk
  obtain ⟨c1, k1, hc1, hk1, -, -, -, hn⟩ := Cond.instantiable_spec (a' (.instantiable Bundle.nN n) (by simp [Bundle.npeArmAtoms]))
  cases Option.some.inj (hc1.symm.trans hfound)
  cases Option.some.inj (hk1.symm.trans hk)
  have hfsz : (freshCell P1.m.cls N.kN).slots.size = n := by simp [hn]
  have hlink1 : P1.sup = PR.m := Option.some.inj (hP1s.symm.trans hPRm)
  have hlinkR : PR.sup = PE.m := Option.some.inj (hPRs.symm.trans hPEm)
  have hlinkE : PE.sup = Z.m T.toThrowableT := Option.some.inj (hPEs.symm.trans Y.init0)
  have hLs : ∀ P, P ∈ [PR, PE] → P.Links0 e.platform s := fun P hP => by
    simp only [List.mem_cons, List.not_mem_nil, or_false] at hP
    rcases hP with rfl | rfl
    · exact LR
    · exact LEx
  have hsel0 : selectMethod e.platform s.vm P1.m.cls T.fill0 = .method T.fill0 := by
    obtain ⟨c2, r2, m2, q1, q2, q3, q4, -⟩ := Cond.selects_spec (a' (.selects Bundle.nN Bundle.tFill0 Bundle.tFill0) (by simp [Bundle.npeArmAtoms]))
    cases Option.some.inj (q1.symm.trans hfound)
    cases Option.some.inj (q2.symm.trans (State.methodFound?_of_named Y.fill0 (by decide)))
    cases Option.some.inj (q3.symm.trans Y.fill0)
    rw [Launch.admits_selectMethod X.admits]; exact q4
  have hselF : selectMethod e.platform s.vm P1.m.cls T.fill = .method N.fill := by
    obtain ⟨c2, r2, m2, q1, q2, q3, q4, -⟩ := Cond.selects_spec (a' (.selects Bundle.nN Bundle.tFill Bundle.nFill) (by simp [Bundle.npeArmAtoms]))
    cases Option.some.inj (q1.symm.trans hfound)
    cases Option.some.inj (q2.symm.trans (State.methodFound?_of_named Y.fill (by decide)))
    cases Option.some.inj (q3.symm.trans hnNF)
    rw [Launch.admits_selectMethod X.admits]; exact q4
  obtain ⟨cellS0, hcS0, hiss⟩ := Y.statics
  obtain ⟨u0, hu0⟩ := Cond.staticRefV Y.unassigned L.unassignedStatic L.statics hcS0 hiss (a' (.isRef (.static Bundle.tN "UNASSIGNED_STACK" Bundle.steD)) (by simp [Bundle.npeArmAtoms]))
  obtain ⟨sen, hsen⟩ := Cond.staticRefV Y.sentinel L.sentinelStatic L.statics hcS0 hiss (a' (.isRef (.static Bundle.tN "SUPPRESSED_SENTINEL" Bundle.listD)) (by simp [Bundle.npeArmAtoms]))
  obtain ⟨ci198, i198, fB, hk198, hg198, ha198, hsB, -, hnB, htB, hffB⟩ := Cond.ownField (t := .object "java/lang/Object") Y.found L.cls (by decide +kernel) (a' (.fieldLink Bundle.tN 198 Bundle.tN "backtrace" Bundle.objD) (by simp [Bundle.npeArmAtoms])) (a' (.lays Bundle.tN Bundle.tN "backtrace" Bundle.objD) (by simp [Bundle.npeArmAtoms])) e.platform hpl
  obtain ⟨cellS, hcS', heS, -, hkeep⟩ := X.same.2.2.2.2.2 T.aS cellS0 hcS0
  have hcellS : W.heap[T.aS]? = some cellS := hcS'
  have hout' : ∀ i, (⟨T.aS, i⟩ : Loc) ∉ locs := fun i hmem => by
    have := hlocs _ hmem cellS0 hcS0
    rw [hiss] at this; cases this
  have hknownS : cellS.vm ≠ .unknown := by
    rw [heS]; intro hu
    rw [show cellS0.vm = .unknown from hu] at hiss
    cases hiss
  have hvU : cellS.slots[T.fUnassigned.slot]? = some u0.v := by rw [hkeep _ (hout' _)]; exact hu0
  have hvSen : cellS.slots[T.fSentinel.slot]? = some sen.v := by rw [hkeep _ (hout' _)]; exact hsen
  obtain ⟨tyC, dC, hdC, hdnC⟩ := Cond.laysAt hfound hk Y.cause (a' (.lays Bundle.nN Bundle.tN "cause" "Ljava/lang/Throwable;") (by simp [Bundle.npeArmAtoms]))
  obtain ⟨tyS, dS, hdS, hdnS⟩ := Cond.laysAt hfound hk Y.stack (a' (.lays Bundle.nN Bundle.tN "stackTrace" Bundle.steD) (by simp [Bundle.npeArmAtoms]))
  obtain ⟨tyP, dP, hdP, hdnP⟩ := Cond.laysAt hfound hk Y.supp (a' (.lays Bundle.nN Bundle.tN "suppressedExceptions" Bundle.listD) (by simp [Bundle.npeArmAtoms]))
  obtain ⟨tyX, dX, hdX, hdnX⟩ := Cond.laysAt hfound hk hffS (a' (.lays Bundle.nN Bundle.nN "extendedMessageState" "I") (by simp [Bundle.npeArmAtoms, Bundle.npeAtoms]))
  obtain ⟨hnX, htX⟩ := State.fieldFound?_type hffS (t := .int) (by decide +kernel)
  have xC := Cond.laysApart hdC hdX hdnC hdnX (by rw [hnX, Y.causeName]; decide)
  have xS := Cond.laysApart hdS hdX hdnS hdnX (by rw [hnX, Y.stackName]; decide)
  have xP := Cond.laysApart hdP hdX hdnP hdnX (by rw [hnX, Y.suppName]; decide)
  have hv0 : (freshCell P1.m.cls N.kN).slots[N.fState.slot]? = some (.int 0) := by
    have := fresh_default (c := P1.m.cls) tyX
    rw [htX] at this; exact this
  obtain ⟨tyB, dB, hdB, hdnB⟩ := Cond.laysAt hfound hk hffB (a' (.lays Bundle.nN Bundle.tN "backtrace" Bundle.objD) (by simp [Bundle.npeArmAtoms]))
  have bC := Cond.laysApart hdB hdC hdnB hdnC (by rw [hnB, Y.causeName]; decide)
  have bS := Cond.laysApart hdB hdS hdnB hdnS (by rw [hnB, Y.stackName]; decide)
  have bP := Cond.laysApart hdB hdP hdnB hdnP (by rw [hnB, Y.suppName]; decide)
  have bX := Cond.laysApart hdB hdX hdnB hdnX (by rw [hnB, hnX]; decide)
  have hbk : ((npeCell N.toNpeT (preparedCellV T.toThrowableT (freshCell P1.m.cls N.kN) W.heap.size u0 sen) W.cur).withEntry W.cur).slots[fB.slot]? = some .null := by
    have := fresh_default (c := P1.m.cls) tyB
    rw [htB] at this
    simpa [npeCell, preparedCellV, Cell.setSlot, Cell.withEntry, Array.getElem?_setIfInBounds, bC, bS, bP, bX, bC.symm, bS.symm, bP.symm, bX.symm, defaultValue] using this
  have tkC := Takes.of_laid (v := .ref W.heap.size) hk hordN tyC (by rw [Y.causeType]; rfl)
  have tkS := Takes.of_laid (v := u0.v) hk hordN tyS (by rw [Y.stackType]; exact fits_refV_array _ u0)
  have tkP := Takes.of_laid (v := sen.v) hk hordN tyP (by rw [Y.suppType]; exact fits_refV_object _ sen)
  have tkX := Takes.of_laid (v := .int 1) hk hordN tyX (by rw [htX]; rfl)
  have hskip : SkipFacts T e.platform s (fun u => u) u0 ((npeCell N.toNpeT (preparedCellV T.toThrowableT (freshCell P1.m.cls N.kN) W.heap.size u0 sen) W.cur).withEntry W.cur) := ⟨{ ci198 := ci198, i198 := i198, fBack := fB }, ⟨hk198, hg198, ha198, hsB⟩, hbk, fun _ _ => rfl⟩
  obtain ⟨vm', X3, st, -⟩ := X.throwsNpeColdBareVAt hexec hg hsize T L Z LZ N LN P1 L1 [PR, PE] hLs hlink1 ⟨hlinkR, hlinkE, trivial⟩ hfound hk hinit hordN hctor hsel0 hselF hcellS hknownS hvU hvSen
    hv0 xC xS xP tkC tkS tkP tkX Y.objLocals hskip (fun _ _ hA hW _ hroom _ hrest => L.nativeOff p htr hA hW hroom hrest) (by simpa using hRframes) hRlocals (by simp) hRcells (by rw [hn]; exact hRslots)
  have hlt : W.heap.size < ((W.pushCell (freshCell P1.m.cls N.kN)).setVm vm').heap.size := by
    show W.heap.size < (W.pushCell (freshCell P1.m.cls N.kN)).heap.size
    rw [State.heap_size_pushCell]; omega
  rw [hfsz] at X3
  obtain ⟨g₁, hfrM⟩ := X3.frames_eq
  have hU : ((((W.pushCell (freshCell P1.m.cls N.kN)).setVm vm').setCell W.heap.size (npeBareV T.toThrowableT N.toNpeT (freshCell P1.m.cls N.kN) W.heap.size u0 sen)).setTop g).pushFrame (.throwing W.heap.size) = (((W.pushCell (freshCell P1.m.cls N.kN)).setVm vm').setCell W.heap.size (npeBareV T.toThrowableT N.toNpeT (freshCell P1.m.cls N.kN) W.heap.size u0 sen)).setFrames (.throwing W.heap.size :: .java g :: below) := by
    rw [State.pushFrame, State.frames_setTop _ hfrM, State.setTop_of_frames _ hfrM, State.setFrames_setFrames]
  refine ⟨_, W.heap.size, _, fun target ht => st.trans (by rw [← hU]; exact ht), X3.forget (fun y hy => ?_), heapAt_setCell_self _ hlt, hfound, rfl⟩
  simp only [List.mem_cons, List.not_mem_nil, or_false] at hy
  have hge : s.heap.size ≤ W.heap.size := X.same.2.1
  rcases hy with rfl | rfl | rfl | rfl | rfl <;> exact hge
/-- the words of a machine's NullPointerException, but the four that speak of the heap -/
def vx_atN (n : Nat) : List Cond := (Bundle.npeArmAtoms n).filter vx_no
/-- the words of a machine's throw with a message, but the four that speak of the heap -/
def vx_atM (X : String) (names : List String) : List Cond := (Bundle.messageArmAtoms X names).filter vx_no
section
variable {p : Program} {l : Launch} {e : Env} {R : Room} {s : State} {m : MethodId} {args : Array Value} {below : List Frame} {meth : Method} {c : Code} {H : Heap} {locs : List Loc} {cells slots : Nat}
/-- a frame seen from a rebased start, seen from the first start again -/
theorem vx_back9 {T S : State} {R' : Room} {k n : Nat} (X : Stand p l e R s m args below meth c T locs cells slots) (Y : Stand p l e R' ((T.setVm s.vm).setFrames (.invoking m args :: below)) m args below meth c T [] 0 0) (Z : Stand p l e R' ((T.setVm s.vm).setFrames (.invoking m args :: below)) m args below meth c S [] k n) :
    Stand p l e R s m args below meth c S locs (cells + k) (slots + n) := by
  have hW0 : s.WarmedH ((T.setVm s.vm).setFrames (.invoking m args :: below)).vm := State.WarmedH.refl s
  refine { admits := X.admits, cas := X.cas, clock := X.clock, frames := X.frames, room := X.room, hears := X.hears, method := X.method, code := X.code, here := Z.here, tail := Z.tail, warmed := State.WarmedH.trans hW0 Z.warmed, limits := Z.limits.trans (Y.limits.symm.trans X.limits), bytes := Z.bytes.trans (Y.bytes.symm.trans X.bytes), same := ?_ }
  obtain ⟨e1, e2⟩ := Z.same
  rw [State.setFrames_setFrames] at e1
  have h2 : (T.setVm s.vm).sameButNew (S.setVm s.vm) [] k n := ⟨e1, e2⟩
  have h3 := X.same.trans h2
  rw [List.append_nil] at h3
  exact h3
/-- from the machine's note that E is thrown here with this text -/
def vx_Note (p : Program) (l : Launch) (e : Env) (R : Room) (s : State) (m : MethodId) (args : Array Value) (below : List Frame) (meth : Method) (c : Code) (H : Heap) (locs : List Loc) (cells slots : Nat) (Q : State → Prop) (g : JFrame) (E text : String) : Prop :=
  ∀ T : State, T.heap = H → Stand p l e R s m args below meth c T locs cells slots → ∃ t, Steps p.tables e below ((T.setTop g).pushFrame (.throwNew E (some text) none)) t ∧ Q t
theorem vx_vm {pc : Nat} {ls : Array Slot} {rest : List Value} {Q : State → Prop} (hexec : p.tables.exec = Jvm.exec) (hl : l.stackTraces = false) {cls text : String} {names : List String} {nb : Nat} {A : Nat → Prop}
    (hcls : Bundle.fit cls = true) (hnames : ∀ n ∈ names, Bundle.fit n = true) (hsoe : (cls == "java/lang/StackOverflowError") = false) (hoom : (cls == "java/lang/OutOfMemoryError") = false)
    (hat : ∀ w ∈ vx_atM cls names, w.before args s = true) (hgood : ∀ w ∈ vx_atM cls names, vx_ot w = true)
    (hU : vx_Zq Bundle.tN "UNASSIGNED_STACK" Bundle.steD A s s.heap) (hN : vx_Zq Bundle.tN "SUPPRESSED_SENTINEL" Bundle.listD A s s.heap) (hS : va_S A s.heap H locs) (hsize : ls.size = c.maxLocals)
    (htext : (text == notModelled) = false) (hnb : (stringBytes (stringToUtf16 text)).size ≤ nb) (hnb1 : nb ≤ 1000)
    (hRframes : names.length + 4 < R.frames) (hRlocals : (rest.map fun v => v.category).sum + 10240 ≤ R.locals) (hshort : 13 * names.length + 55 ≤ 10240) (hRcells : cells + 3 ≤ R.cells) (hRslots : slots + (nb + 10) ≤ R.slots) (hlocks : meth.locks = false)
    (k : ∀ (H1 : Heap) (q9 : Addr) (ce : Cell), H.size ≤ H1.size → (∀ q : Nat, q < H.size → H1[q]? = H[q]?) → va_S A s.heap H1 locs → H1[q9]? = some ce → ce.vm = .none → s.vm.findClass cls = some ce.cls → vx_W p l e R s m args below meth c H1 locs (cells + 3) (slots + (nb + 10)) Q (F0 m pc ls rest) q9) :
    vx_Note p l e R s m args below meth c H locs cells slots Q (F0 m pc ls rest) cls text := by
  intro T hT X
  have htr : e.platform.stackTraces = false := (show e.platform.stackTraces = l.stackTraces by rw [X.admits.platform]).trans hl
  have Y := vx_rebase X (R' := { frames := R.frames, locals := R.locals, cells := 3, slots := nb + 10 }) (Nat.le_refl _) (Nat.le_refl _) hRcells hRslots
  have hhp : ((T.setVm s.vm).setFrames (.invoking m args :: below)).heap = H := hT
  have hW0 : s.WarmedH ((T.setVm s.vm).setFrames (.invoking m args :: below)).vm := State.WarmedH.refl s
  have hat' : ∀ w ∈ vx_atM cls names, w.before args ((T.setVm s.vm).setFrames (.invoking m args :: below)) = true := fun w hw => vx_ot_at hW0 rfl (hgood w hw) (hat w hw)
  have hU' : vx_Zq Bundle.tN "UNASSIGNED_STACK" Bundle.steD A ((T.setVm s.vm).setFrames (.invoking m args :: below)) ((T.setVm s.vm).setFrames (.invoking m args :: below)).heap := by rw [hhp]; exact vx_Zq.moved hW0.alike (hU.kept hS.2.1)
  have hN' : vx_Zq Bundle.tN "SUPPRESSED_SENTINEL" Bundle.listD A ((T.setVm s.vm).setFrames (.invoking m args :: below)) ((T.setVm s.vm).setFrames (.invoking m args :: below)).heap := by rw [hhp]; exact vx_Zq.moved hW0.alike (hN.kept hS.2.1)
  obtain ⟨S, q, ce, st, Z, hce, hcl', hv⟩ := vx_vmAt Y hexec htr (cls := cls) (names := names) (text := text) hcls hnames hsoe hoom (vx_own hat' (vx_isRefq hU'.1) (vx_isRefq hN'.1) hU'.2.word hN'.2.word) (fun x hx => nomatch hx) htext
    (by rw [Launch.admits_arrayLengthLimit X.admits]; omega) (by rw [Launch.admits_maxHeapBytes X.admits]; simp only [componentBytes]; omega)
    (g := F0 m pc ls rest) rfl hsize hRframes (by show 2 * 0 + (rest.map fun v => v.category).sum + 10240 ≤ R.locals; omega) hshort (by show 0 + 3 ≤ 3; omega) (by show 0 + (_ + 4 + 6) ≤ nb + 10; omega) hlocks
  obtain ⟨f1, f2⟩ := vx_frame Z.same
  have f1' : H.size ≤ S.heap.size := by rw [← hT]; exact f1
  have f2' : ∀ q : Nat, q < H.size → S.heap[q]? = H[q]? := fun q hq => by
    rw [← hT]
    exact f2 q (by rw [← hT] at hq; exact hq) (fun z hz => nomatch hz)
  have X5 := vx_back9 X Y Z
  have X6 : Stand p l e R s m args below meth c S locs (cells + 3) (slots + (nb + 10)) := { X5 with same := X5.same.mono (by omega) (by omega) }
  obtain ⟨t, a1, b1⟩ := k S.heap q ce f1' f2' ⟨Nat.le_trans hS.1 f1', fun q h1 h2 => (f2' q (Nat.lt_of_lt_of_le h1 hS.1)).trans (hS.2.1 q h1 h2), hS.2.2⟩ hce hv hcl' S rfl X6
  exact ⟨t, st t a1, b1⟩
/-- from the machine's note that NullPointerException is thrown here -/
def vx_NoteN (p : Program) (l : Launch) (e : Env) (R : Room) (s : State) (m : MethodId) (args : Array Value) (below : List Frame) (meth : Method) (c : Code) (H : Heap) (locs : List Loc) (cells slots : Nat) (Q : State → Prop) (g : JFrame) : Prop :=
  ∀ T : State, T.heap = H → Stand p l e R s m args below meth c T locs cells slots → ∃ t, Steps p.tables e below ((T.setTop g).pushFrame (.throwNew "java/lang/NullPointerException" none none)) t ∧ Q t
theorem vx_npe {pc : Nat} {ls : Array Slot} {rest : List Value} {Q : State → Prop} (hexec : p.tables.exec = Jvm.exec) (hl : l.stackTraces = false) {nb : Nat} {A : Nat → Prop}
    (hat : ∀ w ∈ vx_atN nb, w.before args s = true) (hgood : ∀ w ∈ vx_atN nb, vx_ot w = true)
    (hU : vx_Zq Bundle.tN "UNASSIGNED_STACK" Bundle.steD A s s.heap) (hN : vx_Zq Bundle.tN "SUPPRESSED_SENTINEL" Bundle.listD A s s.heap) (hS : va_S A s.heap H locs) (hsize : ls.size = c.maxLocals)
    (hRframes : 7 < R.frames) (hRlocals : (rest.map fun v => v.category).sum + 10240 ≤ R.locals) (hRcells : cells + 1 ≤ R.cells) (hRslots : slots + nb ≤ R.slots) (hlocks : meth.locks = false)
    (k : ∀ (H1 : Heap) (q9 : Addr) (ce : Cell), H.size ≤ H1.size → (∀ q : Nat, q < H.size → H1[q]? = H[q]?) → va_S A s.heap H1 locs → H1[q9]? = some ce → ce.vm = .none → s.vm.findClass "java/lang/NullPointerException" = some ce.cls → vx_W p l e R s m args below meth c H1 locs (cells + 1) (slots + nb) Q (F0 m pc ls rest) q9) :
    vx_NoteN p l e R s m args below meth c H locs cells slots Q (F0 m pc ls rest) := by
  intro T hT X
  have htr : e.platform.stackTraces = false := (show e.platform.stackTraces = l.stackTraces by rw [X.admits.platform]).trans hl
  have Y := vx_rebase X (R' := { frames := R.frames, locals := R.locals, cells := 1, slots := nb }) (Nat.le_refl _) (Nat.le_refl _) hRcells hRslots
  have hhp : ((T.setVm s.vm).setFrames (.invoking m args :: below)).heap = H := hT
  have hW0 : s.WarmedH ((T.setVm s.vm).setFrames (.invoking m args :: below)).vm := State.WarmedH.refl s
  have hat' : ∀ w ∈ vx_atN nb, w.before args ((T.setVm s.vm).setFrames (.invoking m args :: below)) = true := fun w hw => vx_ot_at hW0 rfl (hgood w hw) (hat w hw)
  have hU' : vx_Zq Bundle.tN "UNASSIGNED_STACK" Bundle.steD A ((T.setVm s.vm).setFrames (.invoking m args :: below)) ((T.setVm s.vm).setFrames (.invoking m args :: below)).heap := by rw [hhp]; exact vx_Zq.moved hW0.alike (hU.kept hS.2.1)
  have hN' : vx_Zq Bundle.tN "SUPPRESSED_SENTINEL" Bundle.listD A ((T.setVm s.vm).setFrames (.invoking m args :: below)) ((T.setVm s.vm).setFrames (.invoking m args :: below)).heap := by rw [hhp]; exact vx_Zq.moved hW0.alike (hN.kept hS.2.1)
  obtain ⟨S, q, ce, st, Z, hce, hcl', hv⟩ := vx_npeAt Y hexec htr (n := nb) (vx_own hat' (vx_isRefq hU'.1) (vx_isRefq hN'.1) hU'.2.word hN'.2.word) (fun x hx => nomatch hx)
    (g := F0 m pc ls rest) rfl hsize hRframes (by show 2 * 0 + (rest.map fun v => v.category).sum + 10240 ≤ R.locals; omega) (by show 0 + 1 ≤ 1; omega) (by show 0 + nb ≤ nb; omega) hlocks
  obtain ⟨f1, f2⟩ := vx_frame Z.same
  have f1' : H.size ≤ S.heap.size := by rw [← hT]; exact f1
  have f2' : ∀ q : Nat, q < H.size → S.heap[q]? = H[q]? := fun q hq => by
    rw [← hT]
    exact f2 q (by rw [← hT] at hq; exact hq) (fun z hz => nomatch hz)
  have X5 := vx_back9 X Y Z
  have X6 : Stand p l e R s m args below meth c S locs (cells + 1) (slots + nb) := { X5 with same := X5.same.mono (by omega) (by omega) }
  obtain ⟨t, a1, b1⟩ := k S.heap q ce f1' f2' ⟨Nat.le_trans hS.1 f1', fun q h1 h2 => (f2' q (Nat.lt_of_lt_of_le h1 hS.1)).trans (hS.2.1 q h1 h2), hS.2.2⟩ hce hv hcl' S rfl X6
  exact ⟨t, st t a1, b1⟩
variable {Q : State → Prop} {cc : ByteArray} {pc : Nat} {ls : Array Slot} {rest : List Value}
theorem vx_idivZ (hexec : p.tables.exec = Jvm.exec) (hb : c.code = cc) {a b : Int32} (h0 : b = 0) (d : decode cc pc = .ok (.idiv, 1)) (k : vx_Note p l e R s m args below meth c H locs cells slots Q (F0 m pc ls rest) "java/lang/ArithmeticException" "/ by zero") :
    W p l e R s m args below meth c H locs cells slots Q (F0 m pc ls (.int b :: .int a :: rest)) := by
  intro T hT X
  obtain ⟨t, st, q⟩ := k T hT X
  exact ⟨t, X.idivZero hexec (g := F0 m pc ls (.int b :: .int a :: rest)) rfl (a := a) (rest := rest) (by rw [h0]) (by rw [hb]; exact d) t st, q⟩
theorem vx_iremZ (hexec : p.tables.exec = Jvm.exec) (hb : c.code = cc) {a b : Int32} (h0 : b = 0) (d : decode cc pc = .ok (.irem, 1)) (k : vx_Note p l e R s m args below meth c H locs cells slots Q (F0 m pc ls rest) "java/lang/ArithmeticException" "/ by zero") :
    W p l e R s m args below meth c H locs cells slots Q (F0 m pc ls (.int b :: .int a :: rest)) := by
  intro T hT X
  obtain ⟨t, st, q⟩ := k T hT X
  exact ⟨t, X.iremZero hexec (g := F0 m pc ls (.int b :: .int a :: rest)) rfl (a := a) (rest := rest) (by rw [h0]) (by rw [hb]; exact d) t st, q⟩
theorem vx_ldivZ (hexec : p.tables.exec = Jvm.exec) (hb : c.code = cc) {a b : Int64} (h0 : b = 0) (d : decode cc pc = .ok (.ldiv, 1)) (k : vx_Note p l e R s m args below meth c H locs cells slots Q (F0 m pc ls rest) "java/lang/ArithmeticException" "/ by zero") :
    W p l e R s m args below meth c H locs cells slots Q (F0 m pc ls (.long b :: .long a :: rest)) := by
  intro T hT X
  obtain ⟨t, st, q⟩ := k T hT X
  exact ⟨t, X.ldivZero hexec (g := F0 m pc ls (.long b :: .long a :: rest)) rfl (a := a) (rest := rest) (by rw [h0]) (by rw [hb]; exact d) t st, q⟩
theorem vx_lremZ (hexec : p.tables.exec = Jvm.exec) (hb : c.code = cc) {a b : Int64} (h0 : b = 0) (d : decode cc pc = .ok (.lrem, 1)) (k : vx_Note p l e R s m args below meth c H locs cells slots Q (F0 m pc ls rest) "java/lang/ArithmeticException" "/ by zero") :
    W p l e R s m args below meth c H locs cells slots Q (F0 m pc ls (.long b :: .long a :: rest)) := by
  intro T hT X
  obtain ⟨t, st, q⟩ := k T hT X
  exact ⟨t, X.lremZero hexec (g := F0 m pc ls (.long b :: .long a :: rest)) rfl (a := a) (rest := rest) (by rw [h0]) (by rw [hb]; exact d) t st, q⟩
theorem vx_ialdZ {D : va_G} {cl : List vw_C} {ws : va_W} {tys : List (ClassId × FieldType)} {a : Nat} (hexec : p.tables.exec = Jvm.exec) (hb : c.code = cc) (hK : va_K D cl tys s) (hP : va_P D cl ws H) (q0 t0 : Nat) {cA : ClassId} {n : Nat} {f : Nat → Int32} (ha : ws[q0]? = some (a, .inl (cA, n, .inl f))) (ht : tys[t0]? = some (cA, .int)) {i : Int32} (hout : ¬ vp_in i n) (hdg : decode cc pc = .ok (.iaload, 1))
    (k : ∀ tx : String, tx = (toString "Index " ++ toString i ++ toString " out of bounds for length " ++ toString n : String) → vx_Note p l e R s m args below meth c H locs cells slots Q (F0 m pc ls rest) "java/lang/ArrayIndexOutOfBoundsException" tx) : W p l e R s m args below meth c H locs cells slots Q (F0 m pc ls (.int i :: .ref a :: rest)) := by
  intro T hT X
  obtain ⟨t, st, q⟩ := k _ rfl T hT X
  refine ⟨t, ?_, q⟩
  have h1 := X.ialoadOut hexec (by rw [hT]; exact hP q0 _ ha) ((hK.2 t0 _ ht).1 n (fun j => .int (f j))) (j := i) (by show (i < 0 ∨ (arrV _ _ _).slots.size ≤ _); rw [arrV_size]; exact Classical.byContradiction hout) (g := F0 m pc ls (.int i :: .ref a :: rest)) rfl (rest := rest) rfl (by rw [hb]; exact hdg) t
  simp only [arrV_size] at h1
  exact h1 st
theorem vx_iastZ {D : va_G} {cl : List vw_C} {ws : va_W} {tys : List (ClassId × FieldType)} {a : Nat} (hexec : p.tables.exec = Jvm.exec) (hb : c.code = cc) (hK : va_K D cl tys s) (hP : va_P D cl ws H) (q0 t0 : Nat) {cA : ClassId} {n : Nat} {f : Nat → Int32} (ha : ws[q0]? = some (a, .inl (cA, n, .inl f))) (ht : tys[t0]? = some (cA, .int)) {i : Int32} {x : Int32} (hout : ¬ vp_in i n) (hdg : decode cc pc = .ok (.iastore, 1))
    (k : ∀ tx : String, tx = (toString "Index " ++ toString i ++ toString " out of bounds for length " ++ toString n : String) → vx_Note p l e R s m args below meth c H locs cells slots Q (F0 m pc ls rest) "java/lang/ArrayIndexOutOfBoundsException" tx) : W p l e R s m args below meth c H locs cells slots Q (F0 m pc ls (.int x :: .int i :: .ref a :: rest)) := by
  intro T hT X
  obtain ⟨t, st, q⟩ := k _ rfl T hT X
  refine ⟨t, ?_, q⟩
  have h1 := X.iastoreOut hexec (by rw [hT]; exact hP q0 _ ha) ((hK.2 t0 _ ht).1 n (fun j => .int (f j))) (j := i) (by show (i < 0 ∨ (arrV _ _ _).slots.size ≤ _); rw [arrV_size]; exact Classical.byContradiction hout) (g := F0 m pc ls (.int x :: .int i :: .ref a :: rest)) rfl (rest := rest) rfl (by rw [hb]; exact hdg) t
  simp only [arrV_size] at h1
  exact h1 st
theorem vx_baldZ {D : va_G} {cl : List vw_C} {ws : va_W} {tys : List (ClassId × FieldType)} {a : Nat} (hexec : p.tables.exec = Jvm.exec) (hb : c.code = cc) (hK : va_K D cl tys s) (hP : va_P D cl ws H) (q0 t0 : Nat) {cA : ClassId} {n : Nat} {f : Nat → Int32} (ha : ws[q0]? = some (a, .inl (cA, n, .inl f))) (ht : tys[t0]? = some (cA, .byte)) {i : Int32} (hout : ¬ vp_in i n) (hdg : decode cc pc = .ok (.baload, 1))
    (k : ∀ tx : String, tx = (toString "Index " ++ toString i ++ toString " out of bounds for length " ++ toString n : String) → vx_Note p l e R s m args below meth c H locs cells slots Q (F0 m pc ls rest) "java/lang/ArrayIndexOutOfBoundsException" tx) : W p l e R s m args below meth c H locs cells slots Q (F0 m pc ls (.int i :: .ref a :: rest)) := by
  intro T hT X
  obtain ⟨t, st, q⟩ := k _ rfl T hT X
  refine ⟨t, ?_, q⟩
  have h1 := X.baloadOut hexec (by rw [hT]; exact hP q0 _ ha) ((hK.2 t0 _ ht).1 n (fun j => .int (f j))) (j := i) (by show (i < 0 ∨ (arrV _ _ _).slots.size ≤ _); rw [arrV_size]; exact Classical.byContradiction hout) (g := F0 m pc ls (.int i :: .ref a :: rest)) rfl (rest := rest) rfl (by rw [hb]; exact hdg) t
  simp only [arrV_size] at h1
  exact h1 st
theorem vx_bastZ {D : va_G} {cl : List vw_C} {ws : va_W} {tys : List (ClassId × FieldType)} {a : Nat} (hexec : p.tables.exec = Jvm.exec) (hb : c.code = cc) (hK : va_K D cl tys s) (hP : va_P D cl ws H) (q0 t0 : Nat) {cA : ClassId} {n : Nat} {f : Nat → Int32} (ha : ws[q0]? = some (a, .inl (cA, n, .inl f))) (ht : tys[t0]? = some (cA, .byte)) {i : Int32} {x : Int32} (hout : ¬ vp_in i n) (hdg : decode cc pc = .ok (.bastore, 1))
    (k : ∀ tx : String, tx = (toString "Index " ++ toString i ++ toString " out of bounds for length " ++ toString n : String) → vx_Note p l e R s m args below meth c H locs cells slots Q (F0 m pc ls rest) "java/lang/ArrayIndexOutOfBoundsException" tx) : W p l e R s m args below meth c H locs cells slots Q (F0 m pc ls (.int x :: .int i :: .ref a :: rest)) := by
  intro T hT X
  obtain ⟨t, st, q⟩ := k _ rfl T hT X
  refine ⟨t, ?_, q⟩
  have h1 := X.bastoreOut hexec (by rw [hT]; exact hP q0 _ ha) ((hK.2 t0 _ ht).1 n (fun j => .int (f j))) (j := i) (by show (i < 0 ∨ (arrV _ _ _).slots.size ≤ _); rw [arrV_size]; exact Classical.byContradiction hout) (g := F0 m pc ls (.int x :: .int i :: .ref a :: rest)) rfl (rest := rest) rfl (by rw [hb]; exact hdg) t
  simp only [arrV_size] at h1
  exact h1 st
theorem vx_zaldZ {D : va_G} {cl : List vw_C} {ws : va_W} {tys : List (ClassId × FieldType)} {a : Nat} (hexec : p.tables.exec = Jvm.exec) (hb : c.code = cc) (hK : va_K D cl tys s) (hP : va_P D cl ws H) (q0 t0 : Nat) {cA : ClassId} {n : Nat} {f : Nat → Int32} (ha : ws[q0]? = some (a, .inl (cA, n, .inl f))) (ht : tys[t0]? = some (cA, .boolean)) {i : Int32} (hout : ¬ vp_in i n) (hdg : decode cc pc = .ok (.baload, 1))
    (k : ∀ tx : String, tx = (toString "Index " ++ toString i ++ toString " out of bounds for length " ++ toString n : String) → vx_Note p l e R s m args below meth c H locs cells slots Q (F0 m pc ls rest) "java/lang/ArrayIndexOutOfBoundsException" tx) : W p l e R s m args below meth c H locs cells slots Q (F0 m pc ls (.int i :: .ref a :: rest)) := by
  intro T hT X
  obtain ⟨t, st, q⟩ := k _ rfl T hT X
  refine ⟨t, ?_, q⟩
  have h1 := X.baloadOut hexec (by rw [hT]; exact hP q0 _ ha) ((hK.2 t0 _ ht).1 n (fun j => .int (f j))) (j := i) (by show (i < 0 ∨ (arrV _ _ _).slots.size ≤ _); rw [arrV_size]; exact Classical.byContradiction hout) (g := F0 m pc ls (.int i :: .ref a :: rest)) rfl (rest := rest) rfl (by rw [hb]; exact hdg) t
  simp only [arrV_size] at h1
  exact h1 st
theorem vx_zastZ {D : va_G} {cl : List vw_C} {ws : va_W} {tys : List (ClassId × FieldType)} {a : Nat} (hexec : p.tables.exec = Jvm.exec) (hb : c.code = cc) (hK : va_K D cl tys s) (hP : va_P D cl ws H) (q0 t0 : Nat) {cA : ClassId} {n : Nat} {f : Nat → Int32} (ha : ws[q0]? = some (a, .inl (cA, n, .inl f))) (ht : tys[t0]? = some (cA, .boolean)) {i : Int32} {x : Int32} (hout : ¬ vp_in i n) (hdg : decode cc pc = .ok (.bastore, 1))
    (k : ∀ tx : String, tx = (toString "Index " ++ toString i ++ toString " out of bounds for length " ++ toString n : String) → vx_Note p l e R s m args below meth c H locs cells slots Q (F0 m pc ls rest) "java/lang/ArrayIndexOutOfBoundsException" tx) : W p l e R s m args below meth c H locs cells slots Q (F0 m pc ls (.int x :: .int i :: .ref a :: rest)) := by
  intro T hT X
  obtain ⟨t, st, q⟩ := k _ rfl T hT X
  refine ⟨t, ?_, q⟩
  have h1 := X.bastoreOut hexec (by rw [hT]; exact hP q0 _ ha) ((hK.2 t0 _ ht).1 n (fun j => .int (f j))) (j := i) (by show (i < 0 ∨ (arrV _ _ _).slots.size ≤ _); rw [arrV_size]; exact Classical.byContradiction hout) (g := F0 m pc ls (.int x :: .int i :: .ref a :: rest)) rfl (rest := rest) rfl (by rw [hb]; exact hdg) t
  simp only [arrV_size] at h1
  exact h1 st
theorem vx_caldZ {D : va_G} {cl : List vw_C} {ws : va_W} {tys : List (ClassId × FieldType)} {a : Nat} (hexec : p.tables.exec = Jvm.exec) (hb : c.code = cc) (hK : va_K D cl tys s) (hP : va_P D cl ws H) (q0 t0 : Nat) {cA : ClassId} {n : Nat} {f : Nat → Int32} (ha : ws[q0]? = some (a, .inl (cA, n, .inl f))) (ht : tys[t0]? = some (cA, .char)) {i : Int32} (hout : ¬ vp_in i n) (hdg : decode cc pc = .ok (.caload, 1))
    (k : ∀ tx : String, tx = (toString "Index " ++ toString i ++ toString " out of bounds for length " ++ toString n : String) → vx_Note p l e R s m args below meth c H locs cells slots Q (F0 m pc ls rest) "java/lang/ArrayIndexOutOfBoundsException" tx) : W p l e R s m args below meth c H locs cells slots Q (F0 m pc ls (.int i :: .ref a :: rest)) := by
  intro T hT X
  obtain ⟨t, st, q⟩ := k _ rfl T hT X
  refine ⟨t, ?_, q⟩
  have h1 := X.caloadOut hexec (by rw [hT]; exact hP q0 _ ha) ((hK.2 t0 _ ht).1 n (fun j => .int (f j))) (j := i) (by show (i < 0 ∨ (arrV _ _ _).slots.size ≤ _); rw [arrV_size]; exact Classical.byContradiction hout) (g := F0 m pc ls (.int i :: .ref a :: rest)) rfl (rest := rest) rfl (by rw [hb]; exact hdg) t
  simp only [arrV_size] at h1
  exact h1 st
theorem vx_castZ {D : va_G} {cl : List vw_C} {ws : va_W} {tys : List (ClassId × FieldType)} {a : Nat} (hexec : p.tables.exec = Jvm.exec) (hb : c.code = cc) (hK : va_K D cl tys s) (hP : va_P D cl ws H) (q0 t0 : Nat) {cA : ClassId} {n : Nat} {f : Nat → Int32} (ha : ws[q0]? = some (a, .inl (cA, n, .inl f))) (ht : tys[t0]? = some (cA, .char)) {i : Int32} {x : Int32} (hout : ¬ vp_in i n) (hdg : decode cc pc = .ok (.castore, 1))
    (k : ∀ tx : String, tx = (toString "Index " ++ toString i ++ toString " out of bounds for length " ++ toString n : String) → vx_Note p l e R s m args below meth c H locs cells slots Q (F0 m pc ls rest) "java/lang/ArrayIndexOutOfBoundsException" tx) : W p l e R s m args below meth c H locs cells slots Q (F0 m pc ls (.int x :: .int i :: .ref a :: rest)) := by
  intro T hT X
  obtain ⟨t, st, q⟩ := k _ rfl T hT X
  refine ⟨t, ?_, q⟩
  have h1 := X.castoreOut hexec (by rw [hT]; exact hP q0 _ ha) ((hK.2 t0 _ ht).1 n (fun j => .int (f j))) (j := i) (by show (i < 0 ∨ (arrV _ _ _).slots.size ≤ _); rw [arrV_size]; exact Classical.byContradiction hout) (g := F0 m pc ls (.int x :: .int i :: .ref a :: rest)) rfl (rest := rest) rfl (by rw [hb]; exact hdg) t
  simp only [arrV_size] at h1
  exact h1 st
theorem vx_saldZ {D : va_G} {cl : List vw_C} {ws : va_W} {tys : List (ClassId × FieldType)} {a : Nat} (hexec : p.tables.exec = Jvm.exec) (hb : c.code = cc) (hK : va_K D cl tys s) (hP : va_P D cl ws H) (q0 t0 : Nat) {cA : ClassId} {n : Nat} {f : Nat → Int32} (ha : ws[q0]? = some (a, .inl (cA, n, .inl f))) (ht : tys[t0]? = some (cA, .short)) {i : Int32} (hout : ¬ vp_in i n) (hdg : decode cc pc = .ok (.saload, 1))
    (k : ∀ tx : String, tx = (toString "Index " ++ toString i ++ toString " out of bounds for length " ++ toString n : String) → vx_Note p l e R s m args below meth c H locs cells slots Q (F0 m pc ls rest) "java/lang/ArrayIndexOutOfBoundsException" tx) : W p l e R s m args below meth c H locs cells slots Q (F0 m pc ls (.int i :: .ref a :: rest)) := by
  intro T hT X
  obtain ⟨t, st, q⟩ := k _ rfl T hT X
  refine ⟨t, ?_, q⟩
  have h1 := X.saloadOut hexec (by rw [hT]; exact hP q0 _ ha) ((hK.2 t0 _ ht).1 n (fun j => .int (f j))) (j := i) (by show (i < 0 ∨ (arrV _ _ _).slots.size ≤ _); rw [arrV_size]; exact Classical.byContradiction hout) (g := F0 m pc ls (.int i :: .ref a :: rest)) rfl (rest := rest) rfl (by rw [hb]; exact hdg) t
  simp only [arrV_size] at h1
  exact h1 st
theorem vx_sastZ {D : va_G} {cl : List vw_C} {ws : va_W} {tys : List (ClassId × FieldType)} {a : Nat} (hexec : p.tables.exec = Jvm.exec) (hb : c.code = cc) (hK : va_K D cl tys s) (hP : va_P D cl ws H) (q0 t0 : Nat) {cA : ClassId} {n : Nat} {f : Nat → Int32} (ha : ws[q0]? = some (a, .inl (cA, n, .inl f))) (ht : tys[t0]? = some (cA, .short)) {i : Int32} {x : Int32} (hout : ¬ vp_in i n) (hdg : decode cc pc = .ok (.sastore, 1))
    (k : ∀ tx : String, tx = (toString "Index " ++ toString i ++ toString " out of bounds for length " ++ toString n : String) → vx_Note p l e R s m args below meth c H locs cells slots Q (F0 m pc ls rest) "java/lang/ArrayIndexOutOfBoundsException" tx) : W p l e R s m args below meth c H locs cells slots Q (F0 m pc ls (.int x :: .int i :: .ref a :: rest)) := by
  intro T hT X
  obtain ⟨t, st, q⟩ := k _ rfl T hT X
  refine ⟨t, ?_, q⟩
  have h1 := X.sastoreOut hexec (by rw [hT]; exact hP q0 _ ha) ((hK.2 t0 _ ht).1 n (fun j => .int (f j))) (j := i) (by show (i < 0 ∨ (arrV _ _ _).slots.size ≤ _); rw [arrV_size]; exact Classical.byContradiction hout) (g := F0 m pc ls (.int x :: .int i :: .ref a :: rest)) rfl (rest := rest) rfl (by rw [hb]; exact hdg) t
  simp only [arrV_size] at h1
  exact h1 st
theorem vx_laldZ {D : va_G} {cl : List vw_C} {ws : va_W} {tys : List (ClassId × FieldType)} {a : Nat} (hexec : p.tables.exec = Jvm.exec) (hb : c.code = cc) (hK : va_K D cl tys s) (hP : va_P D cl ws H) (q0 t0 : Nat) {cA : ClassId} {n : Nat} {f : Nat → Int64} (ha : ws[q0]? = some (a, .inl (cA, n, .inr (.inl f)))) (ht : tys[t0]? = some (cA, .long)) {i : Int32} (hout : ¬ vp_in i n) (hdg : decode cc pc = .ok (.laload, 1))
    (k : ∀ tx : String, tx = (toString "Index " ++ toString i ++ toString " out of bounds for length " ++ toString n : String) → vx_Note p l e R s m args below meth c H locs cells slots Q (F0 m pc ls rest) "java/lang/ArrayIndexOutOfBoundsException" tx) : W p l e R s m args below meth c H locs cells slots Q (F0 m pc ls (.int i :: .ref a :: rest)) := by
  intro T hT X
  obtain ⟨t, st, q⟩ := k _ rfl T hT X
  refine ⟨t, ?_, q⟩
  have h1 := X.laloadOut hexec (by rw [hT]; exact hP q0 _ ha) ((hK.2 t0 _ ht).1 n (fun j => .long (f j))) (j := i) (by show (i < 0 ∨ (arrV _ _ _).slots.size ≤ _); rw [arrV_size]; exact Classical.byContradiction hout) (g := F0 m pc ls (.int i :: .ref a :: rest)) rfl (rest := rest) rfl (by rw [hb]; exact hdg) t
  simp only [arrV_size] at h1
  exact h1 st
theorem vx_lastZ {D : va_G} {cl : List vw_C} {ws : va_W} {tys : List (ClassId × FieldType)} {a : Nat} (hexec : p.tables.exec = Jvm.exec) (hb : c.code = cc) (hK : va_K D cl tys s) (hP : va_P D cl ws H) (q0 t0 : Nat) {cA : ClassId} {n : Nat} {f : Nat → Int64} (ha : ws[q0]? = some (a, .inl (cA, n, .inr (.inl f)))) (ht : tys[t0]? = some (cA, .long)) {i : Int32} {x : Int64} (hout : ¬ vp_in i n) (hdg : decode cc pc = .ok (.lastore, 1))
    (k : ∀ tx : String, tx = (toString "Index " ++ toString i ++ toString " out of bounds for length " ++ toString n : String) → vx_Note p l e R s m args below meth c H locs cells slots Q (F0 m pc ls rest) "java/lang/ArrayIndexOutOfBoundsException" tx) : W p l e R s m args below meth c H locs cells slots Q (F0 m pc ls (.long x :: .int i :: .ref a :: rest)) := by
  intro T hT X
  obtain ⟨t, st, q⟩ := k _ rfl T hT X
  refine ⟨t, ?_, q⟩
  have h1 := X.lastoreOut hexec (by rw [hT]; exact hP q0 _ ha) ((hK.2 t0 _ ht).1 n (fun j => .long (f j))) (j := i) (by show (i < 0 ∨ (arrV _ _ _).slots.size ≤ _); rw [arrV_size]; exact Classical.byContradiction hout) (g := F0 m pc ls (.long x :: .int i :: .ref a :: rest)) rfl (rest := rest) rfl (by rw [hb]; exact hdg) t
  simp only [arrV_size] at h1
  exact h1 st
theorem vx_faldZ {D : va_G} {cl : List vw_C} {ws : va_W} {tys : List (ClassId × FieldType)} {a : Nat} (hexec : p.tables.exec = Jvm.exec) (hb : c.code = cc) (hK : va_K D cl tys s) (hP : va_P D cl ws H) (q0 t0 : Nat) {cA : ClassId} {n : Nat} {f : Nat → UInt32} (ha : ws[q0]? = some (a, .inl (cA, n, .inr (.inr (.inl f))))) (ht : tys[t0]? = some (cA, .float)) {i : Int32} (hout : ¬ vp_in i n) (hdg : decode cc pc = .ok (.faload, 1))
    (k : ∀ tx : String, tx = (toString "Index " ++ toString i ++ toString " out of bounds for length " ++ toString n : String) → vx_Note p l e R s m args below meth c H locs cells slots Q (F0 m pc ls rest) "java/lang/ArrayIndexOutOfBoundsException" tx) : W p l e R s m args below meth c H locs cells slots Q (F0 m pc ls (.int i :: .ref a :: rest)) := by
  intro T hT X
  obtain ⟨t, st, q⟩ := k _ rfl T hT X
  refine ⟨t, ?_, q⟩
  have h1 := X.faloadOut hexec (by rw [hT]; exact hP q0 _ ha) ((hK.2 t0 _ ht).1 n (fun j => .float (f j))) (j := i) (by show (i < 0 ∨ (arrV _ _ _).slots.size ≤ _); rw [arrV_size]; exact Classical.byContradiction hout) (g := F0 m pc ls (.int i :: .ref a :: rest)) rfl (rest := rest) rfl (by rw [hb]; exact hdg) t
  simp only [arrV_size] at h1
  exact h1 st
theorem vx_fastZ {D : va_G} {cl : List vw_C} {ws : va_W} {tys : List (ClassId × FieldType)} {a : Nat} (hexec : p.tables.exec = Jvm.exec) (hb : c.code = cc) (hK : va_K D cl tys s) (hP : va_P D cl ws H) (q0 t0 : Nat) {cA : ClassId} {n : Nat} {f : Nat → UInt32} (ha : ws[q0]? = some (a, .inl (cA, n, .inr (.inr (.inl f))))) (ht : tys[t0]? = some (cA, .float)) {i : Int32} {x : UInt32} (hout : ¬ vp_in i n) (hdg : decode cc pc = .ok (.fastore, 1))
    (k : ∀ tx : String, tx = (toString "Index " ++ toString i ++ toString " out of bounds for length " ++ toString n : String) → vx_Note p l e R s m args below meth c H locs cells slots Q (F0 m pc ls rest) "java/lang/ArrayIndexOutOfBoundsException" tx) : W p l e R s m args below meth c H locs cells slots Q (F0 m pc ls (.float x :: .int i :: .ref a :: rest)) := by
  intro T hT X
  obtain ⟨t, st, q⟩ := k _ rfl T hT X
  refine ⟨t, ?_, q⟩
  have h1 := X.fastoreOut hexec (by rw [hT]; exact hP q0 _ ha) ((hK.2 t0 _ ht).1 n (fun j => .float (f j))) (j := i) (by show (i < 0 ∨ (arrV _ _ _).slots.size ≤ _); rw [arrV_size]; exact Classical.byContradiction hout) (g := F0 m pc ls (.float x :: .int i :: .ref a :: rest)) rfl (rest := rest) rfl (by rw [hb]; exact hdg) t
  simp only [arrV_size] at h1
  exact h1 st
theorem vx_daldZ {D : va_G} {cl : List vw_C} {ws : va_W} {tys : List (ClassId × FieldType)} {a : Nat} (hexec : p.tables.exec = Jvm.exec) (hb : c.code = cc) (hK : va_K D cl tys s) (hP : va_P D cl ws H) (q0 t0 : Nat) {cA : ClassId} {n : Nat} {f : Nat → UInt64} (ha : ws[q0]? = some (a, .inl (cA, n, .inr (.inr (.inr (.inl f)))))) (ht : tys[t0]? = some (cA, .double)) {i : Int32} (hout : ¬ vp_in i n) (hdg : decode cc pc = .ok (.daload, 1))
    (k : ∀ tx : String, tx = (toString "Index " ++ toString i ++ toString " out of bounds for length " ++ toString n : String) → vx_Note p l e R s m args below meth c H locs cells slots Q (F0 m pc ls rest) "java/lang/ArrayIndexOutOfBoundsException" tx) : W p l e R s m args below meth c H locs cells slots Q (F0 m pc ls (.int i :: .ref a :: rest)) := by
  intro T hT X
  obtain ⟨t, st, q⟩ := k _ rfl T hT X
  refine ⟨t, ?_, q⟩
  have h1 := X.daloadOut hexec (by rw [hT]; exact hP q0 _ ha) ((hK.2 t0 _ ht).1 n (fun j => .double (f j))) (j := i) (by show (i < 0 ∨ (arrV _ _ _).slots.size ≤ _); rw [arrV_size]; exact Classical.byContradiction hout) (g := F0 m pc ls (.int i :: .ref a :: rest)) rfl (rest := rest) rfl (by rw [hb]; exact hdg) t
  simp only [arrV_size] at h1
  exact h1 st
theorem vx_dastZ {D : va_G} {cl : List vw_C} {ws : va_W} {tys : List (ClassId × FieldType)} {a : Nat} (hexec : p.tables.exec = Jvm.exec) (hb : c.code = cc) (hK : va_K D cl tys s) (hP : va_P D cl ws H) (q0 t0 : Nat) {cA : ClassId} {n : Nat} {f : Nat → UInt64} (ha : ws[q0]? = some (a, .inl (cA, n, .inr (.inr (.inr (.inl f)))))) (ht : tys[t0]? = some (cA, .double)) {i : Int32} {x : UInt64} (hout : ¬ vp_in i n) (hdg : decode cc pc = .ok (.dastore, 1))
    (k : ∀ tx : String, tx = (toString "Index " ++ toString i ++ toString " out of bounds for length " ++ toString n : String) → vx_Note p l e R s m args below meth c H locs cells slots Q (F0 m pc ls rest) "java/lang/ArrayIndexOutOfBoundsException" tx) : W p l e R s m args below meth c H locs cells slots Q (F0 m pc ls (.double x :: .int i :: .ref a :: rest)) := by
  intro T hT X
  obtain ⟨t, st, q⟩ := k _ rfl T hT X
  refine ⟨t, ?_, q⟩
  have h1 := X.dastoreOut hexec (by rw [hT]; exact hP q0 _ ha) ((hK.2 t0 _ ht).1 n (fun j => .double (f j))) (j := i) (by show (i < 0 ∨ (arrV _ _ _).slots.size ≤ _); rw [arrV_size]; exact Classical.byContradiction hout) (g := F0 m pc ls (.double x :: .int i :: .ref a :: rest)) rfl (rest := rest) rfl (by rw [hb]; exact hdg) t
  simp only [arrV_size] at h1
  exact h1 st
theorem vx_arraylengthN (hexec : p.tables.exec = Jvm.exec) (hb : c.code = cc) (hdg : decode cc pc = .ok (.arraylength, 1)) (k : vx_NoteN p l e R s m args below meth c H locs cells slots Q (F0 m pc ls rest)) : W p l e R s m args below meth c H locs cells slots Q (F0 m pc ls (.null :: rest)) := by
  intro T hT X
  obtain ⟨t, st, q⟩ := k T hT X
  exact ⟨t, X.arraylengthNull hexec (g := F0 m pc ls (.null :: rest)) rfl (rest := rest) rfl (by rw [hb]; exact hdg) t st, q⟩
theorem vx_ialoadN (hexec : p.tables.exec = Jvm.exec) (hb : c.code = cc) {i : Int32} (hdg : decode cc pc = .ok (.iaload, 1)) (k : vx_NoteN p l e R s m args below meth c H locs cells slots Q (F0 m pc ls rest)) : W p l e R s m args below meth c H locs cells slots Q (F0 m pc ls (.int i :: .null :: rest)) := by
  intro T hT X
  obtain ⟨t, st, q⟩ := k T hT X
  exact ⟨t, X.ialoadNull hexec (g := F0 m pc ls (.int i :: .null :: rest)) rfl (rest := rest) rfl (by rw [hb]; exact hdg) t st, q⟩
theorem vx_laloadN (hexec : p.tables.exec = Jvm.exec) (hb : c.code = cc) {i : Int32} (hdg : decode cc pc = .ok (.laload, 1)) (k : vx_NoteN p l e R s m args below meth c H locs cells slots Q (F0 m pc ls rest)) : W p l e R s m args below meth c H locs cells slots Q (F0 m pc ls (.int i :: .null :: rest)) := by
  intro T hT X
  obtain ⟨t, st, q⟩ := k T hT X
  exact ⟨t, X.laloadNull hexec (g := F0 m pc ls (.int i :: .null :: rest)) rfl (rest := rest) rfl (by rw [hb]; exact hdg) t st, q⟩
theorem vx_faloadN (hexec : p.tables.exec = Jvm.exec) (hb : c.code = cc) {i : Int32} (hdg : decode cc pc = .ok (.faload, 1)) (k : vx_NoteN p l e R s m args below meth c H locs cells slots Q (F0 m pc ls rest)) : W p l e R s m args below meth c H locs cells slots Q (F0 m pc ls (.int i :: .null :: rest)) := by
  intro T hT X
  obtain ⟨t, st, q⟩ := k T hT X
  exact ⟨t, X.faloadNull hexec (g := F0 m pc ls (.int i :: .null :: rest)) rfl (rest := rest) rfl (by rw [hb]; exact hdg) t st, q⟩
theorem vx_daloadN (hexec : p.tables.exec = Jvm.exec) (hb : c.code = cc) {i : Int32} (hdg : decode cc pc = .ok (.daload, 1)) (k : vx_NoteN p l e R s m args below meth c H locs cells slots Q (F0 m pc ls rest)) : W p l e R s m args below meth c H locs cells slots Q (F0 m pc ls (.int i :: .null :: rest)) := by
  intro T hT X
  obtain ⟨t, st, q⟩ := k T hT X
  exact ⟨t, X.daloadNull hexec (g := F0 m pc ls (.int i :: .null :: rest)) rfl (rest := rest) rfl (by rw [hb]; exact hdg) t st, q⟩
theorem vx_aaloadN (hexec : p.tables.exec = Jvm.exec) (hb : c.code = cc) {i : Int32} (hdg : decode cc pc = .ok (.aaload, 1)) (k : vx_NoteN p l e R s m args below meth c H locs cells slots Q (F0 m pc ls rest)) : W p l e R s m args below meth c H locs cells slots Q (F0 m pc ls (.int i :: .null :: rest)) := by
  intro T hT X
  obtain ⟨t, st, q⟩ := k T hT X
  exact ⟨t, X.aaloadNull hexec (g := F0 m pc ls (.int i :: .null :: rest)) rfl (rest := rest) rfl (by rw [hb]; exact hdg) t st, q⟩
theorem vx_baloadN (hexec : p.tables.exec = Jvm.exec) (hb : c.code = cc) {i : Int32} (hdg : decode cc pc = .ok (.baload, 1)) (k : vx_NoteN p l e R s m args below meth c H locs cells slots Q (F0 m pc ls rest)) : W p l e R s m args below meth c H locs cells slots Q (F0 m pc ls (.int i :: .null :: rest)) := by
  intro T hT X
  obtain ⟨t, st, q⟩ := k T hT X
  exact ⟨t, X.baloadNull hexec (g := F0 m pc ls (.int i :: .null :: rest)) rfl (rest := rest) rfl (by rw [hb]; exact hdg) t st, q⟩
theorem vx_caloadN (hexec : p.tables.exec = Jvm.exec) (hb : c.code = cc) {i : Int32} (hdg : decode cc pc = .ok (.caload, 1)) (k : vx_NoteN p l e R s m args below meth c H locs cells slots Q (F0 m pc ls rest)) : W p l e R s m args below meth c H locs cells slots Q (F0 m pc ls (.int i :: .null :: rest)) := by
  intro T hT X
  obtain ⟨t, st, q⟩ := k T hT X
  exact ⟨t, X.caloadNull hexec (g := F0 m pc ls (.int i :: .null :: rest)) rfl (rest := rest) rfl (by rw [hb]; exact hdg) t st, q⟩
theorem vx_saloadN (hexec : p.tables.exec = Jvm.exec) (hb : c.code = cc) {i : Int32} (hdg : decode cc pc = .ok (.saload, 1)) (k : vx_NoteN p l e R s m args below meth c H locs cells slots Q (F0 m pc ls rest)) : W p l e R s m args below meth c H locs cells slots Q (F0 m pc ls (.int i :: .null :: rest)) := by
  intro T hT X
  obtain ⟨t, st, q⟩ := k T hT X
  exact ⟨t, X.saloadNull hexec (g := F0 m pc ls (.int i :: .null :: rest)) rfl (rest := rest) rfl (by rw [hb]; exact hdg) t st, q⟩
theorem vx_iastoreN (hexec : p.tables.exec = Jvm.exec) (hb : c.code = cc) {x : Int32} {i : Int32} (hdg : decode cc pc = .ok (.iastore, 1)) (k : vx_NoteN p l e R s m args below meth c H locs cells slots Q (F0 m pc ls rest)) : W p l e R s m args below meth c H locs cells slots Q (F0 m pc ls (.int x :: .int i :: .null :: rest)) := by
  intro T hT X
  obtain ⟨t, st, q⟩ := k T hT X
  exact ⟨t, X.iastoreNull hexec (g := F0 m pc ls (.int x :: .int i :: .null :: rest)) rfl (rest := rest) rfl (by rw [hb]; exact hdg) t st, q⟩
theorem vx_lastoreN (hexec : p.tables.exec = Jvm.exec) (hb : c.code = cc) {x : Int64} {i : Int32} (hdg : decode cc pc = .ok (.lastore, 1)) (k : vx_NoteN p l e R s m args below meth c H locs cells slots Q (F0 m pc ls rest)) : W p l e R s m args below meth c H locs cells slots Q (F0 m pc ls (.long x :: .int i :: .null :: rest)) := by
  intro T hT X
  obtain ⟨t, st, q⟩ := k T hT X
  exact ⟨t, X.lastoreNull hexec (g := F0 m pc ls (.long x :: .int i :: .null :: rest)) rfl (rest := rest) rfl (by rw [hb]; exact hdg) t st, q⟩
theorem vx_fastoreN (hexec : p.tables.exec = Jvm.exec) (hb : c.code = cc) {x : UInt32} {i : Int32} (hdg : decode cc pc = .ok (.fastore, 1)) (k : vx_NoteN p l e R s m args below meth c H locs cells slots Q (F0 m pc ls rest)) : W p l e R s m args below meth c H locs cells slots Q (F0 m pc ls (.float x :: .int i :: .null :: rest)) := by
  intro T hT X
  obtain ⟨t, st, q⟩ := k T hT X
  exact ⟨t, X.fastoreNull hexec (g := F0 m pc ls (.float x :: .int i :: .null :: rest)) rfl (rest := rest) rfl (by rw [hb]; exact hdg) t st, q⟩
theorem vx_dastoreN (hexec : p.tables.exec = Jvm.exec) (hb : c.code = cc) {x : UInt64} {i : Int32} (hdg : decode cc pc = .ok (.dastore, 1)) (k : vx_NoteN p l e R s m args below meth c H locs cells slots Q (F0 m pc ls rest)) : W p l e R s m args below meth c H locs cells slots Q (F0 m pc ls (.double x :: .int i :: .null :: rest)) := by
  intro T hT X
  obtain ⟨t, st, q⟩ := k T hT X
  exact ⟨t, X.dastoreNull hexec (g := F0 m pc ls (.double x :: .int i :: .null :: rest)) rfl (rest := rest) rfl (by rw [hb]; exact hdg) t st, q⟩
theorem vx_bastoreN (hexec : p.tables.exec = Jvm.exec) (hb : c.code = cc) {x : Int32} {i : Int32} (hdg : decode cc pc = .ok (.bastore, 1)) (k : vx_NoteN p l e R s m args below meth c H locs cells slots Q (F0 m pc ls rest)) : W p l e R s m args below meth c H locs cells slots Q (F0 m pc ls (.int x :: .int i :: .null :: rest)) := by
  intro T hT X
  obtain ⟨t, st, q⟩ := k T hT X
  exact ⟨t, X.bastoreNull hexec (g := F0 m pc ls (.int x :: .int i :: .null :: rest)) rfl (rest := rest) rfl (by rw [hb]; exact hdg) t st, q⟩
theorem vx_castoreN (hexec : p.tables.exec = Jvm.exec) (hb : c.code = cc) {x : Int32} {i : Int32} (hdg : decode cc pc = .ok (.castore, 1)) (k : vx_NoteN p l e R s m args below meth c H locs cells slots Q (F0 m pc ls rest)) : W p l e R s m args below meth c H locs cells slots Q (F0 m pc ls (.int x :: .int i :: .null :: rest)) := by
  intro T hT X
  obtain ⟨t, st, q⟩ := k T hT X
  exact ⟨t, X.castoreNull hexec (g := F0 m pc ls (.int x :: .int i :: .null :: rest)) rfl (rest := rest) rfl (by rw [hb]; exact hdg) t st, q⟩
theorem vx_sastoreN (hexec : p.tables.exec = Jvm.exec) (hb : c.code = cc) {x : Int32} {i : Int32} (hdg : decode cc pc = .ok (.sastore, 1)) (k : vx_NoteN p l e R s m args below meth c H locs cells slots Q (F0 m pc ls rest)) : W p l e R s m args below meth c H locs cells slots Q (F0 m pc ls (.int x :: .int i :: .null :: rest)) := by
  intro T hT X
  obtain ⟨t, st, q⟩ := k T hT X
  exact ⟨t, X.sastoreNull hexec (g := F0 m pc ls (.int x :: .int i :: .null :: rest)) rfl (rest := rest) rfl (by rw [hb]; exact hdg) t st, q⟩
theorem vx_invokeN {own C : String} {index maxL : Nat} {y : MethodName} {bytes : ByteArray} {ret : Option FieldType} (hexec : p.tables.exec = Jvm.exec) (hb : c.code = cc) (hown : s.vm.findClass own = some m.cls) (hlink : (Cond.methodLink own index y).before args s = true) (hinst : (Cond.instanceMethod y).before args s = true) (hcode : (Cond.code y bytes maxL ret).before args s = true) (hsel : (Cond.selects C y y).before args s = true)
    (hx : y.cls ≠ "java/lang/invoke/MethodHandle" ∧ y.cls ≠ "java/lang/invoke/VarHandle") {As : List Value} (hlen : (parseMethodDescriptor y.desc).map (fun d => d.parameters.length) = some As.length) (hdg : decode cc pc = .ok (.invokevirtual index, 3))
    (k : vx_NoteN p l e R s m args below meth c H locs cells slots Q (F0 m pc ls rest)) {st0 : List Value} (hst : st0 = As.reverse ++ .null :: rest) : W p l e R s m args below meth c H locs cells slots Q (F0 m pc ls st0) := by
  intro T hT X
  obtain ⟨r0, r, hn, hrm, hstR, hsigR⟩ := va_Decl.of hinst hcode
  obtain ⟨c2, r2, m2, q1, q2, q3, q4, kP, hkP, hkPi⟩ := Cond.selects_spec hsel
  cases hn.symm.trans q3
  have hl9 : As.length = r.sig.parameters.length := by
    rw [hsigR] at hlen
    exact (Option.some.inj hlen).symm
  obtain ⟨vm', X1, st1⟩ := X.invokevirtualNull hexec hown hlink hn hrm hstR hkP hkPi hx (g := F0 m pc ls st0) rfl (argsL := As) (rest := rest) hl9 hst (by rw [hb]; exact hdg)
  obtain ⟨t, st, q⟩ := k (T.setVm vm') hT X1
  exact ⟨t, st1 t st, q⟩
theorem vx_newarrayZ {atype : ArrayType} (hexec : p.tables.exec = Jvm.exec) (hb : c.code = cc) {n : Int32} (h0 : n < 0) (hdg : decode cc pc = .ok (.newarray atype, 2)) (k : ∀ tx : String, tx = toString n → vx_Note p l e R s m args below meth c H locs cells slots Q (F0 m pc ls rest) "java/lang/NegativeArraySizeException" tx) : W p l e R s m args below meth c H locs cells slots Q (F0 m pc ls (.int n :: rest)) := by
  intro T hT X
  obtain ⟨t, st, q⟩ := k _ rfl T hT X
  exact ⟨t, X.newarrayNegative hexec (g := F0 m pc ls (.int n :: rest)) rfl h0 (rest := rest) rfl (by rw [hb]; exact hdg) t st, q⟩
end
end VXM
/-! ===== END ===== -/
end
section
/-! ===== BEGIN printed: names, fields, word lists, decode rows ===== -/
def RX0 : String := "SapNetwork$Accounts"
def TX0 : u_T := fun k => match k with
  | 0 => ("SapNetwork$Accounts", "sapVolume", "J", false)
  | 1 => ("SapNetwork$Accounts", "sapSugar", "J", false)
  | 2 => ("SapNetwork$Accounts", "steamVolume", "J", false)
  | 3 => ("SapNetwork$Accounts", "lossVolume", "J", false)
  | _ => ("SapNetwork$Accounts", "lossSugar", "J", false)
def tyX0 : Nat → FieldType := fun k => match k with
  | 0 => .long
  | 1 => .long
  | 2 => .long
  | 3 => .long
  | _ => .long
abbrev wsX00 : List Cond := u_ws RX0 TX0 5
theorem nmX0 : ∀ a, a < 5 → ∀ b, b < 5 → a ≠ b → (TX0 a).2.1 ≠ (TX0 b).2.1 := by decide +kernel
theorem tyX0_ok : ∀ k, k < 5 → parseFieldDescriptor (TX0 k).2.2.1 = some (tyX0 k) := by decide +kernel
abbrev cX0_init : ByteArray := prog_2_method_1_code
def yX0_init : MethodName := ⟨RX0, "<init>", "()V"⟩
abbrev cX0_addSap : ByteArray := prog_2_method_2_code
def yX0_addSap : MethodName := ⟨RX0, "addSap", "(II)V"⟩
abbrev cX0_addSteam : ByteArray := prog_2_method_3_code
def yX0_addSteam : MethodName := ⟨RX0, "addSteam", "(I)V"⟩
abbrev cX0_addLoss : ByteArray := prog_2_method_4_code
def yX0_addLoss : MethodName := ⟨RX0, "addLoss", "(II)V"⟩
def RX1 : String := "SapNetwork$Pan"
def TX1 : u_T := fun k => match k with
  | 0 => ("SapNetwork$Pan", "volume", "I", false)
  | 1 => ("SapNetwork$Pan", "sugar", "I", false)
  | _ => ("SapNetwork$Pan", "boiledHours", "I", false)
def tyX1 : Nat → FieldType := fun k => match k with
  | 0 => .int
  | 1 => .int
  | _ => .int
abbrev wsX10 : List Cond := u_ws RX1 TX1 3
theorem nmX1 : ∀ a, a < 3 → ∀ b, b < 3 → a ≠ b → (TX1 a).2.1 ≠ (TX1 b).2.1 := by decide +kernel
theorem tyX1_ok : ∀ k, k < 3 → parseFieldDescriptor (TX1 k).2.2.1 = some (tyX1 k) := by decide +kernel
abbrev cX1_init : ByteArray := prog_3_method_1_code
def yX1_init : MethodName := ⟨RX1, "<init>", "()V"⟩
abbrev cX1_leastVolume : ByteArray := prog_3_method_2_code
def yX1_leastVolume : MethodName := ⟨RX1, "leastVolume", "()I"⟩
abbrev cX1_isSyrup : ByteArray := prog_3_method_3_code
def yX1_isSyrup : MethodName := ⟨RX1, "isSyrup", "()Z"⟩
abbrev cX1_fill : ByteArray := prog_3_method_4_code
def yX1_fill : MethodName := ⟨RX1, "fill", "(II)V"⟩
abbrev cX1_boil : ByteArray := prog_3_method_5_code
def yX1_boil : MethodName := ⟨RX1, "boil", "(I)I"⟩
abbrev cX1_copy : ByteArray := prog_3_method_6_code
def yX1_copy : MethodName := ⟨RX1, "copy", "(LSapNetwork$Pan;)V"⟩
abbrev cX1_clear : ByteArray := prog_3_method_7_code
def yX1_clear : MethodName := ⟨RX1, "clear", "()V"⟩
def RX2 : String := "SapNetwork$Syrup"
def TX2 : u_T := fun k => match k with
  | 0 => ("SapNetwork$Syrup", "volumes", "[I", true)
  | 1 => ("SapNetwork$Syrup", "grades", "[C", true)
  | 2 => ("SapNetwork$Syrup", "count", "I", false)
  | _ => ("SapNetwork$Syrup", "sugar", "J", false)
def tyX2 : Nat → FieldType := fun k => match k with
  | 0 => .array .int
  | 1 => .array .char
  | 2 => .int
  | _ => .long
abbrev wsX20 : List Cond := u_ws RX2 TX2 4
theorem nmX2 : ∀ a, a < 4 → ∀ b, b < 4 → a ≠ b → (TX2 a).2.1 ≠ (TX2 b).2.1 := by decide +kernel
theorem tyX2_ok : ∀ k, k < 4 → parseFieldDescriptor (TX2 k).2.2.1 = some (tyX2 k) := by decide +kernel
abbrev cX2_init : ByteArray := prog_4_method_1_code
def yX2_init : MethodName := ⟨RX2, "<init>", "()V"⟩
abbrev cX2_size : ByteArray := prog_4_method_2_code
def yX2_size : MethodName := ⟨RX2, "size", "()I"⟩
abbrev cX2_isFull : ByteArray := prog_4_method_3_code
def yX2_isFull : MethodName := ⟨RX2, "isFull", "()Z"⟩
abbrev cX2_has : ByteArray := prog_4_method_4_code
def yX2_has : MethodName := ⟨RX2, "has", "(I)Z"⟩
abbrev cX2_keep : ByteArray := prog_4_method_5_code
def yX2_keep : MethodName := ⟨RX2, "keep", "(IIC)I"⟩
abbrev cX2_volumeOfAll : ByteArray := prog_4_method_6_code
def yX2_volumeOfAll : MethodName := ⟨RX2, "volumeOfAll", "()J"⟩
def RX3 : String := "SapNetwork$Tank"
def TX3 : u_T := fun k => match k with
  | 0 => ("SapNetwork$Tank", "capacity", "I", true)
  | 1 => ("SapNetwork$Tank", "volume", "I", false)
  | _ => ("SapNetwork$Tank", "sugar", "I", false)
def tyX3 : Nat → FieldType := fun k => match k with
  | 0 => .int
  | 1 => .int
  | _ => .int
abbrev wsX30 : List Cond := u_ws RX3 TX3 3
theorem nmX3 : ∀ a, a < 3 → ∀ b, b < 3 → a ≠ b → (TX3 a).2.1 ≠ (TX3 b).2.1 := by decide +kernel
theorem tyX3_ok : ∀ k, k < 3 → parseFieldDescriptor (TX3 k).2.2.1 = some (tyX3 k) := by decide +kernel
abbrev cX3_init : ByteArray := prog_5_method_1_code
def yX3_init : MethodName := ⟨RX3, "<init>", "(I)V"⟩
abbrev cX3_room : ByteArray := prog_5_method_2_code
def yX3_room : MethodName := ⟨RX3, "room", "()I"⟩
abbrev cX3_putIn : ByteArray := prog_5_method_3_code
def yX3_putIn : MethodName := ⟨RX3, "putIn", "(II)V"⟩
abbrev cX3_takeOut : ByteArray := prog_5_method_4_code
def yX3_takeOut : MethodName := ⟨RX3, "takeOut", "(II)V"⟩
def RX4 : String := "SapNetwork$Tap"
def TX4 : u_T := fun k => match k with
  | 0 => ("SapNetwork$Tap", "rate", "I", true)
  | 1 => ("SapNetwork$Tap", "sweetness", "I", true)
  | 2 => ("SapNetwork$Tap", "shade", "I", true)
  | 3 => ("SapNetwork$Tap", "given", "[I", true)
  | 4 => ("SapNetwork$Tap", "charge", "I", false)
  | _ => ("SapNetwork$Tap", "givenInAll", "I", false)
def tyX4 : Nat → FieldType := fun k => match k with
  | 0 => .int
  | 1 => .int
  | 2 => .int
  | 3 => .array .int
  | 4 => .int
  | _ => .int
abbrev wsX40 : List Cond := u_ws RX4 TX4 6
theorem nmX4 : ∀ a, a < 6 → ∀ b, b < 6 → a ≠ b → (TX4 a).2.1 ≠ (TX4 b).2.1 := by decide +kernel
theorem tyX4_ok : ∀ k, k < 6 → parseFieldDescriptor (TX4 k).2.2.1 = some (tyX4 k) := by decide +kernel
abbrev cX4_init : ByteArray := prog_6_method_1_code
def yX4_init : MethodName := ⟨RX4, "<init>", "(III)V"⟩
abbrev cX4_run : ByteArray := prog_6_method_2_code
def yX4_run : MethodName := ⟨RX4, "run", "(III)I"⟩
def RX5 : String := "SapNetwork$Tubes"
def TX5 : u_T := fun k => match k with
  | 0 => ("SapNetwork$Tubes", "parents", "[I", true)
  | 1 => ("SapNetwork$Tubes", "drops", "[I", true)
  | 2 => ("SapNetwork$Tubes", "leaks", "[I", true)
  | 3 => ("SapNetwork$Tubes", "vacuums", "[I", true)
  | 4 => ("SapNetwork$Tubes", "expectations", "[I", true)
  | 5 => ("SapNetwork$Tubes", "count", "I", false)
  | _ => ("SapNetwork$Tubes", "setting", "I", false)
def tyX5 : Nat → FieldType := fun k => match k with
  | 0 => .array .int
  | 1 => .array .int
  | 2 => .array .int
  | 3 => .array .int
  | 4 => .array .int
  | 5 => .int
  | _ => .int
abbrev wsX50 : List Cond := u_ws RX5 TX5 7
theorem nmX5 : ∀ a, a < 7 → ∀ b, b < 7 → a ≠ b → (TX5 a).2.1 ≠ (TX5 b).2.1 := by decide +kernel
theorem tyX5_ok : ∀ k, k < 7 → parseFieldDescriptor (TX5 k).2.2.1 = some (tyX5 k) := by decide +kernel
abbrev cX5_init : ByteArray := prog_7_method_1_code
def yX5_init : MethodName := ⟨RX5, "<init>", "()V"⟩
abbrev cX5_size : ByteArray := prog_7_method_2_code
def yX5_size : MethodName := ⟨RX5, "size", "()I"⟩
abbrev cX5_has : ByteArray := prog_7_method_3_code
def yX5_has : MethodName := ⟨RX5, "has", "(I)Z"⟩
abbrev cX5_isFull : ByteArray := prog_7_method_4_code
def yX5_isFull : MethodName := ⟨RX5, "isFull", "()Z"⟩
abbrev cX5_join : ByteArray := prog_7_method_5_code
def yX5_join : MethodName := ⟨RX5, "join", "(II)I"⟩
abbrev cX5_replaceSetting : ByteArray := prog_7_method_6_code
def yX5_replaceSetting : MethodName := ⟨RX5, "replaceSetting", "(I)I"⟩
abbrev cX5_isLeaking : ByteArray := prog_7_method_7_code
def yX5_isLeaking : MethodName := ⟨RX5, "isLeaking", "(I)Z"⟩
abbrev cX5_replaceLeak : ByteArray := prog_7_method_8_code
def yX5_replaceLeak : MethodName := ⟨RX5, "replaceLeak", "(II)I"⟩
abbrev cX5_pumpVacuum : ByteArray := prog_7_method_9_code
def yX5_pumpVacuum : MethodName := ⟨RX5, "pumpVacuum", "()I"⟩
abbrev cX5_climb : ByteArray := prog_7_method_10_code
def yX5_climb : MethodName := ⟨RX5, "climb", "(LSapNetwork$Tubes;II)I"⟩
abbrev cX5_sweep : ByteArray := prog_7_method_11_code
def yX5_sweep : MethodName := ⟨RX5, "sweep", "()V"⟩
abbrev cX5_ownLossAt : ByteArray := prog_7_method_12_code
def yX5_ownLossAt : MethodName := ⟨RX5, "ownLossAt", "(I)I"⟩
abbrev cX5_lossAt : ByteArray := prog_7_method_13_code
def yX5_lossAt : MethodName := ⟨RX5, "lossAt", "(I)I"⟩
abbrev cX5_tubesAbove : ByteArray := prog_7_method_14_code
def yX5_tubesAbove : MethodName := ⟨RX5, "tubesAbove", "(I)I"⟩
def RX6 : String := "SapNetwork"
def TX6 : u_T := fun k => match k with
  | 0 => ("SapNetwork", "tubes", "LSapNetwork$Tubes;", true)
  | 1 => ("SapNetwork", "taps", "[LSapNetwork$Tap;", true)
  | 2 => ("SapNetwork", "tanks", "[LSapNetwork$Tank;", true)
  | 3 => ("SapNetwork", "pan", "LSapNetwork$Pan;", true)
  | 4 => ("SapNetwork", "trialPan", "LSapNetwork$Pan;", true)
  | 5 => ("SapNetwork", "syrup", "LSapNetwork$Syrup;", true)
  | 6 => ("SapNetwork", "accounts", "LSapNetwork$Accounts;", true)
  | 7 => ("SapNetwork", "worths", "[I", true)
  | 8 => ("SapNetwork", "tankCount", "I", false)
  | 9 => ("SapNetwork", "fire", "I", false)
  | _ => ("SapNetwork", "hoursPassed", "I", false)
def tyX6 : Nat → FieldType := fun k => match k with
  | 0 => .object "SapNetwork$Tubes"
  | 1 => .array (.object "SapNetwork$Tap")
  | 2 => .array (.object "SapNetwork$Tank")
  | 3 => .object "SapNetwork$Pan"
  | 4 => .object "SapNetwork$Pan"
  | 5 => .object "SapNetwork$Syrup"
  | 6 => .object "SapNetwork$Accounts"
  | 7 => .array .int
  | 8 => .int
  | 9 => .int
  | _ => .int
abbrev wsX60 : List Cond := u_ws RX6 TX6 11
theorem nmX6 : ∀ a, a < 11 → ∀ b, b < 11 → a ≠ b → (TX6 a).2.1 ≠ (TX6 b).2.1 := by decide +kernel
theorem tyX6_ok : ∀ k, k < 11 → parseFieldDescriptor (TX6 k).2.2.1 = some (tyX6 k) := by decide +kernel
abbrev cX6_init : ByteArray := prog_1_method_1_code
def yX6_init : MethodName := ⟨RX6, "<init>", "()V"⟩
abbrev cX6_addJunction : ByteArray := prog_1_method_2_code
def yX6_addJunction : MethodName := ⟨RX6, "addJunction", "(II)I"⟩
abbrev cX6_addTap : ByteArray := prog_1_method_3_code
def yX6_addTap : MethodName := ⟨RX6, "addTap", "(IIIII)I"⟩
abbrev cX6_setPump : ByteArray := prog_1_method_4_code
def yX6_setPump : MethodName := ⟨RX6, "setPump", "(I)I"⟩
abbrev cX6_addLeak : ByteArray := prog_1_method_5_code
def yX6_addLeak : MethodName := ⟨RX6, "addLeak", "(II)I"⟩
abbrev cX6_repair : ByteArray := prog_1_method_6_code
def yX6_repair : MethodName := ⟨RX6, "repair", "(I)I"⟩
abbrev cX6_nodes : ByteArray := prog_1_method_7_code
def yX6_nodes : MethodName := ⟨RX6, "nodes", "()I"⟩
abbrev cX6_vacuum : ByteArray := prog_1_method_8_code
def yX6_vacuum : MethodName := ⟨RX6, "vacuum", "(I)I"⟩
abbrev cX6_vacuumBySweep : ByteArray := prog_1_method_9_code
def yX6_vacuumBySweep : MethodName := ⟨RX6, "vacuumBySweep", "(I)I"⟩
abbrev cX6_expectedVacuum : ByteArray := prog_1_method_10_code
def yX6_expectedVacuum : MethodName := ⟨RX6, "expectedVacuum", "(I)I"⟩
abbrev cX6_suspect : ByteArray := prog_1_method_11_code
def yX6_suspect : MethodName := ⟨RX6, "suspect", "(I)I"⟩
abbrev cX6_depth : ByteArray := prog_1_method_12_code
def yX6_depth : MethodName := ⟨RX6, "depth", "(I)I"⟩
abbrev cX6_pass : ByteArray := prog_1_method_13_code
def yX6_pass : MethodName := ⟨RX6, "pass", "(I)I"⟩
abbrev cX6_hours : ByteArray := prog_1_method_14_code
def yX6_hours : MethodName := ⟨RX6, "hours", "()I"⟩
abbrev cX6_charge : ByteArray := prog_1_method_15_code
def yX6_charge : MethodName := ⟨RX6, "charge", "(I)I"⟩
abbrev cX6_sapOf : ByteArray := prog_1_method_16_code
def yX6_sapOf : MethodName := ⟨RX6, "sapOf", "(II)I"⟩
abbrev cX6_totalOf : ByteArray := prog_1_method_17_code
def yX6_totalOf : MethodName := ⟨RX6, "totalOf", "(I)I"⟩
abbrev cX6_tapByYield : ByteArray := prog_1_method_18_code
def yX6_tapByYield : MethodName := ⟨RX6, "tapByYield", "(I)I"⟩
abbrev cX6_addTank : ByteArray := prog_1_method_19_code
def yX6_addTank : MethodName := ⟨RX6, "addTank", "(I)I"⟩
abbrev cX6_drain : ByteArray := prog_1_method_20_code
def yX6_drain : MethodName := ⟨RX6, "drain", "(I)I"⟩
abbrev cX6_tankVolume : ByteArray := prog_1_method_21_code
def yX6_tankVolume : MethodName := ⟨RX6, "tankVolume", "(I)I"⟩
abbrev cX6_tankSugar : ByteArray := prog_1_method_22_code
def yX6_tankSugar : MethodName := ⟨RX6, "tankSugar", "(I)I"⟩
abbrev cX6_load : ByteArray := prog_1_method_23_code
def yX6_load : MethodName := ⟨RX6, "load", "(II)I"⟩
abbrev cX6_setFire : ByteArray := prog_1_method_24_code
def yX6_setFire : MethodName := ⟨RX6, "setFire", "(I)I"⟩
abbrev cX6_panVolume : ByteArray := prog_1_method_25_code
def yX6_panVolume : MethodName := ⟨RX6, "panVolume", "()I"⟩
abbrev cX6_panSugar : ByteArray := prog_1_method_26_code
def yX6_panSugar : MethodName := ⟨RX6, "panSugar", "()I"⟩
abbrev cX6_isReady : ByteArray := prog_1_method_27_code
def yX6_isReady : MethodName := ⟨RX6, "isReady", "()Z"⟩
abbrev cX6_hoursToReady : ByteArray := prog_1_method_28_code
def yX6_hoursToReady : MethodName := ⟨RX6, "hoursToReady", "()I"⟩
abbrev cX6_hoursByBoiling : ByteArray := prog_1_method_29_code
def yX6_hoursByBoiling : MethodName := ⟨RX6, "hoursByBoiling", "()I"⟩
abbrev cX6_draw : ByteArray := prog_1_method_30_code
def yX6_draw : MethodName := ⟨RX6, "draw", "()I"⟩
abbrev cX6_dump : ByteArray := prog_1_method_31_code
def yX6_dump : MethodName := ⟨RX6, "dump", "()I"⟩
abbrev cX6_batches : ByteArray := prog_1_method_32_code
def yX6_batches : MethodName := ⟨RX6, "batches", "()I"⟩
abbrev cX6_batchVolume : ByteArray := prog_1_method_33_code
def yX6_batchVolume : MethodName := ⟨RX6, "batchVolume", "(I)I"⟩
abbrev cX6_gradeOf : ByteArray := prog_1_method_34_code
def yX6_gradeOf : MethodName := ⟨RX6, "gradeOf", "(I)C"⟩
abbrev cX6_totalSap : ByteArray := prog_1_method_35_code
def yX6_totalSap : MethodName := ⟨RX6, "totalSap", "()J"⟩
abbrev cX6_steam : ByteArray := prog_1_method_36_code
def yX6_steam : MethodName := ⟨RX6, "steam", "()J"⟩
abbrev cX6_loss : ByteArray := prog_1_method_37_code
def yX6_loss : MethodName := ⟨RX6, "loss", "()J"⟩
abbrev cX6_lossByBalance : ByteArray := prog_1_method_38_code
def yX6_lossByBalance : MethodName := ⟨RX6, "lossByBalance", "()J"⟩
abbrev cX6_lostSugar : ByteArray := prog_1_method_39_code
def yX6_lostSugar : MethodName := ⟨RX6, "lostSugar", "()J"⟩
abbrev cX6_isBalanced : ByteArray := prog_1_method_40_code
def yX6_isBalanced : MethodName := ⟨RX6, "isBalanced", "()Z"⟩
abbrev cX6_lossShare : ByteArray := prog_1_method_41_code
def yX6_lossShare : MethodName := ⟨RX6, "lossShare", "()F"⟩
abbrev cX6_meanSweetness : ByteArray := prog_1_method_42_code
def yX6_meanSweetness : MethodName := ⟨RX6, "meanSweetness", "()D"⟩
abbrev cX6_requireNode : ByteArray := prog_1_method_43_code
def yX6_requireNode : MethodName := ⟨RX6, "requireNode", "(I)V"⟩
abbrev cX6_requireRoomBelow : ByteArray := prog_1_method_44_code
def yX6_requireRoomBelow : MethodName := ⟨RX6, "requireRoomBelow", "(I)V"⟩
abbrev cX6_requireTap : ByteArray := prog_1_method_45_code
def yX6_requireTap : MethodName := ⟨RX6, "requireTap", "(I)LSapNetwork$Tap;"⟩
abbrev cX6_requireTank : ByteArray := prog_1_method_46_code
def yX6_requireTank : MethodName := ⟨RX6, "requireTank", "(I)LSapNetwork$Tank;"⟩
abbrev cX6_requireBatch : ByteArray := prog_1_method_47_code
def yX6_requireBatch : MethodName := ⟨RX6, "requireBatch", "(I)V"⟩
abbrev cX6_requireEndOfBoiling : ByteArray := prog_1_method_48_code
def yX6_requireEndOfBoiling : MethodName := ⟨RX6, "requireEndOfBoiling", "()V"⟩
abbrev cX6_requireSap : ByteArray := prog_1_method_49_code
def yX6_requireSap : MethodName := ⟨RX6, "requireSap", "()V"⟩
abbrev cX6_requireRanked : ByteArray := prog_1_method_50_code
def yX6_requireRanked : MethodName := ⟨RX6, "requireRanked", "(I)I"⟩
abbrev cX6_nodeAt : ByteArray := prog_1_method_51_code
def yX6_nodeAt : MethodName := ⟨RX6, "nodeAt", "(I)I"⟩
abbrev cX6_nodesAhead : ByteArray := prog_1_method_52_code
def yX6_nodesAhead : MethodName := ⟨RX6, "nodesAhead", "(I)I"⟩
abbrev cX6_runTaps : ByteArray := prog_1_method_53_code
def yX6_runTaps : MethodName := ⟨RX6, "runTaps", "(I)I"⟩
abbrev cX6_pour : ByteArray := prog_1_method_54_code
def yX6_pour : MethodName := ⟨RX6, "pour", "(II)V"⟩
abbrev cX6_volumeInTanks : ByteArray := prog_1_method_55_code
def yX6_volumeInTanks : MethodName := ⟨RX6, "volumeInTanks", "()J"⟩
abbrev cX6_sugarInTanks : ByteArray := prog_1_method_56_code
def yX6_sugarInTanks : MethodName := ⟨RX6, "sugarInTanks", "()J"⟩
abbrev cX6_shareOfSugar : ByteArray := prog_1_method_57_code
def yX6_shareOfSugar : MethodName := ⟨RX6, "shareOfSugar", "(III)I"⟩
abbrev cX6_gradeAfter : ByteArray := prog_1_method_58_code
def yX6_gradeAfter : MethodName := ⟨RX6, "gradeAfter", "(I)C"⟩
abbrev cX6_isOutside : ByteArray := prog_1_method_59_code
def yX6_isOutside : MethodName := ⟨RX6, "isOutside", "(III)Z"⟩
def RX7 : String := "SapNetworkModel"
def TX7 : u_T := fun k => match k with
  | 0 => ("SapNetworkModel", "nodes", "I", false)
  | 1 => ("SapNetworkModel", "kinds", "[I", true)
  | 2 => ("SapNetworkModel", "parents", "[I", true)
  | 3 => ("SapNetworkModel", "drops", "[I", true)
  | 4 => ("SapNetworkModel", "rates", "[I", true)
  | 5 => ("SapNetworkModel", "sweets", "[I", true)
  | 6 => ("SapNetworkModel", "shades", "[I", true)
  | 7 => ("SapNetworkModel", "charges", "[I", true)
  | 8 => ("SapNetworkModel", "leaks", "[I", true)
  | 9 => ("SapNetworkModel", "setting", "I", false)
  | 10 => ("SapNetworkModel", "hours", "I", false)
  | 11 => ("SapNetworkModel", "saps", "[I", true)
  | 12 => ("SapNetworkModel", "tanks", "I", false)
  | 13 => ("SapNetworkModel", "capacities", "[I", true)
  | 14 => ("SapNetworkModel", "volumes", "[I", true)
  | 15 => ("SapNetworkModel", "sugars", "[I", true)
  | 16 => ("SapNetworkModel", "pan", "I", false)
  | 17 => ("SapNetworkModel", "panSugar", "I", false)
  | 18 => ("SapNetworkModel", "fire", "I", false)
  | 19 => ("SapNetworkModel", "boiled", "I", false)
  | 20 => ("SapNetworkModel", "batches", "I", false)
  | 21 => ("SapNetworkModel", "batchVolumes", "[I", true)
  | 22 => ("SapNetworkModel", "batchSugars", "[I", true)
  | 23 => ("SapNetworkModel", "grades", "[C", true)
  | 24 => ("SapNetworkModel", "sap", "J", false)
  | 25 => ("SapNetworkModel", "sapSugar", "J", false)
  | 26 => ("SapNetworkModel", "steam", "J", false)
  | 27 => ("SapNetworkModel", "lost", "J", false)
  | 28 => ("SapNetworkModel", "lostSugar", "J", false)
  | _ => ("SapNetworkModel", "code", "I", false)
def tyX7 : Nat → FieldType := fun k => match k with
  | 0 => .int
  | 1 => .array .int
  | 2 => .array .int
  | 3 => .array .int
  | 4 => .array .int
  | 5 => .array .int
  | 6 => .array .int
  | 7 => .array .int
  | 8 => .array .int
  | 9 => .int
  | 10 => .int
  | 11 => .array .int
  | 12 => .int
  | 13 => .array .int
  | 14 => .array .int
  | 15 => .array .int
  | 16 => .int
  | 17 => .int
  | 18 => .int
  | 19 => .int
  | 20 => .int
  | 21 => .array .int
  | 22 => .array .int
  | 23 => .array .char
  | 24 => .long
  | 25 => .long
  | 26 => .long
  | 27 => .long
  | 28 => .long
  | _ => .int
abbrev wsX70 : List Cond := u_ws RX7 TX7 30
theorem nmX7 : ∀ a, a < 30 → ∀ b, b < 30 → a ≠ b → (TX7 a).2.1 ≠ (TX7 b).2.1 := by decide +kernel
theorem tyX7_ok : ∀ k, k < 30 → parseFieldDescriptor (TX7 k).2.2.1 = some (tyX7 k) := by decide +kernel
abbrev cX7_init : ByteArray := prog_9_method_1_code
def yX7_init : MethodName := ⟨RX7, "<init>", "()V"⟩
abbrev cX7_thrown : ByteArray := prog_9_method_2_code
def yX7_thrown : MethodName := ⟨RX7, "thrown", "()I"⟩
abbrev cX7_fails : ByteArray := prog_9_method_3_code
def yX7_fails : MethodName := ⟨RX7, "fails", "(I)Z"⟩
abbrev cX7_tells : ByteArray := prog_9_method_4_code
def yX7_tells : MethodName := ⟨RX7, "tells", "(I)I"⟩
abbrev cX7_tellsLong : ByteArray := prog_9_method_5_code
def yX7_tellsLong : MethodName := ⟨RX7, "tellsLong", "(J)J"⟩
abbrev cX7_in : ByteArray := prog_9_method_6_code
def yX7_in : MethodName := ⟨RX7, "in", "(III)Z"⟩
abbrev cX7_lesser : ByteArray := prog_9_method_7_code
def yX7_lesser : MethodName := ⟨RX7, "lesser", "(II)I"⟩
abbrev cX7_above : ByteArray := prog_9_method_8_code
def yX7_above : MethodName := ⟨RX7, "above", "(I)I"⟩
abbrev cX7_isNone : ByteArray := prog_9_method_9_code
def yX7_isNone : MethodName := ⟨RX7, "isNone", "(I)Z"⟩
abbrev cX7_adds : ByteArray := prog_9_method_10_code
def yX7_adds : MethodName := ⟨RX7, "adds", "(III)I"⟩
abbrev cX7_cannotAdd : ByteArray := prog_9_method_11_code
def yX7_cannotAdd : MethodName := ⟨RX7, "cannotAdd", "(IZ)Z"⟩
abbrev cX7_addJunction : ByteArray := prog_9_method_12_code
def yX7_addJunction : MethodName := ⟨RX7, "addJunction", "(II)I"⟩
abbrev cX7_addTap : ByteArray := prog_9_method_13_code
def yX7_addTap : MethodName := ⟨RX7, "addTap", "(IIIII)I"⟩
abbrev cX7_setPump : ByteArray := prog_9_method_14_code
def yX7_setPump : MethodName := ⟨RX7, "setPump", "(I)I"⟩
abbrev cX7_addLeak : ByteArray := prog_9_method_15_code
def yX7_addLeak : MethodName := ⟨RX7, "addLeak", "(II)I"⟩
abbrev cX7_repair : ByteArray := prog_9_method_16_code
def yX7_repair : MethodName := ⟨RX7, "repair", "(I)I"⟩
abbrev cX7_nodes : ByteArray := prog_9_method_17_code
def yX7_nodes : MethodName := ⟨RX7, "nodes", "()I"⟩
abbrev cX7_sucked : ByteArray := prog_9_method_18_code
def yX7_sucked : MethodName := ⟨RX7, "sucked", "(I)I"⟩
abbrev cX7_expected : ByteArray := prog_9_method_19_code
def yX7_expected : MethodName := ⟨RX7, "expected", "(I)I"⟩
abbrev cX7_asked : ByteArray := prog_9_method_20_code
def yX7_asked : MethodName := ⟨RX7, "asked", "(I)I"⟩
abbrev cX7_vacuum : ByteArray := prog_9_method_21_code
def yX7_vacuum : MethodName := ⟨RX7, "vacuum", "(I)I"⟩
abbrev cX7_vacuumBySweep : ByteArray := prog_9_method_22_code
def yX7_vacuumBySweep : MethodName := ⟨RX7, "vacuumBySweep", "(I)I"⟩
abbrev cX7_expectedVacuum : ByteArray := prog_9_method_23_code
def yX7_expectedVacuum : MethodName := ⟨RX7, "expectedVacuum", "(I)I"⟩
abbrev cX7_loses : ByteArray := prog_9_method_24_code
def yX7_loses : MethodName := ⟨RX7, "loses", "(I)I"⟩
abbrev cX7_ownLoss : ByteArray := prog_9_method_25_code
def yX7_ownLoss : MethodName := ⟨RX7, "ownLoss", "(I)I"⟩
abbrev cX7_suspect : ByteArray := prog_9_method_26_code
def yX7_suspect : MethodName := ⟨RX7, "suspect", "(I)I"⟩
abbrev cX7_depth : ByteArray := prog_9_method_27_code
def yX7_depth : MethodName := ⟨RX7, "depth", "(I)I"⟩
abbrev cX7_gives : ByteArray := prog_9_method_28_code
def yX7_gives : MethodName := ⟨RX7, "gives", "(II)I"⟩
abbrev cX7_pours : ByteArray := prog_9_method_29_code
def yX7_pours : MethodName := ⟨RX7, "pours", "(II)V"⟩
abbrev cX7_wastes : ByteArray := prog_9_method_30_code
def yX7_wastes : MethodName := ⟨RX7, "wastes", "(II)V"⟩
abbrev cX7_least : ByteArray := prog_9_method_31_code
def yX7_least : MethodName := ⟨RX7, "least", "(I)I"⟩
abbrev cX7_boils : ByteArray := prog_9_method_32_code
def yX7_boils : MethodName := ⟨RX7, "boils", "()V"⟩
abbrev cX7_pass : ByteArray := prog_9_method_33_code
def yX7_pass : MethodName := ⟨RX7, "pass", "(I)I"⟩
abbrev cX7_hours : ByteArray := prog_9_method_34_code
def yX7_hours : MethodName := ⟨RX7, "hours", "()I"⟩
abbrev cX7_isNoTap : ByteArray := prog_9_method_35_code
def yX7_isNoTap : MethodName := ⟨RX7, "isNoTap", "(I)Z"⟩
abbrev cX7_charge : ByteArray := prog_9_method_36_code
def yX7_charge : MethodName := ⟨RX7, "charge", "(I)I"⟩
abbrev cX7_sapOf : ByteArray := prog_9_method_37_code
def yX7_sapOf : MethodName := ⟨RX7, "sapOf", "(II)I"⟩
abbrev cX7_total : ByteArray := prog_9_method_38_code
def yX7_total : MethodName := ⟨RX7, "total", "(I)I"⟩
abbrev cX7_totalOf : ByteArray := prog_9_method_39_code
def yX7_totalOf : MethodName := ⟨RX7, "totalOf", "(I)I"⟩
abbrev cX7_tapByYield : ByteArray := prog_9_method_40_code
def yX7_tapByYield : MethodName := ⟨RX7, "tapByYield", "(I)I"⟩
abbrev cX7_addTank : ByteArray := prog_9_method_41_code
def yX7_addTank : MethodName := ⟨RX7, "addTank", "(I)I"⟩
abbrev cX7_isNoTank : ByteArray := prog_9_method_42_code
def yX7_isNoTank : MethodName := ⟨RX7, "isNoTank", "(I)Z"⟩
abbrev cX7_drain : ByteArray := prog_9_method_43_code
def yX7_drain : MethodName := ⟨RX7, "drain", "(I)I"⟩
abbrev cX7_tankVolume : ByteArray := prog_9_method_44_code
def yX7_tankVolume : MethodName := ⟨RX7, "tankVolume", "(I)I"⟩
abbrev cX7_tankSugar : ByteArray := prog_9_method_45_code
def yX7_tankSugar : MethodName := ⟨RX7, "tankSugar", "(I)I"⟩
abbrev cX7_load : ByteArray := prog_9_method_46_code
def yX7_load : MethodName := ⟨RX7, "load", "(II)I"⟩
abbrev cX7_setFire : ByteArray := prog_9_method_47_code
def yX7_setFire : MethodName := ⟨RX7, "setFire", "(I)I"⟩
abbrev cX7_panVolume : ByteArray := prog_9_method_48_code
def yX7_panVolume : MethodName := ⟨RX7, "panVolume", "()I"⟩
abbrev cX7_panSugar : ByteArray := prog_9_method_49_code
def yX7_panSugar : MethodName := ⟨RX7, "panSugar", "()I"⟩
abbrev cX7_isDone : ByteArray := prog_9_method_50_code
def yX7_isDone : MethodName := ⟨RX7, "isDone", "()Z"⟩
abbrev cX7_isReady : ByteArray := prog_9_method_51_code
def yX7_isReady : MethodName := ⟨RX7, "isReady", "()Z"⟩
abbrev cX7_longs : ByteArray := prog_9_method_52_code
def yX7_longs : MethodName := ⟨RX7, "longs", "()I"⟩
abbrev cX7_hoursToReady : ByteArray := prog_9_method_53_code
def yX7_hoursToReady : MethodName := ⟨RX7, "hoursToReady", "()I"⟩
abbrev cX7_hoursByBoiling : ByteArray := prog_9_method_54_code
def yX7_hoursByBoiling : MethodName := ⟨RX7, "hoursByBoiling", "()I"⟩
abbrev cX7_empties : ByteArray := prog_9_method_55_code
def yX7_empties : MethodName := ⟨RX7, "empties", "()V"⟩
abbrev cX7_draw : ByteArray := prog_9_method_56_code
def yX7_draw : MethodName := ⟨RX7, "draw", "()I"⟩
abbrev cX7_dump : ByteArray := prog_9_method_57_code
def yX7_dump : MethodName := ⟨RX7, "dump", "()I"⟩
abbrev cX7_batches : ByteArray := prog_9_method_58_code
def yX7_batches : MethodName := ⟨RX7, "batches", "()I"⟩
abbrev cX7_isNoBatch : ByteArray := prog_9_method_59_code
def yX7_isNoBatch : MethodName := ⟨RX7, "isNoBatch", "(I)Z"⟩
abbrev cX7_batchVolume : ByteArray := prog_9_method_60_code
def yX7_batchVolume : MethodName := ⟨RX7, "batchVolume", "(I)I"⟩
abbrev cX7_gradeOf : ByteArray := prog_9_method_61_code
def yX7_gradeOf : MethodName := ⟨RX7, "gradeOf", "(I)C"⟩
abbrev cX7_totalSap : ByteArray := prog_9_method_62_code
def yX7_totalSap : MethodName := ⟨RX7, "totalSap", "()J"⟩
abbrev cX7_steam : ByteArray := prog_9_method_63_code
def yX7_steam : MethodName := ⟨RX7, "steam", "()J"⟩
abbrev cX7_loss : ByteArray := prog_9_method_64_code
def yX7_loss : MethodName := ⟨RX7, "loss", "()J"⟩
abbrev cX7_missing : ByteArray := prog_9_method_65_code
def yX7_missing : MethodName := ⟨RX7, "missing", "()J"⟩
abbrev cX7_lossByBalance : ByteArray := prog_9_method_66_code
def yX7_lossByBalance : MethodName := ⟨RX7, "lossByBalance", "()J"⟩
abbrev cX7_lostSugar : ByteArray := prog_9_method_67_code
def yX7_lostSugar : MethodName := ⟨RX7, "lostSugar", "()J"⟩
abbrev cX7_isBalanced : ByteArray := prog_9_method_68_code
def yX7_isBalanced : MethodName := ⟨RX7, "isBalanced", "()Z"⟩
abbrev cX7_lossShare : ByteArray := prog_9_method_69_code
def yX7_lossShare : MethodName := ⟨RX7, "lossShare", "()F"⟩
abbrev cX7_meanSweetness : ByteArray := prog_9_method_70_code
def yX7_meanSweetness : MethodName := ⟨RX7, "meanSweetness", "()D"⟩
def RJx145de : String := "java/io/Serializable"
def TJx145de : u_T := fun k => match k with
  | _ => ("", "", "", false)
def tyJx145de : Nat → FieldType := fun k => match k with
  | _ => .int
abbrev wsJx145de0 : List Cond := u_ws RJx145de TJx145de 0
theorem nmJx145de : ∀ a, a < 0 → ∀ b, b < 0 → a ≠ b → (TJx145de a).2.1 ≠ (TJx145de b).2.1 := by decide +kernel
theorem tyJx145de_ok : ∀ k, k < 0 → parseFieldDescriptor (TJx145de k).2.2.1 = some (tyJx145de k) := by decide +kernel
def RJx00060 : String := "java/lang/ArrayIndexOutOfBoundsException"
def TJx00060 : u_T := fun k => match k with
  | 0 => ("java/lang/Throwable", "backtrace", "Ljava/lang/Object;", false)
  | 1 => ("java/lang/Throwable", "detailMessage", "Ljava/lang/String;", false)
  | 2 => ("java/lang/Throwable", "cause", "Ljava/lang/Throwable;", false)
  | 3 => ("java/lang/Throwable", "stackTrace", "[Ljava/lang/StackTraceElement;", false)
  | 4 => ("java/lang/Throwable", "depth", "I", false)
  | _ => ("java/lang/Throwable", "suppressedExceptions", "Ljava/util/List;", false)
def tyJx00060 : Nat → FieldType := fun k => match k with
  | 0 => .object "java/lang/Object"
  | 1 => .object "java/lang/String"
  | 2 => .object "java/lang/Throwable"
  | 3 => .array (.object "java/lang/StackTraceElement")
  | 4 => .int
  | _ => .object "java/util/List"
abbrev wsJx000600 : List Cond := u_ws RJx00060 TJx00060 6
theorem nmJx00060 : ∀ a, a < 6 → ∀ b, b < 6 → a ≠ b → (TJx00060 a).2.1 ≠ (TJx00060 b).2.1 := by decide +kernel
theorem tyJx00060_ok : ∀ k, k < 6 → parseFieldDescriptor (TJx00060 k).2.2.1 = some (tyJx00060 k) := by decide +kernel
abbrev cJx00060_init_a7421 : ByteArray := prog_12_method_2_code
def yJx00060_init_a7421 : MethodName := ⟨RJx00060, "<init>", "(Ljava/lang/String;)V"⟩
def RJ9 : String := "java/lang/Math"
def TJ9 : u_T := fun k => match k with
  | _ => ("", "", "", false)
def tyJ9 : Nat → FieldType := fun k => match k with
  | _ => .int
abbrev wsJ90 : List Cond := u_ws RJ9 TJ9 0
theorem nmJ9 : ∀ a, a < 0 → ∀ b, b < 0 → a ≠ b → (TJ9 a).2.1 ≠ (TJ9 b).2.1 := by decide +kernel
theorem tyJ9_ok : ∀ k, k < 0 → parseFieldDescriptor (TJ9 k).2.2.1 = some (tyJ9 k) := by decide +kernel
abbrev cJ9_max_7cf53 : ByteArray := prog_17_method_65_code
def yJ9_max_7cf53 : MethodName := ⟨RJ9, "max", "(II)I"⟩
abbrev cJ9_min_7cf53 : ByteArray := prog_17_method_69_code
def yJ9_min_7cf53 : MethodName := ⟨RJ9, "min", "(II)I"⟩
def RJ0 : String := "java/lang/String"
def TJ0 : u_T := fun k => match k with
  | 0 => ("java/lang/String", "value", "[B", true)
  | _ => ("java/lang/String", "coder", "B", true)
def tyJ0 : Nat → FieldType := fun k => match k with
  | 0 => .array .byte
  | _ => .byte
abbrev wsJ00 : List Cond := u_ws RJ0 TJ0 2
theorem nmJ0 : ∀ a, a < 2 → ∀ b, b < 2 → a ≠ b → (TJ0 a).2.1 ≠ (TJ0 b).2.1 := by decide +kernel
theorem tyJ0_ok : ∀ k, k < 2 → parseFieldDescriptor (TJ0 k).2.2.1 = some (tyJ0 k) := by decide +kernel
def RL : String := "SapNetworkLaw"
abbrev cL_addJunction : ByteArray := method_3_code
def yL_addJunction : MethodName := ⟨RL, "addJunction", "(LSapNetwork;II[J)I"⟩
abbrev cL_addTap : ByteArray := method_4_code
def yL_addTap : MethodName := ⟨RL, "addTap", "(LSapNetwork;IIIII[J)I"⟩
abbrev cL_setPump : ByteArray := method_5_code
def yL_setPump : MethodName := ⟨RL, "setPump", "(LSapNetwork;I[J)I"⟩
abbrev cL_addLeak : ByteArray := method_6_code
def yL_addLeak : MethodName := ⟨RL, "addLeak", "(LSapNetwork;II[J)I"⟩
abbrev cL_repair : ByteArray := method_7_code
def yL_repair : MethodName := ⟨RL, "repair", "(LSapNetwork;I[J)I"⟩
abbrev cL_vacuum : ByteArray := method_8_code
def yL_vacuum : MethodName := ⟨RL, "vacuum", "(LSapNetwork;I[J)I"⟩
abbrev cL_vacuumBySweep : ByteArray := method_9_code
def yL_vacuumBySweep : MethodName := ⟨RL, "vacuumBySweep", "(LSapNetwork;I[J)I"⟩
abbrev cL_expectedVacuum : ByteArray := method_10_code
def yL_expectedVacuum : MethodName := ⟨RL, "expectedVacuum", "(LSapNetwork;I[J)I"⟩
abbrev cL_suspect : ByteArray := method_11_code
def yL_suspect : MethodName := ⟨RL, "suspect", "(LSapNetwork;I[J)I"⟩
abbrev cL_depth : ByteArray := method_12_code
def yL_depth : MethodName := ⟨RL, "depth", "(LSapNetwork;I[J)I"⟩
abbrev cL_pass : ByteArray := method_13_code
def yL_pass : MethodName := ⟨RL, "pass", "(LSapNetwork;I[J)I"⟩
abbrev cL_charge : ByteArray := method_14_code
def yL_charge : MethodName := ⟨RL, "charge", "(LSapNetwork;I[J)I"⟩
abbrev cL_sapOf : ByteArray := method_15_code
def yL_sapOf : MethodName := ⟨RL, "sapOf", "(LSapNetwork;II[J)I"⟩
abbrev cL_totalOf : ByteArray := method_16_code
def yL_totalOf : MethodName := ⟨RL, "totalOf", "(LSapNetwork;I[J)I"⟩
abbrev cL_tapByYield : ByteArray := method_17_code
def yL_tapByYield : MethodName := ⟨RL, "tapByYield", "(LSapNetwork;I[J)I"⟩
abbrev cL_addTank : ByteArray := method_18_code
def yL_addTank : MethodName := ⟨RL, "addTank", "(LSapNetwork;I[J)I"⟩
abbrev cL_drain : ByteArray := method_19_code
def yL_drain : MethodName := ⟨RL, "drain", "(LSapNetwork;I[J)I"⟩
abbrev cL_tankVolume : ByteArray := method_20_code
def yL_tankVolume : MethodName := ⟨RL, "tankVolume", "(LSapNetwork;I[J)I"⟩
abbrev cL_tankSugar : ByteArray := method_21_code
def yL_tankSugar : MethodName := ⟨RL, "tankSugar", "(LSapNetwork;I[J)I"⟩
abbrev cL_load : ByteArray := method_22_code
def yL_load : MethodName := ⟨RL, "load", "(LSapNetwork;II[J)I"⟩
abbrev cL_setFire : ByteArray := method_23_code
def yL_setFire : MethodName := ⟨RL, "setFire", "(LSapNetwork;I[J)I"⟩
abbrev cL_hoursToReady : ByteArray := method_24_code
def yL_hoursToReady : MethodName := ⟨RL, "hoursToReady", "(LSapNetwork;[J)I"⟩
abbrev cL_hoursByBoiling : ByteArray := method_25_code
def yL_hoursByBoiling : MethodName := ⟨RL, "hoursByBoiling", "(LSapNetwork;[J)I"⟩
abbrev cL_draw : ByteArray := method_26_code
def yL_draw : MethodName := ⟨RL, "draw", "(LSapNetwork;[J)I"⟩
abbrev cL_batchVolume : ByteArray := method_27_code
def yL_batchVolume : MethodName := ⟨RL, "batchVolume", "(LSapNetwork;I[J)I"⟩
abbrev cL_gradeOf : ByteArray := method_28_code
def yL_gradeOf : MethodName := ⟨RL, "gradeOf", "(LSapNetwork;I[J)I"⟩
abbrev cL_lossShare : ByteArray := method_29_code
def yL_lossShare : MethodName := ⟨RL, "lossShare", "(LSapNetwork;[D)I"⟩
abbrev cL_meanSweetness : ByteArray := method_30_code
def yL_meanSweetness : MethodName := ⟨RL, "meanSweetness", "(LSapNetwork;[D)I"⟩
abbrev cL_law : ByteArray := code
def yL_law : MethodName := ⟨RL, "law", "([I)Z"⟩
theorem dJx00060_init_a7421_0 : decode cJx00060_init_a7421 0 = .ok (.aload_n 0, 1) := by decide +kernel
theorem dJx00060_init_a7421_1 : decode cJx00060_init_a7421 1 = .ok (.aload_n 1, 1) := by decide +kernel
theorem dJx00060_init_a7421_2 : decode cJx00060_init_a7421 2 = .ok (.invokespecial 7, 3) := by decide +kernel
theorem dJx00060_init_a7421_5 : decode cJx00060_init_a7421 5 = .ok (.return_, 1) := by decide +kernel
theorem dJ9_max_7cf53_0 : decode cJ9_max_7cf53 0 = .ok (.iload_n 0, 1) := by decide +kernel
theorem dJ9_max_7cf53_1 : decode cJ9_max_7cf53 1 = .ok (.iload_n 1, 1) := by decide +kernel
theorem dJ9_max_7cf53_2 : decode cJ9_max_7cf53 2 = .ok (.if_icmp .lt 7, 3) := by decide +kernel
theorem dJ9_max_7cf53_5 : decode cJ9_max_7cf53 5 = .ok (.iload_n 0, 1) := by decide +kernel
theorem dJ9_max_7cf53_6 : decode cJ9_max_7cf53 6 = .ok (.goto 4, 3) := by decide +kernel
theorem dJ9_max_7cf53_9 : decode cJ9_max_7cf53 9 = .ok (.iload_n 1, 1) := by decide +kernel
theorem dJ9_max_7cf53_10 : decode cJ9_max_7cf53 10 = .ok (.ireturn, 1) := by decide +kernel
theorem dJ9_min_7cf53_0 : decode cJ9_min_7cf53 0 = .ok (.iload_n 0, 1) := by decide +kernel
theorem dJ9_min_7cf53_1 : decode cJ9_min_7cf53 1 = .ok (.iload_n 1, 1) := by decide +kernel
theorem dJ9_min_7cf53_2 : decode cJ9_min_7cf53 2 = .ok (.if_icmp .gt 7, 3) := by decide +kernel
theorem dJ9_min_7cf53_5 : decode cJ9_min_7cf53 5 = .ok (.iload_n 0, 1) := by decide +kernel
theorem dJ9_min_7cf53_6 : decode cJ9_min_7cf53 6 = .ok (.goto 4, 3) := by decide +kernel
theorem dJ9_min_7cf53_9 : decode cJ9_min_7cf53 9 = .ok (.iload_n 1, 1) := by decide +kernel
theorem dJ9_min_7cf53_10 : decode cJ9_min_7cf53 10 = .ok (.ireturn, 1) := by decide +kernel
abbrev vwCl : List vw_C := [(RJ0, TJ0, 2), (RJx00060, TJx00060, 6), (RX0, TX0, 5), (RX1, TX1, 3), (RX2, TX2, 4), (RX3, TX3, 3), (RX4, TX4, 6), (RX5, TX5, 7), (RX6, TX6, 11), (RX7, TX7, 30)]
end
section
/-! words: all good words of the tables, one list WS; each word by its place -/
def WS : List Cond := lw_tbl.filter goodWord
theorem WS_in : ∀ w ∈ WS, w ∈ lw_tbl := fun _ h => (List.mem_filter.mp h).1
theorem wm {i : Nat} {w : Cond} (h : lw_tbl[i]? = some w) (g : goodWord w = true) : w ∈ WS := List.mem_filter.mpr ⟨List.mem_of_getElem? h, g⟩
theorem wm_all {ws : List Cond} (ps : List Nat) (hp : ws.map some = ps.map (fun i => lw_tbl[i]?)) (g : ws.all goodWord = true) : ∀ w ∈ ws, w ∈ WS := by
  intro w hw
  have h1 : some w ∈ ws.map some := List.mem_map.mpr ⟨w, hw, rfl⟩
  rw [hp] at h1
  obtain ⟨i, -, hi⟩ := List.mem_map.mp h1
  exact wm hi (List.all_eq_true.mp g w hw)
theorem wd_0 : Cond.selects RX6 yX6_volumeInTanks yX6_volumeInTanks ∈ WS := wm (i := 0) (by decide +kernel) (by decide +kernel)
theorem wd_1 : Cond.selects RX6 yX6_sugarInTanks yX6_sugarInTanks ∈ WS := wm (i := 1) (by decide +kernel) (by decide +kernel)
theorem wd_2 : Cond.selects "java/lang/Throwable" ⟨"java/lang/Throwable", "fillInStackTrace", "(I)Ljava/lang/Throwable;"⟩ ⟨"java/lang/Throwable", "fillInStackTrace", "(I)Ljava/lang/Throwable;"⟩ ∈ WS := wm (i := 2) (by decide +kernel) (by decide +kernel)
theorem wd_3 : Cond.selects RX6 yX6_requireNode yX6_requireNode ∈ WS := wm (i := 3) (by decide +kernel) (by decide +kernel)
theorem wd_4 : Cond.selects RX6 yX6_requireRoomBelow yX6_requireRoomBelow ∈ WS := wm (i := 4) (by decide +kernel) (by decide +kernel)
theorem wd_5 : Cond.selects RX5 yX5_lossAt yX5_lossAt ∈ WS := wm (i := 5) (by decide +kernel) (by decide +kernel)
theorem wd_6 : Cond.selects RX6 yX6_requireRanked yX6_requireRanked ∈ WS := wm (i := 6) (by decide +kernel) (by decide +kernel)
theorem wd_7 : Cond.selects RX6 yX6_nodeAt yX6_nodeAt ∈ WS := wm (i := 7) (by decide +kernel) (by decide +kernel)
theorem wd_8 : Cond.selects RX6 yX6_nodesAhead yX6_nodesAhead ∈ WS := wm (i := 8) (by decide +kernel) (by decide +kernel)
theorem wd_9 : Cond.selects RX6 yX6_runTaps yX6_runTaps ∈ WS := wm (i := 9) (by decide +kernel) (by decide +kernel)
theorem wd_10 : Cond.selects RX6 yX6_pour yX6_pour ∈ WS := wm (i := 10) (by decide +kernel) (by decide +kernel)
theorem wd_11 : Cond.selects RX6 yX6_requireTap yX6_requireTap ∈ WS := wm (i := 11) (by decide +kernel) (by decide +kernel)
theorem wd_12 : Cond.selects RX6 yX6_requireTank yX6_requireTank ∈ WS := wm (i := 12) (by decide +kernel) (by decide +kernel)
theorem wd_13 : Cond.selects RX6 yX6_requireEndOfBoiling yX6_requireEndOfBoiling ∈ WS := wm (i := 13) (by decide +kernel) (by decide +kernel)
theorem wd_14 : Cond.selects RX6 yX6_requireBatch yX6_requireBatch ∈ WS := wm (i := 14) (by decide +kernel) (by decide +kernel)
theorem wd_15 : Cond.selects RX6 yX6_requireSap yX6_requireSap ∈ WS := wm (i := 15) (by decide +kernel) (by decide +kernel)
theorem wd_16 : Cond.selects RX7 yX7_cannotAdd yX7_cannotAdd ∈ WS := wm (i := 16) (by decide +kernel) (by decide +kernel)
theorem wd_17 : Cond.selects RX7 yX7_isNone yX7_isNone ∈ WS := wm (i := 17) (by decide +kernel) (by decide +kernel)
theorem wd_18 : Cond.selects RX7 yX7_fails yX7_fails ∈ WS := wm (i := 18) (by decide +kernel) (by decide +kernel)
theorem wd_19 : Cond.selects RX7 yX7_adds yX7_adds ∈ WS := wm (i := 19) (by decide +kernel) (by decide +kernel)
theorem wd_20 : Cond.selects RX7 yX7_tells yX7_tells ∈ WS := wm (i := 20) (by decide +kernel) (by decide +kernel)
theorem wd_21 : Cond.selects RX7 yX7_asked yX7_asked ∈ WS := wm (i := 21) (by decide +kernel) (by decide +kernel)
theorem wd_22 : Cond.selects RX7 yX7_sucked yX7_sucked ∈ WS := wm (i := 22) (by decide +kernel) (by decide +kernel)
theorem wd_23 : Cond.selects RX7 yX7_expected yX7_expected ∈ WS := wm (i := 23) (by decide +kernel) (by decide +kernel)
theorem wd_24 : Cond.selects RX7 yX7_ownLoss yX7_ownLoss ∈ WS := wm (i := 24) (by decide +kernel) (by decide +kernel)
theorem wd_25 : Cond.selects RX7 yX7_loses yX7_loses ∈ WS := wm (i := 25) (by decide +kernel) (by decide +kernel)
theorem wd_26 : Cond.selects RX7 yX7_gives yX7_gives ∈ WS := wm (i := 26) (by decide +kernel) (by decide +kernel)
theorem wd_27 : Cond.selects RX7 yX7_pours yX7_pours ∈ WS := wm (i := 27) (by decide +kernel) (by decide +kernel)
theorem wd_28 : Cond.selects RX7 yX7_wastes yX7_wastes ∈ WS := wm (i := 28) (by decide +kernel) (by decide +kernel)
theorem wd_29 : Cond.selects RX7 yX7_boils yX7_boils ∈ WS := wm (i := 29) (by decide +kernel) (by decide +kernel)
theorem wd_30 : Cond.selects RX7 yX7_isNoTap yX7_isNoTap ∈ WS := wm (i := 30) (by decide +kernel) (by decide +kernel)
theorem wd_31 : Cond.selects RX7 yX7_total yX7_total ∈ WS := wm (i := 31) (by decide +kernel) (by decide +kernel)
theorem wd_32 : Cond.selects RX7 yX7_isNoTank yX7_isNoTank ∈ WS := wm (i := 32) (by decide +kernel) (by decide +kernel)
theorem wd_33 : Cond.selects RX7 yX7_isDone yX7_isDone ∈ WS := wm (i := 33) (by decide +kernel) (by decide +kernel)
theorem wd_34 : Cond.selects RX7 yX7_longs yX7_longs ∈ WS := wm (i := 34) (by decide +kernel) (by decide +kernel)
theorem wd_35 : Cond.selects RX7 yX7_empties yX7_empties ∈ WS := wm (i := 35) (by decide +kernel) (by decide +kernel)
theorem wd_36 : Cond.selects RX7 yX7_isNoBatch yX7_isNoBatch ∈ WS := wm (i := 36) (by decide +kernel) (by decide +kernel)
theorem wd_37 : Cond.selects RX7 yX7_tellsLong yX7_tellsLong ∈ WS := wm (i := 37) (by decide +kernel) (by decide +kernel)
theorem wd_38 : Cond.selects RX7 yX7_missing yX7_missing ∈ WS := wm (i := 38) (by decide +kernel) (by decide +kernel)
theorem wd_39 : Cond.initialized RL ∈ WS := wm (i := 39) (by decide +kernel) (by decide +kernel)
theorem wd_40 : Cond.initialized RX6 ∈ WS := wm (i := 40) (by decide +kernel) (by decide +kernel)
theorem wd_41 : Cond.initialized RX5 ∈ WS := wm (i := 41) (by decide +kernel) (by decide +kernel)
theorem wd_42 : Cond.initialized RX1 ∈ WS := wm (i := 42) (by decide +kernel) (by decide +kernel)
theorem wd_43 : Cond.initialized RX2 ∈ WS := wm (i := 43) (by decide +kernel) (by decide +kernel)
theorem wd_44 : Cond.initialized RX0 ∈ WS := wm (i := 44) (by decide +kernel) (by decide +kernel)
theorem wd_45 : Cond.initialized RX7 ∈ WS := wm (i := 45) (by decide +kernel) (by decide +kernel)
theorem wd_46 : Cond.initialized "java/lang/Throwable" ∈ WS := wm (i := 46) (by decide +kernel) (by decide +kernel)
theorem wd_47 : Cond.initialized "java/lang/Exception" ∈ WS := wm (i := 47) (by decide +kernel) (by decide +kernel)
theorem wd_48 : Cond.initialized "java/lang/RuntimeException" ∈ WS := wm (i := 48) (by decide +kernel) (by decide +kernel)
theorem wd_49 : Cond.initialized "java/lang/IndexOutOfBoundsException" ∈ WS := wm (i := 49) (by decide +kernel) (by decide +kernel)
theorem wd_50 : Cond.initialized RJx00060 ∈ WS := wm (i := 50) (by decide +kernel) (by decide +kernel)
theorem wd_51 : Cond.initialized RJ0 ∈ WS := wm (i := 51) (by decide +kernel) (by decide +kernel)
theorem wd_52 : Cond.initialized "java/lang/IllegalArgumentException" ∈ WS := wm (i := 52) (by decide +kernel) (by decide +kernel)
theorem wd_53 : Cond.initialized "java/lang/UnsupportedOperationException" ∈ WS := wm (i := 53) (by decide +kernel) (by decide +kernel)
theorem wd_54 : Cond.initialized "java/lang/IllegalStateException" ∈ WS := wm (i := 54) (by decide +kernel) (by decide +kernel)
theorem wd_55 : Cond.initialized RX4 ∈ WS := wm (i := 55) (by decide +kernel) (by decide +kernel)
theorem wd_56 : Cond.initialized "java/util/NoSuchElementException" ∈ WS := wm (i := 56) (by decide +kernel) (by decide +kernel)
theorem wd_57 : Cond.initialized RJ9 ∈ WS := wm (i := 57) (by decide +kernel) (by decide +kernel)
theorem wd_58 : Cond.initialized RX3 ∈ WS := wm (i := 58) (by decide +kernel) (by decide +kernel)
theorem wd_59 : Cond.initialized "java/lang/ArithmeticException" ∈ WS := wm (i := 59) (by decide +kernel) (by decide +kernel)
theorem wd_60 : Cond.classLink RL 8 RX6 ∈ WS := wm (i := 60) (by decide +kernel) (by decide +kernel)
theorem wd_61 : Cond.instantiable RX6 11 ∈ WS := wm (i := 61) (by decide +kernel) (by decide +kernel)
theorem wd_62 : Cond.methodLink RL 112 yX6_init ∈ WS := wm (i := 62) (by decide +kernel) (by decide +kernel)
theorem wd_63 : Cond.instanceMethod yX6_init ∈ WS := wm (i := 63) (by decide +kernel) (by decide +kernel)
theorem wd_64 : Cond.code yX6_init cX6_init 1 none ∈ WS := wm (i := 64) (by decide +kernel) (by decide +kernel)
theorem wd_65 : Cond.methodLink RX6 1 objectInit ∈ WS := wm (i := 65) (by decide +kernel) (by decide +kernel)
theorem wd_66 : Cond.instanceMethod objectInit ∈ WS := wm (i := 66) (by decide +kernel) (by decide +kernel)
theorem wd_67 : Cond.code objectInit ⟨#[0xb1]⟩ 1 none ∈ WS := wm (i := 67) (by decide +kernel) (by decide +kernel)
theorem wd_68 : Cond.classLink RX6 7 RX5 ∈ WS := wm (i := 68) (by decide +kernel) (by decide +kernel)
theorem wd_69 : Cond.instantiable RX5 7 ∈ WS := wm (i := 69) (by decide +kernel) (by decide +kernel)
theorem wd_70 : Cond.methodLink RX6 9 yX5_init ∈ WS := wm (i := 70) (by decide +kernel) (by decide +kernel)
theorem wd_71 : Cond.instanceMethod yX5_init ∈ WS := wm (i := 71) (by decide +kernel) (by decide +kernel)
theorem wd_72 : Cond.code yX5_init cX5_init 1 none ∈ WS := wm (i := 72) (by decide +kernel) (by decide +kernel)
theorem wd_73 : Cond.methodLink RX5 3 objectInit ∈ WS := wm (i := 73) (by decide +kernel) (by decide +kernel)
theorem wd_74 : Cond.fieldLink RX5 9 "SapNetwork$Tubes" "parents" "[I" ∈ WS := wm (i := 74) (by decide +kernel) (by decide +kernel)
theorem wd_75 : Cond.fieldLink RX5 15 "SapNetwork$Tubes" "drops" "[I" ∈ WS := wm (i := 75) (by decide +kernel) (by decide +kernel)
theorem wd_76 : Cond.fieldLink RX5 18 "SapNetwork$Tubes" "leaks" "[I" ∈ WS := wm (i := 76) (by decide +kernel) (by decide +kernel)
theorem wd_77 : Cond.fieldLink RX5 21 "SapNetwork$Tubes" "vacuums" "[I" ∈ WS := wm (i := 77) (by decide +kernel) (by decide +kernel)
theorem wd_79 : Cond.fieldLink RX5 24 "SapNetwork$Tubes" "expectations" "[I" ∈ WS := wm (i := 79) (by decide +kernel) (by decide +kernel)
theorem wd_81 : Cond.fieldLink RX5 27 "SapNetwork$Tubes" "count" "I" ∈ WS := wm (i := 81) (by decide +kernel) (by decide +kernel)
theorem wd_82 : Cond.fieldLink RX5 31 "SapNetwork$Tubes" "setting" "I" ∈ WS := wm (i := 82) (by decide +kernel) (by decide +kernel)
theorem wd_98 : Cond.arrayClass .int ∈ WS := wm (i := 98) (by decide +kernel) (by decide +kernel)
theorem wd_99 : Cond.classLink RX6 16 RX4 ∈ WS := wm (i := 99) (by decide +kernel) (by decide +kernel)
theorem wd_101 : Cond.classLink RX6 22 RX3 ∈ WS := wm (i := 101) (by decide +kernel) (by decide +kernel)
theorem wd_103 : Cond.classLink RX6 28 RX1 ∈ WS := wm (i := 103) (by decide +kernel) (by decide +kernel)
theorem wd_104 : Cond.instantiable RX1 3 ∈ WS := wm (i := 104) (by decide +kernel) (by decide +kernel)
theorem wd_106 : Cond.instanceMethod yX1_init ∈ WS := wm (i := 106) (by decide +kernel) (by decide +kernel)
theorem wd_107 : Cond.code yX1_init cX1_init 1 none ∈ WS := wm (i := 107) (by decide +kernel) (by decide +kernel)
theorem wd_108 : Cond.methodLink RX1 3 objectInit ∈ WS := wm (i := 108) (by decide +kernel) (by decide +kernel)
theorem wd_109 : Cond.fieldLink RX1 15 "SapNetwork$Pan" "volume" "I" ∈ WS := wm (i := 109) (by decide +kernel) (by decide +kernel)
theorem wd_111 : Cond.fieldLink RX1 9 "SapNetwork$Pan" "sugar" "I" ∈ WS := wm (i := 111) (by decide +kernel) (by decide +kernel)
theorem wd_113 : Cond.fieldLink RX1 28 "SapNetwork$Pan" "boiledHours" "I" ∈ WS := wm (i := 113) (by decide +kernel) (by decide +kernel)
theorem wd_122 : Cond.classLink RX6 38 RX2 ∈ WS := wm (i := 122) (by decide +kernel) (by decide +kernel)
theorem wd_123 : Cond.instantiable RX2 4 ∈ WS := wm (i := 123) (by decide +kernel) (by decide +kernel)
theorem wd_124 : Cond.methodLink RX6 40 yX2_init ∈ WS := wm (i := 124) (by decide +kernel) (by decide +kernel)
theorem wd_125 : Cond.instanceMethod yX2_init ∈ WS := wm (i := 125) (by decide +kernel) (by decide +kernel)
theorem wd_126 : Cond.code yX2_init cX2_init 1 none ∈ WS := wm (i := 126) (by decide +kernel) (by decide +kernel)
theorem wd_127 : Cond.methodLink RX2 3 objectInit ∈ WS := wm (i := 127) (by decide +kernel) (by decide +kernel)
theorem wd_128 : Cond.fieldLink RX2 9 "SapNetwork$Syrup" "volumes" "[I" ∈ WS := wm (i := 128) (by decide +kernel) (by decide +kernel)
theorem wd_130 : Cond.fieldLink RX2 15 "SapNetwork$Syrup" "grades" "[C" ∈ WS := wm (i := 130) (by decide +kernel) (by decide +kernel)
theorem wd_132 : Cond.fieldLink RX2 19 "SapNetwork$Syrup" "count" "I" ∈ WS := wm (i := 132) (by decide +kernel) (by decide +kernel)
theorem wd_133 : Cond.fieldLink RX2 23 "SapNetwork$Syrup" "sugar" "J" ∈ WS := wm (i := 133) (by decide +kernel) (by decide +kernel)
theorem wd_144 : Cond.arrayClass .char ∈ WS := wm (i := 144) (by decide +kernel) (by decide +kernel)
theorem wd_145 : Cond.classLink RX6 45 RX0 ∈ WS := wm (i := 145) (by decide +kernel) (by decide +kernel)
theorem wd_146 : Cond.instantiable RX0 5 ∈ WS := wm (i := 146) (by decide +kernel) (by decide +kernel)
theorem wd_148 : Cond.instanceMethod yX0_init ∈ WS := wm (i := 148) (by decide +kernel) (by decide +kernel)
theorem wd_149 : Cond.code yX0_init cX0_init 1 none ∈ WS := wm (i := 149) (by decide +kernel) (by decide +kernel)
theorem wd_150 : Cond.methodLink RX0 1 objectInit ∈ WS := wm (i := 150) (by decide +kernel) (by decide +kernel)
theorem wd_151 : Cond.fieldLink RX0 7 "SapNetwork$Accounts" "sapVolume" "J" ∈ WS := wm (i := 151) (by decide +kernel) (by decide +kernel)
theorem wd_153 : Cond.fieldLink RX0 13 "SapNetwork$Accounts" "sapSugar" "J" ∈ WS := wm (i := 153) (by decide +kernel) (by decide +kernel)
theorem wd_155 : Cond.fieldLink RX0 16 "SapNetwork$Accounts" "steamVolume" "J" ∈ WS := wm (i := 155) (by decide +kernel) (by decide +kernel)
theorem wd_157 : Cond.fieldLink RX0 19 "SapNetwork$Accounts" "lossVolume" "J" ∈ WS := wm (i := 157) (by decide +kernel) (by decide +kernel)
theorem wd_159 : Cond.fieldLink RX0 22 "SapNetwork$Accounts" "lossSugar" "J" ∈ WS := wm (i := 159) (by decide +kernel) (by decide +kernel)
theorem wd_172 : Cond.fieldLink RX6 10 "SapNetwork" "tubes" "LSapNetwork$Tubes;" ∈ WS := wm (i := 172) (by decide +kernel) (by decide +kernel)
theorem wd_173 : Cond.fieldLink RX6 18 "SapNetwork" "taps" "[LSapNetwork$Tap;" ∈ WS := wm (i := 173) (by decide +kernel) (by decide +kernel)
theorem wd_174 : Cond.fieldLink RX6 24 "SapNetwork" "tanks" "[LSapNetwork$Tank;" ∈ WS := wm (i := 174) (by decide +kernel) (by decide +kernel)
theorem wd_175 : Cond.fieldLink RX6 31 "SapNetwork" "pan" "LSapNetwork$Pan;" ∈ WS := wm (i := 175) (by decide +kernel) (by decide +kernel)
theorem wd_176 : Cond.fieldLink RX6 35 "SapNetwork" "trialPan" "LSapNetwork$Pan;" ∈ WS := wm (i := 176) (by decide +kernel) (by decide +kernel)
theorem wd_177 : Cond.fieldLink RX6 41 "SapNetwork" "syrup" "LSapNetwork$Syrup;" ∈ WS := wm (i := 177) (by decide +kernel) (by decide +kernel)
theorem wd_178 : Cond.fieldLink RX6 48 "SapNetwork" "accounts" "LSapNetwork$Accounts;" ∈ WS := wm (i := 178) (by decide +kernel) (by decide +kernel)
theorem wd_179 : Cond.fieldLink RX6 52 "SapNetwork" "worths" "[I" ∈ WS := wm (i := 179) (by decide +kernel) (by decide +kernel)
theorem wd_180 : Cond.fieldLink RX6 169 "SapNetwork" "tankCount" "I" ∈ WS := wm (i := 180) (by decide +kernel) (by decide +kernel)
theorem wd_181 : Cond.fieldLink RX6 143 "SapNetwork" "fire" "I" ∈ WS := wm (i := 181) (by decide +kernel) (by decide +kernel)
theorem wd_182 : Cond.fieldLink RX6 131 "SapNetwork" "hoursPassed" "I" ∈ WS := wm (i := 182) (by decide +kernel) (by decide +kernel)
theorem wd_206 : Cond.methodLink RL 139 yX6_nodes ∈ WS := wm (i := 206) (by decide +kernel) (by decide +kernel)
theorem wd_207 : Cond.instanceMethod yX6_nodes ∈ WS := wm (i := 207) (by decide +kernel) (by decide +kernel)
theorem wd_208 : Cond.selects RX6 yX6_nodes yX6_nodes ∈ WS := wm (i := 208) (by decide +kernel) (by decide +kernel)
theorem wd_209 : Cond.code yX6_nodes cX6_nodes 1 (some .int) ∈ WS := wm (i := 209) (by decide +kernel) (by decide +kernel)
theorem wd_210 : Cond.methodLink RX6 103 yX5_size ∈ WS := wm (i := 210) (by decide +kernel) (by decide +kernel)
theorem wd_211 : Cond.instanceMethod yX5_size ∈ WS := wm (i := 211) (by decide +kernel) (by decide +kernel)
theorem wd_212 : Cond.selects RX5 yX5_size yX5_size ∈ WS := wm (i := 212) (by decide +kernel) (by decide +kernel)
theorem wd_213 : Cond.code yX5_size cX5_size 1 (some .int) ∈ WS := wm (i := 213) (by decide +kernel) (by decide +kernel)
theorem wd_214 : Cond.methodLink RL 161 yX6_hours ∈ WS := wm (i := 214) (by decide +kernel) (by decide +kernel)
theorem wd_215 : Cond.instanceMethod yX6_hours ∈ WS := wm (i := 215) (by decide +kernel) (by decide +kernel)
theorem wd_216 : Cond.selects RX6 yX6_hours yX6_hours ∈ WS := wm (i := 216) (by decide +kernel) (by decide +kernel)
theorem wd_217 : Cond.code yX6_hours cX6_hours 1 (some .int) ∈ WS := wm (i := 217) (by decide +kernel) (by decide +kernel)
theorem wd_218 : Cond.methodLink RL 195 yX6_panVolume ∈ WS := wm (i := 218) (by decide +kernel) (by decide +kernel)
theorem wd_219 : Cond.instanceMethod yX6_panVolume ∈ WS := wm (i := 219) (by decide +kernel) (by decide +kernel)
theorem wd_220 : Cond.selects RX6 yX6_panVolume yX6_panVolume ∈ WS := wm (i := 220) (by decide +kernel) (by decide +kernel)
theorem wd_221 : Cond.code yX6_panVolume cX6_panVolume 1 (some .int) ∈ WS := wm (i := 221) (by decide +kernel) (by decide +kernel)
theorem wd_222 : Cond.methodLink RL 199 yX6_panSugar ∈ WS := wm (i := 222) (by decide +kernel) (by decide +kernel)
theorem wd_223 : Cond.instanceMethod yX6_panSugar ∈ WS := wm (i := 223) (by decide +kernel) (by decide +kernel)
theorem wd_224 : Cond.selects RX6 yX6_panSugar yX6_panSugar ∈ WS := wm (i := 224) (by decide +kernel) (by decide +kernel)
theorem wd_225 : Cond.code yX6_panSugar cX6_panSugar 1 (some .int) ∈ WS := wm (i := 225) (by decide +kernel) (by decide +kernel)
theorem wd_226 : Cond.methodLink RL 203 yX6_isReady ∈ WS := wm (i := 226) (by decide +kernel) (by decide +kernel)
theorem wd_227 : Cond.instanceMethod yX6_isReady ∈ WS := wm (i := 227) (by decide +kernel) (by decide +kernel)
theorem wd_228 : Cond.selects RX6 yX6_isReady yX6_isReady ∈ WS := wm (i := 228) (by decide +kernel) (by decide +kernel)
theorem wd_229 : Cond.code yX6_isReady cX6_isReady 1 (some .boolean) ∈ WS := wm (i := 229) (by decide +kernel) (by decide +kernel)
theorem wd_230 : Cond.methodLink RX6 213 yX1_isSyrup ∈ WS := wm (i := 230) (by decide +kernel) (by decide +kernel)
theorem wd_231 : Cond.instanceMethod yX1_isSyrup ∈ WS := wm (i := 231) (by decide +kernel) (by decide +kernel)
theorem wd_232 : Cond.selects RX1 yX1_isSyrup yX1_isSyrup ∈ WS := wm (i := 232) (by decide +kernel) (by decide +kernel)
theorem wd_233 : Cond.code yX1_isSyrup cX1_isSyrup 1 (some .boolean) ∈ WS := wm (i := 233) (by decide +kernel) (by decide +kernel)
theorem wd_234 : Cond.methodLink RX1 18 yX1_leastVolume ∈ WS := wm (i := 234) (by decide +kernel) (by decide +kernel)
theorem wd_235 : Cond.instanceMethod yX1_leastVolume ∈ WS := wm (i := 235) (by decide +kernel) (by decide +kernel)
theorem wd_236 : Cond.selects RX1 yX1_leastVolume yX1_leastVolume ∈ WS := wm (i := 236) (by decide +kernel) (by decide +kernel)
theorem wd_237 : Cond.code yX1_leastVolume cX1_leastVolume 1 (some .int) ∈ WS := wm (i := 237) (by decide +kernel) (by decide +kernel)
theorem wd_238 : Cond.methodLink RL 218 yX6_dump ∈ WS := wm (i := 238) (by decide +kernel) (by decide +kernel)
theorem wd_239 : Cond.instanceMethod yX6_dump ∈ WS := wm (i := 239) (by decide +kernel) (by decide +kernel)
theorem wd_240 : Cond.selects RX6 yX6_dump yX6_dump ∈ WS := wm (i := 240) (by decide +kernel) (by decide +kernel)
theorem wd_241 : Cond.code yX6_dump cX6_dump 2 (some .int) ∈ WS := wm (i := 241) (by decide +kernel) (by decide +kernel)
theorem wd_242 : Cond.methodLink RX6 190 yX0_addLoss ∈ WS := wm (i := 242) (by decide +kernel) (by decide +kernel)
theorem wd_243 : Cond.instanceMethod yX0_addLoss ∈ WS := wm (i := 243) (by decide +kernel) (by decide +kernel)
theorem wd_244 : Cond.selects RX0 yX0_addLoss yX0_addLoss ∈ WS := wm (i := 244) (by decide +kernel) (by decide +kernel)
theorem wd_245 : Cond.code yX0_addLoss cX0_addLoss 3 none ∈ WS := wm (i := 245) (by decide +kernel) (by decide +kernel)
theorem wd_246 : Cond.methodLink RX6 245 yX1_clear ∈ WS := wm (i := 246) (by decide +kernel) (by decide +kernel)
theorem wd_247 : Cond.instanceMethod yX1_clear ∈ WS := wm (i := 247) (by decide +kernel) (by decide +kernel)
theorem wd_248 : Cond.selects RX1 yX1_clear yX1_clear ∈ WS := wm (i := 248) (by decide +kernel) (by decide +kernel)
theorem wd_249 : Cond.code yX1_clear cX1_clear 1 none ∈ WS := wm (i := 249) (by decide +kernel) (by decide +kernel)
theorem wd_250 : Cond.methodLink RL 222 yX6_batches ∈ WS := wm (i := 250) (by decide +kernel) (by decide +kernel)
theorem wd_251 : Cond.instanceMethod yX6_batches ∈ WS := wm (i := 251) (by decide +kernel) (by decide +kernel)
theorem wd_252 : Cond.selects RX6 yX6_batches yX6_batches ∈ WS := wm (i := 252) (by decide +kernel) (by decide +kernel)
theorem wd_253 : Cond.code yX6_batches cX6_batches 1 (some .int) ∈ WS := wm (i := 253) (by decide +kernel) (by decide +kernel)
theorem wd_254 : Cond.methodLink RX6 248 yX2_size ∈ WS := wm (i := 254) (by decide +kernel) (by decide +kernel)
theorem wd_255 : Cond.instanceMethod yX2_size ∈ WS := wm (i := 255) (by decide +kernel) (by decide +kernel)
theorem wd_256 : Cond.selects RX2 yX2_size yX2_size ∈ WS := wm (i := 256) (by decide +kernel) (by decide +kernel)
theorem wd_257 : Cond.code yX2_size cX2_size 1 (some .int) ∈ WS := wm (i := 257) (by decide +kernel) (by decide +kernel)
theorem wd_258 : Cond.methodLink RL 232 yX6_totalSap ∈ WS := wm (i := 258) (by decide +kernel) (by decide +kernel)
theorem wd_259 : Cond.instanceMethod yX6_totalSap ∈ WS := wm (i := 259) (by decide +kernel) (by decide +kernel)
theorem wd_260 : Cond.selects RX6 yX6_totalSap yX6_totalSap ∈ WS := wm (i := 260) (by decide +kernel) (by decide +kernel)
theorem wd_261 : Cond.code yX6_totalSap cX6_totalSap 1 (some .long) ∈ WS := wm (i := 261) (by decide +kernel) (by decide +kernel)
theorem wd_262 : Cond.methodLink RL 237 yX6_steam ∈ WS := wm (i := 262) (by decide +kernel) (by decide +kernel)
theorem wd_263 : Cond.instanceMethod yX6_steam ∈ WS := wm (i := 263) (by decide +kernel) (by decide +kernel)
theorem wd_264 : Cond.selects RX6 yX6_steam yX6_steam ∈ WS := wm (i := 264) (by decide +kernel) (by decide +kernel)
theorem wd_265 : Cond.code yX6_steam cX6_steam 1 (some .long) ∈ WS := wm (i := 265) (by decide +kernel) (by decide +kernel)
theorem wd_266 : Cond.methodLink RL 241 yX6_loss ∈ WS := wm (i := 266) (by decide +kernel) (by decide +kernel)
theorem wd_267 : Cond.instanceMethod yX6_loss ∈ WS := wm (i := 267) (by decide +kernel) (by decide +kernel)
theorem wd_268 : Cond.selects RX6 yX6_loss yX6_loss ∈ WS := wm (i := 268) (by decide +kernel) (by decide +kernel)
theorem wd_269 : Cond.code yX6_loss cX6_loss 1 (some .long) ∈ WS := wm (i := 269) (by decide +kernel) (by decide +kernel)
theorem wd_270 : Cond.methodLink RL 245 yX6_lossByBalance ∈ WS := wm (i := 270) (by decide +kernel) (by decide +kernel)
theorem wd_271 : Cond.instanceMethod yX6_lossByBalance ∈ WS := wm (i := 271) (by decide +kernel) (by decide +kernel)
theorem wd_272 : Cond.selects RX6 yX6_lossByBalance yX6_lossByBalance ∈ WS := wm (i := 272) (by decide +kernel) (by decide +kernel)
theorem wd_273 : Cond.code yX6_lossByBalance cX6_lossByBalance 1 (some .long) ∈ WS := wm (i := 273) (by decide +kernel) (by decide +kernel)
theorem wd_274 : Cond.methodLink RX6 269 yX2_volumeOfAll ∈ WS := wm (i := 274) (by decide +kernel) (by decide +kernel)
theorem wd_275 : Cond.instanceMethod yX2_volumeOfAll ∈ WS := wm (i := 275) (by decide +kernel) (by decide +kernel)
theorem wd_276 : Cond.selects RX2 yX2_volumeOfAll yX2_volumeOfAll ∈ WS := wm (i := 276) (by decide +kernel) (by decide +kernel)
theorem wd_277 : Cond.code yX2_volumeOfAll cX2_volumeOfAll 4 (some .long) ∈ WS := wm (i := 277) (by decide +kernel) (by decide +kernel)
theorem wd_278 : Cond.methodLink RX6 273 yX6_volumeInTanks ∈ WS := wm (i := 278) (by decide +kernel) (by decide +kernel)
theorem wd_280 : Cond.instanceMethod yX6_volumeInTanks ∈ WS := wm (i := 280) (by decide +kernel) (by decide +kernel)
theorem wd_281 : Cond.code yX6_volumeInTanks cX6_volumeInTanks 5 (some .long) ∈ WS := wm (i := 281) (by decide +kernel) (by decide +kernel)
theorem wd_282 : Cond.methodLink RL 249 yX6_lostSugar ∈ WS := wm (i := 282) (by decide +kernel) (by decide +kernel)
theorem wd_283 : Cond.instanceMethod yX6_lostSugar ∈ WS := wm (i := 283) (by decide +kernel) (by decide +kernel)
theorem wd_284 : Cond.selects RX6 yX6_lostSugar yX6_lostSugar ∈ WS := wm (i := 284) (by decide +kernel) (by decide +kernel)
theorem wd_285 : Cond.code yX6_lostSugar cX6_lostSugar 1 (some .long) ∈ WS := wm (i := 285) (by decide +kernel) (by decide +kernel)
theorem wd_286 : Cond.methodLink RL 253 yX6_isBalanced ∈ WS := wm (i := 286) (by decide +kernel) (by decide +kernel)
theorem wd_287 : Cond.instanceMethod yX6_isBalanced ∈ WS := wm (i := 287) (by decide +kernel) (by decide +kernel)
theorem wd_288 : Cond.selects RX6 yX6_isBalanced yX6_isBalanced ∈ WS := wm (i := 288) (by decide +kernel) (by decide +kernel)
theorem wd_289 : Cond.code yX6_isBalanced cX6_isBalanced 3 (some .boolean) ∈ WS := wm (i := 289) (by decide +kernel) (by decide +kernel)
theorem wd_290 : Cond.methodLink RX6 281 yX6_sugarInTanks ∈ WS := wm (i := 290) (by decide +kernel) (by decide +kernel)
theorem wd_292 : Cond.instanceMethod yX6_sugarInTanks ∈ WS := wm (i := 292) (by decide +kernel) (by decide +kernel)
theorem wd_293 : Cond.code yX6_sugarInTanks cX6_sugarInTanks 5 (some .long) ∈ WS := wm (i := 293) (by decide +kernel) (by decide +kernel)
theorem wd_294 : Cond.methodLink RX6 284 yX6_loss ∈ WS := wm (i := 294) (by decide +kernel) (by decide +kernel)
theorem wd_295 : Cond.methodLink RX6 287 yX6_lossByBalance ∈ WS := wm (i := 295) (by decide +kernel) (by decide +kernel)
theorem wd_296 : Cond.methodLink RL 116 yL_addJunction ∈ WS := wm (i := 296) (by decide +kernel) (by decide +kernel)
theorem wd_297 : Cond.static yL_addJunction ∈ WS := wm (i := 297) (by decide +kernel) (by decide +kernel)
theorem wd_298 : Cond.codeWith yL_addJunction cL_addJunction 5 (some .int) [(0, 10, 13, 13), (0, 10, 17, 15), (0, 10, 21, 17), (0, 10, 25, 19)] ∈ WS := wm (i := 298) (by decide +kernel) (by decide +kernel)
theorem wd_299 : Cond.classLink RL 13 "java/lang/IndexOutOfBoundsException" ∈ WS := wm (i := 299) (by decide +kernel) (by decide +kernel)
theorem wd_300 : Cond.instantiable RJx00060 6 ∈ WS := wm (i := 300) (by decide +kernel) (by decide +kernel)
theorem wd_301 : Cond.instanceMethod yJx00060_init_a7421 ∈ WS := wm (i := 301) (by decide +kernel) (by decide +kernel)
theorem wd_302 : Cond.code yJx00060_init_a7421 cJx00060_init_a7421 2 none ∈ WS := wm (i := 302) (by decide +kernel) (by decide +kernel)
theorem wd_303 : Cond.methodLink RJx00060 7 ⟨"java/lang/IndexOutOfBoundsException", "<init>", "(Ljava/lang/String;)V"⟩ ∈ WS := wm (i := 303) (by decide +kernel) (by decide +kernel)
theorem wd_304 : Cond.instanceMethod ⟨"java/lang/IndexOutOfBoundsException", "<init>", "(Ljava/lang/String;)V"⟩ ∈ WS := wm (i := 304) (by decide +kernel) (by decide +kernel)
theorem wd_305 : Cond.code ⟨"java/lang/IndexOutOfBoundsException", "<init>", "(Ljava/lang/String;)V"⟩ prog_16_method_2_code 2 none ∈ WS := wm (i := 305) (by decide +kernel) (by decide +kernel)
theorem wd_306 : Cond.methodLink "java/lang/IndexOutOfBoundsException" 7 ⟨"java/lang/RuntimeException", "<init>", "(Ljava/lang/String;)V"⟩ ∈ WS := wm (i := 306) (by decide +kernel) (by decide +kernel)
theorem wd_307 : Cond.instanceMethod ⟨"java/lang/RuntimeException", "<init>", "(Ljava/lang/String;)V"⟩ ∈ WS := wm (i := 307) (by decide +kernel) (by decide +kernel)
theorem wd_308 : Cond.code ⟨"java/lang/RuntimeException", "<init>", "(Ljava/lang/String;)V"⟩ prog_18_method_2_code 2 none ∈ WS := wm (i := 308) (by decide +kernel) (by decide +kernel)
theorem wd_309 : Cond.methodLink "java/lang/RuntimeException" 7 ⟨"java/lang/Exception", "<init>", "(Ljava/lang/String;)V"⟩ ∈ WS := wm (i := 309) (by decide +kernel) (by decide +kernel)
theorem wd_310 : Cond.instanceMethod ⟨"java/lang/Exception", "<init>", "(Ljava/lang/String;)V"⟩ ∈ WS := wm (i := 310) (by decide +kernel) (by decide +kernel)
theorem wd_311 : Cond.code ⟨"java/lang/Exception", "<init>", "(Ljava/lang/String;)V"⟩ prog_13_method_2_code 2 none ∈ WS := wm (i := 311) (by decide +kernel) (by decide +kernel)
theorem wd_312 : Cond.methodLink "java/lang/Exception" 7 ⟨"java/lang/Throwable", "<init>", "(Ljava/lang/String;)V"⟩ ∈ WS := wm (i := 312) (by decide +kernel) (by decide +kernel)
theorem wd_313 : Cond.instanceMethod ⟨"java/lang/Throwable", "<init>", "(Ljava/lang/String;)V"⟩ ∈ WS := wm (i := 313) (by decide +kernel) (by decide +kernel)
theorem wd_314 : Cond.code ⟨"java/lang/Throwable", "<init>", "(Ljava/lang/String;)V"⟩ prog_20_method_2_code 2 none ∈ WS := wm (i := 314) (by decide +kernel) (by decide +kernel)
theorem wd_315 : Cond.methodLink "java/lang/Throwable" 1 objectInit ∈ WS := wm (i := 315) (by decide +kernel) (by decide +kernel)
theorem wd_316 : Cond.fieldLink "java/lang/Throwable" 13 "java/lang/Throwable" "UNASSIGNED_STACK" "[Ljava/lang/StackTraceElement;" ∈ WS := wm (i := 316) (by decide +kernel) (by decide +kernel)
theorem wd_318 : Cond.fieldLink "java/lang/Throwable" 20 "java/lang/Throwable" "SUPPRESSED_SENTINEL" "Ljava/util/List;" ∈ WS := wm (i := 318) (by decide +kernel) (by decide +kernel)
theorem wd_320 : Cond.methodLink "java/lang/Throwable" 27 ⟨"java/lang/Throwable", "fillInStackTrace", "()Ljava/lang/Throwable;"⟩ ∈ WS := wm (i := 320) (by decide +kernel) (by decide +kernel)
theorem wd_321 : Cond.instanceMethod ⟨"java/lang/Throwable", "fillInStackTrace", "()Ljava/lang/Throwable;"⟩ ∈ WS := wm (i := 321) (by decide +kernel) (by decide +kernel)
theorem wd_323 : Cond.selects "java/lang/ArithmeticException" ⟨"java/lang/Throwable", "fillInStackTrace", "()Ljava/lang/Throwable;"⟩ ⟨"java/lang/Throwable", "fillInStackTrace", "()Ljava/lang/Throwable;"⟩ ∈ WS := wm (i := 323) (by decide +kernel) (by decide +kernel)
theorem wd_324 : Cond.selects RJx00060 ⟨"java/lang/Throwable", "fillInStackTrace", "()Ljava/lang/Throwable;"⟩ ⟨"java/lang/Throwable", "fillInStackTrace", "()Ljava/lang/Throwable;"⟩ ∈ WS := wm (i := 324) (by decide +kernel) (by decide +kernel)
theorem wd_325 : Cond.selects "java/lang/IllegalArgumentException" ⟨"java/lang/Throwable", "fillInStackTrace", "()Ljava/lang/Throwable;"⟩ ⟨"java/lang/Throwable", "fillInStackTrace", "()Ljava/lang/Throwable;"⟩ ∈ WS := wm (i := 325) (by decide +kernel) (by decide +kernel)
theorem wd_326 : Cond.selects "java/lang/IllegalStateException" ⟨"java/lang/Throwable", "fillInStackTrace", "()Ljava/lang/Throwable;"⟩ ⟨"java/lang/Throwable", "fillInStackTrace", "()Ljava/lang/Throwable;"⟩ ∈ WS := wm (i := 326) (by decide +kernel) (by decide +kernel)
theorem wd_327 : Cond.selects "java/lang/IndexOutOfBoundsException" ⟨"java/lang/Throwable", "fillInStackTrace", "()Ljava/lang/Throwable;"⟩ ⟨"java/lang/Throwable", "fillInStackTrace", "()Ljava/lang/Throwable;"⟩ ∈ WS := wm (i := 327) (by decide +kernel) (by decide +kernel)
theorem wd_328 : Cond.selects "java/lang/UnsupportedOperationException" ⟨"java/lang/Throwable", "fillInStackTrace", "()Ljava/lang/Throwable;"⟩ ⟨"java/lang/Throwable", "fillInStackTrace", "()Ljava/lang/Throwable;"⟩ ∈ WS := wm (i := 328) (by decide +kernel) (by decide +kernel)
theorem wd_329 : Cond.selects "java/util/NoSuchElementException" ⟨"java/lang/Throwable", "fillInStackTrace", "()Ljava/lang/Throwable;"⟩ ⟨"java/lang/Throwable", "fillInStackTrace", "()Ljava/lang/Throwable;"⟩ ∈ WS := wm (i := 329) (by decide +kernel) (by decide +kernel)
theorem wd_331 : Cond.methodLink "java/lang/Throwable" 202 ⟨"java/lang/Throwable", "fillInStackTrace", "(I)Ljava/lang/Throwable;"⟩ ∈ WS := wm (i := 331) (by decide +kernel) (by decide +kernel)
theorem wd_333 : Cond.instanceMethod ⟨"java/lang/Throwable", "fillInStackTrace", "(I)Ljava/lang/Throwable;"⟩ ∈ WS := wm (i := 333) (by decide +kernel) (by decide +kernel)
theorem wd_334 : Cond.instantiable "java/lang/Throwable" 6 ∈ WS := wm (i := 334) (by decide +kernel) (by decide +kernel)
theorem wd_336 : Cond.fieldLink "java/lang/Throwable" 198 "java/lang/Throwable" "backtrace" "Ljava/lang/Object;" ∈ WS := wm (i := 336) (by decide +kernel) (by decide +kernel)
theorem wd_337 : Cond.fieldLink "java/lang/Throwable" 31 "java/lang/Throwable" "detailMessage" "Ljava/lang/String;" ∈ WS := wm (i := 337) (by decide +kernel) (by decide +kernel)
theorem wd_338 : Cond.fieldLink "java/lang/Throwable" 7 "java/lang/Throwable" "cause" "Ljava/lang/Throwable;" ∈ WS := wm (i := 338) (by decide +kernel) (by decide +kernel)
theorem wd_339 : Cond.fieldLink "java/lang/Throwable" 17 "java/lang/Throwable" "stackTrace" "[Ljava/lang/StackTraceElement;" ∈ WS := wm (i := 339) (by decide +kernel) (by decide +kernel)
theorem wd_340 : Cond.fieldLink "java/lang/Throwable" 24 "java/lang/Throwable" "suppressedExceptions" "Ljava/util/List;" ∈ WS := wm (i := 340) (by decide +kernel) (by decide +kernel)
theorem wd_363 : Cond.selects RJx00060 ⟨"java/lang/Throwable", "fillInStackTrace", "(I)Ljava/lang/Throwable;"⟩ ⟨"java/lang/Throwable", "fillInStackTrace", "(I)Ljava/lang/Throwable;"⟩ ∈ WS := wm (i := 363) (by decide +kernel) (by decide +kernel)
theorem wd_371 : Cond.instanceMethod ⟨"java/lang/Throwable", "<init>", "()V"⟩ ∈ WS := wm (i := 371) (by decide +kernel) (by decide +kernel)
theorem wd_372 : Cond.code ⟨"java/lang/Throwable", "<init>", "()V"⟩ prog_20_method_1_code 1 none ∈ WS := wm (i := 372) (by decide +kernel) (by decide +kernel)
theorem wd_373 : Cond.instantiable RJ0 4 ∈ WS := wm (i := 373) (by decide +kernel) (by decide +kernel)
theorem wd_374 : Cond.arrayClass .byte ∈ WS := wm (i := 374) (by decide +kernel) (by decide +kernel)
theorem wd_379 : Cond.classLink RL 15 "java/lang/IllegalArgumentException" ∈ WS := wm (i := 379) (by decide +kernel) (by decide +kernel)
theorem wd_380 : Cond.classLink RL 17 "java/lang/UnsupportedOperationException" ∈ WS := wm (i := 380) (by decide +kernel) (by decide +kernel)
theorem wd_381 : Cond.classLink RL 19 "java/lang/IllegalStateException" ∈ WS := wm (i := 381) (by decide +kernel) (by decide +kernel)
theorem wd_382 : Cond.methodLink RL 7 yX6_addJunction ∈ WS := wm (i := 382) (by decide +kernel) (by decide +kernel)
theorem wd_383 : Cond.instanceMethod yX6_addJunction ∈ WS := wm (i := 383) (by decide +kernel) (by decide +kernel)
theorem wd_384 : Cond.selects RX6 yX6_addJunction yX6_addJunction ∈ WS := wm (i := 384) (by decide +kernel) (by decide +kernel)
theorem wd_385 : Cond.code yX6_addJunction cX6_addJunction 3 (some .int) ∈ WS := wm (i := 385) (by decide +kernel) (by decide +kernel)
theorem wd_386 : Cond.methodLink RX6 56 yX6_requireNode ∈ WS := wm (i := 386) (by decide +kernel) (by decide +kernel)
theorem wd_388 : Cond.instanceMethod yX6_requireNode ∈ WS := wm (i := 388) (by decide +kernel) (by decide +kernel)
theorem wd_389 : Cond.code yX6_requireNode cX6_requireNode 2 none ∈ WS := wm (i := 389) (by decide +kernel) (by decide +kernel)
theorem wd_390 : Cond.methodLink RX6 296 yX5_has ∈ WS := wm (i := 390) (by decide +kernel) (by decide +kernel)
theorem wd_391 : Cond.instanceMethod yX5_has ∈ WS := wm (i := 391) (by decide +kernel) (by decide +kernel)
theorem wd_392 : Cond.selects RX5 yX5_has yX5_has ∈ WS := wm (i := 392) (by decide +kernel) (by decide +kernel)
theorem wd_393 : Cond.code yX5_has cX5_has 2 (some .boolean) ∈ WS := wm (i := 393) (by decide +kernel) (by decide +kernel)
theorem wd_394 : Cond.classLink RX6 299 "java/lang/IndexOutOfBoundsException" ∈ WS := wm (i := 394) (by decide +kernel) (by decide +kernel)
theorem wd_395 : Cond.instantiable "java/lang/IndexOutOfBoundsException" 6 ∈ WS := wm (i := 395) (by decide +kernel) (by decide +kernel)
theorem wd_397 : Cond.selects "java/lang/IndexOutOfBoundsException" ⟨"java/lang/Throwable", "fillInStackTrace", "(I)Ljava/lang/Throwable;"⟩ ⟨"java/lang/Throwable", "fillInStackTrace", "(I)Ljava/lang/Throwable;"⟩ ∈ WS := wm (i := 397) (by decide +kernel) (by decide +kernel)
theorem wd_404 : Cond.methodLink RX6 303 ⟨"java/lang/IndexOutOfBoundsException", "<init>", "(Ljava/lang/String;)V"⟩ ∈ WS := wm (i := 404) (by decide +kernel) (by decide +kernel)
theorem wd_407 : Cond.methodLink RX6 60 yX6_isOutside ∈ WS := wm (i := 407) (by decide +kernel) (by decide +kernel)
theorem wd_408 : Cond.static yX6_isOutside ∈ WS := wm (i := 408) (by decide +kernel) (by decide +kernel)
theorem wd_409 : Cond.code yX6_isOutside cX6_isOutside 3 (some .boolean) ∈ WS := wm (i := 409) (by decide +kernel) (by decide +kernel)
theorem wd_410 : Cond.classLink RX6 64 "java/lang/IllegalArgumentException" ∈ WS := wm (i := 410) (by decide +kernel) (by decide +kernel)
theorem wd_411 : Cond.instantiable "java/lang/IllegalArgumentException" 6 ∈ WS := wm (i := 411) (by decide +kernel) (by decide +kernel)
theorem wd_413 : Cond.selects "java/lang/IllegalArgumentException" ⟨"java/lang/Throwable", "fillInStackTrace", "(I)Ljava/lang/Throwable;"⟩ ⟨"java/lang/Throwable", "fillInStackTrace", "(I)Ljava/lang/Throwable;"⟩ ∈ WS := wm (i := 413) (by decide +kernel) (by decide +kernel)
theorem wd_420 : Cond.methodLink RX6 68 ⟨"java/lang/IllegalArgumentException", "<init>", "(Ljava/lang/String;)V"⟩ ∈ WS := wm (i := 420) (by decide +kernel) (by decide +kernel)
theorem wd_421 : Cond.instanceMethod ⟨"java/lang/IllegalArgumentException", "<init>", "(Ljava/lang/String;)V"⟩ ∈ WS := wm (i := 421) (by decide +kernel) (by decide +kernel)
theorem wd_422 : Cond.code ⟨"java/lang/IllegalArgumentException", "<init>", "(Ljava/lang/String;)V"⟩ prog_14_method_2_code 2 none ∈ WS := wm (i := 422) (by decide +kernel) (by decide +kernel)
theorem wd_423 : Cond.methodLink "java/lang/IllegalArgumentException" 7 ⟨"java/lang/RuntimeException", "<init>", "(Ljava/lang/String;)V"⟩ ∈ WS := wm (i := 423) (by decide +kernel) (by decide +kernel)
theorem wd_426 : Cond.methodLink RX6 71 yX6_requireRoomBelow ∈ WS := wm (i := 426) (by decide +kernel) (by decide +kernel)
theorem wd_428 : Cond.instanceMethod yX6_requireRoomBelow ∈ WS := wm (i := 428) (by decide +kernel) (by decide +kernel)
theorem wd_429 : Cond.code yX6_requireRoomBelow cX6_requireRoomBelow 2 none ∈ WS := wm (i := 429) (by decide +kernel) (by decide +kernel)
theorem wd_430 : Cond.classLink RX6 195 "java/lang/UnsupportedOperationException" ∈ WS := wm (i := 430) (by decide +kernel) (by decide +kernel)
theorem wd_431 : Cond.instantiable "java/lang/UnsupportedOperationException" 6 ∈ WS := wm (i := 431) (by decide +kernel) (by decide +kernel)
theorem wd_433 : Cond.selects "java/lang/UnsupportedOperationException" ⟨"java/lang/Throwable", "fillInStackTrace", "(I)Ljava/lang/Throwable;"⟩ ⟨"java/lang/Throwable", "fillInStackTrace", "(I)Ljava/lang/Throwable;"⟩ ∈ WS := wm (i := 433) (by decide +kernel) (by decide +kernel)
theorem wd_440 : Cond.methodLink RX6 199 ⟨"java/lang/UnsupportedOperationException", "<init>", "(Ljava/lang/String;)V"⟩ ∈ WS := wm (i := 440) (by decide +kernel) (by decide +kernel)
theorem wd_441 : Cond.instanceMethod ⟨"java/lang/UnsupportedOperationException", "<init>", "(Ljava/lang/String;)V"⟩ ∈ WS := wm (i := 441) (by decide +kernel) (by decide +kernel)
theorem wd_442 : Cond.code ⟨"java/lang/UnsupportedOperationException", "<init>", "(Ljava/lang/String;)V"⟩ prog_21_method_2_code 2 none ∈ WS := wm (i := 442) (by decide +kernel) (by decide +kernel)
theorem wd_443 : Cond.methodLink "java/lang/UnsupportedOperationException" 7 ⟨"java/lang/RuntimeException", "<init>", "(Ljava/lang/String;)V"⟩ ∈ WS := wm (i := 443) (by decide +kernel) (by decide +kernel)
theorem wd_446 : Cond.methodLink RX6 306 yX5_isFull ∈ WS := wm (i := 446) (by decide +kernel) (by decide +kernel)
theorem wd_447 : Cond.instanceMethod yX5_isFull ∈ WS := wm (i := 447) (by decide +kernel) (by decide +kernel)
theorem wd_448 : Cond.selects RX5 yX5_isFull yX5_isFull ∈ WS := wm (i := 448) (by decide +kernel) (by decide +kernel)
theorem wd_449 : Cond.code yX5_isFull cX5_isFull 1 (some .boolean) ∈ WS := wm (i := 449) (by decide +kernel) (by decide +kernel)
theorem wd_450 : Cond.classLink RX6 135 "java/lang/IllegalStateException" ∈ WS := wm (i := 450) (by decide +kernel) (by decide +kernel)
theorem wd_451 : Cond.instantiable "java/lang/IllegalStateException" 6 ∈ WS := wm (i := 451) (by decide +kernel) (by decide +kernel)
theorem wd_453 : Cond.selects "java/lang/IllegalStateException" ⟨"java/lang/Throwable", "fillInStackTrace", "(I)Ljava/lang/Throwable;"⟩ ⟨"java/lang/Throwable", "fillInStackTrace", "(I)Ljava/lang/Throwable;"⟩ ∈ WS := wm (i := 453) (by decide +kernel) (by decide +kernel)
theorem wd_460 : Cond.methodLink RX6 139 ⟨"java/lang/IllegalStateException", "<init>", "(Ljava/lang/String;)V"⟩ ∈ WS := wm (i := 460) (by decide +kernel) (by decide +kernel)
theorem wd_461 : Cond.instanceMethod ⟨"java/lang/IllegalStateException", "<init>", "(Ljava/lang/String;)V"⟩ ∈ WS := wm (i := 461) (by decide +kernel) (by decide +kernel)
theorem wd_462 : Cond.code ⟨"java/lang/IllegalStateException", "<init>", "(Ljava/lang/String;)V"⟩ prog_15_method_2_code 2 none ∈ WS := wm (i := 462) (by decide +kernel) (by decide +kernel)
theorem wd_463 : Cond.methodLink "java/lang/IllegalStateException" 7 ⟨"java/lang/RuntimeException", "<init>", "(Ljava/lang/String;)V"⟩ ∈ WS := wm (i := 463) (by decide +kernel) (by decide +kernel)
theorem wd_466 : Cond.methodLink RX6 74 yX5_join ∈ WS := wm (i := 466) (by decide +kernel) (by decide +kernel)
theorem wd_467 : Cond.instanceMethod yX5_join ∈ WS := wm (i := 467) (by decide +kernel) (by decide +kernel)
theorem wd_468 : Cond.selects RX5 yX5_join yX5_join ∈ WS := wm (i := 468) (by decide +kernel) (by decide +kernel)
theorem wd_469 : Cond.code yX5_join cX5_join 4 (some .int) ∈ WS := wm (i := 469) (by decide +kernel) (by decide +kernel)
theorem wd_470 : Cond.methodLink RL 125 yL_addTap ∈ WS := wm (i := 470) (by decide +kernel) (by decide +kernel)
theorem wd_471 : Cond.static yL_addTap ∈ WS := wm (i := 471) (by decide +kernel) (by decide +kernel)
theorem wd_472 : Cond.codeWith yL_addTap cL_addTap 8 (some .int) [(0, 16, 19, 13), (0, 16, 23, 15), (0, 16, 27, 17), (0, 16, 31, 19)] ∈ WS := wm (i := 472) (by decide +kernel) (by decide +kernel)
theorem wd_473 : Cond.methodLink RL 21 yX6_addTap ∈ WS := wm (i := 473) (by decide +kernel) (by decide +kernel)
theorem wd_474 : Cond.instanceMethod yX6_addTap ∈ WS := wm (i := 474) (by decide +kernel) (by decide +kernel)
theorem wd_475 : Cond.selects RX6 yX6_addTap yX6_addTap ∈ WS := wm (i := 475) (by decide +kernel) (by decide +kernel)
theorem wd_476 : Cond.code yX6_addTap cX6_addTap 7 (some .int) ∈ WS := wm (i := 476) (by decide +kernel) (by decide +kernel)
theorem wd_478 : Cond.instantiable RX4 6 ∈ WS := wm (i := 478) (by decide +kernel) (by decide +kernel)
theorem wd_479 : Cond.methodLink RX6 80 yX4_init ∈ WS := wm (i := 479) (by decide +kernel) (by decide +kernel)
theorem wd_480 : Cond.instanceMethod yX4_init ∈ WS := wm (i := 480) (by decide +kernel) (by decide +kernel)
theorem wd_481 : Cond.code yX4_init cX4_init 4 none ∈ WS := wm (i := 481) (by decide +kernel) (by decide +kernel)
theorem wd_482 : Cond.methodLink RX4 3 objectInit ∈ WS := wm (i := 482) (by decide +kernel) (by decide +kernel)
theorem wd_483 : Cond.fieldLink RX4 9 "SapNetwork$Tap" "rate" "I" ∈ WS := wm (i := 483) (by decide +kernel) (by decide +kernel)
theorem wd_484 : Cond.fieldLink RX4 15 "SapNetwork$Tap" "sweetness" "I" ∈ WS := wm (i := 484) (by decide +kernel) (by decide +kernel)
theorem wd_486 : Cond.fieldLink RX4 18 "SapNetwork$Tap" "shade" "I" ∈ WS := wm (i := 486) (by decide +kernel) (by decide +kernel)
theorem wd_487 : Cond.fieldLink RX4 21 "SapNetwork$Tap" "given" "[I" ∈ WS := wm (i := 487) (by decide +kernel) (by decide +kernel)
theorem wd_489 : Cond.fieldLink RX4 25 "SapNetwork$Tap" "charge" "I" ∈ WS := wm (i := 489) (by decide +kernel) (by decide +kernel)
theorem wd_491 : Cond.fieldLink RX4 34 "SapNetwork$Tap" "givenInAll" "I" ∈ WS := wm (i := 491) (by decide +kernel) (by decide +kernel)
theorem wd_506 : Cond.methodLink RL 129 yL_setPump ∈ WS := wm (i := 506) (by decide +kernel) (by decide +kernel)
theorem wd_507 : Cond.static yL_setPump ∈ WS := wm (i := 507) (by decide +kernel) (by decide +kernel)
theorem wd_508 : Cond.codeWith yL_setPump cL_setPump 4 (some .int) [(0, 9, 12, 15)] ∈ WS := wm (i := 508) (by decide +kernel) (by decide +kernel)
theorem wd_509 : Cond.methodLink RL 25 yX6_setPump ∈ WS := wm (i := 509) (by decide +kernel) (by decide +kernel)
theorem wd_510 : Cond.instanceMethod yX6_setPump ∈ WS := wm (i := 510) (by decide +kernel) (by decide +kernel)
theorem wd_511 : Cond.selects RX6 yX6_setPump yX6_setPump ∈ WS := wm (i := 511) (by decide +kernel) (by decide +kernel)
theorem wd_512 : Cond.code yX6_setPump cX6_setPump 2 (some .int) ∈ WS := wm (i := 512) (by decide +kernel) (by decide +kernel)
theorem wd_514 : Cond.methodLink RX6 85 yX5_replaceSetting ∈ WS := wm (i := 514) (by decide +kernel) (by decide +kernel)
theorem wd_515 : Cond.instanceMethod yX5_replaceSetting ∈ WS := wm (i := 515) (by decide +kernel) (by decide +kernel)
theorem wd_516 : Cond.selects RX5 yX5_replaceSetting yX5_replaceSetting ∈ WS := wm (i := 516) (by decide +kernel) (by decide +kernel)
theorem wd_517 : Cond.code yX5_replaceSetting cX5_replaceSetting 3 (some .int) ∈ WS := wm (i := 517) (by decide +kernel) (by decide +kernel)
theorem wd_518 : Cond.methodLink RL 133 yL_addLeak ∈ WS := wm (i := 518) (by decide +kernel) (by decide +kernel)
theorem wd_519 : Cond.static yL_addLeak ∈ WS := wm (i := 519) (by decide +kernel) (by decide +kernel)
theorem wd_520 : Cond.codeWith yL_addLeak cL_addLeak 5 (some .int) [(0, 10, 13, 13), (0, 10, 17, 15)] ∈ WS := wm (i := 520) (by decide +kernel) (by decide +kernel)
theorem wd_521 : Cond.methodLink RL 29 yX6_addLeak ∈ WS := wm (i := 521) (by decide +kernel) (by decide +kernel)
theorem wd_522 : Cond.instanceMethod yX6_addLeak ∈ WS := wm (i := 522) (by decide +kernel) (by decide +kernel)
theorem wd_523 : Cond.selects RX6 yX6_addLeak yX6_addLeak ∈ WS := wm (i := 523) (by decide +kernel) (by decide +kernel)
theorem wd_524 : Cond.code yX6_addLeak cX6_addLeak 3 (some .int) ∈ WS := wm (i := 524) (by decide +kernel) (by decide +kernel)
theorem wd_526 : Cond.methodLink RX6 91 yX5_replaceLeak ∈ WS := wm (i := 526) (by decide +kernel) (by decide +kernel)
theorem wd_527 : Cond.instanceMethod yX5_replaceLeak ∈ WS := wm (i := 527) (by decide +kernel) (by decide +kernel)
theorem wd_528 : Cond.selects RX5 yX5_replaceLeak yX5_replaceLeak ∈ WS := wm (i := 528) (by decide +kernel) (by decide +kernel)
theorem wd_529 : Cond.code yX5_replaceLeak cX5_replaceLeak 4 (some .int) ∈ WS := wm (i := 529) (by decide +kernel) (by decide +kernel)
theorem wd_530 : Cond.methodLink RL 136 yL_repair ∈ WS := wm (i := 530) (by decide +kernel) (by decide +kernel)
theorem wd_531 : Cond.static yL_repair ∈ WS := wm (i := 531) (by decide +kernel) (by decide +kernel)
theorem wd_532 : Cond.codeWith yL_repair cL_repair 4 (some .int) [(0, 9, 12, 13), (0, 9, 15, 35)] ∈ WS := wm (i := 532) (by decide +kernel) (by decide +kernel)
theorem wd_533 : Cond.classLink RL 35 "java/util/NoSuchElementException" ∈ WS := wm (i := 533) (by decide +kernel) (by decide +kernel)
theorem wd_534 : Cond.methodLink RL 32 yX6_repair ∈ WS := wm (i := 534) (by decide +kernel) (by decide +kernel)
theorem wd_535 : Cond.instanceMethod yX6_repair ∈ WS := wm (i := 535) (by decide +kernel) (by decide +kernel)
theorem wd_536 : Cond.selects RX6 yX6_repair yX6_repair ∈ WS := wm (i := 536) (by decide +kernel) (by decide +kernel)
theorem wd_537 : Cond.code yX6_repair cX6_repair 2 (some .int) ∈ WS := wm (i := 537) (by decide +kernel) (by decide +kernel)
theorem wd_538 : Cond.methodLink RX6 94 yX5_isLeaking ∈ WS := wm (i := 538) (by decide +kernel) (by decide +kernel)
theorem wd_539 : Cond.instanceMethod yX5_isLeaking ∈ WS := wm (i := 539) (by decide +kernel) (by decide +kernel)
theorem wd_540 : Cond.selects RX5 yX5_isLeaking yX5_isLeaking ∈ WS := wm (i := 540) (by decide +kernel) (by decide +kernel)
theorem wd_541 : Cond.code yX5_isLeaking cX5_isLeaking 2 (some .boolean) ∈ WS := wm (i := 541) (by decide +kernel) (by decide +kernel)
theorem wd_542 : Cond.classLink RX6 98 "java/util/NoSuchElementException" ∈ WS := wm (i := 542) (by decide +kernel) (by decide +kernel)
theorem wd_543 : Cond.instantiable "java/util/NoSuchElementException" 6 ∈ WS := wm (i := 543) (by decide +kernel) (by decide +kernel)
theorem wd_545 : Cond.selects "java/util/NoSuchElementException" ⟨"java/lang/Throwable", "fillInStackTrace", "(I)Ljava/lang/Throwable;"⟩ ⟨"java/lang/Throwable", "fillInStackTrace", "(I)Ljava/lang/Throwable;"⟩ ∈ WS := wm (i := 545) (by decide +kernel) (by decide +kernel)
theorem wd_552 : Cond.methodLink RX6 102 ⟨"java/util/NoSuchElementException", "<init>", "(Ljava/lang/String;)V"⟩ ∈ WS := wm (i := 552) (by decide +kernel) (by decide +kernel)
theorem wd_553 : Cond.instanceMethod ⟨"java/util/NoSuchElementException", "<init>", "(Ljava/lang/String;)V"⟩ ∈ WS := wm (i := 553) (by decide +kernel) (by decide +kernel)
theorem wd_554 : Cond.code ⟨"java/util/NoSuchElementException", "<init>", "(Ljava/lang/String;)V"⟩ prog_22_method_4_code 2 none ∈ WS := wm (i := 554) (by decide +kernel) (by decide +kernel)
theorem wd_555 : Cond.methodLink "java/util/NoSuchElementException" 13 ⟨"java/lang/RuntimeException", "<init>", "(Ljava/lang/String;)V"⟩ ∈ WS := wm (i := 555) (by decide +kernel) (by decide +kernel)
theorem wd_558 : Cond.methodLink RL 143 yL_vacuum ∈ WS := wm (i := 558) (by decide +kernel) (by decide +kernel)
theorem wd_559 : Cond.static yL_vacuum ∈ WS := wm (i := 559) (by decide +kernel) (by decide +kernel)
theorem wd_560 : Cond.codeWith yL_vacuum cL_vacuum 4 (some .int) [(0, 9, 12, 13)] ∈ WS := wm (i := 560) (by decide +kernel) (by decide +kernel)
theorem wd_561 : Cond.methodLink RL 37 yX6_vacuum ∈ WS := wm (i := 561) (by decide +kernel) (by decide +kernel)
theorem wd_562 : Cond.instanceMethod yX6_vacuum ∈ WS := wm (i := 562) (by decide +kernel) (by decide +kernel)
theorem wd_563 : Cond.selects RX6 yX6_vacuum yX6_vacuum ∈ WS := wm (i := 563) (by decide +kernel) (by decide +kernel)
theorem wd_564 : Cond.code yX6_vacuum cX6_vacuum 2 (some .int) ∈ WS := wm (i := 564) (by decide +kernel) (by decide +kernel)
theorem wd_566 : Cond.static yX5_climb ∈ WS := wm (i := 566) (by decide +kernel) (by decide +kernel)
theorem wd_567 : Cond.code yX5_climb cX5_climb 4 (some .int) ∈ WS := wm (i := 567) (by decide +kernel) (by decide +kernel)
theorem wd_568 : Cond.methodLink RX5 40 yX5_pumpVacuum ∈ WS := wm (i := 568) (by decide +kernel) (by decide +kernel)
theorem wd_569 : Cond.instanceMethod yX5_pumpVacuum ∈ WS := wm (i := 569) (by decide +kernel) (by decide +kernel)
theorem wd_570 : Cond.selects RX5 yX5_pumpVacuum yX5_pumpVacuum ∈ WS := wm (i := 570) (by decide +kernel) (by decide +kernel)
theorem wd_571 : Cond.code yX5_pumpVacuum cX5_pumpVacuum 3 (some .int) ∈ WS := wm (i := 571) (by decide +kernel) (by decide +kernel)
theorem wd_572 : Cond.methodLink RX5 34 Lib.Math.max.name ∈ WS := wm (i := 572) (by decide +kernel) (by decide +kernel)
theorem wd_573 : Cond.static Lib.Math.max.name ∈ WS := wm (i := 573) (by decide +kernel) (by decide +kernel)
theorem wd_574 : Cond.code Lib.Math.max.name Lib.Math.max.code 2 (some .int) ∈ WS := wm (i := 574) (by decide +kernel) (by decide +kernel)
theorem wd_575 : Cond.methodLink RX5 44 yX5_climb ∈ WS := wm (i := 575) (by decide +kernel) (by decide +kernel)
theorem wd_576 : Cond.methodLink RL 146 yL_vacuumBySweep ∈ WS := wm (i := 576) (by decide +kernel) (by decide +kernel)
theorem wd_577 : Cond.static yL_vacuumBySweep ∈ WS := wm (i := 577) (by decide +kernel) (by decide +kernel)
theorem wd_578 : Cond.codeWith yL_vacuumBySweep cL_vacuumBySweep 4 (some .int) [(0, 9, 12, 13)] ∈ WS := wm (i := 578) (by decide +kernel) (by decide +kernel)
theorem wd_579 : Cond.methodLink RL 40 yX6_vacuumBySweep ∈ WS := wm (i := 579) (by decide +kernel) (by decide +kernel)
theorem wd_580 : Cond.instanceMethod yX6_vacuumBySweep ∈ WS := wm (i := 580) (by decide +kernel) (by decide +kernel)
theorem wd_581 : Cond.selects RX6 yX6_vacuumBySweep yX6_vacuumBySweep ∈ WS := wm (i := 581) (by decide +kernel) (by decide +kernel)
theorem wd_582 : Cond.code yX6_vacuumBySweep cX6_vacuumBySweep 2 (some .int) ∈ WS := wm (i := 582) (by decide +kernel) (by decide +kernel)
theorem wd_583 : Cond.methodLink RX6 111 yX5_sweep ∈ WS := wm (i := 583) (by decide +kernel) (by decide +kernel)
theorem wd_584 : Cond.instanceMethod yX5_sweep ∈ WS := wm (i := 584) (by decide +kernel) (by decide +kernel)
theorem wd_585 : Cond.selects RX5 yX5_sweep yX5_sweep ∈ WS := wm (i := 585) (by decide +kernel) (by decide +kernel)
theorem wd_586 : Cond.code yX5_sweep cX5_sweep 3 none ∈ WS := wm (i := 586) (by decide +kernel) (by decide +kernel)
theorem wd_587 : Cond.methodLink RL 149 yL_expectedVacuum ∈ WS := wm (i := 587) (by decide +kernel) (by decide +kernel)
theorem wd_588 : Cond.static yL_expectedVacuum ∈ WS := wm (i := 588) (by decide +kernel) (by decide +kernel)
theorem wd_589 : Cond.codeWith yL_expectedVacuum cL_expectedVacuum 4 (some .int) [(0, 9, 12, 13)] ∈ WS := wm (i := 589) (by decide +kernel) (by decide +kernel)
theorem wd_590 : Cond.methodLink RL 43 yX6_expectedVacuum ∈ WS := wm (i := 590) (by decide +kernel) (by decide +kernel)
theorem wd_591 : Cond.instanceMethod yX6_expectedVacuum ∈ WS := wm (i := 591) (by decide +kernel) (by decide +kernel)
theorem wd_592 : Cond.selects RX6 yX6_expectedVacuum yX6_expectedVacuum ∈ WS := wm (i := 592) (by decide +kernel) (by decide +kernel)
theorem wd_593 : Cond.code yX6_expectedVacuum cX6_expectedVacuum 2 (some .int) ∈ WS := wm (i := 593) (by decide +kernel) (by decide +kernel)
theorem wd_594 : Cond.methodLink RL 152 yL_suspect ∈ WS := wm (i := 594) (by decide +kernel) (by decide +kernel)
theorem wd_595 : Cond.static yL_suspect ∈ WS := wm (i := 595) (by decide +kernel) (by decide +kernel)
theorem wd_596 : Cond.codeWith yL_suspect cL_suspect 4 (some .int) [(0, 9, 12, 35)] ∈ WS := wm (i := 596) (by decide +kernel) (by decide +kernel)
theorem wd_597 : Cond.methodLink RL 46 yX6_suspect ∈ WS := wm (i := 597) (by decide +kernel) (by decide +kernel)
theorem wd_598 : Cond.instanceMethod yX6_suspect ∈ WS := wm (i := 598) (by decide +kernel) (by decide +kernel)
theorem wd_599 : Cond.selects RX6 yX6_suspect yX6_suspect ∈ WS := wm (i := 599) (by decide +kernel) (by decide +kernel)
theorem wd_600 : Cond.code yX6_suspect cX6_suspect 4 (some .int) ∈ WS := wm (i := 600) (by decide +kernel) (by decide +kernel)
theorem wd_601 : Cond.methodLink RX6 120 yX5_ownLossAt ∈ WS := wm (i := 601) (by decide +kernel) (by decide +kernel)
theorem wd_602 : Cond.instanceMethod yX5_ownLossAt ∈ WS := wm (i := 602) (by decide +kernel) (by decide +kernel)
theorem wd_603 : Cond.selects RX5 yX5_ownLossAt yX5_ownLossAt ∈ WS := wm (i := 603) (by decide +kernel) (by decide +kernel)
theorem wd_604 : Cond.code yX5_ownLossAt cX5_ownLossAt 2 (some .int) ∈ WS := wm (i := 604) (by decide +kernel) (by decide +kernel)
theorem wd_605 : Cond.methodLink RX5 48 yX5_lossAt ∈ WS := wm (i := 605) (by decide +kernel) (by decide +kernel)
theorem wd_607 : Cond.instanceMethod yX5_lossAt ∈ WS := wm (i := 607) (by decide +kernel) (by decide +kernel)
theorem wd_608 : Cond.code yX5_lossAt cX5_lossAt 2 (some .int) ∈ WS := wm (i := 608) (by decide +kernel) (by decide +kernel)
theorem wd_609 : Cond.methodLink RX6 123 yX6_requireRanked ∈ WS := wm (i := 609) (by decide +kernel) (by decide +kernel)
theorem wd_611 : Cond.instanceMethod yX6_requireRanked ∈ WS := wm (i := 611) (by decide +kernel) (by decide +kernel)
theorem wd_612 : Cond.code yX6_requireRanked cX6_requireRanked 3 (some .int) ∈ WS := wm (i := 612) (by decide +kernel) (by decide +kernel)
theorem wd_613 : Cond.methodLink RX6 325 yX6_nodeAt ∈ WS := wm (i := 613) (by decide +kernel) (by decide +kernel)
theorem wd_615 : Cond.instanceMethod yX6_nodeAt ∈ WS := wm (i := 615) (by decide +kernel) (by decide +kernel)
theorem wd_616 : Cond.code yX6_nodeAt cX6_nodeAt 3 (some .int) ∈ WS := wm (i := 616) (by decide +kernel) (by decide +kernel)
theorem wd_617 : Cond.methodLink RX6 330 yX6_nodesAhead ∈ WS := wm (i := 617) (by decide +kernel) (by decide +kernel)
theorem wd_619 : Cond.instanceMethod yX6_nodesAhead ∈ WS := wm (i := 619) (by decide +kernel) (by decide +kernel)
theorem wd_620 : Cond.code yX6_nodesAhead cX6_nodesAhead 5 (some .int) ∈ WS := wm (i := 620) (by decide +kernel) (by decide +kernel)
theorem wd_622 : Cond.methodLink RL 155 yL_depth ∈ WS := wm (i := 622) (by decide +kernel) (by decide +kernel)
theorem wd_623 : Cond.static yL_depth ∈ WS := wm (i := 623) (by decide +kernel) (by decide +kernel)
theorem wd_624 : Cond.codeWith yL_depth cL_depth 4 (some .int) [(0, 9, 12, 13)] ∈ WS := wm (i := 624) (by decide +kernel) (by decide +kernel)
theorem wd_625 : Cond.methodLink RL 49 yX6_depth ∈ WS := wm (i := 625) (by decide +kernel) (by decide +kernel)
theorem wd_626 : Cond.instanceMethod yX6_depth ∈ WS := wm (i := 626) (by decide +kernel) (by decide +kernel)
theorem wd_627 : Cond.selects RX6 yX6_depth yX6_depth ∈ WS := wm (i := 627) (by decide +kernel) (by decide +kernel)
theorem wd_628 : Cond.code yX6_depth cX6_depth 2 (some .int) ∈ WS := wm (i := 628) (by decide +kernel) (by decide +kernel)
theorem wd_629 : Cond.methodLink RX6 126 yX5_tubesAbove ∈ WS := wm (i := 629) (by decide +kernel) (by decide +kernel)
theorem wd_630 : Cond.instanceMethod yX5_tubesAbove ∈ WS := wm (i := 630) (by decide +kernel) (by decide +kernel)
theorem wd_631 : Cond.selects RX5 yX5_tubesAbove yX5_tubesAbove ∈ WS := wm (i := 631) (by decide +kernel) (by decide +kernel)
theorem wd_632 : Cond.code yX5_tubesAbove cX5_tubesAbove 4 (some .int) ∈ WS := wm (i := 632) (by decide +kernel) (by decide +kernel)
theorem wd_633 : Cond.methodLink RL 158 yL_pass ∈ WS := wm (i := 633) (by decide +kernel) (by decide +kernel)
theorem wd_634 : Cond.static yL_pass ∈ WS := wm (i := 634) (by decide +kernel) (by decide +kernel)
theorem wd_635 : Cond.codeWith yL_pass cL_pass 4 (some .int) [(0, 9, 12, 15), (0, 9, 15, 19)] ∈ WS := wm (i := 635) (by decide +kernel) (by decide +kernel)
theorem wd_636 : Cond.methodLink RL 52 yX6_pass ∈ WS := wm (i := 636) (by decide +kernel) (by decide +kernel)
theorem wd_637 : Cond.instanceMethod yX6_pass ∈ WS := wm (i := 637) (by decide +kernel) (by decide +kernel)
theorem wd_638 : Cond.selects RX6 yX6_pass yX6_pass ∈ WS := wm (i := 638) (by decide +kernel) (by decide +kernel)
theorem wd_639 : Cond.code yX6_pass cX6_pass 3 (some .int) ∈ WS := wm (i := 639) (by decide +kernel) (by decide +kernel)
theorem wd_642 : Cond.methodLink RX6 140 yX6_runTaps ∈ WS := wm (i := 642) (by decide +kernel) (by decide +kernel)
theorem wd_644 : Cond.instanceMethod yX6_runTaps ∈ WS := wm (i := 644) (by decide +kernel) (by decide +kernel)
theorem wd_645 : Cond.code yX6_runTaps cX6_runTaps 7 (some .int) ∈ WS := wm (i := 645) (by decide +kernel) (by decide +kernel)
theorem wd_646 : Cond.methodLink RX6 333 yX4_run ∈ WS := wm (i := 646) (by decide +kernel) (by decide +kernel)
theorem wd_647 : Cond.instanceMethod yX4_run ∈ WS := wm (i := 647) (by decide +kernel) (by decide +kernel)
theorem wd_648 : Cond.selects RX4 yX4_run yX4_run ∈ WS := wm (i := 648) (by decide +kernel) (by decide +kernel)
theorem wd_649 : Cond.code yX4_run cX4_run 5 (some .int) ∈ WS := wm (i := 649) (by decide +kernel) (by decide +kernel)
theorem wd_650 : Cond.methodLink RX4 28 Lib.Math.min.name ∈ WS := wm (i := 650) (by decide +kernel) (by decide +kernel)
theorem wd_651 : Cond.static Lib.Math.min.name ∈ WS := wm (i := 651) (by decide +kernel) (by decide +kernel)
theorem wd_652 : Cond.code Lib.Math.min.name Lib.Math.min.code 2 (some .int) ∈ WS := wm (i := 652) (by decide +kernel) (by decide +kernel)
theorem wd_653 : Cond.methodLink RX6 339 yX0_addSap ∈ WS := wm (i := 653) (by decide +kernel) (by decide +kernel)
theorem wd_654 : Cond.instanceMethod yX0_addSap ∈ WS := wm (i := 654) (by decide +kernel) (by decide +kernel)
theorem wd_655 : Cond.selects RX0 yX0_addSap yX0_addSap ∈ WS := wm (i := 655) (by decide +kernel) (by decide +kernel)
theorem wd_656 : Cond.code yX0_addSap cX0_addSap 3 none ∈ WS := wm (i := 656) (by decide +kernel) (by decide +kernel)
theorem wd_657 : Cond.methodLink RX6 342 yX6_pour ∈ WS := wm (i := 657) (by decide +kernel) (by decide +kernel)
theorem wd_659 : Cond.instanceMethod yX6_pour ∈ WS := wm (i := 659) (by decide +kernel) (by decide +kernel)
theorem wd_660 : Cond.code yX6_pour cX6_pour 9 none ∈ WS := wm (i := 660) (by decide +kernel) (by decide +kernel)
theorem wd_661 : Cond.methodLink RX6 345 yX3_room ∈ WS := wm (i := 661) (by decide +kernel) (by decide +kernel)
theorem wd_662 : Cond.instanceMethod yX3_room ∈ WS := wm (i := 662) (by decide +kernel) (by decide +kernel)
theorem wd_663 : Cond.selects RX3 yX3_room yX3_room ∈ WS := wm (i := 663) (by decide +kernel) (by decide +kernel)
theorem wd_664 : Cond.code yX3_room cX3_room 1 (some .int) ∈ WS := wm (i := 664) (by decide +kernel) (by decide +kernel)
theorem wd_665 : Cond.methodLink RX6 348 Lib.Math.min.name ∈ WS := wm (i := 665) (by decide +kernel) (by decide +kernel)
theorem wd_666 : Cond.methodLink RX6 203 yX6_shareOfSugar ∈ WS := wm (i := 666) (by decide +kernel) (by decide +kernel)
theorem wd_667 : Cond.static yX6_shareOfSugar ∈ WS := wm (i := 667) (by decide +kernel) (by decide +kernel)
theorem wd_668 : Cond.code yX6_shareOfSugar cX6_shareOfSugar 3 (some .int) ∈ WS := wm (i := 668) (by decide +kernel) (by decide +kernel)
theorem wd_669 : Cond.methodLink RX6 353 yX3_putIn ∈ WS := wm (i := 669) (by decide +kernel) (by decide +kernel)
theorem wd_670 : Cond.instanceMethod yX3_putIn ∈ WS := wm (i := 670) (by decide +kernel) (by decide +kernel)
theorem wd_671 : Cond.selects RX3 yX3_putIn yX3_putIn ∈ WS := wm (i := 671) (by decide +kernel) (by decide +kernel)
theorem wd_672 : Cond.code yX3_putIn cX3_putIn 3 none ∈ WS := wm (i := 672) (by decide +kernel) (by decide +kernel)
theorem wd_673 : Cond.methodLink RX6 146 yX1_boil ∈ WS := wm (i := 673) (by decide +kernel) (by decide +kernel)
theorem wd_674 : Cond.instanceMethod yX1_boil ∈ WS := wm (i := 674) (by decide +kernel) (by decide +kernel)
theorem wd_675 : Cond.selects RX1 yX1_boil yX1_boil ∈ WS := wm (i := 675) (by decide +kernel) (by decide +kernel)
theorem wd_676 : Cond.code yX1_boil cX1_boil 4 (some .int) ∈ WS := wm (i := 676) (by decide +kernel) (by decide +kernel)
theorem wd_677 : Cond.methodLink RX1 22 Lib.Math.max.name ∈ WS := wm (i := 677) (by decide +kernel) (by decide +kernel)
theorem wd_678 : Cond.methodLink RX6 149 yX0_addSteam ∈ WS := wm (i := 678) (by decide +kernel) (by decide +kernel)
theorem wd_679 : Cond.instanceMethod yX0_addSteam ∈ WS := wm (i := 679) (by decide +kernel) (by decide +kernel)
theorem wd_680 : Cond.selects RX0 yX0_addSteam yX0_addSteam ∈ WS := wm (i := 680) (by decide +kernel) (by decide +kernel)
theorem wd_681 : Cond.code yX0_addSteam cX0_addSteam 2 none ∈ WS := wm (i := 681) (by decide +kernel) (by decide +kernel)
theorem wd_682 : Cond.methodLink RL 165 yL_charge ∈ WS := wm (i := 682) (by decide +kernel) (by decide +kernel)
theorem wd_683 : Cond.static yL_charge ∈ WS := wm (i := 683) (by decide +kernel) (by decide +kernel)
theorem wd_684 : Cond.codeWith yL_charge cL_charge 4 (some .int) [(0, 9, 12, 13), (0, 9, 15, 17)] ∈ WS := wm (i := 684) (by decide +kernel) (by decide +kernel)
theorem wd_685 : Cond.methodLink RL 55 yX6_charge ∈ WS := wm (i := 685) (by decide +kernel) (by decide +kernel)
theorem wd_686 : Cond.instanceMethod yX6_charge ∈ WS := wm (i := 686) (by decide +kernel) (by decide +kernel)
theorem wd_687 : Cond.selects RX6 yX6_charge yX6_charge ∈ WS := wm (i := 687) (by decide +kernel) (by decide +kernel)
theorem wd_688 : Cond.code yX6_charge cX6_charge 2 (some .int) ∈ WS := wm (i := 688) (by decide +kernel) (by decide +kernel)
theorem wd_689 : Cond.methodLink RX6 152 yX6_requireTap ∈ WS := wm (i := 689) (by decide +kernel) (by decide +kernel)
theorem wd_691 : Cond.instanceMethod yX6_requireTap ∈ WS := wm (i := 691) (by decide +kernel) (by decide +kernel)
theorem wd_692 : Cond.code yX6_requireTap cX6_requireTap 3 (some (.object "SapNetwork$Tap")) ∈ WS := wm (i := 692) (by decide +kernel) (by decide +kernel)
theorem wd_694 : Cond.methodLink RL 168 yL_sapOf ∈ WS := wm (i := 694) (by decide +kernel) (by decide +kernel)
theorem wd_695 : Cond.static yL_sapOf ∈ WS := wm (i := 695) (by decide +kernel) (by decide +kernel)
theorem wd_696 : Cond.codeWith yL_sapOf cL_sapOf 5 (some .int) [(0, 10, 13, 13), (0, 10, 17, 17), (0, 10, 21, 35)] ∈ WS := wm (i := 696) (by decide +kernel) (by decide +kernel)
theorem wd_697 : Cond.methodLink RL 58 yX6_sapOf ∈ WS := wm (i := 697) (by decide +kernel) (by decide +kernel)
theorem wd_698 : Cond.instanceMethod yX6_sapOf ∈ WS := wm (i := 698) (by decide +kernel) (by decide +kernel)
theorem wd_699 : Cond.selects RX6 yX6_sapOf yX6_sapOf ∈ WS := wm (i := 699) (by decide +kernel) (by decide +kernel)
theorem wd_700 : Cond.code yX6_sapOf cX6_sapOf 4 (some .int) ∈ WS := wm (i := 700) (by decide +kernel) (by decide +kernel)
theorem wd_702 : Cond.methodLink RL 171 yL_totalOf ∈ WS := wm (i := 702) (by decide +kernel) (by decide +kernel)
theorem wd_703 : Cond.static yL_totalOf ∈ WS := wm (i := 703) (by decide +kernel) (by decide +kernel)
theorem wd_704 : Cond.codeWith yL_totalOf cL_totalOf 4 (some .int) [(0, 9, 12, 13), (0, 9, 15, 17)] ∈ WS := wm (i := 704) (by decide +kernel) (by decide +kernel)
theorem wd_705 : Cond.methodLink RL 61 yX6_totalOf ∈ WS := wm (i := 705) (by decide +kernel) (by decide +kernel)
theorem wd_706 : Cond.instanceMethod yX6_totalOf ∈ WS := wm (i := 706) (by decide +kernel) (by decide +kernel)
theorem wd_707 : Cond.selects RX6 yX6_totalOf yX6_totalOf ∈ WS := wm (i := 707) (by decide +kernel) (by decide +kernel)
theorem wd_708 : Cond.code yX6_totalOf cX6_totalOf 2 (some .int) ∈ WS := wm (i := 708) (by decide +kernel) (by decide +kernel)
theorem wd_709 : Cond.methodLink RL 174 yL_tapByYield ∈ WS := wm (i := 709) (by decide +kernel) (by decide +kernel)
theorem wd_710 : Cond.static yL_tapByYield ∈ WS := wm (i := 710) (by decide +kernel) (by decide +kernel)
theorem wd_711 : Cond.codeWith yL_tapByYield cL_tapByYield 4 (some .int) [(0, 9, 12, 35)] ∈ WS := wm (i := 711) (by decide +kernel) (by decide +kernel)
theorem wd_712 : Cond.methodLink RL 64 yX6_tapByYield ∈ WS := wm (i := 712) (by decide +kernel) (by decide +kernel)
theorem wd_713 : Cond.instanceMethod yX6_tapByYield ∈ WS := wm (i := 713) (by decide +kernel) (by decide +kernel)
theorem wd_714 : Cond.selects RX6 yX6_tapByYield yX6_tapByYield ∈ WS := wm (i := 714) (by decide +kernel) (by decide +kernel)
theorem wd_715 : Cond.code yX6_tapByYield cX6_tapByYield 4 (some .int) ∈ WS := wm (i := 715) (by decide +kernel) (by decide +kernel)
theorem wd_716 : Cond.methodLink RL 177 yL_addTank ∈ WS := wm (i := 716) (by decide +kernel) (by decide +kernel)
theorem wd_717 : Cond.static yL_addTank ∈ WS := wm (i := 717) (by decide +kernel) (by decide +kernel)
theorem wd_718 : Cond.codeWith yL_addTank cL_addTank 4 (some .int) [(0, 9, 12, 15), (0, 9, 15, 19)] ∈ WS := wm (i := 718) (by decide +kernel) (by decide +kernel)
theorem wd_719 : Cond.methodLink RL 67 yX6_addTank ∈ WS := wm (i := 719) (by decide +kernel) (by decide +kernel)
theorem wd_720 : Cond.instanceMethod yX6_addTank ∈ WS := wm (i := 720) (by decide +kernel) (by decide +kernel)
theorem wd_721 : Cond.selects RX6 yX6_addTank yX6_addTank ∈ WS := wm (i := 721) (by decide +kernel) (by decide +kernel)
theorem wd_722 : Cond.code yX6_addTank cX6_addTank 3 (some .int) ∈ WS := wm (i := 722) (by decide +kernel) (by decide +kernel)
theorem wd_725 : Cond.instantiable RX3 3 ∈ WS := wm (i := 725) (by decide +kernel) (by decide +kernel)
theorem wd_726 : Cond.methodLink RX6 174 yX3_init ∈ WS := wm (i := 726) (by decide +kernel) (by decide +kernel)
theorem wd_727 : Cond.instanceMethod yX3_init ∈ WS := wm (i := 727) (by decide +kernel) (by decide +kernel)
theorem wd_728 : Cond.code yX3_init cX3_init 2 none ∈ WS := wm (i := 728) (by decide +kernel) (by decide +kernel)
theorem wd_729 : Cond.methodLink RX3 1 objectInit ∈ WS := wm (i := 729) (by decide +kernel) (by decide +kernel)
theorem wd_730 : Cond.fieldLink RX3 7 "SapNetwork$Tank" "capacity" "I" ∈ WS := wm (i := 730) (by decide +kernel) (by decide +kernel)
theorem wd_731 : Cond.fieldLink RX3 13 "SapNetwork$Tank" "volume" "I" ∈ WS := wm (i := 731) (by decide +kernel) (by decide +kernel)
theorem wd_733 : Cond.fieldLink RX3 16 "SapNetwork$Tank" "sugar" "I" ∈ WS := wm (i := 733) (by decide +kernel) (by decide +kernel)
theorem wd_742 : Cond.methodLink RL 180 yL_drain ∈ WS := wm (i := 742) (by decide +kernel) (by decide +kernel)
theorem wd_743 : Cond.static yL_drain ∈ WS := wm (i := 743) (by decide +kernel) (by decide +kernel)
theorem wd_744 : Cond.codeWith yL_drain cL_drain 4 (some .int) [(0, 9, 12, 13)] ∈ WS := wm (i := 744) (by decide +kernel) (by decide +kernel)
theorem wd_745 : Cond.methodLink RL 70 yX6_drain ∈ WS := wm (i := 745) (by decide +kernel) (by decide +kernel)
theorem wd_746 : Cond.instanceMethod yX6_drain ∈ WS := wm (i := 746) (by decide +kernel) (by decide +kernel)
theorem wd_747 : Cond.selects RX6 yX6_drain yX6_drain ∈ WS := wm (i := 747) (by decide +kernel) (by decide +kernel)
theorem wd_748 : Cond.code yX6_drain cX6_drain 5 (some .int) ∈ WS := wm (i := 748) (by decide +kernel) (by decide +kernel)
theorem wd_749 : Cond.methodLink RX6 176 yX6_requireTank ∈ WS := wm (i := 749) (by decide +kernel) (by decide +kernel)
theorem wd_751 : Cond.instanceMethod yX6_requireTank ∈ WS := wm (i := 751) (by decide +kernel) (by decide +kernel)
theorem wd_752 : Cond.code yX6_requireTank cX6_requireTank 3 (some (.object "SapNetwork$Tank")) ∈ WS := wm (i := 752) (by decide +kernel) (by decide +kernel)
theorem wd_754 : Cond.methodLink RX6 186 yX3_takeOut ∈ WS := wm (i := 754) (by decide +kernel) (by decide +kernel)
theorem wd_755 : Cond.instanceMethod yX3_takeOut ∈ WS := wm (i := 755) (by decide +kernel) (by decide +kernel)
theorem wd_756 : Cond.selects RX3 yX3_takeOut yX3_takeOut ∈ WS := wm (i := 756) (by decide +kernel) (by decide +kernel)
theorem wd_757 : Cond.code yX3_takeOut cX3_takeOut 3 none ∈ WS := wm (i := 757) (by decide +kernel) (by decide +kernel)
theorem wd_758 : Cond.methodLink RL 183 yL_tankVolume ∈ WS := wm (i := 758) (by decide +kernel) (by decide +kernel)
theorem wd_759 : Cond.static yL_tankVolume ∈ WS := wm (i := 759) (by decide +kernel) (by decide +kernel)
theorem wd_760 : Cond.codeWith yL_tankVolume cL_tankVolume 4 (some .int) [(0, 9, 12, 13)] ∈ WS := wm (i := 760) (by decide +kernel) (by decide +kernel)
theorem wd_761 : Cond.methodLink RL 73 yX6_tankVolume ∈ WS := wm (i := 761) (by decide +kernel) (by decide +kernel)
theorem wd_762 : Cond.instanceMethod yX6_tankVolume ∈ WS := wm (i := 762) (by decide +kernel) (by decide +kernel)
theorem wd_763 : Cond.selects RX6 yX6_tankVolume yX6_tankVolume ∈ WS := wm (i := 763) (by decide +kernel) (by decide +kernel)
theorem wd_764 : Cond.code yX6_tankVolume cX6_tankVolume 2 (some .int) ∈ WS := wm (i := 764) (by decide +kernel) (by decide +kernel)
theorem wd_765 : Cond.methodLink RL 186 yL_tankSugar ∈ WS := wm (i := 765) (by decide +kernel) (by decide +kernel)
theorem wd_766 : Cond.static yL_tankSugar ∈ WS := wm (i := 766) (by decide +kernel) (by decide +kernel)
theorem wd_767 : Cond.codeWith yL_tankSugar cL_tankSugar 4 (some .int) [(0, 9, 12, 13)] ∈ WS := wm (i := 767) (by decide +kernel) (by decide +kernel)
theorem wd_768 : Cond.methodLink RL 76 yX6_tankSugar ∈ WS := wm (i := 768) (by decide +kernel) (by decide +kernel)
theorem wd_769 : Cond.instanceMethod yX6_tankSugar ∈ WS := wm (i := 769) (by decide +kernel) (by decide +kernel)
theorem wd_770 : Cond.selects RX6 yX6_tankSugar yX6_tankSugar ∈ WS := wm (i := 770) (by decide +kernel) (by decide +kernel)
theorem wd_771 : Cond.code yX6_tankSugar cX6_tankSugar 2 (some .int) ∈ WS := wm (i := 771) (by decide +kernel) (by decide +kernel)
theorem wd_772 : Cond.methodLink RL 189 yL_load ∈ WS := wm (i := 772) (by decide +kernel) (by decide +kernel)
theorem wd_773 : Cond.static yL_load ∈ WS := wm (i := 773) (by decide +kernel) (by decide +kernel)
theorem wd_774 : Cond.codeWith yL_load cL_load 5 (some .int) [(0, 10, 13, 13), (0, 10, 17, 15), (0, 10, 21, 17), (0, 10, 25, 19)] ∈ WS := wm (i := 774) (by decide +kernel) (by decide +kernel)
theorem wd_775 : Cond.methodLink RL 79 yX6_load ∈ WS := wm (i := 775) (by decide +kernel) (by decide +kernel)
theorem wd_776 : Cond.instanceMethod yX6_load ∈ WS := wm (i := 776) (by decide +kernel) (by decide +kernel)
theorem wd_777 : Cond.selects RX6 yX6_load yX6_load ∈ WS := wm (i := 777) (by decide +kernel) (by decide +kernel)
theorem wd_778 : Cond.code yX6_load cX6_load 5 (some .int) ∈ WS := wm (i := 778) (by decide +kernel) (by decide +kernel)
theorem wd_782 : Cond.methodLink RX6 207 yX1_fill ∈ WS := wm (i := 782) (by decide +kernel) (by decide +kernel)
theorem wd_783 : Cond.instanceMethod yX1_fill ∈ WS := wm (i := 783) (by decide +kernel) (by decide +kernel)
theorem wd_784 : Cond.selects RX1 yX1_fill yX1_fill ∈ WS := wm (i := 784) (by decide +kernel) (by decide +kernel)
theorem wd_785 : Cond.code yX1_fill cX1_fill 3 none ∈ WS := wm (i := 785) (by decide +kernel) (by decide +kernel)
theorem wd_786 : Cond.methodLink RL 192 yL_setFire ∈ WS := wm (i := 786) (by decide +kernel) (by decide +kernel)
theorem wd_787 : Cond.static yL_setFire ∈ WS := wm (i := 787) (by decide +kernel) (by decide +kernel)
theorem wd_788 : Cond.codeWith yL_setFire cL_setFire 4 (some .int) [(0, 9, 12, 15)] ∈ WS := wm (i := 788) (by decide +kernel) (by decide +kernel)
theorem wd_789 : Cond.methodLink RL 82 yX6_setFire ∈ WS := wm (i := 789) (by decide +kernel) (by decide +kernel)
theorem wd_790 : Cond.instanceMethod yX6_setFire ∈ WS := wm (i := 790) (by decide +kernel) (by decide +kernel)
theorem wd_791 : Cond.selects RX6 yX6_setFire yX6_setFire ∈ WS := wm (i := 791) (by decide +kernel) (by decide +kernel)
theorem wd_792 : Cond.code yX6_setFire cX6_setFire 3 (some .int) ∈ WS := wm (i := 792) (by decide +kernel) (by decide +kernel)
theorem wd_794 : Cond.methodLink RL 208 yL_hoursToReady ∈ WS := wm (i := 794) (by decide +kernel) (by decide +kernel)
theorem wd_795 : Cond.static yL_hoursToReady ∈ WS := wm (i := 795) (by decide +kernel) (by decide +kernel)
theorem wd_796 : Cond.codeWith yL_hoursToReady cL_hoursToReady 3 (some .int) [(0, 8, 11, 35)] ∈ WS := wm (i := 796) (by decide +kernel) (by decide +kernel)
theorem wd_797 : Cond.methodLink RL 85 yX6_hoursToReady ∈ WS := wm (i := 797) (by decide +kernel) (by decide +kernel)
theorem wd_798 : Cond.instanceMethod yX6_hoursToReady ∈ WS := wm (i := 798) (by decide +kernel) (by decide +kernel)
theorem wd_799 : Cond.selects RX6 yX6_hoursToReady yX6_hoursToReady ∈ WS := wm (i := 799) (by decide +kernel) (by decide +kernel)
theorem wd_800 : Cond.code yX6_hoursToReady cX6_hoursToReady 3 (some .int) ∈ WS := wm (i := 800) (by decide +kernel) (by decide +kernel)
theorem wd_801 : Cond.methodLink RX6 217 yX6_requireEndOfBoiling ∈ WS := wm (i := 801) (by decide +kernel) (by decide +kernel)
theorem wd_803 : Cond.instanceMethod yX6_requireEndOfBoiling ∈ WS := wm (i := 803) (by decide +kernel) (by decide +kernel)
theorem wd_804 : Cond.code yX6_requireEndOfBoiling cX6_requireEndOfBoiling 1 none ∈ WS := wm (i := 804) (by decide +kernel) (by decide +kernel)
theorem wd_807 : Cond.methodLink RX6 220 yX1_leastVolume ∈ WS := wm (i := 807) (by decide +kernel) (by decide +kernel)
theorem wd_808 : Cond.methodLink RL 212 yL_hoursByBoiling ∈ WS := wm (i := 808) (by decide +kernel) (by decide +kernel)
theorem wd_809 : Cond.static yL_hoursByBoiling ∈ WS := wm (i := 809) (by decide +kernel) (by decide +kernel)
theorem wd_810 : Cond.codeWith yL_hoursByBoiling cL_hoursByBoiling 3 (some .int) [(0, 8, 11, 35)] ∈ WS := wm (i := 810) (by decide +kernel) (by decide +kernel)
theorem wd_811 : Cond.methodLink RL 89 yX6_hoursByBoiling ∈ WS := wm (i := 811) (by decide +kernel) (by decide +kernel)
theorem wd_812 : Cond.instanceMethod yX6_hoursByBoiling ∈ WS := wm (i := 812) (by decide +kernel) (by decide +kernel)
theorem wd_813 : Cond.selects RX6 yX6_hoursByBoiling yX6_hoursByBoiling ∈ WS := wm (i := 813) (by decide +kernel) (by decide +kernel)
theorem wd_814 : Cond.code yX6_hoursByBoiling cX6_hoursByBoiling 2 (some .int) ∈ WS := wm (i := 814) (by decide +kernel) (by decide +kernel)
theorem wd_815 : Cond.methodLink RX6 223 yX1_copy ∈ WS := wm (i := 815) (by decide +kernel) (by decide +kernel)
theorem wd_816 : Cond.instanceMethod yX1_copy ∈ WS := wm (i := 816) (by decide +kernel) (by decide +kernel)
theorem wd_817 : Cond.selects RX1 yX1_copy yX1_copy ∈ WS := wm (i := 817) (by decide +kernel) (by decide +kernel)
theorem wd_818 : Cond.code yX1_copy cX1_copy 2 none ∈ WS := wm (i := 818) (by decide +kernel) (by decide +kernel)
theorem wd_819 : Cond.methodLink RL 215 yL_draw ∈ WS := wm (i := 819) (by decide +kernel) (by decide +kernel)
theorem wd_820 : Cond.static yL_draw ∈ WS := wm (i := 820) (by decide +kernel) (by decide +kernel)
theorem wd_821 : Cond.codeWith yL_draw cL_draw 3 (some .int) [(0, 8, 11, 17), (0, 8, 14, 19)] ∈ WS := wm (i := 821) (by decide +kernel) (by decide +kernel)
theorem wd_822 : Cond.methodLink RL 92 yX6_draw ∈ WS := wm (i := 822) (by decide +kernel) (by decide +kernel)
theorem wd_823 : Cond.instanceMethod yX6_draw ∈ WS := wm (i := 823) (by decide +kernel) (by decide +kernel)
theorem wd_824 : Cond.selects RX6 yX6_draw yX6_draw ∈ WS := wm (i := 824) (by decide +kernel) (by decide +kernel)
theorem wd_825 : Cond.code yX6_draw cX6_draw 2 (some .int) ∈ WS := wm (i := 825) (by decide +kernel) (by decide +kernel)
theorem wd_827 : Cond.methodLink RX6 229 yX2_isFull ∈ WS := wm (i := 827) (by decide +kernel) (by decide +kernel)
theorem wd_828 : Cond.instanceMethod yX2_isFull ∈ WS := wm (i := 828) (by decide +kernel) (by decide +kernel)
theorem wd_829 : Cond.selects RX2 yX2_isFull yX2_isFull ∈ WS := wm (i := 829) (by decide +kernel) (by decide +kernel)
theorem wd_830 : Cond.code yX2_isFull cX2_isFull 1 (some .boolean) ∈ WS := wm (i := 830) (by decide +kernel) (by decide +kernel)
theorem wd_832 : Cond.methodLink RX6 237 yX6_gradeAfter ∈ WS := wm (i := 832) (by decide +kernel) (by decide +kernel)
theorem wd_833 : Cond.static yX6_gradeAfter ∈ WS := wm (i := 833) (by decide +kernel) (by decide +kernel)
theorem wd_834 : Cond.code yX6_gradeAfter cX6_gradeAfter 1 (some .char) ∈ WS := wm (i := 834) (by decide +kernel) (by decide +kernel)
theorem wd_835 : Cond.methodLink RX6 241 yX2_keep ∈ WS := wm (i := 835) (by decide +kernel) (by decide +kernel)
theorem wd_836 : Cond.instanceMethod yX2_keep ∈ WS := wm (i := 836) (by decide +kernel) (by decide +kernel)
theorem wd_837 : Cond.selects RX2 yX2_keep yX2_keep ∈ WS := wm (i := 837) (by decide +kernel) (by decide +kernel)
theorem wd_838 : Cond.code yX2_keep cX2_keep 5 (some .int) ∈ WS := wm (i := 838) (by decide +kernel) (by decide +kernel)
theorem wd_839 : Cond.methodLink RL 226 yL_batchVolume ∈ WS := wm (i := 839) (by decide +kernel) (by decide +kernel)
theorem wd_840 : Cond.static yL_batchVolume ∈ WS := wm (i := 840) (by decide +kernel) (by decide +kernel)
theorem wd_841 : Cond.codeWith yL_batchVolume cL_batchVolume 4 (some .int) [(0, 9, 12, 13)] ∈ WS := wm (i := 841) (by decide +kernel) (by decide +kernel)
theorem wd_842 : Cond.methodLink RL 95 yX6_batchVolume ∈ WS := wm (i := 842) (by decide +kernel) (by decide +kernel)
theorem wd_843 : Cond.instanceMethod yX6_batchVolume ∈ WS := wm (i := 843) (by decide +kernel) (by decide +kernel)
theorem wd_844 : Cond.selects RX6 yX6_batchVolume yX6_batchVolume ∈ WS := wm (i := 844) (by decide +kernel) (by decide +kernel)
theorem wd_845 : Cond.code yX6_batchVolume cX6_batchVolume 2 (some .int) ∈ WS := wm (i := 845) (by decide +kernel) (by decide +kernel)
theorem wd_846 : Cond.methodLink RX6 249 yX6_requireBatch ∈ WS := wm (i := 846) (by decide +kernel) (by decide +kernel)
theorem wd_848 : Cond.instanceMethod yX6_requireBatch ∈ WS := wm (i := 848) (by decide +kernel) (by decide +kernel)
theorem wd_849 : Cond.code yX6_requireBatch cX6_requireBatch 2 none ∈ WS := wm (i := 849) (by decide +kernel) (by decide +kernel)
theorem wd_850 : Cond.methodLink RX6 313 yX2_has ∈ WS := wm (i := 850) (by decide +kernel) (by decide +kernel)
theorem wd_851 : Cond.instanceMethod yX2_has ∈ WS := wm (i := 851) (by decide +kernel) (by decide +kernel)
theorem wd_852 : Cond.selects RX2 yX2_has yX2_has ∈ WS := wm (i := 852) (by decide +kernel) (by decide +kernel)
theorem wd_853 : Cond.code yX2_has cX2_has 2 (some .boolean) ∈ WS := wm (i := 853) (by decide +kernel) (by decide +kernel)
theorem wd_855 : Cond.methodLink RL 229 yL_gradeOf ∈ WS := wm (i := 855) (by decide +kernel) (by decide +kernel)
theorem wd_856 : Cond.static yL_gradeOf ∈ WS := wm (i := 856) (by decide +kernel) (by decide +kernel)
theorem wd_857 : Cond.codeWith yL_gradeOf cL_gradeOf 4 (some .int) [(0, 9, 12, 13)] ∈ WS := wm (i := 857) (by decide +kernel) (by decide +kernel)
theorem wd_858 : Cond.methodLink RL 98 yX6_gradeOf ∈ WS := wm (i := 858) (by decide +kernel) (by decide +kernel)
theorem wd_859 : Cond.instanceMethod yX6_gradeOf ∈ WS := wm (i := 859) (by decide +kernel) (by decide +kernel)
theorem wd_860 : Cond.selects RX6 yX6_gradeOf yX6_gradeOf ∈ WS := wm (i := 860) (by decide +kernel) (by decide +kernel)
theorem wd_861 : Cond.code yX6_gradeOf cX6_gradeOf 2 (some .char) ∈ WS := wm (i := 861) (by decide +kernel) (by decide +kernel)
theorem wd_862 : Cond.methodLink RL 257 yL_lossShare ∈ WS := wm (i := 862) (by decide +kernel) (by decide +kernel)
theorem wd_863 : Cond.static yL_lossShare ∈ WS := wm (i := 863) (by decide +kernel) (by decide +kernel)
theorem wd_864 : Cond.codeWith yL_lossShare cL_lossShare 3 (some .int) [(0, 8, 11, 106)] ∈ WS := wm (i := 864) (by decide +kernel) (by decide +kernel)
theorem wd_865 : Cond.classLink RL 106 "java/lang/ArithmeticException" ∈ WS := wm (i := 865) (by decide +kernel) (by decide +kernel)
theorem wd_866 : Cond.instantiable "java/lang/ArithmeticException" 6 ∈ WS := wm (i := 866) (by decide +kernel) (by decide +kernel)
theorem wd_867 : Cond.instanceMethod ⟨"java/lang/ArithmeticException", "<init>", "(Ljava/lang/String;)V"⟩ ∈ WS := wm (i := 867) (by decide +kernel) (by decide +kernel)
theorem wd_868 : Cond.code ⟨"java/lang/ArithmeticException", "<init>", "(Ljava/lang/String;)V"⟩ prog_11_method_2_code 2 none ∈ WS := wm (i := 868) (by decide +kernel) (by decide +kernel)
theorem wd_869 : Cond.methodLink "java/lang/ArithmeticException" 7 ⟨"java/lang/RuntimeException", "<init>", "(Ljava/lang/String;)V"⟩ ∈ WS := wm (i := 869) (by decide +kernel) (by decide +kernel)
theorem wd_878 : Cond.selects "java/lang/ArithmeticException" ⟨"java/lang/Throwable", "fillInStackTrace", "(I)Ljava/lang/Throwable;"⟩ ⟨"java/lang/Throwable", "fillInStackTrace", "(I)Ljava/lang/Throwable;"⟩ ∈ WS := wm (i := 878) (by decide +kernel) (by decide +kernel)
theorem wd_879 : Cond.methodLink RL 102 yX6_lossShare ∈ WS := wm (i := 879) (by decide +kernel) (by decide +kernel)
theorem wd_880 : Cond.instanceMethod yX6_lossShare ∈ WS := wm (i := 880) (by decide +kernel) (by decide +kernel)
theorem wd_881 : Cond.selects RX6 yX6_lossShare yX6_lossShare ∈ WS := wm (i := 881) (by decide +kernel) (by decide +kernel)
theorem wd_882 : Cond.code yX6_lossShare cX6_lossShare 1 (some .float) ∈ WS := wm (i := 882) (by decide +kernel) (by decide +kernel)
theorem wd_883 : Cond.methodLink RX6 293 yX6_requireSap ∈ WS := wm (i := 883) (by decide +kernel) (by decide +kernel)
theorem wd_885 : Cond.instanceMethod yX6_requireSap ∈ WS := wm (i := 885) (by decide +kernel) (by decide +kernel)
theorem wd_886 : Cond.code yX6_requireSap cX6_requireSap 1 none ∈ WS := wm (i := 886) (by decide +kernel) (by decide +kernel)
theorem wd_887 : Cond.classLink RX6 320 "java/lang/ArithmeticException" ∈ WS := wm (i := 887) (by decide +kernel) (by decide +kernel)
theorem wd_889 : Cond.methodLink RX6 324 ⟨"java/lang/ArithmeticException", "<init>", "(Ljava/lang/String;)V"⟩ ∈ WS := wm (i := 889) (by decide +kernel) (by decide +kernel)
theorem wd_890 : Cond.methodLink RL 261 yL_meanSweetness ∈ WS := wm (i := 890) (by decide +kernel) (by decide +kernel)
theorem wd_891 : Cond.static yL_meanSweetness ∈ WS := wm (i := 891) (by decide +kernel) (by decide +kernel)
theorem wd_892 : Cond.codeWith yL_meanSweetness cL_meanSweetness 3 (some .int) [(0, 7, 10, 106)] ∈ WS := wm (i := 892) (by decide +kernel) (by decide +kernel)
theorem wd_893 : Cond.methodLink RL 108 yX6_meanSweetness ∈ WS := wm (i := 893) (by decide +kernel) (by decide +kernel)
theorem wd_894 : Cond.instanceMethod yX6_meanSweetness ∈ WS := wm (i := 894) (by decide +kernel) (by decide +kernel)
theorem wd_895 : Cond.selects RX6 yX6_meanSweetness yX6_meanSweetness ∈ WS := wm (i := 895) (by decide +kernel) (by decide +kernel)
theorem wd_896 : Cond.code yX6_meanSweetness cX6_meanSweetness 1 (some .double) ∈ WS := wm (i := 896) (by decide +kernel) (by decide +kernel)
theorem wd_897 : Cond.classLink RL 113 RX7 ∈ WS := wm (i := 897) (by decide +kernel) (by decide +kernel)
theorem wd_898 : Cond.instantiable RX7 30 ∈ WS := wm (i := 898) (by decide +kernel) (by decide +kernel)
theorem wd_899 : Cond.methodLink RL 115 yX7_init ∈ WS := wm (i := 899) (by decide +kernel) (by decide +kernel)
theorem wd_900 : Cond.instanceMethod yX7_init ∈ WS := wm (i := 900) (by decide +kernel) (by decide +kernel)
theorem wd_901 : Cond.code yX7_init cX7_init 1 none ∈ WS := wm (i := 901) (by decide +kernel) (by decide +kernel)
theorem wd_902 : Cond.methodLink RX7 1 objectInit ∈ WS := wm (i := 902) (by decide +kernel) (by decide +kernel)
theorem wd_903 : Cond.fieldLink RX7 7 "SapNetworkModel" "nodes" "I" ∈ WS := wm (i := 903) (by decide +kernel) (by decide +kernel)
theorem wd_904 : Cond.fieldLink RX7 13 "SapNetworkModel" "kinds" "[I" ∈ WS := wm (i := 904) (by decide +kernel) (by decide +kernel)
theorem wd_905 : Cond.fieldLink RX7 17 "SapNetworkModel" "parents" "[I" ∈ WS := wm (i := 905) (by decide +kernel) (by decide +kernel)
theorem wd_906 : Cond.fieldLink RX7 20 "SapNetworkModel" "drops" "[I" ∈ WS := wm (i := 906) (by decide +kernel) (by decide +kernel)
theorem wd_907 : Cond.fieldLink RX7 23 "SapNetworkModel" "rates" "[I" ∈ WS := wm (i := 907) (by decide +kernel) (by decide +kernel)
theorem wd_908 : Cond.fieldLink RX7 26 "SapNetworkModel" "sweets" "[I" ∈ WS := wm (i := 908) (by decide +kernel) (by decide +kernel)
theorem wd_909 : Cond.fieldLink RX7 29 "SapNetworkModel" "shades" "[I" ∈ WS := wm (i := 909) (by decide +kernel) (by decide +kernel)
theorem wd_910 : Cond.fieldLink RX7 32 "SapNetworkModel" "charges" "[I" ∈ WS := wm (i := 910) (by decide +kernel) (by decide +kernel)
theorem wd_911 : Cond.fieldLink RX7 35 "SapNetworkModel" "leaks" "[I" ∈ WS := wm (i := 911) (by decide +kernel) (by decide +kernel)
theorem wd_912 : Cond.fieldLink RX7 82 "SapNetworkModel" "setting" "I" ∈ WS := wm (i := 912) (by decide +kernel) (by decide +kernel)
theorem wd_913 : Cond.fieldLink RX7 143 "SapNetworkModel" "hours" "I" ∈ WS := wm (i := 913) (by decide +kernel) (by decide +kernel)
theorem wd_914 : Cond.fieldLink RX7 38 "SapNetworkModel" "saps" "[I" ∈ WS := wm (i := 914) (by decide +kernel) (by decide +kernel)
theorem wd_915 : Cond.fieldLink RX7 111 "SapNetworkModel" "tanks" "I" ∈ WS := wm (i := 915) (by decide +kernel) (by decide +kernel)
theorem wd_916 : Cond.fieldLink RX7 41 "SapNetworkModel" "capacities" "[I" ∈ WS := wm (i := 916) (by decide +kernel) (by decide +kernel)
theorem wd_917 : Cond.fieldLink RX7 44 "SapNetworkModel" "volumes" "[I" ∈ WS := wm (i := 917) (by decide +kernel) (by decide +kernel)
theorem wd_918 : Cond.fieldLink RX7 47 "SapNetworkModel" "sugars" "[I" ∈ WS := wm (i := 918) (by decide +kernel) (by decide +kernel)
theorem wd_919 : Cond.fieldLink RX7 128 "SapNetworkModel" "pan" "I" ∈ WS := wm (i := 919) (by decide +kernel) (by decide +kernel)
theorem wd_920 : Cond.fieldLink RX7 131 "SapNetworkModel" "panSugar" "I" ∈ WS := wm (i := 920) (by decide +kernel) (by decide +kernel)
theorem wd_921 : Cond.fieldLink RX7 125 "SapNetworkModel" "fire" "I" ∈ WS := wm (i := 921) (by decide +kernel) (by decide +kernel)
theorem wd_922 : Cond.fieldLink RX7 140 "SapNetworkModel" "boiled" "I" ∈ WS := wm (i := 922) (by decide +kernel) (by decide +kernel)
theorem wd_923 : Cond.fieldLink RX7 178 "SapNetworkModel" "batches" "I" ∈ WS := wm (i := 923) (by decide +kernel) (by decide +kernel)
theorem wd_924 : Cond.fieldLink RX7 50 "SapNetworkModel" "batchVolumes" "[I" ∈ WS := wm (i := 924) (by decide +kernel) (by decide +kernel)
theorem wd_925 : Cond.fieldLink RX7 53 "SapNetworkModel" "batchSugars" "[I" ∈ WS := wm (i := 925) (by decide +kernel) (by decide +kernel)
theorem wd_926 : Cond.fieldLink RX7 56 "SapNetworkModel" "grades" "[C" ∈ WS := wm (i := 926) (by decide +kernel) (by decide +kernel)
theorem wd_927 : Cond.fieldLink RX7 149 "SapNetworkModel" "sap" "J" ∈ WS := wm (i := 927) (by decide +kernel) (by decide +kernel)
theorem wd_928 : Cond.fieldLink RX7 152 "SapNetworkModel" "sapSugar" "J" ∈ WS := wm (i := 928) (by decide +kernel) (by decide +kernel)
theorem wd_929 : Cond.fieldLink RX7 137 "SapNetworkModel" "steam" "J" ∈ WS := wm (i := 929) (by decide +kernel) (by decide +kernel)
theorem wd_930 : Cond.fieldLink RX7 118 "SapNetworkModel" "lost" "J" ∈ WS := wm (i := 930) (by decide +kernel) (by decide +kernel)
theorem wd_931 : Cond.fieldLink RX7 122 "SapNetworkModel" "lostSugar" "J" ∈ WS := wm (i := 931) (by decide +kernel) (by decide +kernel)
theorem wd_932 : Cond.fieldLink RX7 60 "SapNetworkModel" "code" "I" ∈ WS := wm (i := 932) (by decide +kernel) (by decide +kernel)
theorem wd_994 : Cond.methodLink RL 122 yX7_thrown ∈ WS := wm (i := 994) (by decide +kernel) (by decide +kernel)
theorem wd_995 : Cond.instanceMethod yX7_thrown ∈ WS := wm (i := 995) (by decide +kernel) (by decide +kernel)
theorem wd_996 : Cond.selects RX7 yX7_thrown yX7_thrown ∈ WS := wm (i := 996) (by decide +kernel) (by decide +kernel)
theorem wd_997 : Cond.code yX7_thrown cX7_thrown 1 (some .int) ∈ WS := wm (i := 997) (by decide +kernel) (by decide +kernel)
theorem wd_998 : Cond.methodLink RL 121 yX7_addJunction ∈ WS := wm (i := 998) (by decide +kernel) (by decide +kernel)
theorem wd_999 : Cond.instanceMethod yX7_addJunction ∈ WS := wm (i := 999) (by decide +kernel) (by decide +kernel)
theorem wd_1000 : Cond.selects RX7 yX7_addJunction yX7_addJunction ∈ WS := wm (i := 1000) (by decide +kernel) (by decide +kernel)
theorem wd_1001 : Cond.code yX7_addJunction cX7_addJunction 3 (some .int) ∈ WS := wm (i := 1001) (by decide +kernel) (by decide +kernel)
theorem wd_1002 : Cond.methodLink RX7 63 yX7_in ∈ WS := wm (i := 1002) (by decide +kernel) (by decide +kernel)
theorem wd_1003 : Cond.static yX7_in ∈ WS := wm (i := 1003) (by decide +kernel) (by decide +kernel)
theorem wd_1004 : Cond.code yX7_in cX7_in 3 (some .boolean) ∈ WS := wm (i := 1004) (by decide +kernel) (by decide +kernel)
theorem wd_1005 : Cond.methodLink RX7 74 yX7_cannotAdd ∈ WS := wm (i := 1005) (by decide +kernel) (by decide +kernel)
theorem wd_1007 : Cond.instanceMethod yX7_cannotAdd ∈ WS := wm (i := 1007) (by decide +kernel) (by decide +kernel)
theorem wd_1008 : Cond.code yX7_cannotAdd cX7_cannotAdd 3 (some .boolean) ∈ WS := wm (i := 1008) (by decide +kernel) (by decide +kernel)
theorem wd_1009 : Cond.methodLink RX7 67 yX7_isNone ∈ WS := wm (i := 1009) (by decide +kernel) (by decide +kernel)
theorem wd_1011 : Cond.instanceMethod yX7_isNone ∈ WS := wm (i := 1011) (by decide +kernel) (by decide +kernel)
theorem wd_1012 : Cond.code yX7_isNone cX7_isNone 2 (some .boolean) ∈ WS := wm (i := 1012) (by decide +kernel) (by decide +kernel)
theorem wd_1013 : Cond.methodLink RX7 71 yX7_fails ∈ WS := wm (i := 1013) (by decide +kernel) (by decide +kernel)
theorem wd_1015 : Cond.instanceMethod yX7_fails ∈ WS := wm (i := 1015) (by decide +kernel) (by decide +kernel)
theorem wd_1016 : Cond.code yX7_fails cX7_fails 2 (some .boolean) ∈ WS := wm (i := 1016) (by decide +kernel) (by decide +kernel)
theorem wd_1017 : Cond.methodLink RX7 78 yX7_adds ∈ WS := wm (i := 1017) (by decide +kernel) (by decide +kernel)
theorem wd_1019 : Cond.instanceMethod yX7_adds ∈ WS := wm (i := 1019) (by decide +kernel) (by decide +kernel)
theorem wd_1020 : Cond.code yX7_adds cX7_adds 4 (some .int) ∈ WS := wm (i := 1020) (by decide +kernel) (by decide +kernel)
theorem wd_1021 : Cond.methodLink RL 128 yX7_addTap ∈ WS := wm (i := 1021) (by decide +kernel) (by decide +kernel)
theorem wd_1022 : Cond.instanceMethod yX7_addTap ∈ WS := wm (i := 1022) (by decide +kernel) (by decide +kernel)
theorem wd_1023 : Cond.selects RX7 yX7_addTap yX7_addTap ∈ WS := wm (i := 1023) (by decide +kernel) (by decide +kernel)
theorem wd_1024 : Cond.code yX7_addTap cX7_addTap 6 (some .int) ∈ WS := wm (i := 1024) (by decide +kernel) (by decide +kernel)
theorem wd_1025 : Cond.methodLink RL 132 yX7_setPump ∈ WS := wm (i := 1025) (by decide +kernel) (by decide +kernel)
theorem wd_1026 : Cond.instanceMethod yX7_setPump ∈ WS := wm (i := 1026) (by decide +kernel) (by decide +kernel)
theorem wd_1027 : Cond.selects RX7 yX7_setPump yX7_setPump ∈ WS := wm (i := 1027) (by decide +kernel) (by decide +kernel)
theorem wd_1028 : Cond.code yX7_setPump cX7_setPump 3 (some .int) ∈ WS := wm (i := 1028) (by decide +kernel) (by decide +kernel)
theorem wd_1029 : Cond.methodLink RL 135 yX7_addLeak ∈ WS := wm (i := 1029) (by decide +kernel) (by decide +kernel)
theorem wd_1030 : Cond.instanceMethod yX7_addLeak ∈ WS := wm (i := 1030) (by decide +kernel) (by decide +kernel)
theorem wd_1031 : Cond.selects RX7 yX7_addLeak yX7_addLeak ∈ WS := wm (i := 1031) (by decide +kernel) (by decide +kernel)
theorem wd_1032 : Cond.code yX7_addLeak cX7_addLeak 4 (some .int) ∈ WS := wm (i := 1032) (by decide +kernel) (by decide +kernel)
theorem wd_1033 : Cond.methodLink RL 138 yX7_repair ∈ WS := wm (i := 1033) (by decide +kernel) (by decide +kernel)
theorem wd_1034 : Cond.instanceMethod yX7_repair ∈ WS := wm (i := 1034) (by decide +kernel) (by decide +kernel)
theorem wd_1035 : Cond.selects RX7 yX7_repair yX7_repair ∈ WS := wm (i := 1035) (by decide +kernel) (by decide +kernel)
theorem wd_1036 : Cond.code yX7_repair cX7_repair 3 (some .int) ∈ WS := wm (i := 1036) (by decide +kernel) (by decide +kernel)
theorem wd_1037 : Cond.methodLink RL 142 yX7_nodes ∈ WS := wm (i := 1037) (by decide +kernel) (by decide +kernel)
theorem wd_1038 : Cond.instanceMethod yX7_nodes ∈ WS := wm (i := 1038) (by decide +kernel) (by decide +kernel)
theorem wd_1039 : Cond.selects RX7 yX7_nodes yX7_nodes ∈ WS := wm (i := 1039) (by decide +kernel) (by decide +kernel)
theorem wd_1040 : Cond.code yX7_nodes cX7_nodes 1 (some .int) ∈ WS := wm (i := 1040) (by decide +kernel) (by decide +kernel)
theorem wd_1041 : Cond.methodLink RX7 85 yX7_tells ∈ WS := wm (i := 1041) (by decide +kernel) (by decide +kernel)
theorem wd_1043 : Cond.instanceMethod yX7_tells ∈ WS := wm (i := 1043) (by decide +kernel) (by decide +kernel)
theorem wd_1044 : Cond.code yX7_tells cX7_tells 2 (some .int) ∈ WS := wm (i := 1044) (by decide +kernel) (by decide +kernel)
theorem wd_1045 : Cond.methodLink RL 145 yX7_vacuum ∈ WS := wm (i := 1045) (by decide +kernel) (by decide +kernel)
theorem wd_1046 : Cond.instanceMethod yX7_vacuum ∈ WS := wm (i := 1046) (by decide +kernel) (by decide +kernel)
theorem wd_1047 : Cond.selects RX7 yX7_vacuum yX7_vacuum ∈ WS := wm (i := 1047) (by decide +kernel) (by decide +kernel)
theorem wd_1048 : Cond.code yX7_vacuum cX7_vacuum 2 (some .int) ∈ WS := wm (i := 1048) (by decide +kernel) (by decide +kernel)
theorem wd_1049 : Cond.methodLink RX7 98 yX7_asked ∈ WS := wm (i := 1049) (by decide +kernel) (by decide +kernel)
theorem wd_1051 : Cond.instanceMethod yX7_asked ∈ WS := wm (i := 1051) (by decide +kernel) (by decide +kernel)
theorem wd_1052 : Cond.code yX7_asked cX7_asked 2 (some .int) ∈ WS := wm (i := 1052) (by decide +kernel) (by decide +kernel)
theorem wd_1053 : Cond.methodLink RX7 89 yX7_sucked ∈ WS := wm (i := 1053) (by decide +kernel) (by decide +kernel)
theorem wd_1055 : Cond.instanceMethod yX7_sucked ∈ WS := wm (i := 1055) (by decide +kernel) (by decide +kernel)
theorem wd_1056 : Cond.code yX7_sucked cX7_sucked 4 (some .int) ∈ WS := wm (i := 1056) (by decide +kernel) (by decide +kernel)
theorem wd_1057 : Cond.methodLink RX7 92 yX7_above ∈ WS := wm (i := 1057) (by decide +kernel) (by decide +kernel)
theorem wd_1058 : Cond.static yX7_above ∈ WS := wm (i := 1058) (by decide +kernel) (by decide +kernel)
theorem wd_1059 : Cond.code yX7_above cX7_above 1 (some .int) ∈ WS := wm (i := 1059) (by decide +kernel) (by decide +kernel)
theorem wd_1060 : Cond.methodLink RL 148 yX7_vacuumBySweep ∈ WS := wm (i := 1060) (by decide +kernel) (by decide +kernel)
theorem wd_1061 : Cond.instanceMethod yX7_vacuumBySweep ∈ WS := wm (i := 1061) (by decide +kernel) (by decide +kernel)
theorem wd_1062 : Cond.selects RX7 yX7_vacuumBySweep yX7_vacuumBySweep ∈ WS := wm (i := 1062) (by decide +kernel) (by decide +kernel)
theorem wd_1063 : Cond.code yX7_vacuumBySweep cX7_vacuumBySweep 2 (some .int) ∈ WS := wm (i := 1063) (by decide +kernel) (by decide +kernel)
theorem wd_1064 : Cond.methodLink RL 151 yX7_expectedVacuum ∈ WS := wm (i := 1064) (by decide +kernel) (by decide +kernel)
theorem wd_1065 : Cond.instanceMethod yX7_expectedVacuum ∈ WS := wm (i := 1065) (by decide +kernel) (by decide +kernel)
theorem wd_1066 : Cond.selects RX7 yX7_expectedVacuum yX7_expectedVacuum ∈ WS := wm (i := 1066) (by decide +kernel) (by decide +kernel)
theorem wd_1067 : Cond.code yX7_expectedVacuum cX7_expectedVacuum 2 (some .int) ∈ WS := wm (i := 1067) (by decide +kernel) (by decide +kernel)
theorem wd_1068 : Cond.methodLink RX7 95 yX7_expected ∈ WS := wm (i := 1068) (by decide +kernel) (by decide +kernel)
theorem wd_1070 : Cond.instanceMethod yX7_expected ∈ WS := wm (i := 1070) (by decide +kernel) (by decide +kernel)
theorem wd_1071 : Cond.code yX7_expected cX7_expected 2 (some .int) ∈ WS := wm (i := 1071) (by decide +kernel) (by decide +kernel)
theorem wd_1072 : Cond.methodLink RL 154 yX7_suspect ∈ WS := wm (i := 1072) (by decide +kernel) (by decide +kernel)
theorem wd_1073 : Cond.instanceMethod yX7_suspect ∈ WS := wm (i := 1073) (by decide +kernel) (by decide +kernel)
theorem wd_1074 : Cond.selects RX7 yX7_suspect yX7_suspect ∈ WS := wm (i := 1074) (by decide +kernel) (by decide +kernel)
theorem wd_1075 : Cond.code yX7_suspect cX7_suspect 5 (some .int) ∈ WS := wm (i := 1075) (by decide +kernel) (by decide +kernel)
theorem wd_1076 : Cond.methodLink RX7 104 yX7_ownLoss ∈ WS := wm (i := 1076) (by decide +kernel) (by decide +kernel)
theorem wd_1078 : Cond.instanceMethod yX7_ownLoss ∈ WS := wm (i := 1078) (by decide +kernel) (by decide +kernel)
theorem wd_1079 : Cond.code yX7_ownLoss cX7_ownLoss 2 (some .int) ∈ WS := wm (i := 1079) (by decide +kernel) (by decide +kernel)
theorem wd_1080 : Cond.methodLink RX7 101 yX7_loses ∈ WS := wm (i := 1080) (by decide +kernel) (by decide +kernel)
theorem wd_1082 : Cond.instanceMethod yX7_loses ∈ WS := wm (i := 1082) (by decide +kernel) (by decide +kernel)
theorem wd_1083 : Cond.code yX7_loses cX7_loses 2 (some .int) ∈ WS := wm (i := 1083) (by decide +kernel) (by decide +kernel)
theorem wd_1084 : Cond.methodLink RL 157 yX7_depth ∈ WS := wm (i := 1084) (by decide +kernel) (by decide +kernel)
theorem wd_1085 : Cond.instanceMethod yX7_depth ∈ WS := wm (i := 1085) (by decide +kernel) (by decide +kernel)
theorem wd_1086 : Cond.selects RX7 yX7_depth yX7_depth ∈ WS := wm (i := 1086) (by decide +kernel) (by decide +kernel)
theorem wd_1087 : Cond.code yX7_depth cX7_depth 4 (some .int) ∈ WS := wm (i := 1087) (by decide +kernel) (by decide +kernel)
theorem wd_1088 : Cond.methodLink RL 160 yX7_pass ∈ WS := wm (i := 1088) (by decide +kernel) (by decide +kernel)
theorem wd_1089 : Cond.instanceMethod yX7_pass ∈ WS := wm (i := 1089) (by decide +kernel) (by decide +kernel)
theorem wd_1090 : Cond.selects RX7 yX7_pass yX7_pass ∈ WS := wm (i := 1090) (by decide +kernel) (by decide +kernel)
theorem wd_1091 : Cond.code yX7_pass cX7_pass 6 (some .int) ∈ WS := wm (i := 1091) (by decide +kernel) (by decide +kernel)
theorem wd_1092 : Cond.methodLink RX7 146 yX7_gives ∈ WS := wm (i := 1092) (by decide +kernel) (by decide +kernel)
theorem wd_1094 : Cond.instanceMethod yX7_gives ∈ WS := wm (i := 1094) (by decide +kernel) (by decide +kernel)
theorem wd_1095 : Cond.code yX7_gives cX7_gives 3 (some .int) ∈ WS := wm (i := 1095) (by decide +kernel) (by decide +kernel)
theorem wd_1096 : Cond.methodLink RX7 107 yX7_lesser ∈ WS := wm (i := 1096) (by decide +kernel) (by decide +kernel)
theorem wd_1097 : Cond.static yX7_lesser ∈ WS := wm (i := 1097) (by decide +kernel) (by decide +kernel)
theorem wd_1098 : Cond.code yX7_lesser cX7_lesser 2 (some .int) ∈ WS := wm (i := 1098) (by decide +kernel) (by decide +kernel)
theorem wd_1099 : Cond.methodLink RX7 155 yX7_pours ∈ WS := wm (i := 1099) (by decide +kernel) (by decide +kernel)
theorem wd_1101 : Cond.instanceMethod yX7_pours ∈ WS := wm (i := 1101) (by decide +kernel) (by decide +kernel)
theorem wd_1102 : Cond.code yX7_pours cX7_pours 8 none ∈ WS := wm (i := 1102) (by decide +kernel) (by decide +kernel)
theorem wd_1103 : Cond.methodLink RX7 114 yX7_wastes ∈ WS := wm (i := 1103) (by decide +kernel) (by decide +kernel)
theorem wd_1105 : Cond.instanceMethod yX7_wastes ∈ WS := wm (i := 1105) (by decide +kernel) (by decide +kernel)
theorem wd_1106 : Cond.code yX7_wastes cX7_wastes 3 none ∈ WS := wm (i := 1106) (by decide +kernel) (by decide +kernel)
theorem wd_1107 : Cond.methodLink RX7 158 yX7_boils ∈ WS := wm (i := 1107) (by decide +kernel) (by decide +kernel)
theorem wd_1109 : Cond.instanceMethod yX7_boils ∈ WS := wm (i := 1109) (by decide +kernel) (by decide +kernel)
theorem wd_1110 : Cond.code yX7_boils cX7_boils 2 none ∈ WS := wm (i := 1110) (by decide +kernel) (by decide +kernel)
theorem wd_1111 : Cond.methodLink RX7 134 yX7_least ∈ WS := wm (i := 1111) (by decide +kernel) (by decide +kernel)
theorem wd_1112 : Cond.static yX7_least ∈ WS := wm (i := 1112) (by decide +kernel) (by decide +kernel)
theorem wd_1113 : Cond.code yX7_least cX7_least 1 (some .int) ∈ WS := wm (i := 1113) (by decide +kernel) (by decide +kernel)
theorem wd_1114 : Cond.methodLink RL 164 yX7_hours ∈ WS := wm (i := 1114) (by decide +kernel) (by decide +kernel)
theorem wd_1115 : Cond.instanceMethod yX7_hours ∈ WS := wm (i := 1115) (by decide +kernel) (by decide +kernel)
theorem wd_1116 : Cond.selects RX7 yX7_hours yX7_hours ∈ WS := wm (i := 1116) (by decide +kernel) (by decide +kernel)
theorem wd_1117 : Cond.code yX7_hours cX7_hours 1 (some .int) ∈ WS := wm (i := 1117) (by decide +kernel) (by decide +kernel)
theorem wd_1118 : Cond.methodLink RL 167 yX7_charge ∈ WS := wm (i := 1118) (by decide +kernel) (by decide +kernel)
theorem wd_1119 : Cond.instanceMethod yX7_charge ∈ WS := wm (i := 1119) (by decide +kernel) (by decide +kernel)
theorem wd_1120 : Cond.selects RX7 yX7_charge yX7_charge ∈ WS := wm (i := 1120) (by decide +kernel) (by decide +kernel)
theorem wd_1121 : Cond.code yX7_charge cX7_charge 2 (some .int) ∈ WS := wm (i := 1121) (by decide +kernel) (by decide +kernel)
theorem wd_1122 : Cond.methodLink RX7 161 yX7_isNoTap ∈ WS := wm (i := 1122) (by decide +kernel) (by decide +kernel)
theorem wd_1124 : Cond.instanceMethod yX7_isNoTap ∈ WS := wm (i := 1124) (by decide +kernel) (by decide +kernel)
theorem wd_1125 : Cond.code yX7_isNoTap cX7_isNoTap 2 (some .boolean) ∈ WS := wm (i := 1125) (by decide +kernel) (by decide +kernel)
theorem wd_1126 : Cond.methodLink RL 170 yX7_sapOf ∈ WS := wm (i := 1126) (by decide +kernel) (by decide +kernel)
theorem wd_1127 : Cond.instanceMethod yX7_sapOf ∈ WS := wm (i := 1127) (by decide +kernel) (by decide +kernel)
theorem wd_1128 : Cond.selects RX7 yX7_sapOf yX7_sapOf ∈ WS := wm (i := 1128) (by decide +kernel) (by decide +kernel)
theorem wd_1129 : Cond.code yX7_sapOf cX7_sapOf 3 (some .int) ∈ WS := wm (i := 1129) (by decide +kernel) (by decide +kernel)
theorem wd_1130 : Cond.methodLink RL 173 yX7_totalOf ∈ WS := wm (i := 1130) (by decide +kernel) (by decide +kernel)
theorem wd_1131 : Cond.instanceMethod yX7_totalOf ∈ WS := wm (i := 1131) (by decide +kernel) (by decide +kernel)
theorem wd_1132 : Cond.selects RX7 yX7_totalOf yX7_totalOf ∈ WS := wm (i := 1132) (by decide +kernel) (by decide +kernel)
theorem wd_1133 : Cond.code yX7_totalOf cX7_totalOf 2 (some .int) ∈ WS := wm (i := 1133) (by decide +kernel) (by decide +kernel)
theorem wd_1134 : Cond.methodLink RX7 164 yX7_total ∈ WS := wm (i := 1134) (by decide +kernel) (by decide +kernel)
theorem wd_1136 : Cond.instanceMethod yX7_total ∈ WS := wm (i := 1136) (by decide +kernel) (by decide +kernel)
theorem wd_1137 : Cond.code yX7_total cX7_total 4 (some .int) ∈ WS := wm (i := 1137) (by decide +kernel) (by decide +kernel)
theorem wd_1138 : Cond.methodLink RL 176 yX7_tapByYield ∈ WS := wm (i := 1138) (by decide +kernel) (by decide +kernel)
theorem wd_1139 : Cond.instanceMethod yX7_tapByYield ∈ WS := wm (i := 1139) (by decide +kernel) (by decide +kernel)
theorem wd_1140 : Cond.selects RX7 yX7_tapByYield yX7_tapByYield ∈ WS := wm (i := 1140) (by decide +kernel) (by decide +kernel)
theorem wd_1141 : Cond.code yX7_tapByYield cX7_tapByYield 5 (some .int) ∈ WS := wm (i := 1141) (by decide +kernel) (by decide +kernel)
theorem wd_1142 : Cond.methodLink RL 179 yX7_addTank ∈ WS := wm (i := 1142) (by decide +kernel) (by decide +kernel)
theorem wd_1143 : Cond.instanceMethod yX7_addTank ∈ WS := wm (i := 1143) (by decide +kernel) (by decide +kernel)
theorem wd_1144 : Cond.selects RX7 yX7_addTank yX7_addTank ∈ WS := wm (i := 1144) (by decide +kernel) (by decide +kernel)
theorem wd_1145 : Cond.code yX7_addTank cX7_addTank 2 (some .int) ∈ WS := wm (i := 1145) (by decide +kernel) (by decide +kernel)
theorem wd_1146 : Cond.methodLink RL 182 yX7_drain ∈ WS := wm (i := 1146) (by decide +kernel) (by decide +kernel)
theorem wd_1147 : Cond.instanceMethod yX7_drain ∈ WS := wm (i := 1147) (by decide +kernel) (by decide +kernel)
theorem wd_1148 : Cond.selects RX7 yX7_drain yX7_drain ∈ WS := wm (i := 1148) (by decide +kernel) (by decide +kernel)
theorem wd_1149 : Cond.code yX7_drain cX7_drain 3 (some .int) ∈ WS := wm (i := 1149) (by decide +kernel) (by decide +kernel)
theorem wd_1150 : Cond.methodLink RX7 167 yX7_isNoTank ∈ WS := wm (i := 1150) (by decide +kernel) (by decide +kernel)
theorem wd_1152 : Cond.instanceMethod yX7_isNoTank ∈ WS := wm (i := 1152) (by decide +kernel) (by decide +kernel)
theorem wd_1153 : Cond.code yX7_isNoTank cX7_isNoTank 2 (some .boolean) ∈ WS := wm (i := 1153) (by decide +kernel) (by decide +kernel)
theorem wd_1154 : Cond.methodLink RL 185 yX7_tankVolume ∈ WS := wm (i := 1154) (by decide +kernel) (by decide +kernel)
theorem wd_1155 : Cond.instanceMethod yX7_tankVolume ∈ WS := wm (i := 1155) (by decide +kernel) (by decide +kernel)
theorem wd_1156 : Cond.selects RX7 yX7_tankVolume yX7_tankVolume ∈ WS := wm (i := 1156) (by decide +kernel) (by decide +kernel)
theorem wd_1157 : Cond.code yX7_tankVolume cX7_tankVolume 2 (some .int) ∈ WS := wm (i := 1157) (by decide +kernel) (by decide +kernel)
theorem wd_1158 : Cond.methodLink RL 188 yX7_tankSugar ∈ WS := wm (i := 1158) (by decide +kernel) (by decide +kernel)
theorem wd_1159 : Cond.instanceMethod yX7_tankSugar ∈ WS := wm (i := 1159) (by decide +kernel) (by decide +kernel)
theorem wd_1160 : Cond.selects RX7 yX7_tankSugar yX7_tankSugar ∈ WS := wm (i := 1160) (by decide +kernel) (by decide +kernel)
theorem wd_1161 : Cond.code yX7_tankSugar cX7_tankSugar 2 (some .int) ∈ WS := wm (i := 1161) (by decide +kernel) (by decide +kernel)
theorem wd_1162 : Cond.methodLink RL 191 yX7_load ∈ WS := wm (i := 1162) (by decide +kernel) (by decide +kernel)
theorem wd_1163 : Cond.instanceMethod yX7_load ∈ WS := wm (i := 1163) (by decide +kernel) (by decide +kernel)
theorem wd_1164 : Cond.selects RX7 yX7_load yX7_load ∈ WS := wm (i := 1164) (by decide +kernel) (by decide +kernel)
theorem wd_1165 : Cond.code yX7_load cX7_load 4 (some .int) ∈ WS := wm (i := 1165) (by decide +kernel) (by decide +kernel)
theorem wd_1166 : Cond.methodLink RL 194 yX7_setFire ∈ WS := wm (i := 1166) (by decide +kernel) (by decide +kernel)
theorem wd_1167 : Cond.instanceMethod yX7_setFire ∈ WS := wm (i := 1167) (by decide +kernel) (by decide +kernel)
theorem wd_1168 : Cond.selects RX7 yX7_setFire yX7_setFire ∈ WS := wm (i := 1168) (by decide +kernel) (by decide +kernel)
theorem wd_1169 : Cond.code yX7_setFire cX7_setFire 3 (some .int) ∈ WS := wm (i := 1169) (by decide +kernel) (by decide +kernel)
theorem wd_1170 : Cond.methodLink RL 198 yX7_panVolume ∈ WS := wm (i := 1170) (by decide +kernel) (by decide +kernel)
theorem wd_1171 : Cond.instanceMethod yX7_panVolume ∈ WS := wm (i := 1171) (by decide +kernel) (by decide +kernel)
theorem wd_1172 : Cond.selects RX7 yX7_panVolume yX7_panVolume ∈ WS := wm (i := 1172) (by decide +kernel) (by decide +kernel)
theorem wd_1173 : Cond.code yX7_panVolume cX7_panVolume 1 (some .int) ∈ WS := wm (i := 1173) (by decide +kernel) (by decide +kernel)
theorem wd_1174 : Cond.methodLink RL 202 yX7_panSugar ∈ WS := wm (i := 1174) (by decide +kernel) (by decide +kernel)
theorem wd_1175 : Cond.instanceMethod yX7_panSugar ∈ WS := wm (i := 1175) (by decide +kernel) (by decide +kernel)
theorem wd_1176 : Cond.selects RX7 yX7_panSugar yX7_panSugar ∈ WS := wm (i := 1176) (by decide +kernel) (by decide +kernel)
theorem wd_1177 : Cond.code yX7_panSugar cX7_panSugar 1 (some .int) ∈ WS := wm (i := 1177) (by decide +kernel) (by decide +kernel)
theorem wd_1178 : Cond.methodLink RL 207 yX7_isReady ∈ WS := wm (i := 1178) (by decide +kernel) (by decide +kernel)
theorem wd_1179 : Cond.instanceMethod yX7_isReady ∈ WS := wm (i := 1179) (by decide +kernel) (by decide +kernel)
theorem wd_1180 : Cond.selects RX7 yX7_isReady yX7_isReady ∈ WS := wm (i := 1180) (by decide +kernel) (by decide +kernel)
theorem wd_1181 : Cond.code yX7_isReady cX7_isReady 1 (some .boolean) ∈ WS := wm (i := 1181) (by decide +kernel) (by decide +kernel)
theorem wd_1182 : Cond.methodLink RX7 170 yX7_isDone ∈ WS := wm (i := 1182) (by decide +kernel) (by decide +kernel)
theorem wd_1184 : Cond.instanceMethod yX7_isDone ∈ WS := wm (i := 1184) (by decide +kernel) (by decide +kernel)
theorem wd_1185 : Cond.code yX7_isDone cX7_isDone 1 (some .boolean) ∈ WS := wm (i := 1185) (by decide +kernel) (by decide +kernel)
theorem wd_1186 : Cond.methodLink RL 211 yX7_hoursToReady ∈ WS := wm (i := 1186) (by decide +kernel) (by decide +kernel)
theorem wd_1187 : Cond.instanceMethod yX7_hoursToReady ∈ WS := wm (i := 1187) (by decide +kernel) (by decide +kernel)
theorem wd_1188 : Cond.selects RX7 yX7_hoursToReady yX7_hoursToReady ∈ WS := wm (i := 1188) (by decide +kernel) (by decide +kernel)
theorem wd_1189 : Cond.code yX7_hoursToReady cX7_hoursToReady 1 (some .int) ∈ WS := wm (i := 1189) (by decide +kernel) (by decide +kernel)
theorem wd_1190 : Cond.methodLink RX7 174 yX7_longs ∈ WS := wm (i := 1190) (by decide +kernel) (by decide +kernel)
theorem wd_1192 : Cond.instanceMethod yX7_longs ∈ WS := wm (i := 1192) (by decide +kernel) (by decide +kernel)
theorem wd_1193 : Cond.code yX7_longs cX7_longs 1 (some .int) ∈ WS := wm (i := 1193) (by decide +kernel) (by decide +kernel)
theorem wd_1194 : Cond.methodLink RL 214 yX7_hoursByBoiling ∈ WS := wm (i := 1194) (by decide +kernel) (by decide +kernel)
theorem wd_1195 : Cond.instanceMethod yX7_hoursByBoiling ∈ WS := wm (i := 1195) (by decide +kernel) (by decide +kernel)
theorem wd_1196 : Cond.selects RX7 yX7_hoursByBoiling yX7_hoursByBoiling ∈ WS := wm (i := 1196) (by decide +kernel) (by decide +kernel)
theorem wd_1197 : Cond.code yX7_hoursByBoiling cX7_hoursByBoiling 1 (some .int) ∈ WS := wm (i := 1197) (by decide +kernel) (by decide +kernel)
theorem wd_1198 : Cond.methodLink RL 217 yX7_draw ∈ WS := wm (i := 1198) (by decide +kernel) (by decide +kernel)
theorem wd_1199 : Cond.instanceMethod yX7_draw ∈ WS := wm (i := 1199) (by decide +kernel) (by decide +kernel)
theorem wd_1200 : Cond.selects RX7 yX7_draw yX7_draw ∈ WS := wm (i := 1200) (by decide +kernel) (by decide +kernel)
theorem wd_1201 : Cond.code yX7_draw cX7_draw 1 (some .int) ∈ WS := wm (i := 1201) (by decide +kernel) (by decide +kernel)
theorem wd_1202 : Cond.methodLink RX7 181 yX7_empties ∈ WS := wm (i := 1202) (by decide +kernel) (by decide +kernel)
theorem wd_1204 : Cond.instanceMethod yX7_empties ∈ WS := wm (i := 1204) (by decide +kernel) (by decide +kernel)
theorem wd_1205 : Cond.code yX7_empties cX7_empties 1 none ∈ WS := wm (i := 1205) (by decide +kernel) (by decide +kernel)
theorem wd_1206 : Cond.methodLink RL 221 yX7_dump ∈ WS := wm (i := 1206) (by decide +kernel) (by decide +kernel)
theorem wd_1207 : Cond.instanceMethod yX7_dump ∈ WS := wm (i := 1207) (by decide +kernel) (by decide +kernel)
theorem wd_1208 : Cond.selects RX7 yX7_dump yX7_dump ∈ WS := wm (i := 1208) (by decide +kernel) (by decide +kernel)
theorem wd_1209 : Cond.code yX7_dump cX7_dump 2 (some .int) ∈ WS := wm (i := 1209) (by decide +kernel) (by decide +kernel)
theorem wd_1210 : Cond.methodLink RL 225 yX7_batches ∈ WS := wm (i := 1210) (by decide +kernel) (by decide +kernel)
theorem wd_1211 : Cond.instanceMethod yX7_batches ∈ WS := wm (i := 1211) (by decide +kernel) (by decide +kernel)
theorem wd_1212 : Cond.selects RX7 yX7_batches yX7_batches ∈ WS := wm (i := 1212) (by decide +kernel) (by decide +kernel)
theorem wd_1213 : Cond.code yX7_batches cX7_batches 1 (some .int) ∈ WS := wm (i := 1213) (by decide +kernel) (by decide +kernel)
theorem wd_1214 : Cond.methodLink RL 228 yX7_batchVolume ∈ WS := wm (i := 1214) (by decide +kernel) (by decide +kernel)
theorem wd_1215 : Cond.instanceMethod yX7_batchVolume ∈ WS := wm (i := 1215) (by decide +kernel) (by decide +kernel)
theorem wd_1216 : Cond.selects RX7 yX7_batchVolume yX7_batchVolume ∈ WS := wm (i := 1216) (by decide +kernel) (by decide +kernel)
theorem wd_1217 : Cond.code yX7_batchVolume cX7_batchVolume 2 (some .int) ∈ WS := wm (i := 1217) (by decide +kernel) (by decide +kernel)
theorem wd_1218 : Cond.methodLink RX7 184 yX7_isNoBatch ∈ WS := wm (i := 1218) (by decide +kernel) (by decide +kernel)
theorem wd_1220 : Cond.instanceMethod yX7_isNoBatch ∈ WS := wm (i := 1220) (by decide +kernel) (by decide +kernel)
theorem wd_1221 : Cond.code yX7_isNoBatch cX7_isNoBatch 2 (some .boolean) ∈ WS := wm (i := 1221) (by decide +kernel) (by decide +kernel)
theorem wd_1222 : Cond.methodLink RL 231 yX7_gradeOf ∈ WS := wm (i := 1222) (by decide +kernel) (by decide +kernel)
theorem wd_1223 : Cond.instanceMethod yX7_gradeOf ∈ WS := wm (i := 1223) (by decide +kernel) (by decide +kernel)
theorem wd_1224 : Cond.selects RX7 yX7_gradeOf yX7_gradeOf ∈ WS := wm (i := 1224) (by decide +kernel) (by decide +kernel)
theorem wd_1225 : Cond.code yX7_gradeOf cX7_gradeOf 2 (some .char) ∈ WS := wm (i := 1225) (by decide +kernel) (by decide +kernel)
theorem wd_1226 : Cond.methodLink RL 236 yX7_totalSap ∈ WS := wm (i := 1226) (by decide +kernel) (by decide +kernel)
theorem wd_1227 : Cond.instanceMethod yX7_totalSap ∈ WS := wm (i := 1227) (by decide +kernel) (by decide +kernel)
theorem wd_1228 : Cond.selects RX7 yX7_totalSap yX7_totalSap ∈ WS := wm (i := 1228) (by decide +kernel) (by decide +kernel)
theorem wd_1229 : Cond.code yX7_totalSap cX7_totalSap 1 (some .long) ∈ WS := wm (i := 1229) (by decide +kernel) (by decide +kernel)
theorem wd_1230 : Cond.methodLink RX7 187 yX7_tellsLong ∈ WS := wm (i := 1230) (by decide +kernel) (by decide +kernel)
theorem wd_1232 : Cond.instanceMethod yX7_tellsLong ∈ WS := wm (i := 1232) (by decide +kernel) (by decide +kernel)
theorem wd_1233 : Cond.code yX7_tellsLong cX7_tellsLong 3 (some .long) ∈ WS := wm (i := 1233) (by decide +kernel) (by decide +kernel)
theorem wd_1234 : Cond.methodLink RL 240 yX7_steam ∈ WS := wm (i := 1234) (by decide +kernel) (by decide +kernel)
theorem wd_1235 : Cond.instanceMethod yX7_steam ∈ WS := wm (i := 1235) (by decide +kernel) (by decide +kernel)
theorem wd_1236 : Cond.selects RX7 yX7_steam yX7_steam ∈ WS := wm (i := 1236) (by decide +kernel) (by decide +kernel)
theorem wd_1237 : Cond.code yX7_steam cX7_steam 1 (some .long) ∈ WS := wm (i := 1237) (by decide +kernel) (by decide +kernel)
theorem wd_1238 : Cond.methodLink RL 244 yX7_loss ∈ WS := wm (i := 1238) (by decide +kernel) (by decide +kernel)
theorem wd_1239 : Cond.instanceMethod yX7_loss ∈ WS := wm (i := 1239) (by decide +kernel) (by decide +kernel)
theorem wd_1240 : Cond.selects RX7 yX7_loss yX7_loss ∈ WS := wm (i := 1240) (by decide +kernel) (by decide +kernel)
theorem wd_1241 : Cond.code yX7_loss cX7_loss 1 (some .long) ∈ WS := wm (i := 1241) (by decide +kernel) (by decide +kernel)
theorem wd_1242 : Cond.methodLink RL 248 yX7_lossByBalance ∈ WS := wm (i := 1242) (by decide +kernel) (by decide +kernel)
theorem wd_1243 : Cond.instanceMethod yX7_lossByBalance ∈ WS := wm (i := 1243) (by decide +kernel) (by decide +kernel)
theorem wd_1244 : Cond.selects RX7 yX7_lossByBalance yX7_lossByBalance ∈ WS := wm (i := 1244) (by decide +kernel) (by decide +kernel)
theorem wd_1245 : Cond.code yX7_lossByBalance cX7_lossByBalance 1 (some .long) ∈ WS := wm (i := 1245) (by decide +kernel) (by decide +kernel)
theorem wd_1246 : Cond.methodLink RX7 191 yX7_missing ∈ WS := wm (i := 1246) (by decide +kernel) (by decide +kernel)
theorem wd_1248 : Cond.instanceMethod yX7_missing ∈ WS := wm (i := 1248) (by decide +kernel) (by decide +kernel)
theorem wd_1249 : Cond.code yX7_missing cX7_missing 4 (some .long) ∈ WS := wm (i := 1249) (by decide +kernel) (by decide +kernel)
theorem wd_1250 : Cond.methodLink RL 252 yX7_lostSugar ∈ WS := wm (i := 1250) (by decide +kernel) (by decide +kernel)
theorem wd_1251 : Cond.instanceMethod yX7_lostSugar ∈ WS := wm (i := 1251) (by decide +kernel) (by decide +kernel)
theorem wd_1252 : Cond.selects RX7 yX7_lostSugar yX7_lostSugar ∈ WS := wm (i := 1252) (by decide +kernel) (by decide +kernel)
theorem wd_1253 : Cond.code yX7_lostSugar cX7_lostSugar 1 (some .long) ∈ WS := wm (i := 1253) (by decide +kernel) (by decide +kernel)
theorem wd_1254 : Cond.methodLink RL 256 yX7_isBalanced ∈ WS := wm (i := 1254) (by decide +kernel) (by decide +kernel)
theorem wd_1255 : Cond.instanceMethod yX7_isBalanced ∈ WS := wm (i := 1255) (by decide +kernel) (by decide +kernel)
theorem wd_1256 : Cond.selects RX7 yX7_isBalanced yX7_isBalanced ∈ WS := wm (i := 1256) (by decide +kernel) (by decide +kernel)
theorem wd_1257 : Cond.code yX7_isBalanced cX7_isBalanced 4 (some .boolean) ∈ WS := wm (i := 1257) (by decide +kernel) (by decide +kernel)
theorem wd_1258 : Cond.methodLink RL 260 yX7_lossShare ∈ WS := wm (i := 1258) (by decide +kernel) (by decide +kernel)
theorem wd_1259 : Cond.instanceMethod yX7_lossShare ∈ WS := wm (i := 1259) (by decide +kernel) (by decide +kernel)
theorem wd_1260 : Cond.selects RX7 yX7_lossShare yX7_lossShare ∈ WS := wm (i := 1260) (by decide +kernel) (by decide +kernel)
theorem wd_1261 : Cond.code yX7_lossShare cX7_lossShare 1 (some .float) ∈ WS := wm (i := 1261) (by decide +kernel) (by decide +kernel)
theorem wd_1262 : Cond.methodLink RL 263 yX7_meanSweetness ∈ WS := wm (i := 1262) (by decide +kernel) (by decide +kernel)
theorem wd_1263 : Cond.instanceMethod yX7_meanSweetness ∈ WS := wm (i := 1263) (by decide +kernel) (by decide +kernel)
theorem wd_1264 : Cond.selects RX7 yX7_meanSweetness yX7_meanSweetness ∈ WS := wm (i := 1264) (by decide +kernel) (by decide +kernel)
theorem wd_1265 : Cond.code yX7_meanSweetness cX7_meanSweetness 1 (some .double) ∈ WS := wm (i := 1265) (by decide +kernel) (by decide +kernel)
theorem wd_1266 : Cond.arrayClass .long ∈ WS := wm (i := 1266) (by decide +kernel) (by decide +kernel)
theorem wd_1267 : Cond.arrayClass .double ∈ WS := wm (i := 1267) (by decide +kernel) (by decide +kernel)
theorem inX0 : ∀ w ∈ u_ws RX0 TX0 5, w ∈ WS := wm_all [161, 163, 165, 167, 169] (by decide +kernel) (by decide +kernel)
theorem inX1 : ∀ w ∈ u_ws RX1 TX1 3, w ∈ WS := wm_all [115, 117, 119] (by decide +kernel) (by decide +kernel)
theorem inX2 : ∀ w ∈ u_ws RX2 TX2 4, w ∈ WS := wm_all [135, 137, 139, 141] (by decide +kernel) (by decide +kernel)
theorem inX3 : ∀ w ∈ u_ws RX3 TX3 3, w ∈ WS := wm_all [735, 737, 739] (by decide +kernel) (by decide +kernel)
theorem inX4 : ∀ w ∈ u_ws RX4 TX4 6, w ∈ WS := wm_all [493, 495, 497, 499, 501, 503] (by decide +kernel) (by decide +kernel)
theorem inX5 : ∀ w ∈ u_ws RX5 TX5 7, w ∈ WS := wm_all [83, 85, 87, 89, 91, 93, 95] (by decide +kernel) (by decide +kernel)
theorem inX6 : ∀ w ∈ u_ws RX6 TX6 11, w ∈ WS := wm_all [183, 185, 187, 189, 191, 193, 195, 197, 199, 201, 203] (by decide +kernel) (by decide +kernel)
theorem inX7 : ∀ w ∈ u_ws RX7 TX7 30, w ∈ WS := wm_all [933, 935, 937, 939, 941, 943, 945, 947, 949, 951, 953, 955, 957, 959, 961, 963, 965, 967, 969, 971, 973, 975, 977, 979, 981, 983, 985, 987, 989, 991] (by decide +kernel) (by decide +kernel)
/-- words that are no good ones: links to nest mates, castable -/
def NWL : List Cond := [Cond.fieldLinkNest RX6 114 "SapNetwork$Tubes" "vacuums" "[I" "SapNetwork", Cond.fieldLinkNest RX6 117 "SapNetwork$Tubes" "expectations" "[I" "SapNetwork", Cond.methodLinkNest RX6 30 yX1_init "SapNetwork", Cond.fieldLinkNest RX6 200 "SapNetwork$Pan" "volume" "I" "SapNetwork", Cond.fieldLinkNest RX6 212 "SapNetwork$Pan" "sugar" "I" "SapNetwork", Cond.fieldLinkNest RX6 234 "SapNetwork$Pan" "boiledHours" "I" "SapNetwork", Cond.fieldLinkNest RX6 252 "SapNetwork$Syrup" "volumes" "[I" "SapNetwork", Cond.fieldLinkNest RX6 255 "SapNetwork$Syrup" "grades" "[C" "SapNetwork", Cond.fieldLinkNest RX6 279 "SapNetwork$Syrup" "sugar" "J" "SapNetwork", Cond.methodLinkNest RX6 47 yX0_init "SapNetwork", Cond.fieldLinkNest RX6 259 "SapNetwork$Accounts" "sapVolume" "J" "SapNetwork", Cond.fieldLinkNest RX6 290 "SapNetwork$Accounts" "sapSugar" "J" "SapNetwork", Cond.fieldLinkNest RX6 263 "SapNetwork$Accounts" "steamVolume" "J" "SapNetwork", Cond.fieldLinkNest RX6 266 "SapNetwork$Accounts" "lossVolume" "J" "SapNetwork", Cond.fieldLinkNest RX6 276 "SapNetwork$Accounts" "lossSugar" "J" "SapNetwork", Cond.fieldLinkNest RX6 336 "SapNetwork$Tap" "sweetness" "I" "SapNetwork", Cond.fieldLinkNest RX6 161 "SapNetwork$Tap" "given" "[I" "SapNetwork", Cond.fieldLinkNest RX6 156 "SapNetwork$Tap" "charge" "I" "SapNetwork", Cond.fieldLinkNest RX6 164 "SapNetwork$Tap" "givenInAll" "I" "SapNetwork", Cond.methodLinkNest RX6 107 yX5_climb "SapNetwork", Cond.fieldLinkNest RX6 180 "SapNetwork$Tank" "volume" "I" "SapNetwork", Cond.fieldLinkNest RX6 183 "SapNetwork$Tank" "sugar" "I" "SapNetwork", Cond.castable "java/lang/IndexOutOfBoundsException" "java/lang/IndexOutOfBoundsException", Cond.castable "java/lang/IllegalArgumentException" "java/lang/IllegalArgumentException", Cond.castable "java/lang/UnsupportedOperationException" "java/lang/UnsupportedOperationException", Cond.castable "java/lang/IllegalStateException" "java/lang/IllegalStateException", Cond.castable "java/util/NoSuchElementException" "java/util/NoSuchElementException", Cond.castable "java/lang/ArithmeticException" "java/lang/ArithmeticException"]
def STRL : List (Nat × String) := [(301, "there is no such node"), (66, "the drop is out of range"), (304, "the parent is a tap"), (307, "there is no place for another node"), (78, "a property of the tap is out of range"), (83, "the setting is out of range"), (89, "the size is out of range"), (100, "the node has no leak"), (328, "there is no such rank"), (129, "the temperature is out of range"), (137, "all hours have passed"), (309, "the node is not a tap"), (159, "this hour has not passed"), (167, "the capacity is out of range"), (172, "there is no place for another tank"), (311, "there is no such tank"), (193, "the volume is out of range"), (197, "the tank contains less"), (201, "the pan would contain too much"), (210, "the level is out of range"), (316, "the pan is empty"), (318, "there is no fire"), (227, "the pan is not ready"), (232, "no more batches can be drawn"), (314, "there is no such batch"), (322, "no sap came")]
def NCL : List (String × String) := [("java/lang/IllegalArgumentException", "java/lang/IndexOutOfBoundsException"), ("java/lang/UnsupportedOperationException", "java/lang/IndexOutOfBoundsException"), ("java/lang/IllegalStateException", "java/lang/IndexOutOfBoundsException"), ("java/util/NoSuchElementException", "java/lang/IndexOutOfBoundsException"), ("java/lang/ArithmeticException", "java/lang/IndexOutOfBoundsException"), ("java/lang/IndexOutOfBoundsException", "java/lang/IllegalArgumentException"), ("java/lang/UnsupportedOperationException", "java/lang/IllegalArgumentException"), ("java/lang/IllegalStateException", "java/lang/IllegalArgumentException"), ("java/util/NoSuchElementException", "java/lang/IllegalArgumentException"), ("java/lang/ArithmeticException", "java/lang/IllegalArgumentException"), ("java/lang/IndexOutOfBoundsException", "java/lang/UnsupportedOperationException"), ("java/lang/IllegalArgumentException", "java/lang/UnsupportedOperationException"), ("java/lang/IllegalStateException", "java/lang/UnsupportedOperationException"), ("java/util/NoSuchElementException", "java/lang/UnsupportedOperationException"), ("java/lang/ArithmeticException", "java/lang/UnsupportedOperationException"), ("java/lang/IndexOutOfBoundsException", "java/lang/IllegalStateException"), ("java/lang/IllegalArgumentException", "java/lang/IllegalStateException"), ("java/lang/UnsupportedOperationException", "java/lang/IllegalStateException"), ("java/util/NoSuchElementException", "java/lang/IllegalStateException"), ("java/lang/ArithmeticException", "java/lang/IllegalStateException"), ("java/lang/IndexOutOfBoundsException", "java/util/NoSuchElementException"), ("java/lang/IllegalArgumentException", "java/util/NoSuchElementException"), ("java/lang/UnsupportedOperationException", "java/util/NoSuchElementException"), ("java/lang/IllegalStateException", "java/util/NoSuchElementException"), ("java/lang/ArithmeticException", "java/util/NoSuchElementException"), ("java/lang/IndexOutOfBoundsException", "java/lang/ArithmeticException"), ("java/lang/IllegalArgumentException", "java/lang/ArithmeticException"), ("java/lang/UnsupportedOperationException", "java/lang/ArithmeticException"), ("java/lang/IllegalStateException", "java/lang/ArithmeticException"), ("java/util/NoSuchElementException", "java/lang/ArithmeticException")]
theorem nw_0 : Cond.fieldLinkNest RX6 114 "SapNetwork$Tubes" "vacuums" "[I" "SapNetwork" ∈ NWL := List.mem_of_getElem? (i := 0) rfl
theorem nw_1 : Cond.fieldLinkNest RX6 117 "SapNetwork$Tubes" "expectations" "[I" "SapNetwork" ∈ NWL := List.mem_of_getElem? (i := 1) rfl
theorem nw_2 : Cond.methodLinkNest RX6 30 yX1_init "SapNetwork" ∈ NWL := List.mem_of_getElem? (i := 2) rfl
theorem nw_3 : Cond.fieldLinkNest RX6 200 "SapNetwork$Pan" "volume" "I" "SapNetwork" ∈ NWL := List.mem_of_getElem? (i := 3) rfl
theorem nw_4 : Cond.fieldLinkNest RX6 212 "SapNetwork$Pan" "sugar" "I" "SapNetwork" ∈ NWL := List.mem_of_getElem? (i := 4) rfl
theorem nw_5 : Cond.fieldLinkNest RX6 234 "SapNetwork$Pan" "boiledHours" "I" "SapNetwork" ∈ NWL := List.mem_of_getElem? (i := 5) rfl
theorem nw_6 : Cond.fieldLinkNest RX6 252 "SapNetwork$Syrup" "volumes" "[I" "SapNetwork" ∈ NWL := List.mem_of_getElem? (i := 6) rfl
theorem nw_7 : Cond.fieldLinkNest RX6 255 "SapNetwork$Syrup" "grades" "[C" "SapNetwork" ∈ NWL := List.mem_of_getElem? (i := 7) rfl
theorem nw_8 : Cond.fieldLinkNest RX6 279 "SapNetwork$Syrup" "sugar" "J" "SapNetwork" ∈ NWL := List.mem_of_getElem? (i := 8) rfl
theorem nw_9 : Cond.methodLinkNest RX6 47 yX0_init "SapNetwork" ∈ NWL := List.mem_of_getElem? (i := 9) rfl
theorem nw_10 : Cond.fieldLinkNest RX6 259 "SapNetwork$Accounts" "sapVolume" "J" "SapNetwork" ∈ NWL := List.mem_of_getElem? (i := 10) rfl
theorem nw_11 : Cond.fieldLinkNest RX6 290 "SapNetwork$Accounts" "sapSugar" "J" "SapNetwork" ∈ NWL := List.mem_of_getElem? (i := 11) rfl
theorem nw_12 : Cond.fieldLinkNest RX6 263 "SapNetwork$Accounts" "steamVolume" "J" "SapNetwork" ∈ NWL := List.mem_of_getElem? (i := 12) rfl
theorem nw_13 : Cond.fieldLinkNest RX6 266 "SapNetwork$Accounts" "lossVolume" "J" "SapNetwork" ∈ NWL := List.mem_of_getElem? (i := 13) rfl
theorem nw_14 : Cond.fieldLinkNest RX6 276 "SapNetwork$Accounts" "lossSugar" "J" "SapNetwork" ∈ NWL := List.mem_of_getElem? (i := 14) rfl
theorem nw_15 : Cond.fieldLinkNest RX6 336 "SapNetwork$Tap" "sweetness" "I" "SapNetwork" ∈ NWL := List.mem_of_getElem? (i := 15) rfl
theorem nw_16 : Cond.fieldLinkNest RX6 161 "SapNetwork$Tap" "given" "[I" "SapNetwork" ∈ NWL := List.mem_of_getElem? (i := 16) rfl
theorem nw_17 : Cond.fieldLinkNest RX6 156 "SapNetwork$Tap" "charge" "I" "SapNetwork" ∈ NWL := List.mem_of_getElem? (i := 17) rfl
theorem nw_18 : Cond.fieldLinkNest RX6 164 "SapNetwork$Tap" "givenInAll" "I" "SapNetwork" ∈ NWL := List.mem_of_getElem? (i := 18) rfl
theorem nw_19 : Cond.methodLinkNest RX6 107 yX5_climb "SapNetwork" ∈ NWL := List.mem_of_getElem? (i := 19) rfl
theorem nw_20 : Cond.fieldLinkNest RX6 180 "SapNetwork$Tank" "volume" "I" "SapNetwork" ∈ NWL := List.mem_of_getElem? (i := 20) rfl
theorem nw_21 : Cond.fieldLinkNest RX6 183 "SapNetwork$Tank" "sugar" "I" "SapNetwork" ∈ NWL := List.mem_of_getElem? (i := 21) rfl
theorem nw_22 : Cond.castable "java/lang/IndexOutOfBoundsException" "java/lang/IndexOutOfBoundsException" ∈ NWL := List.mem_of_getElem? (i := 22) rfl
theorem nw_23 : Cond.castable "java/lang/IllegalArgumentException" "java/lang/IllegalArgumentException" ∈ NWL := List.mem_of_getElem? (i := 23) rfl
theorem nw_24 : Cond.castable "java/lang/UnsupportedOperationException" "java/lang/UnsupportedOperationException" ∈ NWL := List.mem_of_getElem? (i := 24) rfl
theorem nw_25 : Cond.castable "java/lang/IllegalStateException" "java/lang/IllegalStateException" ∈ NWL := List.mem_of_getElem? (i := 25) rfl
theorem nw_26 : Cond.castable "java/util/NoSuchElementException" "java/util/NoSuchElementException" ∈ NWL := List.mem_of_getElem? (i := 26) rfl
theorem nw_27 : Cond.castable "java/lang/ArithmeticException" "java/lang/ArithmeticException" ∈ NWL := List.mem_of_getElem? (i := 27) rfl
theorem st_301 : (301, "there is no such node") ∈ STRL := List.mem_of_getElem? (i := 0) rfl
theorem st_66 : (66, "the drop is out of range") ∈ STRL := List.mem_of_getElem? (i := 1) rfl
theorem st_304 : (304, "the parent is a tap") ∈ STRL := List.mem_of_getElem? (i := 2) rfl
theorem st_307 : (307, "there is no place for another node") ∈ STRL := List.mem_of_getElem? (i := 3) rfl
theorem st_78 : (78, "a property of the tap is out of range") ∈ STRL := List.mem_of_getElem? (i := 4) rfl
theorem st_83 : (83, "the setting is out of range") ∈ STRL := List.mem_of_getElem? (i := 5) rfl
theorem st_89 : (89, "the size is out of range") ∈ STRL := List.mem_of_getElem? (i := 6) rfl
theorem st_100 : (100, "the node has no leak") ∈ STRL := List.mem_of_getElem? (i := 7) rfl
theorem st_328 : (328, "there is no such rank") ∈ STRL := List.mem_of_getElem? (i := 8) rfl
theorem st_129 : (129, "the temperature is out of range") ∈ STRL := List.mem_of_getElem? (i := 9) rfl
theorem st_137 : (137, "all hours have passed") ∈ STRL := List.mem_of_getElem? (i := 10) rfl
theorem st_309 : (309, "the node is not a tap") ∈ STRL := List.mem_of_getElem? (i := 11) rfl
theorem st_159 : (159, "this hour has not passed") ∈ STRL := List.mem_of_getElem? (i := 12) rfl
theorem st_167 : (167, "the capacity is out of range") ∈ STRL := List.mem_of_getElem? (i := 13) rfl
theorem st_172 : (172, "there is no place for another tank") ∈ STRL := List.mem_of_getElem? (i := 14) rfl
theorem st_311 : (311, "there is no such tank") ∈ STRL := List.mem_of_getElem? (i := 15) rfl
theorem st_193 : (193, "the volume is out of range") ∈ STRL := List.mem_of_getElem? (i := 16) rfl
theorem st_197 : (197, "the tank contains less") ∈ STRL := List.mem_of_getElem? (i := 17) rfl
theorem st_201 : (201, "the pan would contain too much") ∈ STRL := List.mem_of_getElem? (i := 18) rfl
theorem st_210 : (210, "the level is out of range") ∈ STRL := List.mem_of_getElem? (i := 19) rfl
theorem st_316 : (316, "the pan is empty") ∈ STRL := List.mem_of_getElem? (i := 20) rfl
theorem st_318 : (318, "there is no fire") ∈ STRL := List.mem_of_getElem? (i := 21) rfl
theorem st_227 : (227, "the pan is not ready") ∈ STRL := List.mem_of_getElem? (i := 22) rfl
theorem st_232 : (232, "no more batches can be drawn") ∈ STRL := List.mem_of_getElem? (i := 23) rfl
theorem st_314 : (314, "there is no such batch") ∈ STRL := List.mem_of_getElem? (i := 24) rfl
theorem st_322 : (322, "no sap came") ∈ STRL := List.mem_of_getElem? (i := 25) rfl
theorem nc_0 : ("java/lang/IllegalArgumentException", "java/lang/IndexOutOfBoundsException") ∈ NCL := List.mem_of_getElem? (i := 0) rfl
theorem nc_1 : ("java/lang/UnsupportedOperationException", "java/lang/IndexOutOfBoundsException") ∈ NCL := List.mem_of_getElem? (i := 1) rfl
theorem nc_2 : ("java/lang/IllegalStateException", "java/lang/IndexOutOfBoundsException") ∈ NCL := List.mem_of_getElem? (i := 2) rfl
theorem nc_3 : ("java/util/NoSuchElementException", "java/lang/IndexOutOfBoundsException") ∈ NCL := List.mem_of_getElem? (i := 3) rfl
theorem nc_4 : ("java/lang/ArithmeticException", "java/lang/IndexOutOfBoundsException") ∈ NCL := List.mem_of_getElem? (i := 4) rfl
theorem nc_5 : ("java/lang/IndexOutOfBoundsException", "java/lang/IllegalArgumentException") ∈ NCL := List.mem_of_getElem? (i := 5) rfl
theorem nc_6 : ("java/lang/UnsupportedOperationException", "java/lang/IllegalArgumentException") ∈ NCL := List.mem_of_getElem? (i := 6) rfl
theorem nc_7 : ("java/lang/IllegalStateException", "java/lang/IllegalArgumentException") ∈ NCL := List.mem_of_getElem? (i := 7) rfl
theorem nc_8 : ("java/util/NoSuchElementException", "java/lang/IllegalArgumentException") ∈ NCL := List.mem_of_getElem? (i := 8) rfl
theorem nc_9 : ("java/lang/ArithmeticException", "java/lang/IllegalArgumentException") ∈ NCL := List.mem_of_getElem? (i := 9) rfl
theorem nc_10 : ("java/lang/IndexOutOfBoundsException", "java/lang/UnsupportedOperationException") ∈ NCL := List.mem_of_getElem? (i := 10) rfl
theorem nc_11 : ("java/lang/IllegalArgumentException", "java/lang/UnsupportedOperationException") ∈ NCL := List.mem_of_getElem? (i := 11) rfl
theorem nc_12 : ("java/lang/IllegalStateException", "java/lang/UnsupportedOperationException") ∈ NCL := List.mem_of_getElem? (i := 12) rfl
theorem nc_13 : ("java/util/NoSuchElementException", "java/lang/UnsupportedOperationException") ∈ NCL := List.mem_of_getElem? (i := 13) rfl
theorem nc_14 : ("java/lang/ArithmeticException", "java/lang/UnsupportedOperationException") ∈ NCL := List.mem_of_getElem? (i := 14) rfl
theorem nc_15 : ("java/lang/IndexOutOfBoundsException", "java/lang/IllegalStateException") ∈ NCL := List.mem_of_getElem? (i := 15) rfl
theorem nc_16 : ("java/lang/IllegalArgumentException", "java/lang/IllegalStateException") ∈ NCL := List.mem_of_getElem? (i := 16) rfl
theorem nc_17 : ("java/lang/UnsupportedOperationException", "java/lang/IllegalStateException") ∈ NCL := List.mem_of_getElem? (i := 17) rfl
theorem nc_18 : ("java/util/NoSuchElementException", "java/lang/IllegalStateException") ∈ NCL := List.mem_of_getElem? (i := 18) rfl
theorem nc_19 : ("java/lang/ArithmeticException", "java/lang/IllegalStateException") ∈ NCL := List.mem_of_getElem? (i := 19) rfl
theorem nc_20 : ("java/lang/IndexOutOfBoundsException", "java/util/NoSuchElementException") ∈ NCL := List.mem_of_getElem? (i := 20) rfl
theorem nc_21 : ("java/lang/IllegalArgumentException", "java/util/NoSuchElementException") ∈ NCL := List.mem_of_getElem? (i := 21) rfl
theorem nc_22 : ("java/lang/UnsupportedOperationException", "java/util/NoSuchElementException") ∈ NCL := List.mem_of_getElem? (i := 22) rfl
theorem nc_23 : ("java/lang/IllegalStateException", "java/util/NoSuchElementException") ∈ NCL := List.mem_of_getElem? (i := 23) rfl
theorem nc_24 : ("java/lang/ArithmeticException", "java/util/NoSuchElementException") ∈ NCL := List.mem_of_getElem? (i := 24) rfl
theorem nc_25 : ("java/lang/IndexOutOfBoundsException", "java/lang/ArithmeticException") ∈ NCL := List.mem_of_getElem? (i := 25) rfl
theorem nc_26 : ("java/lang/IllegalArgumentException", "java/lang/ArithmeticException") ∈ NCL := List.mem_of_getElem? (i := 26) rfl
theorem nc_27 : ("java/lang/UnsupportedOperationException", "java/lang/ArithmeticException") ∈ NCL := List.mem_of_getElem? (i := 27) rfl
theorem nc_28 : ("java/lang/IllegalStateException", "java/lang/ArithmeticException") ∈ NCL := List.mem_of_getElem? (i := 28) rfl
theorem nc_29 : ("java/util/NoSuchElementException", "java/lang/ArithmeticException") ∈ NCL := List.mem_of_getElem? (i := 29) rfl
end
section
/-! MY CORE: one judgement J over a whole symbolic state (world, locals, stack), and its rows; the kit's rows lifted to it. -/
abbrev CL : List vw_C := [(RX0, TX0, 5), (RX1, TX1, 3), (RX2, TX2, 4), (RX3, TX3, 3), (RX4, TX4, 6), (RX5, TX5, 7), (RX6, TX6, 11), (RX7, TX7, 30)]
abbrev wz (y : MethodName) (b : ByteArray) (n : Nat) (r : Option FieldType) : List Cond := Cond.code y b n r :: WS
abbrev TY (cA : Nat → ClassId) : List (ClassId × FieldType) := [(cA 0, .int), (cA 1, .char), (cA 2, .object RX4), (cA 3, .object RX3), (cA 4, .long), (cA 5, .double)]
def isNest : Cond → Bool
  | .fieldLinkNest .. => true
  | .methodLinkNest .. => true
  | .castable .. => true
  | _ => false
theorem nest_warm {w : Cond} (h : isNest w = true) {s U : State} (hW : s.WarmedH U.vm) (hZ : va_Nw w s) : va_Nw w U := by
  cases w <;> first | exact (Bool.false_ne_true h).elim | exact va_Nw.warmF hW hZ | exact va_Nw.warmM hW hZ | exact va_Nw.warmC hW hZ
def ENV (A : Nat → Prop) (U : State) (H : Heap) : Prop :=
  (∀ w ∈ NWL, va_Nw w U) ∧ (∀ q ∈ STRL, ∃ a, vk_R RX6 q.1 q.2 a U) ∧ (∀ q ∈ NCL, va_Nc q.1 q.2 U) ∧ va_AO RX4 U ∧ va_AO RX3 U ∧
  vx_Zq Bundle.tN "UNASSIGNED_STACK" Bundle.steD A U H ∧ vx_Zq Bundle.tN "SUPPRESSED_SENTINEL" Bundle.listD A U H
theorem NWL_ok : ∀ w ∈ NWL, isNest w = true := by decide +kernel
theorem ENV.warm {A : Nat → Prop} {s U : State} {H : Heap} (hW : s.WarmedH U.vm) (h : ENV A s H) : ENV A U H :=
  ⟨fun w hw => nest_warm (NWL_ok w hw) hW (h.1 w hw), fun q hq => (h.2.1 q hq).imp fun a ha => vk_R.warm hW ha, fun q hq => va_Nc.moved hW.alike (h.2.2.1 q hq), va_AO.moved hW.alike h.2.2.2.1, va_AO.moved hW.alike h.2.2.2.2.1,
    vx_Zq.moved hW.alike h.2.2.2.2.2.1, vx_Zq.moved hW.alike h.2.2.2.2.2.2⟩
theorem ENV.kept {A : Nat → Prop} {U : State} {H H1 : Heap} (h : ENV A U H) (hq : ∀ a : Nat, a < H.size → ¬ A a → H1[a]? = H[a]?) : ENV A U H1 :=
  ⟨h.1, h.2.1, h.2.2.1, h.2.2.2.1, h.2.2.2.2.1, h.2.2.2.2.2.1.kept hq, h.2.2.2.2.2.2.kept hq⟩
theorem ENV.narrow {A B : Nat → Prop} {U : State} {H : Heap} (h : ENV A U H) (hAB : ∀ q, B q → A q) : ENV B U H :=
  ⟨h.1, h.2.1, h.2.2.1, h.2.2.2.1, h.2.2.2.2.1, h.2.2.2.2.2.1.narrow hAB, h.2.2.2.2.2.2.narrow hAB⟩
/-- a method's start: the world, the tables, what it may not touch -/
def PR (D : va_G) (cA : Nat → ClassId) (w : va_W) (sz : Nat) (U : State) : Prop := U.heap.size = sz ∧ va_P D CL w U.heap ∧ va_K D CL (TY cA) U ∧ va_D (fun _ => True) w ∧ ENV (va_A w sz) U U.heap
/-- a method's end -/
def PO (D : va_G) (cA : Nat → ClassId) (A : Nat → Prop) (w : va_W) (t : State) : Prop := va_P D CL w t.heap ∧ va_K D CL (TY cA) t ∧ va_D A w
def PX (D : va_G) (cA : Nat → ClassId) (A : Nat → Prop) (E : String) (u : String × va_W) (t : State) : Prop := E = u.1 ∧ PO D cA A u.2 t
def GX (p : Program) (s : State) (m : MethodId) (args : Array Value) (c : Code) (cc : ByteArray) (nL : Nat) (own : String) (D : va_G) (cA : Nat → ClassId) (A : Nat → Prop) : Prop :=
  p.tables.exec = Jvm.exec ∧ c.code = cc ∧ c.maxLocals = nL ∧ s.vm.findClass own = some m.cls ∧ (∀ w ∈ WS, w.before args s = true) ∧ va_K D CL (TY cA) s ∧ (∀ q : Nat, s.heap.size ≤ q → A q) ∧ ENV A s s.heap
theorem wzG : GoodIn WS WS := fun _ h => ⟨h, good_of_word (List.mem_filter.mp h).2⟩
theorem gz {y : MethodName} {b : ByteArray} {n : Nat} {r : Option FieldType} (h : Cond.code y b n r ∈ WS) : GoodIn WS (wz y b n r) := fun _ hw => (List.mem_cons.mp hw).elim (fun e => by rw [e]; exact wzG _ h) (wzG _)
theorem gV {own C : String} {idx : Nat} {y : MethodName} {b : ByteArray} {n : Nat} {r : Option FieldType} (h1 : Cond.methodLink own idx y ∈ WS) (h2 : Cond.instanceMethod y ∈ WS) (h3 : Cond.selects C y y ∈ WS) (h4 : Cond.initialized C ∈ WS) (h5 : Cond.code y b n r ∈ WS) : GoodIn WS (wsV own idx C y (wz y b n r)) := by
  intro w hw
  unfold wsV at hw
  rcases List.mem_append.mp hw with h | h
  · simp only [List.mem_cons, List.mem_nil_iff, or_false] at h
    rcases h with rfl | rfl | rfl | rfl
    · exact wzG _ h1
    · exact wzG _ h2
    · exact wzG _ h3
    · exact wzG _ h4
  · exact gz h5 _ h
theorem gS {own : String} {idx : Nat} {y : MethodName} {b : ByteArray} {n : Nat} {r : Option FieldType} (h1 : Cond.methodLink own idx y ∈ WS) (h2 : Cond.static y ∈ WS) (h4 : Cond.initialized y.cls ∈ WS) (h5 : Cond.code y b n r ∈ WS) : GoodIn WS (va_wsS own idx y (wz y b n r)) := by
  intro w hw
  unfold va_wsS at hw
  rcases List.mem_append.mp hw with h | h
  · simp only [List.mem_cons, List.mem_nil_iff, or_false] at h
    rcases h with rfl | rfl | rfl
    · exact wzG _ h1
    · exact wzG _ h2
    · exact wzG _ h4
  · exact gz h5 _ h
theorem wA {D : va_G} {A : Nat → Prop} {w : va_W} {H0 H : Heap} {locs : List Loc} (hD : va_D A w) (hS : va_S A H0 H locs) (hA : ∀ q : Nat, H0.size ≤ q → A q) : ∀ q, va_A w H.size q → A q := by
  intro q h
  rcases h with ⟨k, e, h⟩ | h
  · exact hD.2 k (q, e) h
  · exact hA q (Nat.le_trans hS.1 h)
section MYR
variable {p : Program} {l : Launch} {e : Env} {R : Room} {s : State} {m : MethodId} {args : Array Value} {below : List Frame} {meth : Method} {c : Code} {H : Heap} {locs : List Loc} {cells slots : Nat} {Q : State → Prop}
variable {mc ms : Nat} {free : Addr → Prop} {A0 A1 : Nat → Prop} {H0 : Heap} {a : Array Value} {pc : Nat} {ls : Array Slot} {st0 rest : List Value}
/-- as vx_calli, of an answer that is a reference -/
theorem my_callr {S SX : Type} {post : S → Prop} {px : SX → Prop} {B : S → Nat → State → Prop} {BX : String → SX → State → Prop} {AX : Nat → Prop} (hr : vx_Run p l e R s m args below meth c H locs cells slots mc ms (F0 m pc ls st0) rest (va_Qr post B A1 a) (vx_X px BX AX) free) (hS : va_S A0 H0 H locs) (hA : ∀ q, q < H.size → A1 q → A0 q) (hf : ∀ q, free q → A0 q) (hAX : ∀ q, q < H.size → AX q → A0 q)
    (kx : ∀ (E : String) (ce : Cell) (q9 : Addr) (u : SX) (t : State) (H1 : Heap) (locs1 : List Loc), t.heap = H1 → s.vm.Alike t.vm → px u → BX E u t → H.size ≤ H1.size → (∀ q : Nat, q < H.size → ¬ AX q → H1[q]? = H[q]?) → va_S A0 H0 H1 locs1 → H1[q9]? = some ce → ce.vm = .none → s.vm.findClass E = some ce.cls → vx_W p l e R s m args below meth c H1 locs1 (cells + mc) (slots + ms) Q (F0 m pc ls rest) q9)
    (kk : ∀ (u : S) (r : Nat) (t : State) (H1 : Heap) (locs1 : List Loc), t.heap = H1 → s.vm.Alike t.vm → post u → B u r t → H.size ≤ H1.size → (∀ q : Nat, q < H.size → ¬ A1 q → H1[q]? = H[q]?) → va_S A0 H0 H1 locs1 → W p l e R s m args below meth c H1 locs1 (cells + mc) (slots + ms) Q (F0 m (pc + 3) ls (.ref r :: rest))) : W p l e R s m args below meth c H locs cells slots Q (F0 m pc ls st0) := by
  intro T hT X
  rcases hr T hT X with ⟨v, st₀, t, T', L, h0, X', hL, e1, e2, ⟨⟨u, r, hv, hp, hb⟩, hF⟩, st⟩ | ⟨q, st₀, t, T', L, E, ce, h0, X', hL, e1, e2, ⟨u, hp, hb, hF⟩, hce, hcv, hcl, st⟩
  · cases hv
    obtain ⟨k1, k2, k3⟩ := vx_keep h0 e1 hS hA hf hL hF
    obtain ⟨t2, a1, b1⟩ := kk u r t T'.heap (locs ++ L) e1.symm (by rw [← e2]; exact X'.warmed.alike) hp hb k1 k2 k3 T' rfl X'
    exact ⟨t2, st t2 a1, b1⟩
  · obtain ⟨k1, k2, k3⟩ := vx_keep h0 e1 hS hAX hf hL hF
    obtain ⟨t2, a1, b1⟩ := kx E ce q u t T'.heap (locs ++ L) e1.symm (by rw [← e2]; exact X'.warmed.alike) hp hb k1 k2 k3 (by rw [e1]; exact hce) hcv hcl T' rfl X'
    exact ⟨t2, st.trans a1, b1⟩
end MYR
section JJ
variable {p : Program} {l : Launch} {e : Env} {R : Room} {s : State} {m : MethodId} {args : Array Value} {below : List Frame} {meth : Method} {c : Code} {D : va_G} {cA : Nat → ClassId} {A : Nat → Prop} {nL : Nat}
variable {w : va_W} {k n : Nat} {Q : State → Prop} {pc : Nat} {lv : List (Nat × Value)} {st : List Value} {cc : ByteArray} {own : String}
def J (p : Program) (l : Launch) (e : Env) (R : Room) (s : State) (m : MethodId) (args : Array Value) (below : List Frame) (meth : Method) (c : Code) (nL : Nat) (D : va_G) (A : Nat → Prop) (w : va_W) (k n : Nat) (Q : State → Prop) (pc : Nat) (lv : List (Nat × Value)) (st : List Value) : Prop :=
  ∀ (H : Heap) (locs : List Loc) (ls : Array Slot), va_P D CL w H → va_D A w → va_S A s.heap H locs → lv_has ls nL lv → W p l e R s m args below meth c H locs k n Q (F0 m pc ls st)
/-- an exception q of the class E over the frame -/
def JX (p : Program) (l : Launch) (e : Env) (R : Room) (s : State) (m : MethodId) (args : Array Value) (below : List Frame) (meth : Method) (c : Code) (nL : Nat) (D : va_G) (A : Nat → Prop) (w : va_W) (k n : Nat) (Q : State → Prop) (pc : Nat) (lv : List (Nat × Value)) (st : List Value) (E : String) : Prop :=
  ∀ (H : Heap) (locs : List Loc) (ls : Array Slot) (q : Addr) (ce : Cell), va_P D CL w H → va_D A w → va_S A s.heap H locs → lv_has ls nL lv → H[q]? = some ce → ce.vm = .none → s.vm.findClass E = some ce.cls → vx_W p l e R s m args below meth c H locs k n Q (F0 m pc ls st) q
theorem j_aload_n (G : GX p s m args c cc nL own D cA A) {kk : Fin 4} {i : Nat} {x : Nat} (hdg : decode cc pc = .ok (.aload_n kk, 1)) (hi : (kk : Nat) = i) (q : Nat) (h : lv[q]? = some (i, .ref x)) (K : J p l e R s m args below meth c nL D A w k n Q (pc + 1) lv (.ref x :: st)) : J p l e R s m args below meth c nL D A w k n Q (pc) lv st :=
  fun H locs ls hP hD hS hl => lv_aload_n G.1 G.2.1 hdg hi (lv_at hl q h) (K H locs ls hP hD hS hl)
theorem j_iload_n (G : GX p s m args c cc nL own D cA A) {kk : Fin 4} {i : Nat} {x : Int32} (hdg : decode cc pc = .ok (.iload_n kk, 1)) (hi : (kk : Nat) = i) (q : Nat) (h : lv[q]? = some (i, .int x)) (K : J p l e R s m args below meth c nL D A w k n Q (pc + 1) lv (.int x :: st)) : J p l e R s m args below meth c nL D A w k n Q (pc) lv st :=
  fun H locs ls hP hD hS hl => lv_iload_n G.1 G.2.1 hdg hi (lv_at hl q h) (K H locs ls hP hD hS hl)
theorem j_lload_n (G : GX p s m args c cc nL own D cA A) {kk : Fin 4} {i : Nat} {x : Int64} (hdg : decode cc pc = .ok (.lload_n kk, 1)) (hi : (kk : Nat) = i) (q : Nat) (h : lv[q]? = some (i, .long x)) (K : J p l e R s m args below meth c nL D A w k n Q (pc + 1) lv (.long x :: st)) : J p l e R s m args below meth c nL D A w k n Q (pc) lv st :=
  fun H locs ls hP hD hS hl => lv_lload_n G.1 G.2.1 hdg hi (lv_at hl q h) (K H locs ls hP hD hS hl)
theorem j_aload (G : GX p s m args c cc nL own D cA A) {i : Nat} {x : Nat} (hdg : decode cc pc = .ok (.aload i, 2)) (q : Nat) (h : lv[q]? = some (i, .ref x)) (K : J p l e R s m args below meth c nL D A w k n Q (pc + 2) lv (.ref x :: st)) : J p l e R s m args below meth c nL D A w k n Q (pc) lv st :=
  fun H locs ls hP hD hS hl => lv_aload G.1 G.2.1 hdg (lv_at hl q h) (K H locs ls hP hD hS hl)
theorem j_iload (G : GX p s m args c cc nL own D cA A) {i : Nat} {x : Int32} (hdg : decode cc pc = .ok (.iload i, 2)) (q : Nat) (h : lv[q]? = some (i, .int x)) (K : J p l e R s m args below meth c nL D A w k n Q (pc + 2) lv (.int x :: st)) : J p l e R s m args below meth c nL D A w k n Q (pc) lv st :=
  fun H locs ls hP hD hS hl => lv_iload G.1 G.2.1 hdg (lv_at hl q h) (K H locs ls hP hD hS hl)
theorem j_fload (G : GX p s m args c cc nL own D cA A) {i : Nat} {x : UInt32} (hdg : decode cc pc = .ok (.fload i, 2)) (q : Nat) (h : lv[q]? = some (i, .float x)) (K : J p l e R s m args below meth c nL D A w k n Q (pc + 2) lv (.float x :: st)) : J p l e R s m args below meth c nL D A w k n Q (pc) lv st :=
  fun H locs ls hP hD hS hl => lv_fload G.1 G.2.1 hdg (lv_at hl q h) (K H locs ls hP hD hS hl)
theorem j_dload (G : GX p s m args c cc nL own D cA A) {i : Nat} {x : UInt64} (hdg : decode cc pc = .ok (.dload i, 2)) (q : Nat) (h : lv[q]? = some (i, .double x)) (K : J p l e R s m args below meth c nL D A w k n Q (pc + 2) lv (.double x :: st)) : J p l e R s m args below meth c nL D A w k n Q (pc) lv st :=
  fun H locs ls hP hD hS hl => lv_dload G.1 G.2.1 hdg (lv_at hl q h) (K H locs ls hP hD hS hl)
theorem j_aload_nN (G : GX p s m args c cc nL own D cA A) {kk : Fin 4} {i : Nat} (hdg : decode cc pc = .ok (.aload_n kk, 1)) (hi : (kk : Nat) = i) (q : Nat) (h : lv[q]? = some (i, .null)) (K : J p l e R s m args below meth c nL D A w k n Q (pc + 1) lv (.null :: st)) : J p l e R s m args below meth c nL D A w k n Q (pc) lv st :=
  fun H locs ls hP hD hS hl => lv_aload_nN G.1 G.2.1 hdg hi (lv_at hl q h) (K H locs ls hP hD hS hl)
theorem j_aloadN (G : GX p s m args c cc nL own D cA A) {i : Nat} (hdg : decode cc pc = .ok (.aload i, 2)) (q : Nat) (h : lv[q]? = some (i, .null)) (K : J p l e R s m args below meth c nL D A w k n Q (pc + 2) lv (.null :: st)) : J p l e R s m args below meth c nL D A w k n Q (pc) lv st :=
  fun H locs ls hP hD hS hl => lv_aloadN G.1 G.2.1 hdg (lv_at hl q h) (K H locs ls hP hD hS hl)
theorem j_istore_n (G : GX p s m args c cc nL own D cA A) {kk : Fin 4} {i : Nat} {x : Int32} {lv' : List (Nat × Value)} (hdg : decode cc pc = .ok (.istore_n kk, 1)) (hi : (kk : Nat) = i) (hn : i < nL) (hl9 : (i, Value.int x) :: lv.filter (fun q => !(q.1 == i) && !(q.1 + 1 == i && q.2.category == 2)) = lv') (K : J p l e R s m args below meth c nL D A w k n Q (pc + 1) lv' st) : J p l e R s m args below meth c nL D A w k n Q (pc) lv (.int x :: st) :=
  fun H locs ls hP hD hS hl => lv_istore_n G.1 G.2.1 hdg hi hl hn hl9 (fun ls2 hl2 => K H locs ls2 hP hD hS hl2)
theorem j_astore_n (G : GX p s m args c cc nL own D cA A) {kk : Fin 4} {i : Nat} {x : Nat} {lv' : List (Nat × Value)} (hdg : decode cc pc = .ok (.astore_n kk, 1)) (hi : (kk : Nat) = i) (hn : i < nL) (hl9 : (i, Value.ref x) :: lv.filter (fun q => !(q.1 == i) && !(q.1 + 1 == i && q.2.category == 2)) = lv') (K : J p l e R s m args below meth c nL D A w k n Q (pc + 1) lv' st) : J p l e R s m args below meth c nL D A w k n Q (pc) lv (.ref x :: st) :=
  fun H locs ls hP hD hS hl => lv_astore_n G.1 G.2.1 hdg hi hl hn hl9 (fun ls2 hl2 => K H locs ls2 hP hD hS hl2)
theorem j_lstore_n (G : GX p s m args c cc nL own D cA A) {kk : Fin 4} {i : Nat} {x : Int64} {lv' : List (Nat × Value)} (hdg : decode cc pc = .ok (.lstore_n kk, 1)) (hi : (kk : Nat) = i) (hn : i + 1 < nL) (hl9 : (i, Value.long x) :: lv.filter (fun q => !(q.1 == i) && (!(q.1 == i + 1) && !(q.1 + 1 == i && q.2.category == 2))) = lv') (K : J p l e R s m args below meth c nL D A w k n Q (pc + 1) lv' st) : J p l e R s m args below meth c nL D A w k n Q (pc) lv (.long x :: st) :=
  fun H locs ls hP hD hS hl => lv_lstore_n G.1 G.2.1 hdg hi hl hn hl9 (fun ls2 hl2 => K H locs ls2 hP hD hS hl2)
theorem j_istore (G : GX p s m args c cc nL own D cA A) {i : Nat} {x : Int32} {lv' : List (Nat × Value)} (hdg : decode cc pc = .ok (.istore i, 2)) (hn : i < nL) (hl9 : (i, Value.int x) :: lv.filter (fun q => !(q.1 == i) && !(q.1 + 1 == i && q.2.category == 2)) = lv') (K : J p l e R s m args below meth c nL D A w k n Q (pc + 2) lv' st) : J p l e R s m args below meth c nL D A w k n Q (pc) lv (.int x :: st) :=
  fun H locs ls hP hD hS hl => lv_istore G.1 G.2.1 hdg hl hn hl9 (fun ls2 hl2 => K H locs ls2 hP hD hS hl2)
theorem j_astore (G : GX p s m args c cc nL own D cA A) {i : Nat} {x : Nat} {lv' : List (Nat × Value)} (hdg : decode cc pc = .ok (.astore i, 2)) (hn : i < nL) (hl9 : (i, Value.ref x) :: lv.filter (fun q => !(q.1 == i) && !(q.1 + 1 == i && q.2.category == 2)) = lv') (K : J p l e R s m args below meth c nL D A w k n Q (pc + 2) lv' st) : J p l e R s m args below meth c nL D A w k n Q (pc) lv (.ref x :: st) :=
  fun H locs ls hP hD hS hl => lv_astore G.1 G.2.1 hdg hl hn hl9 (fun ls2 hl2 => K H locs ls2 hP hD hS hl2)
theorem j_fstore (G : GX p s m args c cc nL own D cA A) {i : Nat} {x : UInt32} {lv' : List (Nat × Value)} (hdg : decode cc pc = .ok (.fstore i, 2)) (hn : i < nL) (hl9 : (i, Value.float x) :: lv.filter (fun q => !(q.1 == i) && !(q.1 + 1 == i && q.2.category == 2)) = lv') (K : J p l e R s m args below meth c nL D A w k n Q (pc + 2) lv' st) : J p l e R s m args below meth c nL D A w k n Q (pc) lv (.float x :: st) :=
  fun H locs ls hP hD hS hl => lv_fstore G.1 G.2.1 hdg hl hn hl9 (fun ls2 hl2 => K H locs ls2 hP hD hS hl2)
theorem j_dstore (G : GX p s m args c cc nL own D cA A) {i : Nat} {x : UInt64} {lv' : List (Nat × Value)} (hdg : decode cc pc = .ok (.dstore i, 2)) (hn : i + 1 < nL) (hl9 : (i, Value.double x) :: lv.filter (fun q => !(q.1 == i) && (!(q.1 == i + 1) && !(q.1 + 1 == i && q.2.category == 2))) = lv') (K : J p l e R s m args below meth c nL D A w k n Q (pc + 2) lv' st) : J p l e R s m args below meth c nL D A w k n Q (pc) lv (.double x :: st) :=
  fun H locs ls hP hD hS hl => lv_dstore G.1 G.2.1 hdg hl hn hl9 (fun ls2 hl2 => K H locs ls2 hP hD hS hl2)
theorem j_astore_nN (G : GX p s m args c cc nL own D cA A) {kk : Fin 4} {i : Nat} {lv' : List (Nat × Value)} (hdg : decode cc pc = .ok (.astore_n kk, 1)) (hi : (kk : Nat) = i) (hn : i < nL) (hl9 : (i, Value.null) :: lv.filter (fun q => !(q.1 == i) && !(q.1 + 1 == i && q.2.category == 2)) = lv') (K : J p l e R s m args below meth c nL D A w k n Q (pc + 1) lv' st) : J p l e R s m args below meth c nL D A w k n Q (pc) lv (.null :: st) :=
  fun H locs ls hP hD hS hl => lv_astore_nN G.1 G.2.1 hdg hi hl hn hl9 (fun ls2 hl2 => K H locs ls2 hP hD hS hl2)
theorem j_astoreN (G : GX p s m args c cc nL own D cA A) {i : Nat} {lv' : List (Nat × Value)} (hdg : decode cc pc = .ok (.astore i, 2)) (hn : i < nL) (hl9 : (i, Value.null) :: lv.filter (fun q => !(q.1 == i) && !(q.1 + 1 == i && q.2.category == 2)) = lv') (K : J p l e R s m args below meth c nL D A w k n Q (pc + 2) lv' st) : J p l e R s m args below meth c nL D A w k n Q (pc) lv (.null :: st) :=
  fun H locs ls hP hD hS hl => lv_astoreN G.1 G.2.1 hdg hl hn hl9 (fun ls2 hl2 => K H locs ls2 hP hD hS hl2)
theorem j_iinc (G : GX p s m args c cc nL own D cA A) {i : Nat} {nn : Int} {x v : Int32} {lv' : List (Nat × Value)} (hdg : decode cc pc = .ok (.iinc i nn, 3)) (q : Nat) (h : lv[q]? = some (i, .int x)) (hv : x + Int32.ofInt nn = v) (hn : i < nL) (hl9 : (i, Value.int v) :: lv.filter (fun q => !(q.1 == i) && !(q.1 + 1 == i && q.2.category == 2)) = lv') (K : J p l e R s m args below meth c nL D A w k n Q (pc + 3) lv' st) : J p l e R s m args below meth c nL D A w k n Q (pc) lv st :=
  fun H locs ls hP hD hS hl => lv_iinc G.1 G.2.1 hdg hl h hv hn hl9 (fun ls2 hl2 => K H locs ls2 hP hD hS hl2)
theorem j_iconst (G : GX p s m args c cc nL own D cA A) {nn : Int} {v : Int32} (hdg : decode cc pc = .ok (.iconst nn, 1)) (hv : Int32.ofInt nn = v) (K : J p l e R s m args below meth c nL D A w k n Q (pc + 1) lv (.int v :: st)) : J p l e R s m args below meth c nL D A w k n Q (pc) lv st :=
  fun H locs ls hP hD hS hl => lv_iconst G.1 G.2.1 hdg hv (K H locs ls hP hD hS hl)
theorem j_lconst (G : GX p s m args c cc nL own D cA A) {nn : Fin 2} {v : Int64} (hdg : decode cc pc = .ok (.lconst nn, 1)) (hv : Int64.ofNat (nn : Nat) = v) (K : J p l e R s m args below meth c nL D A w k n Q (pc + 1) lv (.long v :: st)) : J p l e R s m args below meth c nL D A w k n Q (pc) lv st :=
  fun H locs ls hP hD hS hl => lv_lconst G.1 G.2.1 hdg hv (K H locs ls hP hD hS hl)
theorem j_bipush (G : GX p s m args c cc nL own D cA A) {nn : Int} {v : Int32} (hdg : decode cc pc = .ok (.bipush nn, 2)) (hv : (Int8.ofInt nn).toInt32 = v) (K : J p l e R s m args below meth c nL D A w k n Q (pc + 2) lv (.int v :: st)) : J p l e R s m args below meth c nL D A w k n Q (pc) lv st :=
  fun H locs ls hP hD hS hl => lv_bipush G.1 G.2.1 hdg hv (K H locs ls hP hD hS hl)
theorem j_sipush (G : GX p s m args c cc nL own D cA A) {nn : Int} {v : Int32} (hdg : decode cc pc = .ok (.sipush nn, 3)) (hv : (Int16.ofInt nn).toInt32 = v) (K : J p l e R s m args below meth c nL D A w k n Q (pc + 3) lv (.int v :: st)) : J p l e R s m args below meth c nL D A w k n Q (pc) lv st :=
  fun H locs ls hP hD hS hl => lv_sipush G.1 G.2.1 hdg hv (K H locs ls hP hD hS hl)
theorem j_iadd (G : GX p s m args c cc nL own D cA A) {x y : Int32} (hdg : decode cc pc = .ok (.iadd, 1)) (K : J p l e R s m args below meth c nL D A w k n Q (pc + 1) lv (.int (x + y) :: st)) : J p l e R s m args below meth c nL D A w k n Q (pc) lv (.int y :: .int x :: st) :=
  fun H locs ls hP hD hS hl => lv_iadd G.1 G.2.1 hdg (K H locs ls hP hD hS hl)
theorem j_isub (G : GX p s m args c cc nL own D cA A) {x y : Int32} (hdg : decode cc pc = .ok (.isub, 1)) (K : J p l e R s m args below meth c nL D A w k n Q (pc + 1) lv (.int (x - y) :: st)) : J p l e R s m args below meth c nL D A w k n Q (pc) lv (.int y :: .int x :: st) :=
  fun H locs ls hP hD hS hl => lv_isub G.1 G.2.1 hdg (K H locs ls hP hD hS hl)
theorem j_imul (G : GX p s m args c cc nL own D cA A) {x y : Int32} (hdg : decode cc pc = .ok (.imul, 1)) (K : J p l e R s m args below meth c nL D A w k n Q (pc + 1) lv (.int (x * y) :: st)) : J p l e R s m args below meth c nL D A w k n Q (pc) lv (.int y :: .int x :: st) :=
  fun H locs ls hP hD hS hl => lv_imul G.1 G.2.1 hdg (K H locs ls hP hD hS hl)
theorem j_iand (G : GX p s m args c cc nL own D cA A) {x y : Int32} (hdg : decode cc pc = .ok (.iand, 1)) (K : J p l e R s m args below meth c nL D A w k n Q (pc + 1) lv (.int (x &&& y) :: st)) : J p l e R s m args below meth c nL D A w k n Q (pc) lv (.int y :: .int x :: st) :=
  fun H locs ls hP hD hS hl => lv_iand G.1 G.2.1 hdg (K H locs ls hP hD hS hl)
theorem j_idiv (G : GX p s m args c cc nL own D cA A) {x y : Int32} (hdg : decode cc pc = .ok (.idiv, 1)) (hne : ¬ y = 0) (K : J p l e R s m args below meth c nL D A w k n Q (pc + 1) lv (.int (x / y) :: st)) : J p l e R s m args below meth c nL D A w k n Q (pc) lv (.int y :: .int x :: st) :=
  fun H locs ls hP hD hS hl => lv_idiv G.1 G.2.1 hdg hne (K H locs ls hP hD hS hl)
theorem j_ladd (G : GX p s m args c cc nL own D cA A) {x y : Int64} (hdg : decode cc pc = .ok (.ladd, 1)) (K : J p l e R s m args below meth c nL D A w k n Q (pc + 1) lv (.long (x + y) :: st)) : J p l e R s m args below meth c nL D A w k n Q (pc) lv (.long y :: .long x :: st) :=
  fun H locs ls hP hD hS hl => lv_ladd G.1 G.2.1 hdg (K H locs ls hP hD hS hl)
theorem j_lsub (G : GX p s m args c cc nL own D cA A) {x y : Int64} (hdg : decode cc pc = .ok (.lsub, 1)) (K : J p l e R s m args below meth c nL D A w k n Q (pc + 1) lv (.long (x - y) :: st)) : J p l e R s m args below meth c nL D A w k n Q (pc) lv (.long y :: .long x :: st) :=
  fun H locs ls hP hD hS hl => lv_lsub G.1 G.2.1 hdg (K H locs ls hP hD hS hl)
theorem j_lmul (G : GX p s m args c cc nL own D cA A) {x y : Int64} (hdg : decode cc pc = .ok (.lmul, 1)) (K : J p l e R s m args below meth c nL D A w k n Q (pc + 1) lv (.long (x * y) :: st)) : J p l e R s m args below meth c nL D A w k n Q (pc) lv (.long y :: .long x :: st) :=
  fun H locs ls hP hD hS hl => lv_lmul G.1 G.2.1 hdg (K H locs ls hP hD hS hl)
theorem j_ldiv (G : GX p s m args c cc nL own D cA A) {x y : Int64} (hdg : decode cc pc = .ok (.ldiv, 1)) (hne : ¬ y = 0) (K : J p l e R s m args below meth c nL D A w k n Q (pc + 1) lv (.long (x / y) :: st)) : J p l e R s m args below meth c nL D A w k n Q (pc) lv (.long y :: .long x :: st) :=
  fun H locs ls hP hD hS hl => lv_ldiv G.1 G.2.1 hdg hne (K H locs ls hP hD hS hl)
theorem j_i2l (G : GX p s m args c cc nL own D cA A) {x : Int32} (hdg : decode cc pc = .ok (.i2l, 1)) (K : J p l e R s m args below meth c nL D A w k n Q (pc + 1) lv (.long x.toInt64 :: st)) : J p l e R s m args below meth c nL D A w k n Q (pc) lv (.int x :: st) :=
  fun H locs ls hP hD hS hl => lv_i2l G.1 G.2.1 hdg rfl (K H locs ls hP hD hS hl)
theorem j_l2i (G : GX p s m args c cc nL own D cA A) {x : Int64} (hdg : decode cc pc = .ok (.l2i, 1)) (K : J p l e R s m args below meth c nL D A w k n Q (pc + 1) lv (.int x.toInt32 :: st)) : J p l e R s m args below meth c nL D A w k n Q (pc) lv (.long x :: st) :=
  fun H locs ls hP hD hS hl => lv_l2i G.1 G.2.1 hdg rfl (K H locs ls hP hD hS hl)
theorem j_dup (G : GX p s m args c cc nL own D cA A) {va : Value} (hdg : decode cc pc = .ok (.dup, 1)) (hva : va.category = 1) (K : J p l e R s m args below meth c nL D A w k n Q (pc + 1) lv (va :: va :: st)) : J p l e R s m args below meth c nL D A w k n Q (pc) lv (va :: st) :=
  fun H locs ls hP hD hS hl => lv_dup G.1 G.2.1 hdg hva (K H locs ls hP hD hS hl)
theorem j_dup2 (G : GX p s m args c cc nL own D cA A) {va vb : Value} (hdg : decode cc pc = .ok (.dup2, 1)) (hva : va.category = 1) (hvb : vb.category = 1) (K : J p l e R s m args below meth c nL D A w k n Q (pc + 1) lv (va :: vb :: va :: vb :: st)) : J p l e R s m args below meth c nL D A w k n Q (pc) lv (va :: vb :: st) :=
  fun H locs ls hP hD hS hl => lv_dup2_11 G.1 G.2.1 hdg hva hvb (K H locs ls hP hD hS hl)
theorem j_pop (G : GX p s m args c cc nL own D cA A) {va : Value} (hdg : decode cc pc = .ok (.pop, 1)) (hva : va.category = 1) (K : J p l e R s m args below meth c nL D A w k n Q (pc + 1) lv st) : J p l e R s m args below meth c nL D A w k n Q (pc) lv (va :: st) :=
  fun H locs ls hP hD hS hl => lv_pop G.1 G.2.1 hdg hva (K H locs ls hP hD hS hl)
theorem j_goto (G : GX p s m args c cc nL own D cA A) {off : Int} {tgt : Nat} (hdg : decode cc pc = .ok (.goto off, 3)) (ht : (pc : Int) + off = (tgt : Int)) (K : J p l e R s m args below meth c nL D A w k n Q (tgt) lv st) : J p l e R s m args below meth c nL D A w k n Q (pc) lv st :=
  fun H locs ls hP hD hS hl => lv_goto G.1 G.2.1 hdg ht (K H locs ls hP hD hS hl)
theorem j_lcmp (G : GX p s m args c cc nL own D cA A) {x y : Int64} (hdg : decode cc pc = .ok (.lcmp, 1)) (K : J p l e R s m args below meth c nL D A w k n Q (pc + 1) lv (.int (lg_cmp x y) :: st)) : J p l e R s m args below meth c nL D A w k n Q (pc) lv (.long y :: .long x :: st) :=
  fun H locs ls hP hD hS hl => W.lcmp G.1 G.2.1 hdg (K H locs ls hP hD hS hl)
theorem j_if_eq (G : GX p s m args c cc nL own D cA A) {x : Int32} {off : Int} {tgt : Nat} (hdg : decode cc pc = .ok (.ifCond .eq off, 3)) (ht : (pc : Int) + off = (tgt : Int)) (kt : x = 0 → J p l e R s m args below meth c nL D A w k n Q (tgt) lv st) (kf : ¬ x = 0 → J p l e R s m args below meth c nL D A w k n Q (pc + 3) lv st) : J p l e R s m args below meth c nL D A w k n Q (pc) lv (.int x :: st) :=
  fun H locs ls hP hD hS hl => lv_if_eq G.1 G.2.1 hdg ht (fun h => kt h H locs ls hP hD hS hl) (fun h => kf h H locs ls hP hD hS hl)
theorem j_if_ne (G : GX p s m args c cc nL own D cA A) {x : Int32} {off : Int} {tgt : Nat} (hdg : decode cc pc = .ok (.ifCond .ne off, 3)) (ht : (pc : Int) + off = (tgt : Int)) (kt : ¬ x = 0 → J p l e R s m args below meth c nL D A w k n Q (tgt) lv st) (kf : x = 0 → J p l e R s m args below meth c nL D A w k n Q (pc + 3) lv st) : J p l e R s m args below meth c nL D A w k n Q (pc) lv (.int x :: st) :=
  fun H locs ls hP hD hS hl => lv_if_ne G.1 G.2.1 hdg ht (fun h => kt h H locs ls hP hD hS hl) (fun h => kf h H locs ls hP hD hS hl)
theorem j_if_lt (G : GX p s m args c cc nL own D cA A) {x : Int32} {off : Int} {tgt : Nat} (hdg : decode cc pc = .ok (.ifCond .lt off, 3)) (ht : (pc : Int) + off = (tgt : Int)) (kt : x < 0 → J p l e R s m args below meth c nL D A w k n Q (tgt) lv st) (kf : ¬ x < 0 → J p l e R s m args below meth c nL D A w k n Q (pc + 3) lv st) : J p l e R s m args below meth c nL D A w k n Q (pc) lv (.int x :: st) :=
  fun H locs ls hP hD hS hl => lv_if_lt G.1 G.2.1 hdg ht (fun h => kt h H locs ls hP hD hS hl) (fun h => kf h H locs ls hP hD hS hl)
theorem j_if_ge (G : GX p s m args c cc nL own D cA A) {x : Int32} {off : Int} {tgt : Nat} (hdg : decode cc pc = .ok (.ifCond .ge off, 3)) (ht : (pc : Int) + off = (tgt : Int)) (kt : 0 ≤ x → J p l e R s m args below meth c nL D A w k n Q (tgt) lv st) (kf : ¬ 0 ≤ x → J p l e R s m args below meth c nL D A w k n Q (pc + 3) lv st) : J p l e R s m args below meth c nL D A w k n Q (pc) lv (.int x :: st) :=
  fun H locs ls hP hD hS hl => lv_if_ge G.1 G.2.1 hdg ht (fun h => kt h H locs ls hP hD hS hl) (fun h => kf h H locs ls hP hD hS hl)
theorem j_if_gt (G : GX p s m args c cc nL own D cA A) {x : Int32} {off : Int} {tgt : Nat} (hdg : decode cc pc = .ok (.ifCond .gt off, 3)) (ht : (pc : Int) + off = (tgt : Int)) (kt : 0 < x → J p l e R s m args below meth c nL D A w k n Q (tgt) lv st) (kf : ¬ 0 < x → J p l e R s m args below meth c nL D A w k n Q (pc + 3) lv st) : J p l e R s m args below meth c nL D A w k n Q (pc) lv (.int x :: st) :=
  fun H locs ls hP hD hS hl => lv_if_gt G.1 G.2.1 hdg ht (fun h => kt h H locs ls hP hD hS hl) (fun h => kf h H locs ls hP hD hS hl)
theorem j_if_le (G : GX p s m args c cc nL own D cA A) {x : Int32} {off : Int} {tgt : Nat} (hdg : decode cc pc = .ok (.ifCond .le off, 3)) (ht : (pc : Int) + off = (tgt : Int)) (kt : x ≤ 0 → J p l e R s m args below meth c nL D A w k n Q (tgt) lv st) (kf : ¬ x ≤ 0 → J p l e R s m args below meth c nL D A w k n Q (pc + 3) lv st) : J p l e R s m args below meth c nL D A w k n Q (pc) lv (.int x :: st) :=
  fun H locs ls hP hD hS hl => lv_if_le G.1 G.2.1 hdg ht (fun h => kt h H locs ls hP hD hS hl) (fun h => kf h H locs ls hP hD hS hl)
theorem j_icmp_eq (G : GX p s m args c cc nL own D cA A) {x y : Int32} {off : Int} {tgt : Nat} (hdg : decode cc pc = .ok (.if_icmp .eq off, 3)) (ht : (pc : Int) + off = (tgt : Int)) (kt : x = y → J p l e R s m args below meth c nL D A w k n Q (tgt) lv st) (kf : ¬ x = y → J p l e R s m args below meth c nL D A w k n Q (pc + 3) lv st) : J p l e R s m args below meth c nL D A w k n Q (pc) lv (.int y :: .int x :: st) :=
  fun H locs ls hP hD hS hl => lv_icmp_eq G.1 G.2.1 hdg ht (fun h => kt h H locs ls hP hD hS hl) (fun h => kf h H locs ls hP hD hS hl)
theorem j_icmp_ne (G : GX p s m args c cc nL own D cA A) {x y : Int32} {off : Int} {tgt : Nat} (hdg : decode cc pc = .ok (.if_icmp .ne off, 3)) (ht : (pc : Int) + off = (tgt : Int)) (kt : ¬ x = y → J p l e R s m args below meth c nL D A w k n Q (tgt) lv st) (kf : x = y → J p l e R s m args below meth c nL D A w k n Q (pc + 3) lv st) : J p l e R s m args below meth c nL D A w k n Q (pc) lv (.int y :: .int x :: st) :=
  fun H locs ls hP hD hS hl => lv_icmp_ne G.1 G.2.1 hdg ht (fun h => kt h H locs ls hP hD hS hl) (fun h => kf h H locs ls hP hD hS hl)
theorem j_icmp_lt (G : GX p s m args c cc nL own D cA A) {x y : Int32} {off : Int} {tgt : Nat} (hdg : decode cc pc = .ok (.if_icmp .lt off, 3)) (ht : (pc : Int) + off = (tgt : Int)) (kt : x < y → J p l e R s m args below meth c nL D A w k n Q (tgt) lv st) (kf : ¬ x < y → J p l e R s m args below meth c nL D A w k n Q (pc + 3) lv st) : J p l e R s m args below meth c nL D A w k n Q (pc) lv (.int y :: .int x :: st) :=
  fun H locs ls hP hD hS hl => lv_icmp_lt G.1 G.2.1 hdg ht (fun h => kt h H locs ls hP hD hS hl) (fun h => kf h H locs ls hP hD hS hl)
theorem j_icmp_ge (G : GX p s m args c cc nL own D cA A) {x y : Int32} {off : Int} {tgt : Nat} (hdg : decode cc pc = .ok (.if_icmp .ge off, 3)) (ht : (pc : Int) + off = (tgt : Int)) (kt : y ≤ x → J p l e R s m args below meth c nL D A w k n Q (tgt) lv st) (kf : ¬ y ≤ x → J p l e R s m args below meth c nL D A w k n Q (pc + 3) lv st) : J p l e R s m args below meth c nL D A w k n Q (pc) lv (.int y :: .int x :: st) :=
  fun H locs ls hP hD hS hl => lv_icmp_ge G.1 G.2.1 hdg ht (fun h => kt h H locs ls hP hD hS hl) (fun h => kf h H locs ls hP hD hS hl)
theorem j_icmp_gt (G : GX p s m args c cc nL own D cA A) {x y : Int32} {off : Int} {tgt : Nat} (hdg : decode cc pc = .ok (.if_icmp .gt off, 3)) (ht : (pc : Int) + off = (tgt : Int)) (kt : y < x → J p l e R s m args below meth c nL D A w k n Q (tgt) lv st) (kf : ¬ y < x → J p l e R s m args below meth c nL D A w k n Q (pc + 3) lv st) : J p l e R s m args below meth c nL D A w k n Q (pc) lv (.int y :: .int x :: st) :=
  fun H locs ls hP hD hS hl => lv_icmp_gt G.1 G.2.1 hdg ht (fun h => kt h H locs ls hP hD hS hl) (fun h => kf h H locs ls hP hD hS hl)
theorem j_icmp_le (G : GX p s m args c cc nL own D cA A) {x y : Int32} {off : Int} {tgt : Nat} (hdg : decode cc pc = .ok (.if_icmp .le off, 3)) (ht : (pc : Int) + off = (tgt : Int)) (kt : x ≤ y → J p l e R s m args below meth c nL D A w k n Q (tgt) lv st) (kf : ¬ x ≤ y → J p l e R s m args below meth c nL D A w k n Q (pc + 3) lv st) : J p l e R s m args below meth c nL D A w k n Q (pc) lv (.int y :: .int x :: st) :=
  fun H locs ls hP hD hS hl => lv_icmp_le G.1 G.2.1 hdg ht (fun h => kt h H locs ls hP hD hS hl) (fun h => kf h H locs ls hP hD hS hl)
theorem j_ifnull_n (G : GX p s m args c cc nL own D cA A) {off : Int} {tgt : Nat} (hdg : decode cc pc = .ok (.ifnull off, 3)) (ht : (pc : Int) + off = (tgt : Int)) (K : J p l e R s m args below meth c nL D A w k n Q (tgt) lv st) : J p l e R s m args below meth c nL D A w k n Q (pc) lv (.null :: st) :=
  fun H locs ls hP hD hS hl => lv_ifnullN G.1 G.2.1 hdg ht (K H locs ls hP hD hS hl)
theorem j_ifnull_r (G : GX p s m args c cc nL own D cA A) {x : Nat} {off : Int} (hdg : decode cc pc = .ok (.ifnull off, 3)) (K : J p l e R s m args below meth c nL D A w k n Q (pc + 3) lv st) : J p l e R s m args below meth c nL D A w k n Q (pc) lv (.ref x :: st) :=
  fun H locs ls hP hD hS hl => lv_ifnull G.1 G.2.1 hdg (K H locs ls hP hD hS hl)
theorem j_ifnonnull_n (G : GX p s m args c cc nL own D cA A) {off : Int} (hdg : decode cc pc = .ok (.ifnonnull off, 3)) (K : J p l e R s m args below meth c nL D A w k n Q (pc + 3) lv st) : J p l e R s m args below meth c nL D A w k n Q (pc) lv (.null :: st) :=
  fun H locs ls hP hD hS hl => lv_ifnonnullN G.1 G.2.1 hdg (K H locs ls hP hD hS hl)
theorem j_ifnonnull_r (G : GX p s m args c cc nL own D cA A) {x : Nat} {off : Int} {tgt : Nat} (hdg : decode cc pc = .ok (.ifnonnull off, 3)) (ht : (pc : Int) + off = (tgt : Int)) (K : J p l e R s m args below meth c nL D A w k n Q (tgt) lv st) : J p l e R s m args below meth c nL D A w k n Q (pc) lv (.ref x :: st) :=
  fun H locs ls hP hD hS hl => lv_ifnonnull G.1 G.2.1 hdg ht (K H locs ls hP hD hS hl)
theorem j_nullc (G : GX p s m args c cc nL own D cA A) (hdg : decode cc pc = .ok (.aconst_null, 1)) (K : J p l e R s m args below meth c nL D A w k n Q (pc + 1) lv (.null :: st)) : J p l e R s m args below meth c nL D A w k n Q (pc) lv st :=
  fun H locs ls hP hD hS hl => lv_null G.1 G.2.1 hdg (K H locs ls hP hD hS hl)
theorem j_w {w' : va_W} (h : w = w') (K : J p l e R s m args below meth c nL D A w' k n Q pc lv st) : J p l e R s m args below meth c nL D A w k n Q pc lv st := h ▸ K
theorem j_cs {k' n' : Nat} (h1 : k ≤ k') (h2 : n ≤ n') (K : J p l e R s m args below meth c nL D A w k' n' Q pc lv st) : J p l e R s m args below meth c nL D A w k n Q pc lv st := fun H locs ls hP hD hS hl => W.widen h1 h2 (K H locs ls hP hD hS hl)
theorem j_sub {lv' : List (Nat × Value)} (ks : List Nat) (h : lv_pick lv ks = lv') (K : J p l e R s m args below meth c nL D A w k n Q pc lv' st) : J p l e R s m args below meth c nL D A w k n Q pc lv st := fun H locs ls hP hD hS hl => K H locs ls hP hD hS (lv_sub hl ks h)
theorem j_st {st' : List Value} (h : st = st') (K : J p l e R s m args below meth c nL D A w k n Q pc lv st') : J p l e R s m args below meth c nL D A w k n Q pc lv st := h ▸ K
theorem j_lv {lv' : List (Nat × Value)} (h : lv = lv') (K : J p l e R s m args below meth c nL D A w k n Q pc lv' st) : J p l e R s m args below meth c nL D A w k n Q pc lv st := h ▸ K
theorem j_topi {x : Int32} (K : ∀ y : Int32, y = x → J p l e R s m args below meth c nL D A w k n Q pc lv (.int y :: st)) : J p l e R s m args below meth c nL D A w k n Q pc lv (.int x :: st) := K x rfl
theorem j_topl {x : Int64} (K : ∀ y : Int64, y = x → J p l e R s m args below meth c nL D A w k n Q pc lv (.long y :: st)) : J p l e R s m args below meth c nL D A w k n Q pc lv (.long x :: st) := K x rfl
theorem j_rwi {x y : Int32} (h : x = y) (K : J p l e R s m args below meth c nL D A w k n Q pc lv (.int y :: st)) : J p l e R s m args below meth c nL D A w k n Q pc lv (.int x :: st) := h ▸ K
theorem j_rwl {x y : Int64} (h : x = y) (K : J p l e R s m args below meth c nL D A w k n Q pc lv (.long y :: st)) : J p l e R s m args below meth c nL D A w k n Q pc lv (.long x :: st) := h ▸ K
/-- a field read -/
theorem j_get (G : GX p s m args c cc nL own D cA A) {ref C : String} {T : u_T} {N ci index : Nat} (hin : ∀ w ∈ u_ws C T N, w ∈ WS) (hc : CL[ci]? = some (C, T, N)) (kf : Nat) (hk : kf < N) (hlink : Cond.fieldLink own index ref (T kf).2.1 (T kf).2.2.1 ∈ WS) (hsame : ref = (T kf).1)
    (q0 : Nat) {a : Nat} {fs : List Value} {v : Value} (he : w[q0]? = some (a, .inr (ci, fs))) (hv : fs[kf]? = some v) (hdg : decode cc pc = .ok (.getfield index, 3))
    (K : J p l e R s m args below meth c nL D A w k n Q (pc + 3) lv (v :: st)) : J p l e R s m args below meth c nL D A w k n Q pc lv (.ref a :: st) := by
  obtain ⟨hx, hb, hml, hown, hts, hK, hA, -⟩ := G
  subst hsame
  exact fun H locs ls hP hD hS hl => va_get (D := D) (C := C) (T := T) (N := N) hx hb hts hin hown hK hP q0 he hc kf hk (hts _ hlink) (fun _ h => h) hv hdg (K H locs ls hP hD hS hl)
theorem j_getN (G : GX p s m args c cc nL own D cA A) {ref C host : String} {T : u_T} {N ci index : Nat} (hin : ∀ w ∈ u_ws C T N, w ∈ WS) (hc : CL[ci]? = some (C, T, N)) (kf : Nat) (hk : kf < N) (hlink : Cond.fieldLinkNest own index ref (T kf).2.1 (T kf).2.2.1 host ∈ NWL) (hsame : ref = (T kf).1)
    (q0 : Nat) {a : Nat} {fs : List Value} {v : Value} (he : w[q0]? = some (a, .inr (ci, fs))) (hv : fs[kf]? = some v) (hdg : decode cc pc = .ok (.getfield index, 3))
    (K : J p l e R s m args below meth c nL D A w k n Q (pc + 3) lv (v :: st)) : J p l e R s m args below meth c nL D A w k n Q pc lv (.ref a :: st) := by
  obtain ⟨hx, hb, hml, hown, hts, hK, hA, hE⟩ := G
  subst hsame
  exact fun H locs ls hP hD hS hl => va_getN (D := D) (C := C) (T := T) (N := N) hx hb hts hin hown hK hP q0 he hc kf hk (va_Nw.use rfl (hE.1 _ hlink)) (fun _ h => h) hv hdg (K H locs ls hP hD hS hl)
/-- a field written -/
theorem j_put (G : GX p s m args c cc nL own D cA A) {ref C : String} {T : u_T} {N ci index : Nat} (hin : ∀ w ∈ u_ws C T N, w ∈ WS) (hc : CL[ci]? = some (C, T, N)) (ty0 : Nat → FieldType) (hty : ∀ k, k < N → parseFieldDescriptor (T k).2.2.1 = some (ty0 k)) (hnm : ∀ a, a < N → ∀ b, b < N → a ≠ b → (T a).2.1 ≠ (T b).2.1) (kf : Nat) (hk : kf < N) (hlink : Cond.fieldLink own index ref (T kf).2.1 (T kf).2.2.1 ∈ WS) (hsame : ref = (T kf).1) (hfin : (T kf).2.2.2 = false)
    (q0 : Nat) {a : Nat} {fs : List Value} {v : Value} {w' : va_W} (he : w[q0]? = some (a, .inr (ci, fs))) (hn : narrow (ty0 kf) v = v) (hfit : fits (ty0 kf) v = true) (hl : kf < fs.length) (hdg : decode cc pc = .ok (.putfield index, 3)) (hw : w.set q0 (a, .inr (ci, fs.set kf v)) = w')
    (K : J p l e R s m args below meth c nL D A w' k n Q (pc + 3) lv st) : J p l e R s m args below meth c nL D A w k n Q pc lv (v :: .ref a :: st) := by
  obtain ⟨hx, hb, hml, hown, hts, hK, hA, -⟩ := G
  subst hsame
  subst hw
  exact fun H locs ls hP hD hS hls => va_put (D := D) (C := C) (T := T) (N := N) hx hb hts hin ty0 hty hnm hown hK hP hD hS q0 he hc kf hk (hts _ hlink) (fun _ h => h) hfin (hty kf hk) hn hfit hl hdg (fun H1 locs1 hP1 hD1 hS1 => K H1 locs1 ls hP1 hD1 hS1 hls)
theorem j_putF (G : GX p s m args c cc nL own D cA A) (hinit : meth.name = "<init>") {ref C : String} {T : u_T} {N ci index : Nat} (hin : ∀ w ∈ u_ws C T N, w ∈ WS) (hc : CL[ci]? = some (C, T, N)) (ty0 : Nat → FieldType) (hty : ∀ k, k < N → parseFieldDescriptor (T k).2.2.1 = some (ty0 k)) (hnm : ∀ a, a < N → ∀ b, b < N → a ≠ b → (T a).2.1 ≠ (T b).2.1) (kf : Nat) (hk : kf < N) (hlink : Cond.fieldLink own index ref (T kf).2.1 (T kf).2.2.1 ∈ WS) (hsame : ref = (T kf).1) (hfin : (T kf).2.2.2 = true) (hdecl : (T kf).1 = own)
    (q0 : Nat) {a : Nat} {fs : List Value} {v : Value} {w' : va_W} (he : w[q0]? = some (a, .inr (ci, fs))) (hn : narrow (ty0 kf) v = v) (hfit : fits (ty0 kf) v = true) (hl : kf < fs.length) (hdg : decode cc pc = .ok (.putfield index, 3)) (hw : w.set q0 (a, .inr (ci, fs.set kf v)) = w')
    (K : J p l e R s m args below meth c nL D A w' k n Q (pc + 3) lv st) : J p l e R s m args below meth c nL D A w k n Q pc lv (v :: .ref a :: st) := by
  obtain ⟨hx, hb, hml, hown, hts, hK, hA, -⟩ := G
  subst hsame
  subst hw
  exact fun H locs ls hP hD hS hls => va_putF (D := D) (C := C) (T := T) (N := N) hx hb hts hin ty0 hty hnm hown hK hP hD hS q0 he hc kf hk (hts _ hlink) (fun _ h => h) hfin hinit hdecl (hty kf hk) hn hfit hl hdg (fun H1 locs1 hP1 hD1 hS1 => K H1 locs1 ls hP1 hD1 hS1 hls)
/-- arrays -/
theorem j_iald (G : GX p s m args c cc nL own D cA A) (q0 : Nat) {a sz : Nat} {f : Nat → Int32} {i : Int32} (ha : w[q0]? = some (a, .inl (cA 0, sz, .inl f))) (hin : vp_in i sz) (hdg : decode cc pc = .ok (.iaload, 1))
    (K : J p l e R s m args below meth c nL D A w k n Q (pc + 1) lv (.int (f i.toNatClampNeg) :: st)) : J p l e R s m args below meth c nL D A w k n Q pc lv (.int i :: .ref a :: st) :=
  fun H locs ls hP hD hS hls => va_iald G.1 G.2.1 G.2.2.2.2.2.1 hP q0 0 ha rfl hin hdg (K H locs ls hP hD hS hls)
theorem j_ialdN (G : GX p s m args c cc nL own D cA A) (q0 : Nat) {a sz j : Nat} {f : Nat → Int32} {i : Int32} (ha : w[q0]? = some (a, .inl (cA 0, sz, .inl f))) (hi : i = nI j) (hj : j < sz) (hsz : sz < 2 ^ 31) (hdg : decode cc pc = .ok (.iaload, 1))
    (K : J p l e R s m args below meth c nL D A w k n Q (pc + 1) lv (.int (f j) :: st)) : J p l e R s m args below meth c nL D A w k n Q pc lv (.int i :: .ref a :: st) := by
  subst hi
  exact j_iald G q0 ha (vp_in_nI hj hsz) hdg (by rw [nI_clamp (Nat.lt_trans hj hsz)]; exact K)
theorem j_iast (G : GX p s m args c cc nL own D cA A) (q0 : Nat) {a sz j : Nat} {f : Nat → Int32} {i x : Int32} {w' : va_W} (ha : w[q0]? = some (a, .inl (cA 0, sz, .inl f))) (hi : i = nI j) (hj : j < sz) (hsz : sz < 2 ^ 31) (hdg : decode cc pc = .ok (.iastore, 1)) (hw : w.set q0 (a, .inl (cA 0, sz, .inl (upd f j x))) = w')
    (K : J p l e R s m args below meth c nL D A w' k n Q (pc + 1) lv st) : J p l e R s m args below meth c nL D A w k n Q pc lv (.int x :: .int i :: .ref a :: st) := by
  subst hi
  subst hw
  have hc : (nI j).toNatClampNeg = j := nI_clamp (Nat.lt_trans hj hsz)
  exact fun H locs ls hP hD hS hls => va_iast G.1 G.2.1 G.2.2.2.2.2.1 hP hD hS q0 0 ha rfl (vp_in_nI hj hsz) hdg (fun H1 locs1 hP1 hD1 hS1 => K H1 locs1 ls (by rw [hc] at hP1; exact hP1) (by rw [hc] at hD1; exact hD1) hS1 hls)
theorem j_caldN (G : GX p s m args c cc nL own D cA A) (q0 : Nat) {a sz j : Nat} {f : Nat → Int32} {i : Int32} (ha : w[q0]? = some (a, .inl (cA 1, sz, .inl f))) (hi : i = nI j) (hj : j < sz) (hsz : sz < 2 ^ 31) (hdg : decode cc pc = .ok (.caload, 1))
    (K : J p l e R s m args below meth c nL D A w k n Q (pc + 1) lv (.int (f j) :: st)) : J p l e R s m args below meth c nL D A w k n Q pc lv (.int i :: .ref a :: st) := by
  subst hi
  exact fun H locs ls hP hD hS hls => va_cald G.1 G.2.1 G.2.2.2.2.2.1 hP q0 1 ha rfl (vp_in_nI hj hsz) hdg (by rw [nI_clamp (Nat.lt_trans hj hsz)]; exact K H locs ls hP hD hS hls)
theorem j_cast (G : GX p s m args c cc nL own D cA A) (q0 : Nat) {a sz j : Nat} {f : Nat → Int32} {i x : Int32} {w' : va_W} (ha : w[q0]? = some (a, .inl (cA 1, sz, .inl f))) (hi : i = nI j) (hj : j < sz) (hsz : sz < 2 ^ 31) (hx : vp_nar .char x = x) (hdg : decode cc pc = .ok (.castore, 1)) (hw : w.set q0 (a, .inl (cA 1, sz, .inl (upd f j x))) = w')
    (K : J p l e R s m args below meth c nL D A w' k n Q (pc + 1) lv st) : J p l e R s m args below meth c nL D A w k n Q pc lv (.int x :: .int i :: .ref a :: st) := by
  subst hi
  subst hw
  have hc : (nI j).toNatClampNeg = j := nI_clamp (Nat.lt_trans hj hsz)
  exact fun H locs ls hP hD hS hls => va_cast G.1 G.2.1 G.2.2.2.2.2.1 hP hD hS q0 1 ha rfl (vp_in_nI hj hsz) hdg (fun H1 locs1 hP1 hD1 hS1 => K H1 locs1 ls (by rw [hc, hx] at hP1; exact hP1) (by rw [hc, hx] at hD1; exact hD1) hS1 hls)
theorem j_aldT (G : GX p s m args c cc nL own D cA A) (q0 t0 : Nat) {C : String} {c2 : ClassId} {a sz j : Nat} {f : Nat → Option Nat} {i : Int32} (ha : w[q0]? = some (a, .inl (c2, sz, .inr (.inr (.inr (.inr f)))))) (ht : (TY cA)[t0]? = some (c2, .object C)) (hi : i = nI j) (hj : j < sz) (hsz : sz < 2 ^ 31) (hdg : decode cc pc = .ok (.aaload, 1))
    (K : J p l e R s m args below meth c nL D A w k n Q (pc + 1) lv (va_rf (f j) :: st)) : J p l e R s m args below meth c nL D A w k n Q pc lv (.int i :: .ref a :: st) := by
  subst hi
  exact fun H locs ls hP hD hS hls => va_aldq G.1 G.2.1 G.2.2.2.2.2.1 hP q0 t0 ha ht (vp_in_nI hj hsz) hdg (by rw [nI_clamp (Nat.lt_trans hj hsz)]; exact K H locs ls hP hD hS hls)
theorem j_astT (G : GX p s m args c cc nL own D cA A) (q0 t0 qk ci : Nat) {r : vw_C} {c2 : ClassId} {a sz j v : Nat} {vs : List Value} {f : Nat → Option Nat} {i : Int32} {w' : va_W} (ha : w[q0]? = some (a, .inl (c2, sz, .inr (.inr (.inr (.inr f)))))) (ht : (TY cA)[t0]? = some (c2, .object r.1)) (hv : w[qk]? = some (v, .inr (ci, vs))) (hc : CL[ci]? = some r) (hi : i = nI j) (hj : j < sz) (hsz : sz < 2 ^ 31) (hdg : decode cc pc = .ok (.aastore, 1)) (hw : w.set q0 (a, .inl (c2, sz, .inr (.inr (.inr (.inr (va_up f j (some v))))))) = w')
    (K : J p l e R s m args below meth c nL D A w' k n Q (pc + 1) lv st) : J p l e R s m args below meth c nL D A w k n Q pc lv (.ref v :: .int i :: .ref a :: st) := by
  subst hi
  subst hw
  have hc9 : (nI j).toNatClampNeg = j := nI_clamp (Nat.lt_trans hj hsz)
  exact fun H locs ls hP hD hS hls => va_astq G.1 G.2.1 G.2.2.2.2.2.1 hP hD hS q0 t0 qk ci ha ht hv hc (vp_in_nI hj hsz) hdg (fun H1 locs1 hP1 hD1 hS1 => K H1 locs1 ls (by rw [hc9] at hP1; exact hP1) (by rw [hc9] at hD1; exact hD1) hS1 hls)
theorem j_alen (G : GX p s m args c cc nL own D cA A) (q0 t0 : Nat) {a : Nat} {c2 : ClassId} {x : vp_A} {ty : FieldType} {v : Int32} (ha : w[q0]? = some (a, .inl (c2, x))) (ht : (TY cA)[t0]? = some (c2, ty)) (hv : Int32.ofNat x.1 = v) (hdg : decode cc pc = .ok (.arraylength, 1))
    (K : J p l e R s m args below meth c nL D A w k n Q (pc + 1) lv (.int v :: st)) : J p l e R s m args below meth c nL D A w k n Q pc lv (.ref a :: st) :=
  fun H locs ls hP hD hS hls => va_alen G.1 G.2.1 G.2.2.2.2.2.1 hP q0 t0 ha ht hv hdg (K H locs ls hP hD hS hls)
/-- a null test of a reference read from an array -/
theorem j_ifnull (G : GX p s m args c cc nL own D cA A) {r : Option Nat} {off : Int} {tgt : Nat} (hdg : decode cc pc = .ok (.ifnull off, 3)) (ht : (pc : Int) + off = (tgt : Int)) (K0 : r = none → J p l e R s m args below meth c nL D A w k n Q tgt lv st) (K1 : ∀ a, r = some a → J p l e R s m args below meth c nL D A w k n Q (pc + 3) lv st) : J p l e R s m args below meth c nL D A w k n Q pc lv (va_rf r :: st) := by
  cases r with
  | none => exact fun H locs ls hP hD hS hls => lv_ifnullN G.1 G.2.1 hdg ht (K0 rfl H locs ls hP hD hS hls)
  | some a => exact fun H locs ls hP hD hS hls => lv_ifnull G.1 G.2.1 hdg (K1 a rfl H locs ls hP hD hS hls)
theorem j_ifnonnull (G : GX p s m args c cc nL own D cA A) {r : Option Nat} {off : Int} {tgt : Nat} (hdg : decode cc pc = .ok (.ifnonnull off, 3)) (ht : (pc : Int) + off = (tgt : Int)) (K0 : r = none → J p l e R s m args below meth c nL D A w k n Q (pc + 3) lv st) (K1 : ∀ a, r = some a → J p l e R s m args below meth c nL D A w k n Q tgt lv st) : J p l e R s m args below meth c nL D A w k n Q pc lv (va_rf r :: st) := by
  cases r with
  | none => exact fun H locs ls hP hD hS hls => lv_ifnonnullN G.1 G.2.1 hdg (K0 rfl H locs ls hP hD hS hls)
  | some a => exact fun H locs ls hP hD hS hls => lv_ifnonnull G.1 G.2.1 hdg ht (K1 a rfl H locs ls hP hD hS hls)
theorem j_null (G : GX p s m args c cc nL own D cA A) (hdg : decode cc pc = .ok (.aconst_null, 1)) (K : J p l e R s m args below meth c nL D A w k n Q (pc + 1) lv (va_rf none :: st)) : J p l e R s m args below meth c nL D A w k n Q pc lv st :=
  fun H locs ls hP hD hS hls => lv_null G.1 G.2.1 hdg (K H locs ls hP hD hS hls)
/-- Math.max, Math.min -/
theorem j_max (G : GX p s m args c cc nL own D cA A) {index : Nat} {x y : Int32} (h1 : Cond.methodLink own index Lib.Math.max.name ∈ WS) (hR : 1 ≤ R.frames ∧ (st.map fun v => v.category).sum + 13 ≤ R.locals ∧ k ≤ R.cells ∧ n ≤ R.slots) (hdg : decode cc pc = .ok (.invokestatic index, 3))
    (K : J p l e R s m args below meth c nL D A w k n Q (pc + 3) lv (.int (if x < y then y else x) :: st)) : J p l e R s m args below meth c nL D A w k n Q pc lv (.int y :: .int x :: st) := by
  obtain ⟨hx, hb, hml, hown, hts, hK, hA, -⟩ := G
  exact fun H locs ls hP hD hS hls => va_mmax hx hb (hml.trans hls.1.symm) hown (hts _ h1) (hts _ wd_573) (hts _ wd_57) (hts _ wd_574) hR.1 hR.2.1 hR.2.2.1 hR.2.2.2 hdg (K H locs ls hP hD hS hls)
theorem j_min (G : GX p s m args c cc nL own D cA A) {index : Nat} {x y : Int32} (h1 : Cond.methodLink own index Lib.Math.min.name ∈ WS) (hR : 1 ≤ R.frames ∧ (st.map fun v => v.category).sum + 13 ≤ R.locals ∧ k ≤ R.cells ∧ n ≤ R.slots) (hdg : decode cc pc = .ok (.invokestatic index, 3))
    (K : J p l e R s m args below meth c nL D A w k n Q (pc + 3) lv (.int (if y < x then y else x) :: st)) : J p l e R s m args below meth c nL D A w k n Q pc lv (.int y :: .int x :: st) := by
  obtain ⟨hx, hb, hml, hown, hts, hK, hA, -⟩ := G
  exact fun H locs ls hP hD hS hls => va_mmin hx hb (hml.trans hls.1.symm) hown (hts _ h1) (hts _ wd_651) (hts _ wd_57) (hts _ wd_652) hR.1 hR.2.1 hR.2.2.1 hR.2.2.2 hdg (K H locs ls hP hD hS hls)
/-! calls -/
theorem PR_blind {w : va_W} {sz : Nat} {av : List Value} : FrameBlind (va_Pc av (PR D cA w sz)) := fun a U g mk h => ⟨h.1, h.2.1, h.2.2.1, va_K.moved (u := U) (U := U.calling g mk a) (Vm.Alike.refl U.vm) h.2.2.2.1, h.2.2.2.2.1, ENV.warm (s := U) (U := U.calling g mk a) (State.WarmedH.refl U) h.2.2.2.2.2⟩
theorem PR_at (G : GX p s m args c cc nL own D cA A) {H : Heap} {locs : List Loc} (hP : va_P D CL w H) (hD : va_D A w) (hS : va_S A s.heap H locs) {U : State} (hU : U.heap = H) (hW : s.WarmedH U.vm) : PR D cA w H.size U := by
  obtain ⟨hx, hb, hml, hown, hts, hK, hA, hE⟩ := G
  refine ⟨by rw [hU], by rw [hU]; exact hP, va_K.moved hW.alike hK, hD.weaken (fun _ _ _ _ => trivial), ?_⟩
  rw [hU]
  exact ENV.warm hW ((hE.kept hS.2.1).narrow (wA (D := D) hD hS hA))
theorem r_V (G : GX p s m args c cc nL own D cA A) {C : String} {index n2 maxL mc ms : Nat} {y : MethodName} {b : ByteArray} {rt : Option FieldType} {rm : Room} {a q0 ci : Nat} {As : List Value} {st0 : List Value} {Qc : Nat → Array Value → State → Outcome → State → Prop} {fs : List Value} {cl1 : u_T} {cl2 : Nat}
    (hM : ∀ sz, Met l y (wz y b maxL rt) rm (va_Pc (.ref a :: As) (PR D cA w sz)) (Qc sz) mc ms (va_A w sz)) (g : GoodIn WS (wsV own index C y (wz y b maxL rt))) (hrm : rm.cells = mc ∧ rm.slots = ms) (hd : y.cls = C ∧ y.cls ≠ "java/lang/invoke/MethodHandle" ∧ y.cls ≠ "java/lang/invoke/VarHandle" ∧ (parseMethodDescriptor y.desc).map (fun d => d.parameters.length) = some n2)
    (hR : rm.frames + 1 ≤ R.frames ∧ 8 + (maxL + 11) + rm.locals ≤ R.locals) (hf : k + mc ≤ R.cells ∧ n + ms ≤ R.slots) (hn : As.length = n2) (hst : st0 = As.reverse ++ .ref a :: st) (hcat : (st.map fun v => v.category).sum ≤ 8) (hc : CL[ci]? = some (C, cl1, cl2)) (he : w[q0]? = some (a, .inr (ci, fs))) (hdg : decode cc pc = .ok (.invokevirtual index, 3))
    {H : Heap} {locs : List Loc} {ls : Array Slot} (hP : va_P D CL w H) (hD : va_D A w) (hS : va_S A s.heap H locs) (hl : lv_has ls nL lv) :
    va_Run p l e R s m args below meth c H locs k n mc ms (F0 m pc ls st0) st (Qc H.size (Value.ref a :: As).toArray) (va_A w H.size) :=
  va_runV (As := As) (rest := st) ⟨G.1, G.2.1, G.2.2.1, G.2.2.2.1, G.2.2.2.2.1⟩ (hM H.size) (cwV n2 G.2.2.2.2.1 g rfl hrm.1 hrm.2 hd hR) ⟨PR_blind, va_recv G.2.2.2.2.2.1 hP hc he, fun U hU hW => ⟨rfl, PR_at G hP hD hS hU hW⟩⟩ rfl hn hl.1 hst (lv_room hcat) hdg hf
theorem r_S (G : GX p s m args c cc nL own D cA A) {index n2 maxL mc ms : Nat} {y : MethodName} {b : ByteArray} {rt : Option FieldType} {rm : Room} {As : List Value} {st0 : List Value} {Qc : Nat → Array Value → State → Outcome → State → Prop}
    (hM : ∀ sz, Met l y (wz y b maxL rt) rm (va_Pc As (PR D cA w sz)) (Qc sz) mc ms (va_A w sz)) (g : GoodIn WS (va_wsS own index y (wz y b maxL rt))) (hrm : rm.cells = mc ∧ rm.slots = ms) (hd : y.cls ≠ "java/lang/invoke/MethodHandle" ∧ y.cls ≠ "java/lang/invoke/VarHandle" ∧ (parseMethodDescriptor y.desc).map (fun d => d.parameters.length) = some n2)
    (hR : rm.frames + 1 ≤ R.frames ∧ 8 + (maxL + 11) + rm.locals ≤ R.locals) (hf : k + mc ≤ R.cells ∧ n + ms ≤ R.slots) (hn : As.length = n2) (hst : st0 = As.reverse ++ st) (hcat : (st.map fun v => v.category).sum ≤ 8) (hdg : decode cc pc = .ok (.invokestatic index, 3))
    {H : Heap} {locs : List Loc} {ls : Array Slot} (hP : va_P D CL w H) (hD : va_D A w) (hS : va_S A s.heap H locs) (hl : lv_has ls nL lv) :
    va_Run p l e R s m args below meth c H locs k n mc ms (F0 m pc ls st0) st (Qc H.size As.toArray) (va_A w H.size) :=
  va_runS (As := As) (rest := st) ⟨G.1, G.2.1, G.2.2.1, G.2.2.2.1, G.2.2.2.2.1⟩ (hM H.size) (va_cwS n2 G.2.2.2.2.1 g rfl hrm.1 hrm.2 hd hR) ⟨PR_blind, fun U hU hW => ⟨rfl, PR_at G hP hD hS hU hW⟩⟩ rfl hn hl.1 hst (lv_room hcat) hdg hf
theorem r_SN (G : GX p s m args c cc nL own D cA A) {host : String} {index n2 maxL mc ms : Nat} {y : MethodName} {b : ByteArray} {rt : Option FieldType} {rm : Room} {As : List Value} {st0 : List Value} {Qc : Nat → Array Value → State → Outcome → State → Prop}
    (hM : ∀ sz, Met l y (wz y b maxL rt) rm (va_Pc As (PR D cA w sz)) (Qc sz) mc ms (va_A w sz)) (h1 : Cond.methodLinkNest own index y host ∈ NWL) (h2 : Cond.static y ∈ WS) (h3 : Cond.initialized y.cls ∈ WS) (h4 : Cond.code y b maxL rt ∈ WS) (hrm : rm.cells = mc ∧ rm.slots = ms) (hd : y.cls ≠ "java/lang/invoke/MethodHandle" ∧ y.cls ≠ "java/lang/invoke/VarHandle" ∧ (parseMethodDescriptor y.desc).map (fun d => d.parameters.length) = some n2)
    (hR : rm.frames + 1 ≤ R.frames ∧ 8 + (maxL + 11) + rm.locals ≤ R.locals) (hf : k + mc ≤ R.cells ∧ n + ms ≤ R.slots) (hn : As.length = n2) (hst : st0 = As.reverse ++ st) (hcat : (st.map fun v => v.category).sum ≤ 8) (hdg : decode cc pc = .ok (.invokestatic index, 3))
    {H : Heap} {locs : List Loc} {ls : Array Slot} (hP : va_P D CL w H) (hD : va_D A w) (hS : va_S A s.heap H locs) (hl : lv_has ls nL lv) :
    va_Run p l e R s m args below meth c H locs k n mc ms (F0 m pc ls st0) st (Qc H.size As.toArray) (va_A w H.size) :=
  va_runSN (As := As) (rest := st) ⟨G.1, G.2.1, G.2.2.1, G.2.2.2.1, G.2.2.2.2.1⟩ (hM H.size) ⟨va_cnB n2 G.2.2.2.2.1 (gz h4) rfl hrm.1 hrm.2 (G.2.2.2.2.2.2.2.1 _ h1) (G.2.2.2.2.1 _ h3) hd hR, G.2.2.2.2.1 _ h2, trivial⟩ ⟨PR_blind, fun U hU hW => ⟨rfl, PR_at G hP hD hS hU hW⟩⟩ rfl hn hl.1 hst (lv_room hcat) hdg hf
theorem r_I (G : GX p s m args c cc nL own D cA A) {index n2 maxL mc ms : Nat} {y : MethodName} {b : ByteArray} {rm : Room} {a : Nat} {As : List Value} {st0 : List Value} {Qc : Nat → Array Value → State → Outcome → State → Prop}
    (hM : ∀ sz, Met l y (wz y b maxL none) rm (va_Pc (.ref a :: As) (PR D cA w sz)) (Qc sz) mc ms (va_A w sz)) (h1 : Cond.methodLink own index y ∈ WS) (h2 : Cond.instanceMethod y ∈ WS) (h3 : Cond.initialized y.cls ∈ WS) (h4 : Cond.code y b maxL none ∈ WS) (hy : y.name = "<init>") (hrm : rm.cells = mc ∧ rm.slots = ms) (hd : y.cls ≠ "java/lang/invoke/MethodHandle" ∧ y.cls ≠ "java/lang/invoke/VarHandle" ∧ (parseMethodDescriptor y.desc).map (fun d => d.parameters.length) = some n2)
    (hR : rm.frames + 1 ≤ R.frames ∧ 8 + (maxL + 11) + rm.locals ≤ R.locals) (hf : k + mc ≤ R.cells ∧ n + ms ≤ R.slots) (hn : As.length = n2) (hst : st0 = As.reverse ++ .ref a :: st) (hcat : (st.map fun v => v.category).sum ≤ 8) (hdg : decode cc pc = .ok (.invokespecial index, 3))
    {H : Heap} {locs : List Loc} {ls : Array Slot} (hP : va_P D CL w H) (hD : va_D A w) (hS : va_S A s.heap H locs) (hl : lv_has ls nL lv) :
    va_Run p l e R s m args below meth c H locs k n mc ms (F0 m pc ls st0) st (Qc H.size (Value.ref a :: As).toArray) (va_A w H.size) :=
  va_runI (As := As) (rest := st) ⟨G.1, G.2.1, G.2.2.1, G.2.2.2.1, G.2.2.2.2.1⟩ (hM H.size) (cwI n2 G.2.2.2.2.1 (gz h4) rfl hrm.1 hrm.2 (G.2.2.2.2.1 _ h3) (G.2.2.2.2.1 _ h1) (G.2.2.2.2.1 _ h2) hy hd hR) ⟨PR_blind, fun U hU hW => ⟨rfl, PR_at G hP hD hS hU hW⟩⟩ rfl hn hl.1 hst (lv_room hcat) hdg hf
theorem r_IN (G : GX p s m args c cc nL own D cA A) {host : String} {index n2 maxL mc ms : Nat} {y : MethodName} {b : ByteArray} {rm : Room} {a : Nat} {As : List Value} {st0 : List Value} {Qc : Nat → Array Value → State → Outcome → State → Prop}
    (hM : ∀ sz, Met l y (wz y b maxL none) rm (va_Pc (.ref a :: As) (PR D cA w sz)) (Qc sz) mc ms (va_A w sz)) (h1 : Cond.methodLinkNest own index y host ∈ NWL) (h2 : Cond.instanceMethod y ∈ WS) (h3 : Cond.initialized y.cls ∈ WS) (h4 : Cond.code y b maxL none ∈ WS) (hy : y.name = "<init>") (hrm : rm.cells = mc ∧ rm.slots = ms) (hd : y.cls ≠ "java/lang/invoke/MethodHandle" ∧ y.cls ≠ "java/lang/invoke/VarHandle" ∧ (parseMethodDescriptor y.desc).map (fun d => d.parameters.length) = some n2)
    (hR : rm.frames + 1 ≤ R.frames ∧ 8 + (maxL + 11) + rm.locals ≤ R.locals) (hf : k + mc ≤ R.cells ∧ n + ms ≤ R.slots) (hn : As.length = n2) (hst : st0 = As.reverse ++ .ref a :: st) (hcat : (st.map fun v => v.category).sum ≤ 8) (hdg : decode cc pc = .ok (.invokespecial index, 3))
    {H : Heap} {locs : List Loc} {ls : Array Slot} (hP : va_P D CL w H) (hD : va_D A w) (hS : va_S A s.heap H locs) (hl : lv_has ls nL lv) :
    va_Run p l e R s m args below meth c H locs k n mc ms (F0 m pc ls st0) st (Qc H.size (Value.ref a :: As).toArray) (va_A w H.size) :=
  va_runIN (As := As) (rest := st) ⟨G.1, G.2.1, G.2.2.1, G.2.2.2.1, G.2.2.2.2.1⟩ (hM H.size) ⟨va_cnB n2 G.2.2.2.2.1 (gz h4) rfl hrm.1 hrm.2 (G.2.2.2.2.2.2.2.1 _ h1) (G.2.2.2.2.1 _ h3) hd hR, hy, G.2.2.2.2.1 _ h2⟩ ⟨PR_blind, fun U hU hW => ⟨rfl, PR_at G hP hD hS hU hW⟩⟩ rfl hn hl.1 hst (lv_room hcat) hdg hf
theorem j_calli (G : GX p s m args c cc nL own D cA A) {post : Int32 → va_W → Prop} {mc ms : Nat} {st0 : List Value} {a : Array Value}
    (hr : ∀ (H : Heap) (locs : List Loc) (ls : Array Slot), va_P D CL w H → va_D A w → va_S A s.heap H locs → lv_has ls nL lv → va_Run p l e R s m args below meth c H locs k n mc ms (F0 m pc ls st0) st (va_Qi post (PO D cA (va_A w H.size)) (va_A w H.size) a) (va_A w H.size))
    (K : ∀ (r : Int32) (w' : va_W), post r w' → J p l e R s m args below meth c nL D A w' (k + mc) (n + ms) Q (pc + 3) lv (.int r :: st)) : J p l e R s m args below meth c nL D A w k n Q (pc) lv st0 := by
  intro H locs ls hP hD hS hl
  refine va_calli (hr H locs ls hP hD hS hl) hS (fun q _ h => wA (D := D) hD hS G.2.2.2.2.2.2.1 q h) (wA (D := D) hD hS G.2.2.2.2.2.2.1) (fun r u t H1 locs1 ht hvm hp hB hz hk hS1 => ?_)
  obtain ⟨hP1, -, hD1⟩ := hB
  rw [ht] at hP1
  exact K r u hp H1 locs1 ls hP1 (hD1.weaken (fun _ q _ h => wA (D := D) hD hS G.2.2.2.2.2.2.1 _ h)) hS1 hl
theorem j_calll (G : GX p s m args c cc nL own D cA A) {post : Int64 → va_W → Prop} {mc ms : Nat} {st0 : List Value} {a : Array Value}
    (hr : ∀ (H : Heap) (locs : List Loc) (ls : Array Slot), va_P D CL w H → va_D A w → va_S A s.heap H locs → lv_has ls nL lv → va_Run p l e R s m args below meth c H locs k n mc ms (F0 m pc ls st0) st (va_Ql post (PO D cA (va_A w H.size)) (va_A w H.size) a) (va_A w H.size))
    (K : ∀ (r : Int64) (w' : va_W), post r w' → J p l e R s m args below meth c nL D A w' (k + mc) (n + ms) Q (pc + 3) lv (.long r :: st)) : J p l e R s m args below meth c nL D A w k n Q (pc) lv st0 := by
  intro H locs ls hP hD hS hl
  refine va_calll (hr H locs ls hP hD hS hl) hS (fun q _ h => wA (D := D) hD hS G.2.2.2.2.2.2.1 q h) (wA (D := D) hD hS G.2.2.2.2.2.2.1) (fun r u t H1 locs1 ht hvm hp hB hz hk hS1 => ?_)
  obtain ⟨hP1, -, hD1⟩ := hB
  rw [ht] at hP1
  exact K r u hp H1 locs1 ls hP1 (hD1.weaken (fun _ q _ h => wA (D := D) hD hS G.2.2.2.2.2.2.1 _ h)) hS1 hl
theorem j_callf (G : GX p s m args c cc nL own D cA A) {post : UInt32 → va_W → Prop} {mc ms : Nat} {st0 : List Value} {a : Array Value}
    (hr : ∀ (H : Heap) (locs : List Loc) (ls : Array Slot), va_P D CL w H → va_D A w → va_S A s.heap H locs → lv_has ls nL lv → va_Run p l e R s m args below meth c H locs k n mc ms (F0 m pc ls st0) st (va_Qf post (PO D cA (va_A w H.size)) (va_A w H.size) a) (va_A w H.size))
    (K : ∀ (r : UInt32) (w' : va_W), post r w' → J p l e R s m args below meth c nL D A w' (k + mc) (n + ms) Q (pc + 3) lv (.float r :: st)) : J p l e R s m args below meth c nL D A w k n Q (pc) lv st0 := by
  intro H locs ls hP hD hS hl
  refine va_callf (hr H locs ls hP hD hS hl) hS (fun q _ h => wA (D := D) hD hS G.2.2.2.2.2.2.1 q h) (wA (D := D) hD hS G.2.2.2.2.2.2.1) (fun r u t H1 locs1 ht hvm hp hB hz hk hS1 => ?_)
  obtain ⟨hP1, -, hD1⟩ := hB
  rw [ht] at hP1
  exact K r u hp H1 locs1 ls hP1 (hD1.weaken (fun _ q _ h => wA (D := D) hD hS G.2.2.2.2.2.2.1 _ h)) hS1 hl
theorem j_calld (G : GX p s m args c cc nL own D cA A) {post : UInt64 → va_W → Prop} {mc ms : Nat} {st0 : List Value} {a : Array Value}
    (hr : ∀ (H : Heap) (locs : List Loc) (ls : Array Slot), va_P D CL w H → va_D A w → va_S A s.heap H locs → lv_has ls nL lv → va_Run p l e R s m args below meth c H locs k n mc ms (F0 m pc ls st0) st (va_Qd post (PO D cA (va_A w H.size)) (va_A w H.size) a) (va_A w H.size))
    (K : ∀ (r : UInt64) (w' : va_W), post r w' → J p l e R s m args below meth c nL D A w' (k + mc) (n + ms) Q (pc + 3) lv (.double r :: st)) : J p l e R s m args below meth c nL D A w k n Q (pc) lv st0 := by
  intro H locs ls hP hD hS hl
  refine va_calld (hr H locs ls hP hD hS hl) hS (fun q _ h => wA (D := D) hD hS G.2.2.2.2.2.2.1 q h) (wA (D := D) hD hS G.2.2.2.2.2.2.1) (fun r u t H1 locs1 ht hvm hp hB hz hk hS1 => ?_)
  obtain ⟨hP1, -, hD1⟩ := hB
  rw [ht] at hP1
  exact K r u hp H1 locs1 ls hP1 (hD1.weaken (fun _ q _ h => wA (D := D) hD hS G.2.2.2.2.2.2.1 _ h)) hS1 hl
theorem j_callv (G : GX p s m args c cc nL own D cA A) {post : va_W → Prop} {mc ms : Nat} {st0 : List Value} {a : Array Value}
    (hr : ∀ (H : Heap) (locs : List Loc) (ls : Array Slot), va_P D CL w H → va_D A w → va_S A s.heap H locs → lv_has ls nL lv → va_Run p l e R s m args below meth c H locs k n mc ms (F0 m pc ls st0) st (va_Qv post (PO D cA (va_A w H.size)) (va_A w H.size) a) (va_A w H.size))
    (K : ∀ (w' : va_W), post w' → J p l e R s m args below meth c nL D A w' (k + mc) (n + ms) Q (pc + 3) lv st) : J p l e R s m args below meth c nL D A w k n Q (pc) lv st0 := by
  intro H locs ls hP hD hS hl
  refine va_callv (hr H locs ls hP hD hS hl) hS (fun q _ h => wA (D := D) hD hS G.2.2.2.2.2.2.1 q h) (wA (D := D) hD hS G.2.2.2.2.2.2.1) (fun u t H1 locs1 ht hvm hp hB hz hk hS1 => ?_)
  obtain ⟨hP1, -, hD1⟩ := hB
  rw [ht] at hP1
  exact K u hp H1 locs1 ls hP1 (hD1.weaken (fun _ q _ h => wA (D := D) hD hS G.2.2.2.2.2.2.1 _ h)) hS1 hl
abbrev RM (f lo mc ms : Nat) : Room := { frames := f, cells := mc, slots := ms, locals := lo }
abbrev Ki (l : Launch) (y : MethodName) (b : ByteArray) (maxL : Nat) (rt : FieldType) (f lo mc ms : Nat) (D : va_G) (cA : Nat → ClassId) (av : List Value) (w : va_W) (post : Int32 → va_W → Prop) : Prop := ∀ sz : Nat, Met l y (wz y b maxL (some rt)) (RM f lo mc ms) (va_Pc av (PR D cA w sz)) (va_Qi post (PO D cA (va_A w sz)) (va_A w sz)) mc ms (va_A w sz)
abbrev Kl (l : Launch) (y : MethodName) (b : ByteArray) (maxL : Nat) (f lo mc ms : Nat) (D : va_G) (cA : Nat → ClassId) (av : List Value) (w : va_W) (post : Int64 → va_W → Prop) : Prop := ∀ sz : Nat, Met l y (wz y b maxL (some .long)) (RM f lo mc ms) (va_Pc av (PR D cA w sz)) (va_Ql post (PO D cA (va_A w sz)) (va_A w sz)) mc ms (va_A w sz)
abbrev Kf (l : Launch) (y : MethodName) (b : ByteArray) (maxL : Nat) (f lo mc ms : Nat) (D : va_G) (cA : Nat → ClassId) (av : List Value) (w : va_W) (post : UInt32 → va_W → Prop) : Prop := ∀ sz : Nat, Met l y (wz y b maxL (some .float)) (RM f lo mc ms) (va_Pc av (PR D cA w sz)) (va_Qf post (PO D cA (va_A w sz)) (va_A w sz)) mc ms (va_A w sz)
abbrev Kd (l : Launch) (y : MethodName) (b : ByteArray) (maxL : Nat) (f lo mc ms : Nat) (D : va_G) (cA : Nat → ClassId) (av : List Value) (w : va_W) (post : UInt64 → va_W → Prop) : Prop := ∀ sz : Nat, Met l y (wz y b maxL (some .double)) (RM f lo mc ms) (va_Pc av (PR D cA w sz)) (va_Qd post (PO D cA (va_A w sz)) (va_A w sz)) mc ms (va_A w sz)
abbrev Kv (l : Launch) (y : MethodName) (b : ByteArray) (maxL : Nat) (f lo mc ms : Nat) (D : va_G) (cA : Nat → ClassId) (av : List Value) (w : va_W) (post : va_W → Prop) : Prop := ∀ sz : Nat, Met l y (wz y b maxL none) (RM f lo mc ms) (va_Pc av (PR D cA w sz)) (va_Qv post (PO D cA (va_A w sz)) (va_A w sz)) mc ms (va_A w sz)
theorem jV_i (G : GX p s m args c cc nL own D cA A) {C : String} {index n2 maxL f lo mc ms : Nat} {y : MethodName} {b : ByteArray} {a : Nat} {As st0 : List Value} {fs : List Value} {cl1 : u_T} {cl2 : Nat} {rt : FieldType} {post : Int32 → va_W → Prop} (ci q0 : Nat) (hM : Ki l y b maxL rt f lo mc ms D cA (.ref a :: As) w post) (g : GoodIn WS (wsV own index C y (wz y b maxL (some rt)))) (hd : y.cls = C ∧ y.cls ≠ "java/lang/invoke/MethodHandle" ∧ y.cls ≠ "java/lang/invoke/VarHandle" ∧ (parseMethodDescriptor y.desc).map (fun d => d.parameters.length) = some n2) (hR : f + 1 ≤ R.frames ∧ 8 + (maxL + 11) + lo ≤ R.locals) (hf : k + mc ≤ R.cells ∧ n + ms ≤ R.slots) (hn : As.length = n2) (hst : st0 = As.reverse ++ .ref a :: st) (hcat : (st.map fun v => v.category).sum ≤ 8) (hc : CL[ci]? = some (C, cl1, cl2)) (he : w[q0]? = some (a, .inr (ci, fs))) (hdg : decode cc pc = .ok (.invokevirtual index, 3)) (K : ∀ (r : Int32) (w' : va_W), post r w' → J p l e R s m args below meth c nL D A w' (k + mc) (n + ms) Q (pc + 3) lv (.int r :: st)) : J p l e R s m args below meth c nL D A w k n Q (pc) lv st0 :=
  j_calli G (fun H locs ls hP hD hS hl => r_V (Qc := (fun sz => va_Qi post (PO D cA (va_A w sz)) (va_A w sz))) G hM g ⟨rfl, rfl⟩ hd hR hf hn hst hcat hc he hdg hP hD hS hl) K
theorem jS_i (G : GX p s m args c cc nL own D cA A) {index n2 maxL f lo mc ms : Nat} {y : MethodName} {b : ByteArray} {As st0 : List Value} {rt : FieldType} {post : Int32 → va_W → Prop} (hM : Ki l y b maxL rt f lo mc ms D cA As w post) (g : GoodIn WS (va_wsS own index y (wz y b maxL (some rt)))) (hd : y.cls ≠ "java/lang/invoke/MethodHandle" ∧ y.cls ≠ "java/lang/invoke/VarHandle" ∧ (parseMethodDescriptor y.desc).map (fun d => d.parameters.length) = some n2) (hR : f + 1 ≤ R.frames ∧ 8 + (maxL + 11) + lo ≤ R.locals) (hf : k + mc ≤ R.cells ∧ n + ms ≤ R.slots) (hn : As.length = n2) (hst : st0 = As.reverse ++ st) (hcat : (st.map fun v => v.category).sum ≤ 8) (hdg : decode cc pc = .ok (.invokestatic index, 3)) (K : ∀ (r : Int32) (w' : va_W), post r w' → J p l e R s m args below meth c nL D A w' (k + mc) (n + ms) Q (pc + 3) lv (.int r :: st)) : J p l e R s m args below meth c nL D A w k n Q (pc) lv st0 :=
  j_calli G (fun H locs ls hP hD hS hl => r_S (Qc := (fun sz => va_Qi post (PO D cA (va_A w sz)) (va_A w sz))) G hM g ⟨rfl, rfl⟩ hd hR hf hn hst hcat hdg hP hD hS hl) K
theorem jV_l (G : GX p s m args c cc nL own D cA A) {C : String} {index n2 maxL f lo mc ms : Nat} {y : MethodName} {b : ByteArray} {a : Nat} {As st0 : List Value} {fs : List Value} {cl1 : u_T} {cl2 : Nat} {post : Int64 → va_W → Prop} (ci q0 : Nat) (hM : Kl l y b maxL f lo mc ms D cA (.ref a :: As) w post) (g : GoodIn WS (wsV own index C y (wz y b maxL (some .long)))) (hd : y.cls = C ∧ y.cls ≠ "java/lang/invoke/MethodHandle" ∧ y.cls ≠ "java/lang/invoke/VarHandle" ∧ (parseMethodDescriptor y.desc).map (fun d => d.parameters.length) = some n2) (hR : f + 1 ≤ R.frames ∧ 8 + (maxL + 11) + lo ≤ R.locals) (hf : k + mc ≤ R.cells ∧ n + ms ≤ R.slots) (hn : As.length = n2) (hst : st0 = As.reverse ++ .ref a :: st) (hcat : (st.map fun v => v.category).sum ≤ 8) (hc : CL[ci]? = some (C, cl1, cl2)) (he : w[q0]? = some (a, .inr (ci, fs))) (hdg : decode cc pc = .ok (.invokevirtual index, 3)) (K : ∀ (r : Int64) (w' : va_W), post r w' → J p l e R s m args below meth c nL D A w' (k + mc) (n + ms) Q (pc + 3) lv (.long r :: st)) : J p l e R s m args below meth c nL D A w k n Q (pc) lv st0 :=
  j_calll G (fun H locs ls hP hD hS hl => r_V (Qc := (fun sz => va_Ql post (PO D cA (va_A w sz)) (va_A w sz))) G hM g ⟨rfl, rfl⟩ hd hR hf hn hst hcat hc he hdg hP hD hS hl) K
theorem jS_l (G : GX p s m args c cc nL own D cA A) {index n2 maxL f lo mc ms : Nat} {y : MethodName} {b : ByteArray} {As st0 : List Value} {post : Int64 → va_W → Prop} (hM : Kl l y b maxL f lo mc ms D cA As w post) (g : GoodIn WS (va_wsS own index y (wz y b maxL (some .long)))) (hd : y.cls ≠ "java/lang/invoke/MethodHandle" ∧ y.cls ≠ "java/lang/invoke/VarHandle" ∧ (parseMethodDescriptor y.desc).map (fun d => d.parameters.length) = some n2) (hR : f + 1 ≤ R.frames ∧ 8 + (maxL + 11) + lo ≤ R.locals) (hf : k + mc ≤ R.cells ∧ n + ms ≤ R.slots) (hn : As.length = n2) (hst : st0 = As.reverse ++ st) (hcat : (st.map fun v => v.category).sum ≤ 8) (hdg : decode cc pc = .ok (.invokestatic index, 3)) (K : ∀ (r : Int64) (w' : va_W), post r w' → J p l e R s m args below meth c nL D A w' (k + mc) (n + ms) Q (pc + 3) lv (.long r :: st)) : J p l e R s m args below meth c nL D A w k n Q (pc) lv st0 :=
  j_calll G (fun H locs ls hP hD hS hl => r_S (Qc := (fun sz => va_Ql post (PO D cA (va_A w sz)) (va_A w sz))) G hM g ⟨rfl, rfl⟩ hd hR hf hn hst hcat hdg hP hD hS hl) K
theorem jV_f (G : GX p s m args c cc nL own D cA A) {C : String} {index n2 maxL f lo mc ms : Nat} {y : MethodName} {b : ByteArray} {a : Nat} {As st0 : List Value} {fs : List Value} {cl1 : u_T} {cl2 : Nat} {post : UInt32 → va_W → Prop} (ci q0 : Nat) (hM : Kf l y b maxL f lo mc ms D cA (.ref a :: As) w post) (g : GoodIn WS (wsV own index C y (wz y b maxL (some .float)))) (hd : y.cls = C ∧ y.cls ≠ "java/lang/invoke/MethodHandle" ∧ y.cls ≠ "java/lang/invoke/VarHandle" ∧ (parseMethodDescriptor y.desc).map (fun d => d.parameters.length) = some n2) (hR : f + 1 ≤ R.frames ∧ 8 + (maxL + 11) + lo ≤ R.locals) (hf : k + mc ≤ R.cells ∧ n + ms ≤ R.slots) (hn : As.length = n2) (hst : st0 = As.reverse ++ .ref a :: st) (hcat : (st.map fun v => v.category).sum ≤ 8) (hc : CL[ci]? = some (C, cl1, cl2)) (he : w[q0]? = some (a, .inr (ci, fs))) (hdg : decode cc pc = .ok (.invokevirtual index, 3)) (K : ∀ (r : UInt32) (w' : va_W), post r w' → J p l e R s m args below meth c nL D A w' (k + mc) (n + ms) Q (pc + 3) lv (.float r :: st)) : J p l e R s m args below meth c nL D A w k n Q (pc) lv st0 :=
  j_callf G (fun H locs ls hP hD hS hl => r_V (Qc := (fun sz => va_Qf post (PO D cA (va_A w sz)) (va_A w sz))) G hM g ⟨rfl, rfl⟩ hd hR hf hn hst hcat hc he hdg hP hD hS hl) K
theorem jS_f (G : GX p s m args c cc nL own D cA A) {index n2 maxL f lo mc ms : Nat} {y : MethodName} {b : ByteArray} {As st0 : List Value} {post : UInt32 → va_W → Prop} (hM : Kf l y b maxL f lo mc ms D cA As w post) (g : GoodIn WS (va_wsS own index y (wz y b maxL (some .float)))) (hd : y.cls ≠ "java/lang/invoke/MethodHandle" ∧ y.cls ≠ "java/lang/invoke/VarHandle" ∧ (parseMethodDescriptor y.desc).map (fun d => d.parameters.length) = some n2) (hR : f + 1 ≤ R.frames ∧ 8 + (maxL + 11) + lo ≤ R.locals) (hf : k + mc ≤ R.cells ∧ n + ms ≤ R.slots) (hn : As.length = n2) (hst : st0 = As.reverse ++ st) (hcat : (st.map fun v => v.category).sum ≤ 8) (hdg : decode cc pc = .ok (.invokestatic index, 3)) (K : ∀ (r : UInt32) (w' : va_W), post r w' → J p l e R s m args below meth c nL D A w' (k + mc) (n + ms) Q (pc + 3) lv (.float r :: st)) : J p l e R s m args below meth c nL D A w k n Q (pc) lv st0 :=
  j_callf G (fun H locs ls hP hD hS hl => r_S (Qc := (fun sz => va_Qf post (PO D cA (va_A w sz)) (va_A w sz))) G hM g ⟨rfl, rfl⟩ hd hR hf hn hst hcat hdg hP hD hS hl) K
theorem jV_d (G : GX p s m args c cc nL own D cA A) {C : String} {index n2 maxL f lo mc ms : Nat} {y : MethodName} {b : ByteArray} {a : Nat} {As st0 : List Value} {fs : List Value} {cl1 : u_T} {cl2 : Nat} {post : UInt64 → va_W → Prop} (ci q0 : Nat) (hM : Kd l y b maxL f lo mc ms D cA (.ref a :: As) w post) (g : GoodIn WS (wsV own index C y (wz y b maxL (some .double)))) (hd : y.cls = C ∧ y.cls ≠ "java/lang/invoke/MethodHandle" ∧ y.cls ≠ "java/lang/invoke/VarHandle" ∧ (parseMethodDescriptor y.desc).map (fun d => d.parameters.length) = some n2) (hR : f + 1 ≤ R.frames ∧ 8 + (maxL + 11) + lo ≤ R.locals) (hf : k + mc ≤ R.cells ∧ n + ms ≤ R.slots) (hn : As.length = n2) (hst : st0 = As.reverse ++ .ref a :: st) (hcat : (st.map fun v => v.category).sum ≤ 8) (hc : CL[ci]? = some (C, cl1, cl2)) (he : w[q0]? = some (a, .inr (ci, fs))) (hdg : decode cc pc = .ok (.invokevirtual index, 3)) (K : ∀ (r : UInt64) (w' : va_W), post r w' → J p l e R s m args below meth c nL D A w' (k + mc) (n + ms) Q (pc + 3) lv (.double r :: st)) : J p l e R s m args below meth c nL D A w k n Q (pc) lv st0 :=
  j_calld G (fun H locs ls hP hD hS hl => r_V (Qc := (fun sz => va_Qd post (PO D cA (va_A w sz)) (va_A w sz))) G hM g ⟨rfl, rfl⟩ hd hR hf hn hst hcat hc he hdg hP hD hS hl) K
theorem jS_d (G : GX p s m args c cc nL own D cA A) {index n2 maxL f lo mc ms : Nat} {y : MethodName} {b : ByteArray} {As st0 : List Value} {post : UInt64 → va_W → Prop} (hM : Kd l y b maxL f lo mc ms D cA As w post) (g : GoodIn WS (va_wsS own index y (wz y b maxL (some .double)))) (hd : y.cls ≠ "java/lang/invoke/MethodHandle" ∧ y.cls ≠ "java/lang/invoke/VarHandle" ∧ (parseMethodDescriptor y.desc).map (fun d => d.parameters.length) = some n2) (hR : f + 1 ≤ R.frames ∧ 8 + (maxL + 11) + lo ≤ R.locals) (hf : k + mc ≤ R.cells ∧ n + ms ≤ R.slots) (hn : As.length = n2) (hst : st0 = As.reverse ++ st) (hcat : (st.map fun v => v.category).sum ≤ 8) (hdg : decode cc pc = .ok (.invokestatic index, 3)) (K : ∀ (r : UInt64) (w' : va_W), post r w' → J p l e R s m args below meth c nL D A w' (k + mc) (n + ms) Q (pc + 3) lv (.double r :: st)) : J p l e R s m args below meth c nL D A w k n Q (pc) lv st0 :=
  j_calld G (fun H locs ls hP hD hS hl => r_S (Qc := (fun sz => va_Qd post (PO D cA (va_A w sz)) (va_A w sz))) G hM g ⟨rfl, rfl⟩ hd hR hf hn hst hcat hdg hP hD hS hl) K
theorem jV_v (G : GX p s m args c cc nL own D cA A) {C : String} {index n2 maxL f lo mc ms : Nat} {y : MethodName} {b : ByteArray} {a : Nat} {As st0 : List Value} {fs : List Value} {cl1 : u_T} {cl2 : Nat} {post : va_W → Prop} (ci q0 : Nat) (hM : Kv l y b maxL f lo mc ms D cA (.ref a :: As) w post) (g : GoodIn WS (wsV own index C y (wz y b maxL none))) (hd : y.cls = C ∧ y.cls ≠ "java/lang/invoke/MethodHandle" ∧ y.cls ≠ "java/lang/invoke/VarHandle" ∧ (parseMethodDescriptor y.desc).map (fun d => d.parameters.length) = some n2) (hR : f + 1 ≤ R.frames ∧ 8 + (maxL + 11) + lo ≤ R.locals) (hf : k + mc ≤ R.cells ∧ n + ms ≤ R.slots) (hn : As.length = n2) (hst : st0 = As.reverse ++ .ref a :: st) (hcat : (st.map fun v => v.category).sum ≤ 8) (hc : CL[ci]? = some (C, cl1, cl2)) (he : w[q0]? = some (a, .inr (ci, fs))) (hdg : decode cc pc = .ok (.invokevirtual index, 3)) (K : ∀ (w' : va_W), post w' → J p l e R s m args below meth c nL D A w' (k + mc) (n + ms) Q (pc + 3) lv st) : J p l e R s m args below meth c nL D A w k n Q (pc) lv st0 :=
  j_callv G (fun H locs ls hP hD hS hl => r_V (Qc := (fun sz => va_Qv post (PO D cA (va_A w sz)) (va_A w sz))) G hM g ⟨rfl, rfl⟩ hd hR hf hn hst hcat hc he hdg hP hD hS hl) K
theorem jS_v (G : GX p s m args c cc nL own D cA A) {index n2 maxL f lo mc ms : Nat} {y : MethodName} {b : ByteArray} {As st0 : List Value} {post : va_W → Prop} (hM : Kv l y b maxL f lo mc ms D cA As w post) (g : GoodIn WS (va_wsS own index y (wz y b maxL none))) (hd : y.cls ≠ "java/lang/invoke/MethodHandle" ∧ y.cls ≠ "java/lang/invoke/VarHandle" ∧ (parseMethodDescriptor y.desc).map (fun d => d.parameters.length) = some n2) (hR : f + 1 ≤ R.frames ∧ 8 + (maxL + 11) + lo ≤ R.locals) (hf : k + mc ≤ R.cells ∧ n + ms ≤ R.slots) (hn : As.length = n2) (hst : st0 = As.reverse ++ st) (hcat : (st.map fun v => v.category).sum ≤ 8) (hdg : decode cc pc = .ok (.invokestatic index, 3)) (K : ∀ (w' : va_W), post w' → J p l e R s m args below meth c nL D A w' (k + mc) (n + ms) Q (pc + 3) lv st) : J p l e R s m args below meth c nL D A w k n Q (pc) lv st0 :=
  j_callv G (fun H locs ls hP hD hS hl => r_S (Qc := (fun sz => va_Qv post (PO D cA (va_A w sz)) (va_A w sz))) G hM g ⟨rfl, rfl⟩ hd hR hf hn hst hcat hdg hP hD hS hl) K
theorem jSN_i (G : GX p s m args c cc nL own D cA A) {host : String} {index n2 maxL f lo mc ms : Nat} {y : MethodName} {b : ByteArray} {As st0 : List Value} {rt : FieldType} {post : Int32 → va_W → Prop} (hM : Ki l y b maxL rt f lo mc ms D cA As w post) (h1 : Cond.methodLinkNest own index y host ∈ NWL) (h2 : Cond.static y ∈ WS) (h3 : Cond.initialized y.cls ∈ WS) (h4 : Cond.code y b maxL (some rt) ∈ WS) (hd : y.cls ≠ "java/lang/invoke/MethodHandle" ∧ y.cls ≠ "java/lang/invoke/VarHandle" ∧ (parseMethodDescriptor y.desc).map (fun d => d.parameters.length) = some n2) (hR : f + 1 ≤ R.frames ∧ 8 + (maxL + 11) + lo ≤ R.locals) (hf : k + mc ≤ R.cells ∧ n + ms ≤ R.slots) (hn : As.length = n2) (hst : st0 = As.reverse ++ st) (hcat : (st.map fun v => v.category).sum ≤ 8) (hdg : decode cc pc = .ok (.invokestatic index, 3)) (K : ∀ (r : Int32) (w' : va_W), post r w' → J p l e R s m args below meth c nL D A w' (k + mc) (n + ms) Q (pc + 3) lv (.int r :: st)) : J p l e R s m args below meth c nL D A w k n Q (pc) lv st0 :=
  j_calli G (fun H locs ls hP hD hS hl => r_SN (Qc := (fun sz => va_Qi post (PO D cA (va_A w sz)) (va_A w sz))) G hM h1 h2 h3 h4 ⟨rfl, rfl⟩ hd hR hf hn hst hcat hdg hP hD hS hl) K
theorem jI_v (G : GX p s m args c cc nL own D cA A) {index n2 maxL f lo mc ms : Nat} {y : MethodName} {b : ByteArray} {a : Nat} {As st0 : List Value} {post : va_W → Prop} (hM : Kv l y b maxL f lo mc ms D cA (.ref a :: As) w post) (h1 : Cond.methodLink own index y ∈ WS) (h2 : Cond.instanceMethod y ∈ WS) (h3 : Cond.initialized y.cls ∈ WS) (h4 : Cond.code y b maxL none ∈ WS) (hy : y.name = "<init>") (hd : y.cls ≠ "java/lang/invoke/MethodHandle" ∧ y.cls ≠ "java/lang/invoke/VarHandle" ∧ (parseMethodDescriptor y.desc).map (fun d => d.parameters.length) = some n2) (hR : f + 1 ≤ R.frames ∧ 8 + (maxL + 11) + lo ≤ R.locals) (hf : k + mc ≤ R.cells ∧ n + ms ≤ R.slots) (hn : As.length = n2) (hst : st0 = As.reverse ++ .ref a :: st) (hcat : (st.map fun v => v.category).sum ≤ 8) (hdg : decode cc pc = .ok (.invokespecial index, 3)) (K : ∀ (w' : va_W), post w' → J p l e R s m args below meth c nL D A w' (k + mc) (n + ms) Q (pc + 3) lv st) : J p l e R s m args below meth c nL D A w k n Q (pc) lv st0 :=
  j_callv G (fun H locs ls hP hD hS hl => r_I (Qc := (fun sz => va_Qv post (PO D cA (va_A w sz)) (va_A w sz))) G hM h1 h2 h3 h4 hy ⟨rfl, rfl⟩ hd hR hf hn hst hcat hdg hP hD hS hl) K
theorem jIN_v (G : GX p s m args c cc nL own D cA A) {host : String} {index n2 maxL f lo mc ms : Nat} {y : MethodName} {b : ByteArray} {a : Nat} {As st0 : List Value} {post : va_W → Prop} (hM : Kv l y b maxL f lo mc ms D cA (.ref a :: As) w post) (h1 : Cond.methodLinkNest own index y host ∈ NWL) (h2 : Cond.instanceMethod y ∈ WS) (h3 : Cond.initialized y.cls ∈ WS) (h4 : Cond.code y b maxL none ∈ WS) (hy : y.name = "<init>") (hd : y.cls ≠ "java/lang/invoke/MethodHandle" ∧ y.cls ≠ "java/lang/invoke/VarHandle" ∧ (parseMethodDescriptor y.desc).map (fun d => d.parameters.length) = some n2) (hR : f + 1 ≤ R.frames ∧ 8 + (maxL + 11) + lo ≤ R.locals) (hf : k + mc ≤ R.cells ∧ n + ms ≤ R.slots) (hn : As.length = n2) (hst : st0 = As.reverse ++ .ref a :: st) (hcat : (st.map fun v => v.category).sum ≤ 8) (hdg : decode cc pc = .ok (.invokespecial index, 3)) (K : ∀ (w' : va_W), post w' → J p l e R s m args below meth c nL D A w' (k + mc) (n + ms) Q (pc + 3) lv st) : J p l e R s m args below meth c nL D A w k n Q (pc) lv st0 :=
  j_callv G (fun H locs ls hP hD hS hl => r_IN (Qc := (fun sz => va_Qv post (PO D cA (va_A w sz)) (va_A w sz))) G hM h1 h2 h3 h4 hy ⟨rfl, rfl⟩ hd hR hf hn hst hcat hdg hP hD hS hl) K
theorem ent_i {y : MethodName} {b : ByteArray} {maxL f lo mc ms : Nat} {rt : FieldType} {av : List Value} {post : Int32 → va_W → Prop} {lv0 : List (Nat × Value)} (hy : plainName y.cls = true) (hown9 : y.cls = own) (hlen : (lg_sl av).length ≤ maxL) (hlv : lv_args 0 av = lv0)
    (body : ∀ (p : Program) (e : Env) (s : State) (m : MethodId) (args : Array Value) (below : List Frame) (meth : Method) (c : Code) (A : Nat → Prop) (Q : State → Prop), GX p s m args c b maxL own D cA A → meth.name = y.name → (∀ (r : Int32) (w' : va_W) (pc : Nat) (lv : List (Nat × Value)), decode b pc = .ok (.ireturn, 1) → narrow rt (.int r) = .int r → post r w' → J p l e (RM f lo mc ms) s m args below meth c maxL D A w' mc ms Q pc lv [.int r]) → J p l e (RM f lo mc ms) s m args below meth c maxL D A w 0 0 Q 0 lv0 []) : Ki l y b maxL rt f lo mc ms D cA av w post := by
  intro sz
  refine Met.ofW (cc := b) (maxL := maxL) (ret := (some rt)) hy rfl ?_
  intro p e s m args below meth c s₁ B hml hv
  obtain ⟨rfl, hsz, hP, hK, hD0, hE⟩ := hv
  subst hsz
  have hts := atoms_spec (ws := wz y b maxL (some rt)) B.pre
  have hD : va_D (va_A w s.heap.size) w := hD0.self
  rw [lg_entry_eq]
  exact body p e s m _ below meth c (va_A w s.heap.size) _ ⟨B.exec, B.bytes, hml, by rw [← hown9]; exact findClass_of_methodNamed B.named, fun w h => hts w (List.mem_cons_of_mem _ h), hK, fun q h => Or.inr h, hE⟩ (name_of_methodNamed B.named B.method).1
    (fun r w9 pc lv hd hn hp H locs ls hP hD hS hl => W.zret (ty := rt) B.exec B.bytes B.returns hn (fun t ht hW => ⟨⟨r, w9, rfl, hp, by rw [ht]; exact hP, va_K.moved hW.alike hK, hD⟩, hS.F ht⟩) hS.2.2 hd) s.heap [] _ hP hD va_S.rf (by rw [← hlv]; exact lv_entry av hlen)
theorem ent_l {y : MethodName} {b : ByteArray} {maxL f lo mc ms : Nat} {av : List Value} {post : Int64 → va_W → Prop} {lv0 : List (Nat × Value)} (hy : plainName y.cls = true) (hown9 : y.cls = own) (hlen : (lg_sl av).length ≤ maxL) (hlv : lv_args 0 av = lv0)
    (body : ∀ (p : Program) (e : Env) (s : State) (m : MethodId) (args : Array Value) (below : List Frame) (meth : Method) (c : Code) (A : Nat → Prop) (Q : State → Prop), GX p s m args c b maxL own D cA A → meth.name = y.name → (∀ (r : Int64) (w' : va_W) (pc : Nat) (lv : List (Nat × Value)), decode b pc = .ok (.lreturn, 1) → post r w' → J p l e (RM f lo mc ms) s m args below meth c maxL D A w' mc ms Q pc lv [.long r]) → J p l e (RM f lo mc ms) s m args below meth c maxL D A w 0 0 Q 0 lv0 []) : Kl l y b maxL f lo mc ms D cA av w post := by
  intro sz
  refine Met.ofW (cc := b) (maxL := maxL) (ret := (some .long)) hy rfl ?_
  intro p e s m args below meth c s₁ B hml hv
  obtain ⟨rfl, hsz, hP, hK, hD0, hE⟩ := hv
  subst hsz
  have hts := atoms_spec (ws := wz y b maxL (some .long)) B.pre
  have hD : va_D (va_A w s.heap.size) w := hD0.self
  rw [lg_entry_eq]
  exact body p e s m _ below meth c (va_A w s.heap.size) _ ⟨B.exec, B.bytes, hml, by rw [← hown9]; exact findClass_of_methodNamed B.named, fun w h => hts w (List.mem_cons_of_mem _ h), hK, fun q h => Or.inr h, hE⟩ (name_of_methodNamed B.named B.method).1
    (fun r w9 pc lv hd hp H locs ls hP hD hS hl => W.lret B.exec B.bytes B.returns (fun t ht hW => ⟨⟨r, w9, rfl, hp, by rw [ht]; exact hP, va_K.moved hW.alike hK, hD⟩, hS.F ht⟩) hS.2.2 hd) s.heap [] _ hP hD va_S.rf (by rw [← hlv]; exact lv_entry av hlen)
theorem ent_v {y : MethodName} {b : ByteArray} {maxL f lo mc ms : Nat} {av : List Value} {post : va_W → Prop} {lv0 : List (Nat × Value)} (hy : plainName y.cls = true) (hown9 : y.cls = own) (hlen : (lg_sl av).length ≤ maxL) (hlv : lv_args 0 av = lv0)
    (body : ∀ (p : Program) (e : Env) (s : State) (m : MethodId) (args : Array Value) (below : List Frame) (meth : Method) (c : Code) (A : Nat → Prop) (Q : State → Prop), GX p s m args c b maxL own D cA A → meth.name = y.name → (∀ (w' : va_W) (pc : Nat) (lv : List (Nat × Value)), decode b pc = .ok (.return_, 1) → post w' → J p l e (RM f lo mc ms) s m args below meth c maxL D A w' mc ms Q pc lv []) → J p l e (RM f lo mc ms) s m args below meth c maxL D A w 0 0 Q 0 lv0 []) : Kv l y b maxL f lo mc ms D cA av w post := by
  intro sz
  refine Met.ofW (cc := b) (maxL := maxL) (ret := none) hy rfl ?_
  intro p e s m args below meth c s₁ B hml hv
  obtain ⟨rfl, hsz, hP, hK, hD0, hE⟩ := hv
  subst hsz
  have hts := atoms_spec (ws := wz y b maxL none) B.pre
  have hD : va_D (va_A w s.heap.size) w := hD0.self
  rw [lg_entry_eq]
  exact body p e s m _ below meth c (va_A w s.heap.size) _ ⟨B.exec, B.bytes, hml, by rw [← hown9]; exact findClass_of_methodNamed B.named, fun w h => hts w (List.mem_cons_of_mem _ h), hK, fun q h => Or.inr h, hE⟩ (name_of_methodNamed B.named B.method).1
    (fun w9 pc lv hd hp H locs ls hP hD hS hl => W.vret B.exec B.bytes B.returns (fun t ht hW => ⟨⟨w9, rfl, hp, by rw [ht]; exact hP, va_K.moved hW.alike hK, hD⟩, hS.F ht⟩) hS.2.2 hd) s.heap [] _ hP hD va_S.rf (by rw [← hlv]; exact lv_entry av hlen)
/-! exceptions: a callee that may throw -/
theorem rx_V (G : GX p s m args c cc nL own D cA A) {C : String} {index n2 maxL mc ms : Nat} {y : MethodName} {b : ByteArray} {rt : Option FieldType} {rm : Room} {a q0 ci : Nat} {As : List Value} {st0 : List Value} {Qc : Nat → Array Value → State → Outcome → State → Prop} {XC : Nat → String → State → State → Prop} {fs : List Value} {cl1 : u_T} {cl2 : Nat}
    (hM : ∀ sz, vx_Met l y (wz y b maxL rt) rm (va_Pc (.ref a :: As) (PR D cA w sz)) (Qc sz) (XC sz) mc ms (va_A w sz)) (g : GoodIn WS (wsV own index C y (wz y b maxL rt))) (hrm : rm.cells = mc ∧ rm.slots = ms) (hd : y.cls = C ∧ y.cls ≠ "java/lang/invoke/MethodHandle" ∧ y.cls ≠ "java/lang/invoke/VarHandle" ∧ (parseMethodDescriptor y.desc).map (fun d => d.parameters.length) = some n2)
    (hR : rm.frames + 1 ≤ R.frames ∧ 8 + (maxL + 11) + rm.locals ≤ R.locals) (hf : k + mc ≤ R.cells ∧ n + ms ≤ R.slots) (hn : As.length = n2) (hst : st0 = As.reverse ++ .ref a :: st) (hcat : (st.map fun v => v.category).sum ≤ 8) (hc : CL[ci]? = some (C, cl1, cl2)) (he : w[q0]? = some (a, .inr (ci, fs))) (hdg : decode cc pc = .ok (.invokevirtual index, 3))
    {H : Heap} {locs : List Loc} {ls : Array Slot} (hP : va_P D CL w H) (hD : va_D A w) (hS : va_S A s.heap H locs) (hl : lv_has ls nL lv) :
    vx_Run p l e R s m args below meth c H locs k n mc ms (F0 m pc ls st0) st (Qc H.size (Value.ref a :: As).toArray) (XC H.size) (va_A w H.size) :=
  vx_runV (As := As) (rest := st) ⟨G.1, G.2.1, G.2.2.1, G.2.2.2.1, G.2.2.2.2.1⟩ (hM H.size) (cwV n2 G.2.2.2.2.1 g rfl hrm.1 hrm.2 hd hR) ⟨PR_blind, va_recv G.2.2.2.2.2.1 hP hc he, fun U hU hW => ⟨rfl, PR_at G hP hD hS hU hW⟩⟩ rfl hn hl.1 hst (lv_room hcat) hdg hf
abbrev Xi (l : Launch) (y : MethodName) (b : ByteArray) (maxL : Nat) (rt : FieldType) (f lo mc ms : Nat) (D : va_G) (cA : Nat → ClassId) (av : List Value) (w : va_W) (post : Int32 → va_W → Prop) (px : String × va_W → Prop) : Prop := ∀ sz : Nat, vx_Met l y (wz y b maxL (some rt)) (RM f lo mc ms) (va_Pc av (PR D cA w sz)) (va_Qi post (PO D cA (va_A w sz)) (va_A w sz)) (vx_X px (PX D cA (va_A w sz)) (va_A w sz)) mc ms (va_A w sz)
abbrev Xv (l : Launch) (y : MethodName) (b : ByteArray) (maxL : Nat) (f lo mc ms : Nat) (D : va_G) (cA : Nat → ClassId) (av : List Value) (w : va_W) (post : va_W → Prop) (px : String × va_W → Prop) : Prop := ∀ sz : Nat, vx_Met l y (wz y b maxL none) (RM f lo mc ms) (va_Pc av (PR D cA w sz)) (va_Qv post (PO D cA (va_A w sz)) (va_A w sz)) (vx_X px (PX D cA (va_A w sz)) (va_A w sz)) mc ms (va_A w sz)
abbrev Xr (l : Launch) (y : MethodName) (b : ByteArray) (maxL : Nat) (rt : FieldType) (f lo mc ms : Nat) (D : va_G) (cA : Nat → ClassId) (av : List Value) (w : va_W) (post : Nat × va_W → Prop) (px : String × va_W → Prop) : Prop := ∀ sz : Nat, vx_Met l y (wz y b maxL (some rt)) (RM f lo mc ms) (va_Pc av (PR D cA w sz)) (va_Qr post (fun u a t => u.1 = a ∧ PO D cA (va_A w sz) u.2 t) (va_A w sz)) (vx_X px (PX D cA (va_A w sz)) (va_A w sz)) mc ms (va_A w sz)
theorem jx_calli (G : GX p s m args c cc nL own D cA A) {post : Int32 → va_W → Prop} {px : String × va_W → Prop} {mc ms : Nat} {st0 : List Value} {arr : Array Value}
    (hr : ∀ (H : Heap) (locs : List Loc) (ls : Array Slot), va_P D CL w H → va_D A w → va_S A s.heap H locs → lv_has ls nL lv → vx_Run p l e R s m args below meth c H locs k n mc ms (F0 m pc ls st0) st (va_Qi post (PO D cA (va_A w H.size)) (va_A w H.size) arr) (vx_X px (PX D cA (va_A w H.size)) (va_A w H.size)) (va_A w H.size))
    (KX : ∀ (E : String) (w' : va_W), px (E, w') → JX p l e R s m args below meth c nL D A w' (k + mc) (n + ms) Q pc lv st E) (K : ∀ (r : Int32) (w' : va_W), post r w' → J p l e R s m args below meth c nL D A w' (k + mc) (n + ms) Q (pc + 3) lv (.int r :: st)) : J p l e R s m args below meth c nL D A w k n Q (pc) lv st0 := by
  intro H locs ls hP hD hS hl
  refine vx_calli (hr H locs ls hP hD hS hl) hS (fun q _ h => wA (D := D) hD hS G.2.2.2.2.2.2.1 q h) (wA (D := D) hD hS G.2.2.2.2.2.2.1) (fun q _ h => wA (D := D) hD hS G.2.2.2.2.2.2.1 q h) (fun E ce q u t H1 locs1 ht hvm hp hB hz hk hS1 hce hcv hcl => ?_) (fun r u t H1 locs1 ht hvm hp hB hz hk hS1 => ?_)
  · obtain ⟨hE, hP1, -, hD1⟩ := hB
    rw [ht] at hP1
    obtain ⟨E9, w9⟩ := u
    have hE : E = E9 := hE
    subst hE
    exact KX E w9 hp H1 locs1 ls q ce hP1 (hD1.weaken (fun _ q _ h => wA (D := D) hD hS G.2.2.2.2.2.2.1 _ h)) hS1 hl hce hcv hcl
  · obtain ⟨hP1, -, hD1⟩ := hB
    rw [ht] at hP1
    exact K r u hp H1 locs1 ls hP1 (hD1.weaken (fun _ q _ h => wA (D := D) hD hS G.2.2.2.2.2.2.1 _ h)) hS1 hl
theorem jXV_i (G : GX p s m args c cc nL own D cA A) {C : String} {index n2 maxL f lo mc ms : Nat} {y : MethodName} {b : ByteArray} {a : Nat} {As st0 : List Value} {fs : List Value} {cl1 : u_T} {cl2 : Nat} {rt : FieldType} {post : Int32 → va_W → Prop} {px : String × va_W → Prop} (ci q0 : Nat) (hM : Xi l y b maxL rt f lo mc ms D cA (.ref a :: As) w post px) (g : GoodIn WS (wsV own index C y (wz y b maxL (some rt)))) (hd : y.cls = C ∧ y.cls ≠ "java/lang/invoke/MethodHandle" ∧ y.cls ≠ "java/lang/invoke/VarHandle" ∧ (parseMethodDescriptor y.desc).map (fun d => d.parameters.length) = some n2) (hR : f + 1 ≤ R.frames ∧ 8 + (maxL + 11) + lo ≤ R.locals) (hf : k + mc ≤ R.cells ∧ n + ms ≤ R.slots) (hn : As.length = n2) (hst : st0 = As.reverse ++ .ref a :: st) (hcat : (st.map fun v => v.category).sum ≤ 8) (hc : CL[ci]? = some (C, cl1, cl2)) (he : w[q0]? = some (a, .inr (ci, fs))) (hdg : decode cc pc = .ok (.invokevirtual index, 3)) (KX : ∀ (E : String) (w' : va_W), px (E, w') → JX p l e R s m args below meth c nL D A w' (k + mc) (n + ms) Q pc lv st E) (K : ∀ (r : Int32) (w' : va_W), post r w' → J p l e R s m args below meth c nL D A w' (k + mc) (n + ms) Q (pc + 3) lv (.int r :: st)) : J p l e R s m args below meth c nL D A w k n Q (pc) lv st0 :=
  jx_calli G (fun H locs ls hP hD hS hl => rx_V (Qc := (fun sz => va_Qi post (PO D cA (va_A w sz)) (va_A w sz))) (XC := fun sz => vx_X px (PX D cA (va_A w sz)) (va_A w sz)) G hM g ⟨rfl, rfl⟩ hd hR hf hn hst hcat hc he hdg hP hD hS hl) KX K
theorem jx_callv (G : GX p s m args c cc nL own D cA A) {post : va_W → Prop} {px : String × va_W → Prop} {mc ms : Nat} {st0 : List Value} {arr : Array Value}
    (hr : ∀ (H : Heap) (locs : List Loc) (ls : Array Slot), va_P D CL w H → va_D A w → va_S A s.heap H locs → lv_has ls nL lv → vx_Run p l e R s m args below meth c H locs k n mc ms (F0 m pc ls st0) st (va_Qv post (PO D cA (va_A w H.size)) (va_A w H.size) arr) (vx_X px (PX D cA (va_A w H.size)) (va_A w H.size)) (va_A w H.size))
    (KX : ∀ (E : String) (w' : va_W), px (E, w') → JX p l e R s m args below meth c nL D A w' (k + mc) (n + ms) Q pc lv st E) (K : ∀ (w' : va_W), post w' → J p l e R s m args below meth c nL D A w' (k + mc) (n + ms) Q (pc + 3) lv st) : J p l e R s m args below meth c nL D A w k n Q (pc) lv st0 := by
  intro H locs ls hP hD hS hl
  refine vx_callv (hr H locs ls hP hD hS hl) hS (fun q _ h => wA (D := D) hD hS G.2.2.2.2.2.2.1 q h) (wA (D := D) hD hS G.2.2.2.2.2.2.1) (fun q _ h => wA (D := D) hD hS G.2.2.2.2.2.2.1 q h) (fun E ce q u t H1 locs1 ht hvm hp hB hz hk hS1 hce hcv hcl => ?_) (fun u t H1 locs1 ht hvm hp hB hz hk hS1 => ?_)
  · obtain ⟨hE, hP1, -, hD1⟩ := hB
    rw [ht] at hP1
    obtain ⟨E9, w9⟩ := u
    have hE : E = E9 := hE
    subst hE
    exact KX E w9 hp H1 locs1 ls q ce hP1 (hD1.weaken (fun _ q _ h => wA (D := D) hD hS G.2.2.2.2.2.2.1 _ h)) hS1 hl hce hcv hcl
  · obtain ⟨hP1, -, hD1⟩ := hB
    rw [ht] at hP1
    exact K u hp H1 locs1 ls hP1 (hD1.weaken (fun _ q _ h => wA (D := D) hD hS G.2.2.2.2.2.2.1 _ h)) hS1 hl
theorem jXV_v (G : GX p s m args c cc nL own D cA A) {C : String} {index n2 maxL f lo mc ms : Nat} {y : MethodName} {b : ByteArray} {a : Nat} {As st0 : List Value} {fs : List Value} {cl1 : u_T} {cl2 : Nat} {post : va_W → Prop} {px : String × va_W → Prop} (ci q0 : Nat) (hM : Xv l y b maxL f lo mc ms D cA (.ref a :: As) w post px) (g : GoodIn WS (wsV own index C y (wz y b maxL none))) (hd : y.cls = C ∧ y.cls ≠ "java/lang/invoke/MethodHandle" ∧ y.cls ≠ "java/lang/invoke/VarHandle" ∧ (parseMethodDescriptor y.desc).map (fun d => d.parameters.length) = some n2) (hR : f + 1 ≤ R.frames ∧ 8 + (maxL + 11) + lo ≤ R.locals) (hf : k + mc ≤ R.cells ∧ n + ms ≤ R.slots) (hn : As.length = n2) (hst : st0 = As.reverse ++ .ref a :: st) (hcat : (st.map fun v => v.category).sum ≤ 8) (hc : CL[ci]? = some (C, cl1, cl2)) (he : w[q0]? = some (a, .inr (ci, fs))) (hdg : decode cc pc = .ok (.invokevirtual index, 3)) (KX : ∀ (E : String) (w' : va_W), px (E, w') → JX p l e R s m args below meth c nL D A w' (k + mc) (n + ms) Q pc lv st E) (K : ∀ (w' : va_W), post w' → J p l e R s m args below meth c nL D A w' (k + mc) (n + ms) Q (pc + 3) lv st) : J p l e R s m args below meth c nL D A w k n Q (pc) lv st0 :=
  jx_callv G (fun H locs ls hP hD hS hl => rx_V (Qc := (fun sz => va_Qv post (PO D cA (va_A w sz)) (va_A w sz))) (XC := fun sz => vx_X px (PX D cA (va_A w sz)) (va_A w sz)) G hM g ⟨rfl, rfl⟩ hd hR hf hn hst hcat hc he hdg hP hD hS hl) KX K
theorem jx_callr (G : GX p s m args c cc nL own D cA A) {post : Nat × va_W → Prop} {px : String × va_W → Prop} {mc ms : Nat} {st0 : List Value} {arr : Array Value}
    (hr : ∀ (H : Heap) (locs : List Loc) (ls : Array Slot), va_P D CL w H → va_D A w → va_S A s.heap H locs → lv_has ls nL lv → vx_Run p l e R s m args below meth c H locs k n mc ms (F0 m pc ls st0) st (va_Qr post (fun u a t => u.1 = a ∧ PO D cA (va_A w H.size) u.2 t) (va_A w H.size) arr) (vx_X px (PX D cA (va_A w H.size)) (va_A w H.size)) (va_A w H.size))
    (KX : ∀ (E : String) (w' : va_W), px (E, w') → JX p l e R s m args below meth c nL D A w' (k + mc) (n + ms) Q pc lv st E) (K : ∀ (r : Nat) (w' : va_W), post (r, w') → J p l e R s m args below meth c nL D A w' (k + mc) (n + ms) Q (pc + 3) lv (.ref r :: st)) : J p l e R s m args below meth c nL D A w k n Q (pc) lv st0 := by
  intro H locs ls hP hD hS hl
  refine my_callr (hr H locs ls hP hD hS hl) hS (fun q _ h => wA (D := D) hD hS G.2.2.2.2.2.2.1 q h) (wA (D := D) hD hS G.2.2.2.2.2.2.1) (fun q _ h => wA (D := D) hD hS G.2.2.2.2.2.2.1 q h) (fun E ce q u t H1 locs1 ht hvm hp hB hz hk hS1 hce hcv hcl => ?_) (fun u r t H1 locs1 ht hvm hp hB hz hk hS1 => ?_)
  · obtain ⟨hE, hP1, -, hD1⟩ := hB
    rw [ht] at hP1
    obtain ⟨E9, w9⟩ := u
    have hE : E = E9 := hE
    subst hE
    exact KX E w9 hp H1 locs1 ls q ce hP1 (hD1.weaken (fun _ q _ h => wA (D := D) hD hS G.2.2.2.2.2.2.1 _ h)) hS1 hl hce hcv hcl
  · obtain ⟨hr1, hP1, -, hD1⟩ := hB
    rw [ht] at hP1
    obtain ⟨r9, w9⟩ := u
    have hr1 : r9 = r := hr1
    subst hr1
    exact K r9 w9 hp H1 locs1 ls hP1 (hD1.weaken (fun _ q _ h => wA (D := D) hD hS G.2.2.2.2.2.2.1 _ h)) hS1 hl
theorem jXV_r (G : GX p s m args c cc nL own D cA A) {C : String} {index n2 maxL f lo mc ms : Nat} {y : MethodName} {b : ByteArray} {a : Nat} {As st0 : List Value} {fs : List Value} {cl1 : u_T} {cl2 : Nat} {rt : FieldType} {post : Nat × va_W → Prop} {px : String × va_W → Prop} (ci q0 : Nat) (hM : Xr l y b maxL rt f lo mc ms D cA (.ref a :: As) w post px) (g : GoodIn WS (wsV own index C y (wz y b maxL (some rt)))) (hd : y.cls = C ∧ y.cls ≠ "java/lang/invoke/MethodHandle" ∧ y.cls ≠ "java/lang/invoke/VarHandle" ∧ (parseMethodDescriptor y.desc).map (fun d => d.parameters.length) = some n2) (hR : f + 1 ≤ R.frames ∧ 8 + (maxL + 11) + lo ≤ R.locals) (hf : k + mc ≤ R.cells ∧ n + ms ≤ R.slots) (hn : As.length = n2) (hst : st0 = As.reverse ++ .ref a :: st) (hcat : (st.map fun v => v.category).sum ≤ 8) (hc : CL[ci]? = some (C, cl1, cl2)) (he : w[q0]? = some (a, .inr (ci, fs))) (hdg : decode cc pc = .ok (.invokevirtual index, 3)) (KX : ∀ (E : String) (w' : va_W), px (E, w') → JX p l e R s m args below meth c nL D A w' (k + mc) (n + ms) Q pc lv st E) (K : ∀ (r : Nat) (w' : va_W), post (r, w') → J p l e R s m args below meth c nL D A w' (k + mc) (n + ms) Q (pc + 3) lv (.ref r :: st)) : J p l e R s m args below meth c nL D A w k n Q (pc) lv st0 :=
  jx_callr G (fun H locs ls hP hD hS hl => rx_V (Qc := (fun sz => va_Qr post (fun u a t => u.1 = a ∧ PO D cA (va_A w sz) u.2 t) (va_A w sz))) (XC := fun sz => vx_X px (PX D cA (va_A w sz)) (va_A w sz)) G hM g ⟨rfl, rfl⟩ hd hR hf hn hst hcat hc he hdg hP hD hS hl) KX K
theorem ent_Xi {y : MethodName} {b : ByteArray} {maxL f lo mc ms : Nat} {rt : FieldType} {av : List Value} {post : Int32 → va_W → Prop} {px : String × va_W → Prop} {lv0 : List (Nat × Value)} (hy : plainName y.cls = true) (hown9 : y.cls = own) (hlen : (lg_sl av).length ≤ maxL) (hlv : lv_args 0 av = lv0)
    (body : ∀ (p : Program) (e : Env) (s : State) (m : MethodId) (args : Array Value) (below : List Frame) (meth : Method) (c : Code) (A : Nat → Prop) (Q : State → Prop), GX p s m args c b maxL own D cA A → Q = vx_MQ below (va_Qi post (PO D cA A) A) (vx_X px (PX D cA A) A) args s mc ms A → (∀ x ∈ c.exceptionTable.toList, False) → meth.locks = false → (∀ (r : Int32) (w' : va_W) (pc : Nat) (lv : List (Nat × Value)), decode b pc = .ok (.ireturn, 1) → narrow rt (.int r) = .int r → post r w' → J p l e (RM f lo mc ms) s m args below meth c maxL D A w' mc ms Q pc lv [.int r]) → J p l e (RM f lo mc ms) s m args below meth c maxL D A w 0 0 Q 0 lv0 []) : Xi l y b maxL rt f lo mc ms D cA av w post px := by
  intro sz
  refine vx_ofW (cc := b) (maxL := maxL) (ret := (some rt)) hy rfl ?_
  intro p e s m args below meth c s₁ B hml htab hv
  obtain ⟨rfl, hsz, hP, hK, hD0, hE⟩ := hv
  subst hsz
  have hts := atoms_spec (ws := wz y b maxL (some rt)) B.pre
  have hD : va_D (va_A w s.heap.size) w := hD0.self
  rw [lg_entry_eq]
  exact body p e s m _ below meth c (va_A w s.heap.size) _ ⟨B.exec, B.bytes, hml, by rw [← hown9]; exact findClass_of_methodNamed B.named, fun w h => hts w (List.mem_cons_of_mem _ h), hK, fun q h => Or.inr h, hE⟩ rfl htab B.notSynchronized
    (fun r w9 pc lv hd hn hp H locs ls hP hD hS hl => vx_ret (W.zret (ty := rt) B.exec B.bytes B.returns hn (fun t ht hW => ⟨⟨r, w9, rfl, hp, by rw [ht]; exact hP, va_K.moved hW.alike hK, hD⟩, hS.F ht⟩) hS.2.2 hd)) s.heap [] _ hP hD va_S.rf (by rw [← hlv]; exact lv_entry av hlen)
theorem ent_Xv {y : MethodName} {b : ByteArray} {maxL f lo mc ms : Nat} {av : List Value} {post : va_W → Prop} {px : String × va_W → Prop} {lv0 : List (Nat × Value)} (hy : plainName y.cls = true) (hown9 : y.cls = own) (hlen : (lg_sl av).length ≤ maxL) (hlv : lv_args 0 av = lv0)
    (body : ∀ (p : Program) (e : Env) (s : State) (m : MethodId) (args : Array Value) (below : List Frame) (meth : Method) (c : Code) (A : Nat → Prop) (Q : State → Prop), GX p s m args c b maxL own D cA A → Q = vx_MQ below (va_Qv post (PO D cA A) A) (vx_X px (PX D cA A) A) args s mc ms A → (∀ x ∈ c.exceptionTable.toList, False) → meth.locks = false → (∀ (w' : va_W) (pc : Nat) (lv : List (Nat × Value)), decode b pc = .ok (.return_, 1) → post w' → J p l e (RM f lo mc ms) s m args below meth c maxL D A w' mc ms Q pc lv []) → J p l e (RM f lo mc ms) s m args below meth c maxL D A w 0 0 Q 0 lv0 []) : Xv l y b maxL f lo mc ms D cA av w post px := by
  intro sz
  refine vx_ofW (cc := b) (maxL := maxL) (ret := none) hy rfl ?_
  intro p e s m args below meth c s₁ B hml htab hv
  obtain ⟨rfl, hsz, hP, hK, hD0, hE⟩ := hv
  subst hsz
  have hts := atoms_spec (ws := wz y b maxL none) B.pre
  have hD : va_D (va_A w s.heap.size) w := hD0.self
  rw [lg_entry_eq]
  exact body p e s m _ below meth c (va_A w s.heap.size) _ ⟨B.exec, B.bytes, hml, by rw [← hown9]; exact findClass_of_methodNamed B.named, fun w h => hts w (List.mem_cons_of_mem _ h), hK, fun q h => Or.inr h, hE⟩ rfl htab B.notSynchronized
    (fun w9 pc lv hd hp H locs ls hP hD hS hl => vx_ret (W.vret B.exec B.bytes B.returns (fun t ht hW => ⟨⟨w9, rfl, hp, by rw [ht]; exact hP, va_K.moved hW.alike hK, hD⟩, hS.F ht⟩) hS.2.2 hd)) s.heap [] _ hP hD va_S.rf (by rw [← hlv]; exact lv_entry av hlen)
theorem ent_Xr {y : MethodName} {b : ByteArray} {maxL f lo mc ms : Nat} {rt : FieldType} {av : List Value} {post : Nat × va_W → Prop} {px : String × va_W → Prop} {lv0 : List (Nat × Value)} (hy : plainName y.cls = true) (hown9 : y.cls = own) (hlen : (lg_sl av).length ≤ maxL) (hlv : lv_args 0 av = lv0) (hrt : ∃ n : String, rt = .object n)
    (body : ∀ (p : Program) (e : Env) (s : State) (m : MethodId) (args : Array Value) (below : List Frame) (meth : Method) (c : Code) (A : Nat → Prop) (Q : State → Prop), GX p s m args c b maxL own D cA A → Q = vx_MQ below (va_Qr post (fun u a t => u.1 = a ∧ PO D cA A u.2 t) A) (vx_X px (PX D cA A) A) args s mc ms A → (∀ x ∈ c.exceptionTable.toList, False) → meth.locks = false → (∀ (r : Nat) (w' : va_W) (pc : Nat) (lv : List (Nat × Value)), decode b pc = .ok (.areturn, 1) → post (r, w') → J p l e (RM f lo mc ms) s m args below meth c maxL D A w' mc ms Q pc lv [.ref r]) → J p l e (RM f lo mc ms) s m args below meth c maxL D A w 0 0 Q 0 lv0 []) : Xr l y b maxL rt f lo mc ms D cA av w post px := by
  intro sz
  refine vx_ofW (cc := b) (maxL := maxL) (ret := (some rt)) hy rfl ?_
  intro p e s m args below meth c s₁ B hml htab hv
  obtain ⟨rfl, hsz, hP, hK, hD0, hE⟩ := hv
  subst hsz
  have hts := atoms_spec (ws := wz y b maxL (some rt)) B.pre
  have hD : va_D (va_A w s.heap.size) w := hD0.self
  rw [lg_entry_eq]
  exact body p e s m _ below meth c (va_A w s.heap.size) _ ⟨B.exec, B.bytes, hml, by rw [← hown9]; exact findClass_of_methodNamed B.named, fun w h => hts w (List.mem_cons_of_mem _ h), hK, fun q h => Or.inr h, hE⟩ rfl htab B.notSynchronized
    (fun r w9 pc lv hd hp H locs ls hP hD hS hl => vx_ret (W.aret B.exec B.bytes B.returns (Or.inl hrt) (Or.inr ⟨r, rfl⟩) (fun t ht hW => ⟨⟨(r, w9), r, rfl, hp, rfl, by rw [ht]; exact hP, va_K.moved hW.alike hK, hD⟩, hS.F ht⟩) hS.2.2 hd)) s.heap [] _ hP hD va_S.rf (by rw [← hlv]; exact lv_entry av hlen)
theorem nest_ot {w : Cond} (h : isNest w = true) : w.onTables = true := by
  cases w <;> first | rfl | exact (Bool.false_ne_true h).elim
theorem j_throw (G : GX p s m args c cc nL own D cA A) (hfl : l.stackTraces = false) {Qc : Array Value → State → Outcome → State → Prop} {px : String × va_W → Prop} {mc ms : Nat} (hQ : Q = vx_MQ below Qc (vx_X px (PX D cA A) A) args s mc ms A) (ht : ∀ x ∈ c.exceptionTable.toList, False) (hlocks : meth.locks = false)
    {E text : String} {names : List String} {ik is ic : Nat} (hcls : Bundle.fit E = true) (hnames : ∀ n ∈ names, Bundle.fit n = true) (hk : Cond.classLink own ik E ∈ WS) (hini : Cond.initialized E ∈ WS) (hown9 : own = RX6) (hstr : (is, text) ∈ STRL)
    (hat : ∀ w ∈ vx_atS own ic E names, w ∈ WS ∨ w ∈ NWL) (hgood : ∀ w ∈ Cond.classLink own ik E :: Cond.initialized E :: vx_atS own ic E names, vx_ot w = true)
    (d0 : decode cc pc = .ok (.new ik, 3)) (d3 : decode cc (pc + 3) = .ok (.dup, 1)) (d4 : decode cc (pc + 4) = .ok (.ldc is, 2)) (d6 : decode cc (pc + 6) = .ok (.invokespecial ic, 3)) (d9 : decode cc (pc + 9) = .ok (.athrow, 1))
    (hR : names.length + 3 < R.frames ∧ (st.map fun v => v.category).sum + (13 * (names.length + 1) + 43) ≤ R.locals ∧ k + 1 ≤ R.cells ∧ n + 6 ≤ R.slots) (hpx : px (E, w)) (h1 : k + 1 ≤ mc) (h2 : n + 6 ≤ ms) : J p l e R s m args below meth c nL D A w k n Q (pc) lv st := by
  subst hQ
  obtain ⟨hx, hb, hml, hown, hts, hK, hA, hE⟩ := G
  subst hown9
  obtain ⟨sa, hsa⟩ := hE.2.1 _ hstr
  exact fun H locs ls hP hD hS hl => vx_throwS hx hb hfl hown hcls hnames (hts _ hk) (hts _ hini) hsa (fun w hw => (hat w hw).elim (fun h => hts w h) (fun h => va_Nw.use (nest_ot (NWL_ok w h)) (hE.1 w h))) hgood hE.2.2.2.2.2.1 hE.2.2.2.2.2.2 hS (hl.1.trans hml.symm) d0 d3 d4 d6 d9 (fun x hx => absurd hx (fun h => ht x h)) hR.1 hR.2.1 hR.2.2.1 hR.2.2.2 hlocks
    (fun t ht1 ht2 ht3 => ⟨(E, w), hpx, ⟨rfl, hP.kept (fun q x hq => ht3 x.1 ((hP q x hq).lt)), va_K.moved ht1 hK, hD⟩, ⟨Nat.le_trans hS.1 ht2, fun q h3 h4 => (ht3 q (Nat.lt_of_lt_of_le h3 hS.1)).trans (hS.2.1 q h3 h4)⟩⟩) hS.2.2 h1 h2
theorem j_throwW (G : GX p s m args c cc nL own D cA A) (hfl : l.stackTraces = false) {Qc : Array Value → State → Outcome → State → Prop} {px : String × va_W → Prop} {mc ms : Nat} (hQ : Q = vx_MQ below Qc (vx_X px (PX D cA A) A) args s mc ms A) (ht : ∀ x ∈ c.exceptionTable.toList, False) (hlocks : meth.locks = false)
    {E text : String} {names : List String} {ik is ic : Nat} (hcls : Bundle.fit E = true) (hnames : ∀ n ∈ names, Bundle.fit n = true) (hk : Cond.classLink own ik E ∈ WS) (hini : Cond.initialized E ∈ WS) (hown9 : own = RX6) (hstr : (is, text) ∈ STRL)
    (hat : ∀ w ∈ vx_atS own ic E names, w ∈ WS ∨ w ∈ NWL) (hgood : ∀ w ∈ Cond.classLink own ik E :: Cond.initialized E :: vx_atS own ic E names, vx_ot w = true)
    (d0 : decode cc pc = .ok (.new ik, 3)) (d3 : decode cc (pc + 3) = .ok (.dup, 1)) (d4 : decode cc (pc + 4) = .ok (.ldc_w is, 3)) (d6 : decode cc (pc + 7) = .ok (.invokespecial ic, 3)) (d9 : decode cc (pc + 10) = .ok (.athrow, 1))
    (hR : names.length + 3 < R.frames ∧ (st.map fun v => v.category).sum + (13 * (names.length + 1) + 43) ≤ R.locals ∧ k + 1 ≤ R.cells ∧ n + 6 ≤ R.slots) (hpx : px (E, w)) (h1 : k + 1 ≤ mc) (h2 : n + 6 ≤ ms) : J p l e R s m args below meth c nL D A w k n Q (pc) lv st := by
  subst hQ
  obtain ⟨hx, hb, hml, hown, hts, hK, hA, hE⟩ := G
  subst hown9
  obtain ⟨sa, hsa⟩ := hE.2.1 _ hstr
  exact fun H locs ls hP hD hS hl => vx_throwSW hx hb hfl hown hcls hnames (hts _ hk) (hts _ hini) hsa (fun w hw => (hat w hw).elim (fun h => hts w h) (fun h => va_Nw.use (nest_ot (NWL_ok w h)) (hE.1 w h))) hgood hE.2.2.2.2.2.1 hE.2.2.2.2.2.2 hS (hl.1.trans hml.symm) d0 d3 d4 d6 d9 (fun x hx => absurd hx (fun h => ht x h)) hR.1 hR.2.1 hR.2.2.1 hR.2.2.2 hlocks
    (fun t ht1 ht2 ht3 => ⟨(E, w), hpx, ⟨rfl, hP.kept (fun q x hq => ht3 x.1 ((hP q x hq).lt)), va_K.moved ht1 hK, hD⟩, ⟨Nat.le_trans hS.1 ht2, fun q h3 h4 => (ht3 q (Nat.lt_of_lt_of_le h3 hS.1)).trans (hS.2.1 q h3 h4)⟩⟩) hS.2.2 h1 h2
/-- not caught here -/
theorem j_out {E : String} {post : Unit → Prop} {px : String × va_W → Prop} {Qc : Array Value → State → Outcome → State → Prop} {mc ms : Nat} (G : GX p s m args c cc nL own D cA A) (hQ : Q = vx_MQ below Qc (vx_X px (PX D cA A) A) args s mc ms A) (ht : ∀ x ∈ c.exceptionTable.toList, False) (hlocks : meth.locks = false) (hpx : px (E, w)) (h1 : k ≤ mc) (h2 : n ≤ ms) : JX p l e R s m args below meth c nL D A w k n Q pc lv st E := by
  subst hQ
  exact fun H locs ls q ce hP hD hS hl hce hcv hcl => vx_out (fun x hx => absurd hx (fun h => ht x h)) hlocks hce hcv hcl (fun t ht1 ht2 => ⟨(E, w), hpx, ⟨rfl, by rw [ht1]; exact hP, va_K.moved ht2 G.2.2.2.2.2.1, hD⟩, hS.F ht1⟩) hS.2.2 h1 h2
theorem jx_w {w' : va_W} {E : String} (h : w = w') (K : JX p l e R s m args below meth c nL D A w' k n Q pc lv st E) : JX p l e R s m args below meth c nL D A w k n Q pc lv st E := h ▸ K
end JJ
end
