/-- a private method of a class that the tables say can be made, by its rows of tables_1 -/
def lw_okq (q : MethodName × Nat) : Prop := (q.1.cls ≠ "java/lang/invoke/MethodHandle" ∧ q.1.cls ≠ "java/lang/invoke/VarHandle") ∧ Cond.instantiable q.1.cls q.2 ∈ tables_1 ∧ Cond.privateMethod q.1 ∈ tables_1 ∧ Cond.instanceMethod q.1 ∈ tables_1
theorem lw_p0 : lw_okq (⟨"RevealBeacon$History", "placeAt", "(I)LRevealBeacon$State;"⟩, 3) := ⟨⟨by decide +kernel, by decide +kernel⟩, List.mem_of_getElem? (i := 115) (by decide +kernel), List.mem_of_getElem? (i := 191) (by decide +kernel), List.mem_of_getElem? (i := 192) (by decide +kernel)⟩
theorem lw_p1 : lw_okq (⟨"RevealBeacon", "tryOut", "(IZ)I"⟩, 5) := ⟨⟨by decide +kernel, by decide +kernel⟩, List.mem_of_getElem? (i := 11) (by decide +kernel), List.mem_of_getElem? (i := 517) (by decide +kernel), List.mem_of_getElem? (i := 518) (by decide +kernel)⟩
theorem lw_p2 : lw_okq (⟨"RevealBeacon", "imageAt", "(I)LRevealBeacon$Image;"⟩, 5) := ⟨⟨by decide +kernel, by decide +kernel⟩, List.mem_of_getElem? (i := 11) (by decide +kernel), List.mem_of_getElem? (i := 538) (by decide +kernel), List.mem_of_getElem? (i := 539) (by decide +kernel)⟩
theorem lw_p3 : lw_okq (⟨"RevealBeaconModel", "lay", "(II)V"⟩, 8) := ⟨⟨by decide +kernel, by decide +kernel⟩, List.mem_of_getElem? (i := 546) (by decide +kernel), List.mem_of_getElem? (i := 552) (by decide +kernel), List.mem_of_getElem? (i := 553) (by decide +kernel)⟩
theorem lw_p4 : lw_okq (⟨"RevealBeaconModel", "layRound", "()V"⟩, 8) := ⟨⟨by decide +kernel, by decide +kernel⟩, List.mem_of_getElem? (i := 546) (by decide +kernel), List.mem_of_getElem? (i := 556) (by decide +kernel), List.mem_of_getElem? (i := 557) (by decide +kernel)⟩
theorem lw_p5 : lw_okq (⟨"RevealBeaconModel", "remember", "()V"⟩, 8) := ⟨⟨by decide +kernel, by decide +kernel⟩, List.mem_of_getElem? (i := 546) (by decide +kernel), List.mem_of_getElem? (i := 592) (by decide +kernel), List.mem_of_getElem? (i := 593) (by decide +kernel)⟩
theorem lw_p6 : lw_okq (⟨"RevealBeaconModel", "put", "(II)I"⟩, 8) := ⟨⟨by decide +kernel, by decide +kernel⟩, List.mem_of_getElem? (i := 546) (by decide +kernel), List.mem_of_getElem? (i := 603) (by decide +kernel), List.mem_of_getElem? (i := 604) (by decide +kernel)⟩
theorem lw_p7 : lw_okq (⟨"RevealBeaconModel", "isMember", "(I)Z"⟩, 8) := ⟨⟨by decide +kernel, by decide +kernel⟩, List.mem_of_getElem? (i := 546) (by decide +kernel), List.mem_of_getElem? (i := 615) (by decide +kernel), List.mem_of_getElem? (i := 616) (by decide +kernel)⟩
theorem lw_p8 : lw_okq (⟨"RevealBeaconModel", "isOpening", "(III)Z"⟩, 8) := ⟨⟨by decide +kernel, by decide +kernel⟩, List.mem_of_getElem? (i := 546) (by decide +kernel), List.mem_of_getElem? (i := 627) (by decide +kernel), List.mem_of_getElem? (i := 628) (by decide +kernel)⟩
theorem lw_p9 : lw_okq (⟨"RevealBeaconModel", "isOn", "(I)Z"⟩, 8) := ⟨⟨by decide +kernel, by decide +kernel⟩, List.mem_of_getElem? (i := 546) (by decide +kernel), List.mem_of_getElem? (i := 631) (by decide +kernel), List.mem_of_getElem? (i := 632) (by decide +kernel)⟩
theorem lw_p10 : lw_okq (⟨"RevealBeaconModel", "isBound", "(I)Z"⟩, 8) := ⟨⟨by decide +kernel, by decide +kernel⟩, List.mem_of_getElem? (i := 546) (by decide +kernel), List.mem_of_getElem? (i := 635) (by decide +kernel), List.mem_of_getElem? (i := 636) (by decide +kernel)⟩
theorem lw_p11 : lw_okq (⟨"RevealBeaconModel", "layShares", "(II)V"⟩, 8) := ⟨⟨by decide +kernel, by decide +kernel⟩, List.mem_of_getElem? (i := 546) (by decide +kernel), List.mem_of_getElem? (i := 642) (by decide +kernel), List.mem_of_getElem? (i := 643) (by decide +kernel)⟩
theorem lw_p12 : lw_okq (⟨"RevealBeaconModel", "draw", "(I)I"⟩, 8) := ⟨⟨by decide +kernel, by decide +kernel⟩, List.mem_of_getElem? (i := 546) (by decide +kernel), List.mem_of_getElem? (i := 646) (by decide +kernel), List.mem_of_getElem? (i := 647) (by decide +kernel)⟩
theorem lw_p13 : lw_okq (⟨"RevealBeaconModel", "fine", "(II)V"⟩, 8) := ⟨⟨by decide +kernel, by decide +kernel⟩, List.mem_of_getElem? (i := 546) (by decide +kernel), List.mem_of_getElem? (i := 661) (by decide +kernel), List.mem_of_getElem? (i := 662) (by decide +kernel)⟩
theorem lw_p14 : lw_okq (⟨"RevealBeaconModel", "areTwo", "(II)Z"⟩, 8) := ⟨⟨by decide +kernel, by decide +kernel⟩, List.mem_of_getElem? (i := 546) (by decide +kernel), List.mem_of_getElem? (i := 669) (by decide +kernel), List.mem_of_getElem? (i := 670) (by decide +kernel)⟩
theorem lw_p15 : lw_okq (⟨"RevealBeaconModel", "mayPublish", "(II)Z"⟩, 8) := ⟨⟨by decide +kernel, by decide +kernel⟩, List.mem_of_getElem? (i := 546) (by decide +kernel), List.mem_of_getElem? (i := 673) (by decide +kernel), List.mem_of_getElem? (i := 674) (by decide +kernel)⟩
def lw_privs_1 : List (MethodName × Nat) := [(⟨"RevealBeacon$History", "placeAt", "(I)LRevealBeacon$State;"⟩, 3), (⟨"RevealBeacon", "tryOut", "(IZ)I"⟩, 5), (⟨"RevealBeacon", "imageAt", "(I)LRevealBeacon$Image;"⟩, 5), (⟨"RevealBeaconModel", "lay", "(II)V"⟩, 8), (⟨"RevealBeaconModel", "layRound", "()V"⟩, 8), (⟨"RevealBeaconModel", "remember", "()V"⟩, 8), (⟨"RevealBeaconModel", "put", "(II)I"⟩, 8), (⟨"RevealBeaconModel", "isMember", "(I)Z"⟩, 8), (⟨"RevealBeaconModel", "isOpening", "(III)Z"⟩, 8), (⟨"RevealBeaconModel", "isOn", "(I)Z"⟩, 8), (⟨"RevealBeaconModel", "isBound", "(I)Z"⟩, 8), (⟨"RevealBeaconModel", "layShares", "(II)V"⟩, 8), (⟨"RevealBeaconModel", "draw", "(I)I"⟩, 8), (⟨"RevealBeaconModel", "fine", "(II)V"⟩, 8), (⟨"RevealBeaconModel", "areTwo", "(II)Z"⟩, 8), (⟨"RevealBeaconModel", "mayPublish", "(II)Z"⟩, 8)]
theorem lw_r1 : ∀ q ∈ lw_privs_1, lw_okq q := List.forall_mem_cons.mpr ⟨lw_p0, List.forall_mem_cons.mpr ⟨lw_p1, List.forall_mem_cons.mpr ⟨lw_p2, List.forall_mem_cons.mpr ⟨lw_p3, List.forall_mem_cons.mpr ⟨lw_p4, List.forall_mem_cons.mpr ⟨lw_p5, List.forall_mem_cons.mpr ⟨lw_p6, List.forall_mem_cons.mpr ⟨lw_p7, List.forall_mem_cons.mpr ⟨lw_p8, List.forall_mem_cons.mpr ⟨lw_p9, List.forall_mem_cons.mpr ⟨lw_p10, List.forall_mem_cons.mpr ⟨lw_p11, List.forall_mem_cons.mpr ⟨lw_p12, List.forall_mem_cons.mpr ⟨lw_p13, List.forall_mem_cons.mpr ⟨lw_p14, List.forall_mem_cons.mpr ⟨lw_p15, fun _ h => absurd h List.not_mem_nil⟩⟩⟩⟩⟩⟩⟩⟩⟩⟩⟩⟩⟩⟩⟩⟩
theorem lw_p16 : lw_okq (⟨"RevealBeaconModel", "known", "(I)I"⟩, 8) := ⟨⟨by decide +kernel, by decide +kernel⟩, List.mem_of_getElem? (i := 546) (by decide +kernel), List.mem_of_getElem? (i := 677) (by decide +kernel), List.mem_of_getElem? (i := 678) (by decide +kernel)⟩
theorem lw_p17 : lw_okq (⟨"RevealBeaconModel", "takePublished", "(I)V"⟩, 8) := ⟨⟨by decide +kernel, by decide +kernel⟩, List.mem_of_getElem? (i := 546) (by decide +kernel), List.mem_of_getElem? (i := 684) (by decide +kernel), List.mem_of_getElem? (i := 685) (by decide +kernel)⟩
theorem lw_p18 : lw_okq (⟨"RevealBeaconModel", "sharesKnown", "()I"⟩, 8) := ⟨⟨by decide +kernel, by decide +kernel⟩, List.mem_of_getElem? (i := 546) (by decide +kernel), List.mem_of_getElem? (i := 688) (by decide +kernel), List.mem_of_getElem? (i := 689) (by decide +kernel)⟩
theorem lw_p19 : lw_okq (⟨"RevealBeaconModel", "atZero", "()I"⟩, 8) := ⟨⟨by decide +kernel, by decide +kernel⟩, List.mem_of_getElem? (i := 546) (by decide +kernel), List.mem_of_getElem? (i := 692) (by decide +kernel), List.mem_of_getElem? (i := 693) (by decide +kernel)⟩
theorem lw_p20 : lw_okq (⟨"RevealBeaconModel", "tickOnce", "()V"⟩, 8) := ⟨⟨by decide +kernel, by decide +kernel⟩, List.mem_of_getElem? (i := 546) (by decide +kernel), List.mem_of_getElem? (i := 705) (by decide +kernel), List.mem_of_getElem? (i := 706) (by decide +kernel)⟩
theorem lw_p21 : lw_okq (⟨"RevealBeaconModel", "endPhase", "()V"⟩, 8) := ⟨⟨by decide +kernel, by decide +kernel⟩, List.mem_of_getElem? (i := 546) (by decide +kernel), List.mem_of_getElem? (i := 709) (by decide +kernel), List.mem_of_getElem? (i := 710) (by decide +kernel)⟩
theorem lw_p22 : lw_okq (⟨"RevealBeaconModel", "bound", "()I"⟩, 8) := ⟨⟨by decide +kernel, by decide +kernel⟩, List.mem_of_getElem? (i := 546) (by decide +kernel), List.mem_of_getElem? (i := 713) (by decide +kernel), List.mem_of_getElem? (i := 714) (by decide +kernel)⟩
theorem lw_p23 : lw_okq (⟨"RevealBeaconModel", "count", "(I)I"⟩, 8) := ⟨⟨by decide +kernel, by decide +kernel⟩, List.mem_of_getElem? (i := 546) (by decide +kernel), List.mem_of_getElem? (i := 717) (by decide +kernel), List.mem_of_getElem? (i := 718) (by decide +kernel)⟩
theorem lw_p24 : lw_okq (⟨"RevealBeaconModel", "shut", "()V"⟩, 8) := ⟨⟨by decide +kernel, by decide +kernel⟩, List.mem_of_getElem? (i := 546) (by decide +kernel), List.mem_of_getElem? (i := 721) (by decide +kernel), List.mem_of_getElem? (i := 722) (by decide +kernel)⟩
theorem lw_p25 : lw_okq (⟨"RevealBeaconModel", "payOut", "()V"⟩, 8) := ⟨⟨by decide +kernel, by decide +kernel⟩, List.mem_of_getElem? (i := 546) (by decide +kernel), List.mem_of_getElem? (i := 725) (by decide +kernel), List.mem_of_getElem? (i := 726) (by decide +kernel)⟩
theorem lw_p26 : lw_okq (⟨"RevealBeaconModel", "outputNow", "()I"⟩, 8) := ⟨⟨by decide +kernel, by decide +kernel⟩, List.mem_of_getElem? (i := 546) (by decide +kernel), List.mem_of_getElem? (i := 729) (by decide +kernel), List.mem_of_getElem? (i := 730) (by decide +kernel)⟩
theorem lw_p27 : lw_okq (⟨"RevealBeaconModel", "deposits", "()I"⟩, 8) := ⟨⟨by decide +kernel, by decide +kernel⟩, List.mem_of_getElem? (i := 546) (by decide +kernel), List.mem_of_getElem? (i := 745) (by decide +kernel), List.mem_of_getElem? (i := 746) (by decide +kernel)⟩
theorem lw_p28 : lw_okq (⟨"RevealBeaconModel", "membersOn", "()I"⟩, 8) := ⟨⟨by decide +kernel, by decide +kernel⟩, List.mem_of_getElem? (i := 546) (by decide +kernel), List.mem_of_getElem? (i := 749) (by decide +kernel), List.mem_of_getElem? (i := 750) (by decide +kernel)⟩
theorem lw_p29 : lw_okq (⟨"RevealBeaconModel", "published", "(I)I"⟩, 8) := ⟨⟨by decide +kernel, by decide +kernel⟩, List.mem_of_getElem? (i := 546) (by decide +kernel), List.mem_of_getElem? (i := 761) (by decide +kernel), List.mem_of_getElem? (i := 762) (by decide +kernel)⟩
theorem lw_p30 : lw_okq (⟨"RevealBeaconModel", "standing", "(I)I"⟩, 8) := ⟨⟨by decide +kernel, by decide +kernel⟩, List.mem_of_getElem? (i := 546) (by decide +kernel), List.mem_of_getElem? (i := 765) (by decide +kernel), List.mem_of_getElem? (i := 766) (by decide +kernel)⟩
theorem lw_p31 : lw_okq (⟨"RevealBeaconModel", "openingsOf", "(II)I"⟩, 8) := ⟨⟨by decide +kernel, by decide +kernel⟩, List.mem_of_getElem? (i := 546) (by decide +kernel), List.mem_of_getElem? (i := 785) (by decide +kernel), List.mem_of_getElem? (i := 786) (by decide +kernel)⟩
def lw_privs_2 : List (MethodName × Nat) := [(⟨"RevealBeaconModel", "known", "(I)I"⟩, 8), (⟨"RevealBeaconModel", "takePublished", "(I)V"⟩, 8), (⟨"RevealBeaconModel", "sharesKnown", "()I"⟩, 8), (⟨"RevealBeaconModel", "atZero", "()I"⟩, 8), (⟨"RevealBeaconModel", "tickOnce", "()V"⟩, 8), (⟨"RevealBeaconModel", "endPhase", "()V"⟩, 8), (⟨"RevealBeaconModel", "bound", "()I"⟩, 8), (⟨"RevealBeaconModel", "count", "(I)I"⟩, 8), (⟨"RevealBeaconModel", "shut", "()V"⟩, 8), (⟨"RevealBeaconModel", "payOut", "()V"⟩, 8), (⟨"RevealBeaconModel", "outputNow", "()I"⟩, 8), (⟨"RevealBeaconModel", "deposits", "()I"⟩, 8), (⟨"RevealBeaconModel", "membersOn", "()I"⟩, 8), (⟨"RevealBeaconModel", "published", "(I)I"⟩, 8), (⟨"RevealBeaconModel", "standing", "(I)I"⟩, 8), (⟨"RevealBeaconModel", "openingsOf", "(II)I"⟩, 8)]
theorem lw_r2 : ∀ q ∈ lw_privs_2, lw_okq q := List.forall_mem_cons.mpr ⟨lw_p16, List.forall_mem_cons.mpr ⟨lw_p17, List.forall_mem_cons.mpr ⟨lw_p18, List.forall_mem_cons.mpr ⟨lw_p19, List.forall_mem_cons.mpr ⟨lw_p20, List.forall_mem_cons.mpr ⟨lw_p21, List.forall_mem_cons.mpr ⟨lw_p22, List.forall_mem_cons.mpr ⟨lw_p23, List.forall_mem_cons.mpr ⟨lw_p24, List.forall_mem_cons.mpr ⟨lw_p25, List.forall_mem_cons.mpr ⟨lw_p26, List.forall_mem_cons.mpr ⟨lw_p27, List.forall_mem_cons.mpr ⟨lw_p28, List.forall_mem_cons.mpr ⟨lw_p29, List.forall_mem_cons.mpr ⟨lw_p30, List.forall_mem_cons.mpr ⟨lw_p31, fun _ h => absurd h List.not_mem_nil⟩⟩⟩⟩⟩⟩⟩⟩⟩⟩⟩⟩⟩⟩⟩⟩
theorem lw_p32 : lw_okq (⟨"RevealBeaconModel", "hold", "()V"⟩, 8) := ⟨⟨by decide +kernel, by decide +kernel⟩, List.mem_of_getElem? (i := 546) (by decide +kernel), List.mem_of_getElem? (i := 801) (by decide +kernel), List.mem_of_getElem? (i := 802) (by decide +kernel)⟩
theorem lw_p33 : lw_okq (⟨"RevealBeaconModel", "recoverAll", "(I)V"⟩, 8) := ⟨⟨by decide +kernel, by decide +kernel⟩, List.mem_of_getElem? (i := 546) (by decide +kernel), List.mem_of_getElem? (i := 805) (by decide +kernel), List.mem_of_getElem? (i := 806) (by decide +kernel)⟩
theorem lw_p34 : lw_okq (⟨"RevealBeaconModel", "release", "()V"⟩, 8) := ⟨⟨by decide +kernel, by decide +kernel⟩, List.mem_of_getElem? (i := 546) (by decide +kernel), List.mem_of_getElem? (i := 809) (by decide +kernel), List.mem_of_getElem? (i := 810) (by decide +kernel)⟩
theorem lw_p35 : lw_okq (⟨"RevealBeaconModel", "outputIf", "(IZ)I"⟩, 8) := ⟨⟨by decide +kernel, by decide +kernel⟩, List.mem_of_getElem? (i := 546) (by decide +kernel), List.mem_of_getElem? (i := 817) (by decide +kernel), List.mem_of_getElem? (i := 818) (by decide +kernel)⟩
def lw_privs_3 : List (MethodName × Nat) := [(⟨"RevealBeaconModel", "hold", "()V"⟩, 8), (⟨"RevealBeaconModel", "recoverAll", "(I)V"⟩, 8), (⟨"RevealBeaconModel", "release", "()V"⟩, 8), (⟨"RevealBeaconModel", "outputIf", "(IZ)I"⟩, 8)]
theorem lw_r3 : ∀ q ∈ lw_privs_3, lw_okq q := List.forall_mem_cons.mpr ⟨lw_p32, List.forall_mem_cons.mpr ⟨lw_p33, List.forall_mem_cons.mpr ⟨lw_p34, List.forall_mem_cons.mpr ⟨lw_p35, fun _ h => absurd h List.not_mem_nil⟩⟩⟩⟩
def lw_privs : List (MethodName × Nat) := lw_privs_1 ++ (lw_privs_2 ++ (lw_privs_3))
def lw_tbl : List Cond := k2_sels lw_privs ++ tables_1
theorem lw_privs_ok : ∀ q ∈ lw_privs, lw_okq q := by
  show ∀ q ∈ lw_privs_1 ++ (lw_privs_2 ++ (lw_privs_3)), lw_okq q
  exact List.forall_mem_append.mpr ⟨lw_r1, List.forall_mem_append.mpr ⟨lw_r2, lw_r3⟩⟩
/-- the streams that the claim lets the run draw from -/
abbrev lw_cs : List Choice := [Jvm.Choice.named "NaN.bits"]
theorem lw_bits : nanBits ∈ lw_cs := by first | decide | exact List.mem_cons_self | simp [lw_cs, nanBits]
def RX0 : String := "RevealBeacon$History"
def TX0 : u_T := fun k => match k with
  | 0 => ("RevealBeacon$History", "states", "[LRevealBeacon$State;", true)
  | 1 => ("RevealBeacon$History", "first", "I", false)
  | _ => ("RevealBeacon$History", "count", "I", false)
def tyX0 : Nat → FieldType := fun k => match k with
  | 0 => .array (.object "RevealBeacon$State")
  | 1 => .int
  | _ => .int
theorem nmX0 : ∀ a, a < 3 → ∀ b, b < 3 → a ≠ b → (TX0 a).2.1 ≠ (TX0 b).2.1 := by decide +kernel
theorem tyX0_ok : ∀ k, k < 3 → parseFieldDescriptor (TX0 k).2.2.1 = some (tyX0 k) := by decide +kernel
abbrev cX0_init : ByteArray := prog_2_method_1_code
def yX0_init : MethodName := ⟨RX0, "<init>", "()V"⟩
abbrev cX0_record : ByteArray := prog_2_method_2_code
def yX0_record : MethodName := ⟨RX0, "record", "(LRevealBeacon$State;)V"⟩
abbrev cX0_restore : ByteArray := prog_2_method_3_code
def yX0_restore : MethodName := ⟨RX0, "restore", "(LRevealBeacon$State;)V"⟩
abbrev cX0_placeAt : ByteArray := prog_2_method_4_code
def yX0_placeAt : MethodName := ⟨RX0, "placeAt", "(I)LRevealBeacon$State;"⟩
def RX1 : String := "RevealBeacon$Image"
def TX1 : u_T := fun k => match k with
  | 0 => ("RevealBeacon$Image", "content", "LRevealBeacon$State;", true)
  | _ => ("RevealBeacon$Image", "filled", "Z", false)
def tyX1 : Nat → FieldType := fun k => match k with
  | 0 => .object "RevealBeacon$State"
  | _ => .boolean
theorem nmX1 : ∀ a, a < 2 → ∀ b, b < 2 → a ≠ b → (TX1 a).2.1 ≠ (TX1 b).2.1 := by decide +kernel
theorem tyX1_ok : ∀ k, k < 2 → parseFieldDescriptor (TX1 k).2.2.1 = some (tyX1 k) := by decide +kernel
abbrev cX1_init : ByteArray := prog_3_method_1_code
def yX1_init : MethodName := ⟨RX1, "<init>", "()V"⟩
def RX2 : String := "RevealBeacon$Row"
def TX2 : u_T := fun k => match k with
  | _ => ("RevealBeacon$Row", "cells", "[I", true)
def tyX2 : Nat → FieldType := fun k => match k with
  | _ => .array .int
theorem nmX2 : ∀ a, a < 1 → ∀ b, b < 1 → a ≠ b → (TX2 a).2.1 ≠ (TX2 b).2.1 := by decide +kernel
theorem tyX2_ok : ∀ k, k < 1 → parseFieldDescriptor (TX2 k).2.2.1 = some (tyX2 k) := by decide +kernel
abbrev cX2_init : ByteArray := prog_4_method_1_code
def yX2_init : MethodName := ⟨RX2, "<init>", "(I)V"⟩
abbrev cX2_at : ByteArray := prog_4_method_2_code
def yX2_at : MethodName := ⟨RX2, "at", "(I)I"⟩
abbrev cX2_put : ByteArray := prog_4_method_3_code
def yX2_put : MethodName := ⟨RX2, "put", "(II)V"⟩
abbrev cX2_add : ByteArray := prog_4_method_4_code
def yX2_add : MethodName := ⟨RX2, "add", "(II)V"⟩
abbrev cX2_fill : ByteArray := prog_4_method_5_code
def yX2_fill : MethodName := ⟨RX2, "fill", "(I)V"⟩
abbrev cX2_copyFrom : ByteArray := prog_4_method_6_code
def yX2_copyFrom : MethodName := ⟨RX2, "copyFrom", "(LRevealBeacon$Row;)V"⟩
def RX3 : String := "RevealBeacon$State"
def TX3 : u_T := fun k => match k with
  | 0 => ("RevealBeacon$State", "members", "I", false)
  | 1 => ("RevealBeacon$State", "threshold", "I", false)
  | 2 => ("RevealBeacon$State", "clock", "I", false)
  | 3 => ("RevealBeacon$State", "round", "I", false)
  | 4 => ("RevealBeacon$State", "phase", "I", false)
  | 5 => ("RevealBeacon$State", "age", "I", false)
  | 6 => ("RevealBeacon$State", "pool", "I", false)
  | 7 => ("RevealBeacon$State", "seed", "I", false)
  | 8 => ("RevealBeacon$State", "settings", "LRevealBeacon$Row;", true)
  | 9 => ("RevealBeacon$State", "outputs", "LRevealBeacon$Row;", true)
  | 10 => ("RevealBeacon$State", "deposits", "LRevealBeacon$Row;", true)
  | 11 => ("RevealBeacon$State", "switches", "LRevealBeacon$Row;", true)
  | 12 => ("RevealBeacon$State", "fines", "LRevealBeacon$Row;", true)
  | 13 => ("RevealBeacon$State", "standings", "LRevealBeacon$Row;", true)
  | 14 => ("RevealBeacon$State", "commitments", "LRevealBeacon$Row;", true)
  | 15 => ("RevealBeacon$State", "secrets", "LRevealBeacon$Row;", true)
  | 16 => ("RevealBeacon$State", "knowns", "LRevealBeacon$Row;", true)
  | 17 => ("RevealBeacon$State", "shares", "LRevealBeacon$Row;", true)
  | _ => ("RevealBeacon$State", "shown", "LRevealBeacon$Row;", true)
def tyX3 : Nat → FieldType := fun k => match k with
  | 0 => .int
  | 1 => .int
  | 2 => .int
  | 3 => .int
  | 4 => .int
  | 5 => .int
  | 6 => .int
  | 7 => .int
  | 8 => .object "RevealBeacon$Row"
  | 9 => .object "RevealBeacon$Row"
  | 10 => .object "RevealBeacon$Row"
  | 11 => .object "RevealBeacon$Row"
  | 12 => .object "RevealBeacon$Row"
  | 13 => .object "RevealBeacon$Row"
  | 14 => .object "RevealBeacon$Row"
  | 15 => .object "RevealBeacon$Row"
  | 16 => .object "RevealBeacon$Row"
  | 17 => .object "RevealBeacon$Row"
  | _ => .object "RevealBeacon$Row"
theorem nmX3 : ∀ a, a < 19 → ∀ b, b < 19 → a ≠ b → (TX3 a).2.1 ≠ (TX3 b).2.1 := by decide +kernel
theorem tyX3_ok : ∀ k, k < 19 → parseFieldDescriptor (TX3 k).2.2.1 = some (tyX3 k) := by decide +kernel
abbrev cX3_init : ByteArray := prog_5_method_1_code
def yX3_init : MethodName := ⟨RX3, "<init>", "()V"⟩
abbrev cX3_copyFrom : ByteArray := prog_5_method_2_code
def yX3_copyFrom : MethodName := ⟨RX3, "copyFrom", "(LRevealBeacon$State;)V"⟩
abbrev cX3_restart : ByteArray := prog_5_method_3_code
def yX3_restart : MethodName := ⟨RX3, "restart", "(II)V"⟩
abbrev cX3_startRound : ByteArray := prog_5_method_4_code
def yX3_startRound : MethodName := ⟨RX3, "startRound", "()V"⟩
abbrev cX3_enter : ByteArray := prog_5_method_5_code
def yX3_enter : MethodName := ⟨RX3, "enter", "(I)V"⟩
abbrev cX3_isMember : ByteArray := prog_5_method_6_code
def yX3_isMember : MethodName := ⟨RX3, "isMember", "(I)Z"⟩
abbrev cX3_isPair : ByteArray := prog_5_method_7_code
def yX3_isPair : MethodName := ⟨RX3, "isPair", "(II)Z"⟩
abbrev cX3_isOn : ByteArray := prog_5_method_8_code
def yX3_isOn : MethodName := ⟨RX3, "isOn", "(I)Z"⟩
abbrev cX3_isBound : ByteArray := prog_5_method_9_code
def yX3_isBound : MethodName := ⟨RX3, "isBound", "(I)Z"⟩
abbrev cX3_isKnown : ByteArray := prog_5_method_10_code
def yX3_isKnown : MethodName := ⟨RX3, "isKnown", "(I)Z"⟩
abbrev cX3_isHidden : ByteArray := prog_5_method_11_code
def yX3_isHidden : MethodName := ⟨RX3, "isHidden", "(I)Z"⟩
abbrev cX3_countOn : ByteArray := prog_5_method_12_code
def yX3_countOn : MethodName := ⟨RX3, "countOn", "()I"⟩
abbrev cX3_countBound : ByteArray := prog_5_method_13_code
def yX3_countBound : MethodName := ⟨RX3, "countBound", "()I"⟩
abbrev cX3_countStanding : ByteArray := prog_5_method_14_code
def yX3_countStanding : MethodName := ⟨RX3, "countStanding", "(I)I"⟩
abbrev cX3_sumDeposits : ByteArray := prog_5_method_15_code
def yX3_sumDeposits : MethodName := ⟨RX3, "sumDeposits", "()I"⟩
abbrev cX3_fine : ByteArray := prog_5_method_16_code
def yX3_fine : MethodName := ⟨RX3, "fine", "(II)V"⟩
abbrev cX3_mayCommit : ByteArray := prog_5_method_17_code
def yX3_mayCommit : MethodName := ⟨RX3, "mayCommit", "(I)Z"⟩
abbrev cX3_bind : ByteArray := prog_5_method_18_code
def yX3_bind : MethodName := ⟨RX3, "bind", "(III)V"⟩
abbrev cX3_dealShares : ByteArray := prog_5_method_19_code
def yX3_dealShares : MethodName := ⟨RX3, "dealShares", "(II)V"⟩
abbrev cX3_drawCoefficient : ByteArray := prog_5_method_20_code
def yX3_drawCoefficient : MethodName := ⟨RX3, "drawCoefficient", "()I"⟩
abbrev cX3_trueShare : ByteArray := prog_5_method_21_code
def yX3_trueShare : MethodName := ⟨RX3, "trueShare", "(II)I"⟩
abbrev cX3_mayReveal : ByteArray := prog_5_method_22_code
def yX3_mayReveal : MethodName := ⟨RX3, "mayReveal", "(I)Z"⟩
abbrev cX3_open : ByteArray := prog_5_method_23_code
def yX3_open : MethodName := ⟨RX3, "open", "(III)I"⟩
abbrev cX3_learn : ByteArray := prog_5_method_24_code
def yX3_learn : MethodName := ⟨RX3, "learn", "(III)V"⟩
abbrev cX3_uncover : ByteArray := prog_5_method_25_code
def yX3_uncover : MethodName := ⟨RX3, "uncover", "(I)V"⟩
abbrev cX3_uncoverAllBut : ByteArray := prog_5_method_26_code
def yX3_uncoverAllBut : MethodName := ⟨RX3, "uncoverAllBut", "(I)V"⟩
abbrev cX3_mayPublish : ByteArray := prog_5_method_27_code
def yX3_mayPublish : MethodName := ⟨RX3, "mayPublish", "(II)Z"⟩
abbrev cX3_canShow : ByteArray := prog_5_method_28_code
def yX3_canShow : MethodName := ⟨RX3, "canShow", "(II)Z"⟩
abbrev cX3_isShown : ByteArray := prog_5_method_29_code
def yX3_isShown : MethodName := ⟨RX3, "isShown", "(II)Z"⟩
abbrev cX3_findGivers : ByteArray := prog_5_method_30_code
def yX3_findGivers : MethodName := ⟨RX3, "findGivers", "(I)I"⟩
abbrev cX3_countShown : ByteArray := prog_5_method_31_code
def yX3_countShown : MethodName := ⟨RX3, "countShown", "(I)I"⟩
abbrev cX3_show : ByteArray := prog_5_method_32_code
def yX3_show : MethodName := ⟨RX3, "show", "(III)I"⟩
abbrev cX3_interpolate : ByteArray := prog_5_method_33_code
def yX3_interpolate : MethodName := ⟨RX3, "interpolate", "(II)I"⟩
abbrev cX3_showAll : ByteArray := prog_5_method_34_code
def yX3_showAll : MethodName := ⟨RX3, "showAll", "(I)V"⟩
abbrev cX3_passTime : ByteArray := prog_5_method_35_code
def yX3_passTime : MethodName := ⟨RX3, "passTime", "()V"⟩
abbrev cX3_endPhase : ByteArray := prog_5_method_36_code
def yX3_endPhase : MethodName := ⟨RX3, "endPhase", "()V"⟩
abbrev cX3_fineSilent : ByteArray := prog_5_method_37_code
def yX3_fineSilent : MethodName := ⟨RX3, "fineSilent", "()V"⟩
abbrev cX3_close : ByteArray := prog_5_method_38_code
def yX3_close : MethodName := ⟨RX3, "close", "()V"⟩
abbrev cX3_payOut : ByteArray := prog_5_method_39_code
def yX3_payOut : MethodName := ⟨RX3, "payOut", "()V"⟩
abbrev cX3_combineKnown : ByteArray := prog_5_method_40_code
def yX3_combineKnown : MethodName := ⟨RX3, "combineKnown", "()I"⟩
abbrev cX3_combineBound : ByteArray := prog_5_method_41_code
def yX3_combineBound : MethodName := ⟨RX3, "combineBound", "()I"⟩
def RX4 : String := "RevealBeacon"
def TX4 : u_T := fun k => match k with
  | 0 => ("RevealBeacon", "now", "LRevealBeacon$State;", true)
  | 1 => ("RevealBeacon", "trial", "LRevealBeacon$State;", true)
  | 2 => ("RevealBeacon", "history", "LRevealBeacon$History;", true)
  | 3 => ("RevealBeacon", "imageZero", "LRevealBeacon$Image;", true)
  | _ => ("RevealBeacon", "imageOne", "LRevealBeacon$Image;", true)
def tyX4 : Nat → FieldType := fun k => match k with
  | 0 => .object "RevealBeacon$State"
  | 1 => .object "RevealBeacon$State"
  | 2 => .object "RevealBeacon$History"
  | 3 => .object "RevealBeacon$Image"
  | _ => .object "RevealBeacon$Image"
theorem nmX4 : ∀ a, a < 5 → ∀ b, b < 5 → a ≠ b → (TX4 a).2.1 ≠ (TX4 b).2.1 := by decide +kernel
theorem tyX4_ok : ∀ k, k < 5 → parseFieldDescriptor (TX4 k).2.2.1 = some (tyX4 k) := by decide +kernel
abbrev cX4_init : ByteArray := prog_1_method_1_code
def yX4_init : MethodName := ⟨RX4, "<init>", "()V"⟩
abbrev cX4_begin : ByteArray := prog_1_method_2_code
def yX4_begin : MethodName := ⟨RX4, "begin", "(II)I"⟩
abbrev cX4_set : ByteArray := prog_1_method_3_code
def yX4_set : MethodName := ⟨RX4, "set", "(II)I"⟩
abbrev cX4_setSeed : ByteArray := prog_1_method_4_code
def yX4_setSeed : MethodName := ⟨RX4, "setSeed", "(I)I"⟩
abbrev cX4_turn : ByteArray := prog_1_method_5_code
def yX4_turn : MethodName := ⟨RX4, "turn", "(II)I"⟩
abbrev cX4_pay : ByteArray := prog_1_method_6_code
def yX4_pay : MethodName := ⟨RX4, "pay", "(II)I"⟩
abbrev cX4_commit : ByteArray := prog_1_method_7_code
def yX4_commit : MethodName := ⟨RX4, "commit", "(III)I"⟩
abbrev cX4_reveal : ByteArray := prog_1_method_8_code
def yX4_reveal : MethodName := ⟨RX4, "reveal", "(III)I"⟩
abbrev cX4_publish : ByteArray := prog_1_method_9_code
def yX4_publish : MethodName := ⟨RX4, "publish", "(III)I"⟩
abbrev cX4_give : ByteArray := prog_1_method_10_code
def yX4_give : MethodName := ⟨RX4, "give", "(II)I"⟩
abbrev cX4_tick : ByteArray := prog_1_method_11_code
def yX4_tick : MethodName := ⟨RX4, "tick", "(I)I"⟩
abbrev cX4_next : ByteArray := prog_1_method_12_code
def yX4_next : MethodName := ⟨RX4, "next", "()I"⟩
abbrev cX4_undo : ByteArray := prog_1_method_13_code
def yX4_undo : MethodName := ⟨RX4, "undo", "()I"⟩
abbrev cX4_told : ByteArray := prog_1_method_14_code
def yX4_told : MethodName := ⟨RX4, "told", "(I)I"⟩
abbrev cX4_setting : ByteArray := prog_1_method_15_code
def yX4_setting : MethodName := ⟨RX4, "setting", "(I)I"⟩
abbrev cX4_member : ByteArray := prog_1_method_16_code
def yX4_member : MethodName := ⟨RX4, "member", "(II)I"⟩
abbrev cX4_mark : ByteArray := prog_1_method_17_code
def yX4_mark : MethodName := ⟨RX4, "mark", "(II)I"⟩
abbrev cX4_share : ByteArray := prog_1_method_18_code
def yX4_share : MethodName := ⟨RX4, "share", "(II)I"⟩
abbrev cX4_commitment : ByteArray := prog_1_method_19_code
def yX4_commitment : MethodName := ⟨RX4, "commitment", "(III)I"⟩
abbrev cX4_openings : ByteArray := prog_1_method_20_code
def yX4_openings : MethodName := ⟨RX4, "openings", "(II)I"⟩
abbrev cX4_past : ByteArray := prog_1_method_21_code
def yX4_past : MethodName := ⟨RX4, "past", "(I)I"⟩
abbrev cX4_honest : ByteArray := prog_1_method_22_code
def yX4_honest : MethodName := ⟨RX4, "honest", "()I"⟩
abbrev cX4_outcome : ByteArray := prog_1_method_23_code
def yX4_outcome : MethodName := ⟨RX4, "outcome", "()I"⟩
abbrev cX4_influence : ByteArray := prog_1_method_24_code
def yX4_influence : MethodName := ⟨RX4, "influence", "(I)I"⟩
abbrev cX4_mean : ByteArray := prog_1_method_25_code
def yX4_mean : MethodName := ⟨RX4, "mean", "()F"⟩
abbrev cX4_keep : ByteArray := prog_1_method_26_code
def yX4_keep : MethodName := ⟨RX4, "keep", "(I)I"⟩
abbrev cX4_back : ByteArray := prog_1_method_27_code
def yX4_back : MethodName := ⟨RX4, "back", "(I)I"⟩
abbrev cX4_imageAt : ByteArray := prog_1_method_28_code
def yX4_imageAt : MethodName := ⟨RX4, "imageAt", "(I)LRevealBeacon$Image;"⟩
abbrev cX4_tryOut : ByteArray := prog_1_method_29_code
def yX4_tryOut : MethodName := ⟨RX4, "tryOut", "(IZ)I"⟩
abbrev cX4_isSetting : ByteArray := prog_1_method_30_code
def yX4_isSetting : MethodName := ⟨RX4, "isSetting", "(I)Z"⟩
abbrev cX4_lowestValue : ByteArray := prog_1_method_31_code
def yX4_lowestValue : MethodName := ⟨RX4, "lowestValue", "(I)I"⟩
abbrev cX4_highestValue : ByteArray := prog_1_method_32_code
def yX4_highestValue : MethodName := ⟨RX4, "highestValue", "(I)I"⟩
abbrev cX4_isSecret : ByteArray := prog_1_method_33_code
def yX4_isSecret : MethodName := ⟨RX4, "isSecret", "(I)Z"⟩
abbrev cX4_isSalt : ByteArray := prog_1_method_34_code
def yX4_isSalt : MethodName := ⟨RX4, "isSalt", "(I)Z"⟩
abbrev cX4_computeCommitment : ByteArray := prog_1_method_35_code
def yX4_computeCommitment : MethodName := ⟨RX4, "computeCommitment", "(III)I"⟩
abbrev cX4_computeMark : ByteArray := prog_1_method_36_code
def yX4_computeMark : MethodName := ⟨RX4, "computeMark", "(II)I"⟩
abbrev cX4_countSalts : ByteArray := prog_1_method_37_code
def yX4_countSalts : MethodName := ⟨RX4, "countSalts", "(III)I"⟩
abbrev cX4_cell : ByteArray := prog_1_method_38_code
def yX4_cell : MethodName := ⟨RX4, "cell", "(II)I"⟩
abbrev cX4_raise : ByteArray := prog_1_method_39_code
def yX4_raise : MethodName := ⟨RX4, "raise", "(II)I"⟩
abbrev cX4_invert : ByteArray := prog_1_method_40_code
def yX4_invert : MethodName := ⟨RX4, "invert", "(I)I"⟩
abbrev cX4_isAmong : ByteArray := prog_1_method_41_code
def yX4_isAmong : MethodName := ⟨RX4, "isAmong", "(II)Z"⟩
abbrev cX4_weigh : ByteArray := prog_1_method_42_code
def yX4_weigh : MethodName := ⟨RX4, "weigh", "(II)I"⟩
def RX5 : String := "RevealBeaconModel"
def TX5 : u_T := fun k => match k with
  | 0 => ("RevealBeaconModel", "w", "[I", true)
  | 1 => ("RevealBeaconModel", "past", "[I", true)
  | 2 => ("RevealBeaconModel", "pastMany", "I", false)
  | 3 => ("RevealBeaconModel", "images", "[I", true)
  | 4 => ("RevealBeaconModel", "filled", "I", false)
  | 5 => ("RevealBeaconModel", "terms", "[I", true)
  | 6 => ("RevealBeaconModel", "shares", "[I", true)
  | _ => ("RevealBeaconModel", "held", "[I", true)
def tyX5 : Nat → FieldType := fun k => match k with
  | 0 => .array .int
  | 1 => .array .int
  | 2 => .int
  | 3 => .array .int
  | 4 => .int
  | 5 => .array .int
  | 6 => .array .int
  | _ => .array .int
theorem nmX5 : ∀ a, a < 8 → ∀ b, b < 8 → a ≠ b → (TX5 a).2.1 ≠ (TX5 b).2.1 := by decide +kernel
theorem tyX5_ok : ∀ k, k < 8 → parseFieldDescriptor (TX5 k).2.2.1 = some (tyX5 k) := by decide +kernel
abbrev cX5_init : ByteArray := prog_7_method_1_code
def yX5_init : MethodName := ⟨RX5, "<init>", "()V"⟩
abbrev cX5_isIn : ByteArray := prog_7_method_3_code
def yX5_isIn : MethodName := ⟨RX5, "isIn", "(III)Z"⟩
abbrev cX5_lay : ByteArray := prog_7_method_4_code
def yX5_lay : MethodName := ⟨RX5, "lay", "(II)V"⟩
abbrev cX5_layRound : ByteArray := prog_7_method_5_code
def yX5_layRound : MethodName := ⟨RX5, "layRound", "()V"⟩
abbrev cX5_remember : ByteArray := prog_7_method_6_code
def yX5_remember : MethodName := ⟨RX5, "remember", "()V"⟩
abbrev cX5_isMember : ByteArray := prog_7_method_7_code
def yX5_isMember : MethodName := ⟨RX5, "isMember", "(I)Z"⟩
abbrev cX5_isOn : ByteArray := prog_7_method_8_code
def yX5_isOn : MethodName := ⟨RX5, "isOn", "(I)Z"⟩
abbrev cX5_isBound : ByteArray := prog_7_method_9_code
def yX5_isBound : MethodName := ⟨RX5, "isBound", "(I)Z"⟩
abbrev cX5_known : ByteArray := prog_7_method_10_code
def yX5_known : MethodName := ⟨RX5, "known", "(I)I"⟩
abbrev cX5_bound : ByteArray := prog_7_method_11_code
def yX5_bound : MethodName := ⟨RX5, "bound", "()I"⟩
abbrev cX5_count : ByteArray := prog_7_method_12_code
def yX5_count : MethodName := ⟨RX5, "count", "(I)I"⟩
abbrev cX5_draw : ByteArray := prog_7_method_13_code
def yX5_draw : MethodName := ⟨RX5, "draw", "(I)I"⟩
abbrev cX5_bind : ByteArray := prog_7_method_14_code
def yX5_bind : MethodName := ⟨RX5, "bind", "(III)I"⟩
abbrev cX5_markOf : ByteArray := prog_7_method_15_code
def yX5_markOf : MethodName := ⟨RX5, "markOf", "(II)I"⟩
abbrev cX5_power : ByteArray := prog_7_method_16_code
def yX5_power : MethodName := ⟨RX5, "power", "(II)I"⟩
abbrev cX5_layShares : ByteArray := prog_7_method_17_code
def yX5_layShares : MethodName := ⟨RX5, "layShares", "(II)V"⟩
abbrev cX5_sharesKnown : ByteArray := prog_7_method_18_code
def yX5_sharesKnown : MethodName := ⟨RX5, "sharesKnown", "()I"⟩
abbrev cX5_takePublished : ByteArray := prog_7_method_19_code
def yX5_takePublished : MethodName := ⟨RX5, "takePublished", "(I)V"⟩
abbrev cX5_atZero : ByteArray := prog_7_method_20_code
def yX5_atZero : MethodName := ⟨RX5, "atZero", "()I"⟩
abbrev cX5_fine : ByteArray := prog_7_method_21_code
def yX5_fine : MethodName := ⟨RX5, "fine", "(II)V"⟩
abbrev cX5_payOut : ByteArray := prog_7_method_22_code
def yX5_payOut : MethodName := ⟨RX5, "payOut", "()V"⟩
abbrev cX5_outputNow : ByteArray := prog_7_method_23_code
def yX5_outputNow : MethodName := ⟨RX5, "outputNow", "()I"⟩
abbrev cX5_shut : ByteArray := prog_7_method_24_code
def yX5_shut : MethodName := ⟨RX5, "shut", "()V"⟩
abbrev cX5_endPhase : ByteArray := prog_7_method_25_code
def yX5_endPhase : MethodName := ⟨RX5, "endPhase", "()V"⟩
abbrev cX5_tickOnce : ByteArray := prog_7_method_26_code
def yX5_tickOnce : MethodName := ⟨RX5, "tickOnce", "()V"⟩
abbrev cX5_begin : ByteArray := prog_7_method_27_code
def yX5_begin : MethodName := ⟨RX5, "begin", "(II)I"⟩
abbrev cX5_isSetting : ByteArray := prog_7_method_28_code
def yX5_isSetting : MethodName := ⟨RX5, "isSetting", "(I)Z"⟩
abbrev cX5_put : ByteArray := prog_7_method_29_code
def yX5_put : MethodName := ⟨RX5, "put", "(II)I"⟩
abbrev cX5_set : ByteArray := prog_7_method_30_code
def yX5_set : MethodName := ⟨RX5, "set", "(II)I"⟩
abbrev cX5_setSeed : ByteArray := prog_7_method_31_code
def yX5_setSeed : MethodName := ⟨RX5, "setSeed", "(I)I"⟩
abbrev cX5_turn : ByteArray := prog_7_method_32_code
def yX5_turn : MethodName := ⟨RX5, "turn", "(II)I"⟩
abbrev cX5_pay : ByteArray := prog_7_method_33_code
def yX5_pay : MethodName := ⟨RX5, "pay", "(II)I"⟩
abbrev cX5_isOpening : ByteArray := prog_7_method_34_code
def yX5_isOpening : MethodName := ⟨RX5, "isOpening", "(III)Z"⟩
abbrev cX5_commit : ByteArray := prog_7_method_35_code
def yX5_commit : MethodName := ⟨RX5, "commit", "(III)I"⟩
abbrev cX5_reveal : ByteArray := prog_7_method_36_code
def yX5_reveal : MethodName := ⟨RX5, "reveal", "(III)I"⟩
abbrev cX5_mayPublish : ByteArray := prog_7_method_37_code
def yX5_mayPublish : MethodName := ⟨RX5, "mayPublish", "(II)Z"⟩
abbrev cX5_areTwo : ByteArray := prog_7_method_38_code
def yX5_areTwo : MethodName := ⟨RX5, "areTwo", "(II)Z"⟩
abbrev cX5_publish : ByteArray := prog_7_method_39_code
def yX5_publish : MethodName := ⟨RX5, "publish", "(III)I"⟩
abbrev cX5_give : ByteArray := prog_7_method_40_code
def yX5_give : MethodName := ⟨RX5, "give", "(II)I"⟩
abbrev cX5_tick : ByteArray := prog_7_method_41_code
def yX5_tick : MethodName := ⟨RX5, "tick", "(I)I"⟩
abbrev cX5_next : ByteArray := prog_7_method_42_code
def yX5_next : MethodName := ⟨RX5, "next", "()I"⟩
abbrev cX5_undo : ByteArray := prog_7_method_43_code
def yX5_undo : MethodName := ⟨RX5, "undo", "()I"⟩
abbrev cX5_deposits : ByteArray := prog_7_method_44_code
def yX5_deposits : MethodName := ⟨RX5, "deposits", "()I"⟩
abbrev cX5_membersOn : ByteArray := prog_7_method_45_code
def yX5_membersOn : MethodName := ⟨RX5, "membersOn", "()I"⟩
abbrev cX5_told : ByteArray := prog_7_method_46_code
def yX5_told : MethodName := ⟨RX5, "told", "(I)I"⟩
abbrev cX5_setting : ByteArray := prog_7_method_47_code
def yX5_setting : MethodName := ⟨RX5, "setting", "(I)I"⟩
abbrev cX5_published : ByteArray := prog_7_method_48_code
def yX5_published : MethodName := ⟨RX5, "published", "(I)I"⟩
abbrev cX5_standing : ByteArray := prog_7_method_49_code
def yX5_standing : MethodName := ⟨RX5, "standing", "(I)I"⟩
abbrev cX5_member : ByteArray := prog_7_method_50_code
def yX5_member : MethodName := ⟨RX5, "member", "(II)I"⟩
abbrev cX5_mark : ByteArray := prog_7_method_51_code
def yX5_mark : MethodName := ⟨RX5, "mark", "(II)I"⟩
abbrev cX5_share : ByteArray := prog_7_method_52_code
def yX5_share : MethodName := ⟨RX5, "share", "(II)I"⟩
abbrev cX5_commitment : ByteArray := prog_7_method_53_code
def yX5_commitment : MethodName := ⟨RX5, "commitment", "(III)I"⟩
abbrev cX5_openingsOf : ByteArray := prog_7_method_54_code
def yX5_openingsOf : MethodName := ⟨RX5, "openingsOf", "(II)I"⟩
abbrev cX5_openings : ByteArray := prog_7_method_55_code
def yX5_openings : MethodName := ⟨RX5, "openings", "(II)I"⟩
abbrev cX5_past : ByteArray := prog_7_method_56_code
def yX5_past : MethodName := ⟨RX5, "past", "(I)I"⟩
abbrev cX5_honest : ByteArray := prog_7_method_57_code
def yX5_honest : MethodName := ⟨RX5, "honest", "()I"⟩
abbrev cX5_hold : ByteArray := prog_7_method_58_code
def yX5_hold : MethodName := ⟨RX5, "hold", "()V"⟩
abbrev cX5_release : ByteArray := prog_7_method_59_code
def yX5_release : MethodName := ⟨RX5, "release", "()V"⟩
abbrev cX5_recoverAll : ByteArray := prog_7_method_60_code
def yX5_recoverAll : MethodName := ⟨RX5, "recoverAll", "(I)V"⟩
abbrev cX5_outcome : ByteArray := prog_7_method_61_code
def yX5_outcome : MethodName := ⟨RX5, "outcome", "()I"⟩
abbrev cX5_outputIf : ByteArray := prog_7_method_62_code
def yX5_outputIf : MethodName := ⟨RX5, "outputIf", "(IZ)I"⟩
abbrev cX5_influence : ByteArray := prog_7_method_63_code
def yX5_influence : MethodName := ⟨RX5, "influence", "(I)I"⟩
abbrev cX5_mean : ByteArray := prog_7_method_64_code
def yX5_mean : MethodName := ⟨RX5, "mean", "()F"⟩
abbrev cX5_isImage : ByteArray := prog_7_method_65_code
def yX5_isImage : MethodName := ⟨RX5, "isImage", "(I)Z"⟩
abbrev cX5_keep : ByteArray := prog_7_method_66_code
def yX5_keep : MethodName := ⟨RX5, "keep", "(I)I"⟩
abbrev cX5_back : ByteArray := prog_7_method_67_code
def yX5_back : MethodName := ⟨RX5, "back", "(I)I"⟩
def RJ6 : String := "java/lang/Integer"
abbrev cJ6_bitCount_0f7a4 : ByteArray := prog_8_method_49_code
def yJ6_bitCount_0f7a4 : MethodName := ⟨RJ6, "bitCount", "(I)I"⟩
def RJ9 : String := "java/lang/Math"
abbrev cJ9_floorMod_7cf53 : ByteArray := prog_9_method_50_code
def yJ9_floorMod_7cf53 : MethodName := ⟨RJ9, "floorMod", "(II)I"⟩
abbrev cJ9_min_7cf53 : ByteArray := prog_9_method_69_code
def yJ9_min_7cf53 : MethodName := ⟨RJ9, "min", "(II)I"⟩
def RJ10 : String := "java/lang/System"
def RL : String := "RevealBeaconLaw"
abbrev cL_law : ByteArray := code
def yL_law : MethodName := ⟨RL, "law", "([I)Z"⟩
abbrev vwCl : List vw_C := [(RX0, TX0, 3), (RX1, TX1, 2), (RX2, TX2, 1), (RX3, TX3, 19), (RX4, TX4, 5), (RX5, TX5, 8)]
/-! the methods: name, bytes, locals, answer; own table, arguments (with the receiver), height of calls, makes cells, constructor -/
abbrev rb_T : Type := MethodName × ByteArray × Nat × Option FieldType × Nat × Nat × Nat × Bool × Bool
def rb_mt0 : List rb_T := [
  (yX4_init, cX4_init, 1, none, 4, 1, 4, true, true),
  (yX3_init, cX3_init, 1, none, 3, 1, 2, true, true),
  (yX2_init, cX2_init, 2, none, 2, 2, 1, true, true),
  (yX2_put, cX2_put, 3, none, 2, 3, 0, false, false),
  (yX0_init, cX0_init, 2, none, 0, 1, 3, true, true),
  (yX1_init, cX1_init, 1, none, 1, 1, 3, true, true),
  (yX3_restart, cX3_restart, 3, none, 3, 3, 2, false, false),
  (yX2_fill, cX2_fill, 3, none, 2, 2, 0, false, false),
  (yX3_startRound, cX3_startRound, 1, none, 3, 1, 1, false, false),
  (yX3_enter, cX3_enter, 2, none, 3, 2, 0, false, false),
  (yX4_begin, cX4_begin, 4, (some FieldType.int), 4, 3, 4, false, false),
  (yX0_record, cX0_record, 3, none, 0, 2, 3, false, false),
  (yX0_placeAt, cX0_placeAt, 3, (some (FieldType.object "RevealBeacon$State")), 0, 2, 0, false, false),
  (yX3_copyFrom, cX3_copyFrom, 2, none, 3, 2, 2, false, false),
  (yX2_copyFrom, cX2_copyFrom, 2, none, 2, 2, 1, false, false),
  (yJ9_min_7cf53, cJ9_min_7cf53, 2, (some FieldType.int), 7, 2, 0, false, false),
  (yX4_set, cX4_set, 4, (some FieldType.int), 4, 3, 4, false, false),
  (yX4_isSetting, cX4_isSetting, 1, (some FieldType.boolean), 4, 1, 0, false, false),
  (yX4_lowestValue, cX4_lowestValue, 1, (some FieldType.int), 4, 1, 0, false, false),
  (yX4_highestValue, cX4_highestValue, 1, (some FieldType.int), 4, 1, 0, false, false),
  (yX2_at, cX2_at, 2, (some FieldType.int), 2, 2, 0, false, false),
  (yX4_setSeed, cX4_setSeed, 3, (some FieldType.int), 4, 2, 4, false, false),
  (yX4_turn, cX4_turn, 4, (some FieldType.int), 4, 3, 4, false, false),
  (yX3_isMember, cX3_isMember, 2, (some FieldType.boolean), 3, 2, 0, false, false),
  (yX4_pay, cX4_pay, 3, (some FieldType.int), 4, 3, 4, false, false),
  (yX2_add, cX2_add, 3, none, 2, 3, 1, false, false),
  (yX4_commit, cX4_commit, 4, (some FieldType.int), 4, 4, 4, false, false),
  (yX4_isSecret, cX4_isSecret, 1, (some FieldType.boolean), 4, 1, 0, false, false),
  (yX4_isSalt, cX4_isSalt, 1, (some FieldType.boolean), 4, 1, 0, false, false),
  (yX3_mayCommit, cX3_mayCommit, 2, (some FieldType.boolean), 3, 2, 2, false, false),
  (yX3_isOn, cX3_isOn, 2, (some FieldType.boolean), 3, 2, 1, false, false),
  (yX3_isBound, cX3_isBound, 2, (some FieldType.boolean), 3, 2, 1, false, false),
  (yX3_bind, cX3_bind, 4, none, 3, 4, 3, false, false),
  (yX4_computeCommitment, cX4_computeCommitment, 3, (some FieldType.int), 4, 3, 0, false, false),
  (yX3_dealShares, cX3_dealShares, 7, none, 3, 3, 2, false, false),
  (yX4_cell, cX4_cell, 2, (some FieldType.int), 4, 2, 0, false, false),
  (yX3_drawCoefficient, cX3_drawCoefficient, 1, (some FieldType.int), 3, 1, 0, false, false),
  (yX3_trueShare, cX3_trueShare, 3, (some FieldType.int), 3, 3, 1, false, false),
  (yX4_raise, cX4_raise, 4, (some FieldType.int), 4, 2, 0, false, false),
  (yX4_reveal, cX4_reveal, 4, (some FieldType.int), 4, 4, 4, false, false)]
def rb_mt1 : List rb_T := [
  (yX3_mayReveal, cX3_mayReveal, 2, (some FieldType.boolean), 3, 2, 2, false, false),
  (yX3_isHidden, cX3_isHidden, 2, (some FieldType.boolean), 3, 2, 1, false, false),
  (yX3_open, cX3_open, 4, (some FieldType.int), 3, 4, 3, false, false),
  (yX3_fine, cX3_fine, 4, none, 3, 3, 2, false, false),
  (yX3_learn, cX3_learn, 4, none, 3, 4, 1, false, false),
  (yX4_publish, cX4_publish, 4, (some FieldType.int), 4, 4, 4, false, false),
  (yX3_isPair, cX3_isPair, 3, (some FieldType.boolean), 3, 3, 1, false, false),
  (yX3_mayPublish, cX3_mayPublish, 3, (some FieldType.boolean), 3, 3, 3, false, false),
  (yX3_canShow, cX3_canShow, 3, (some FieldType.boolean), 3, 3, 2, false, false),
  (yX3_isShown, cX3_isShown, 3, (some FieldType.boolean), 3, 3, 1, false, false),
  (yX3_show, cX3_show, 6, (some FieldType.int), 3, 4, 3, false, false),
  (yX4_computeMark, cX4_computeMark, 2, (some FieldType.int), 4, 2, 0, false, false),
  (yX3_findGivers, cX3_findGivers, 4, (some FieldType.int), 3, 2, 2, false, false),
  (yJ6_bitCount_0f7a4, cJ6_bitCount_0f7a4, 1, (some FieldType.int), 6, 1, 0, false, false),
  (yX3_interpolate, cX3_interpolate, 5, (some FieldType.int), 3, 3, 2, false, false),
  (yX4_isAmong, cX4_isAmong, 2, (some FieldType.boolean), 4, 2, 0, false, false),
  (yX4_weigh, cX4_weigh, 5, (some FieldType.int), 4, 2, 1, false, false),
  (yJ9_floorMod_7cf53, cJ9_floorMod_7cf53, 3, (some FieldType.int), 7, 2, 0, false, false),
  (yX4_invert, cX4_invert, 3, (some FieldType.int), 4, 1, 0, false, false),
  (yX4_give, cX4_give, 3, (some FieldType.int), 4, 3, 4, false, false),
  (yX4_tick, cX4_tick, 3, (some FieldType.int), 4, 2, 6, false, false),
  (yX3_passTime, cX3_passTime, 1, none, 3, 1, 5, false, false),
  (yX3_endPhase, cX3_endPhase, 1, none, 3, 1, 4, false, false),
  (yX3_countBound, cX3_countBound, 1, (some FieldType.int), 3, 1, 2, false, false),
  (yX3_countStanding, cX3_countStanding, 4, (some FieldType.int), 3, 2, 1, false, false),
  (yX3_fineSilent, cX3_fineSilent, 2, none, 3, 1, 3, false, false),
  (yX3_close, cX3_close, 1, none, 3, 1, 3, false, false),
  (yX3_payOut, cX3_payOut, 4, none, 3, 1, 2, false, false),
  (yX3_combineKnown, cX3_combineKnown, 5, (some FieldType.int), 3, 1, 2, false, false),
  (yX3_isKnown, cX3_isKnown, 2, (some FieldType.boolean), 3, 2, 1, false, false),
  (yX4_next, cX4_next, 1, (some FieldType.int), 4, 1, 4, false, false),
  (yX4_undo, cX4_undo, 1, (some FieldType.int), 4, 1, 4, false, false),
  (yX0_restore, cX0_restore, 3, none, 0, 2, 3, false, false),
  (yX4_told, cX4_told, 2, (some FieldType.int), 4, 2, 3, false, false),
  (yX3_sumDeposits, cX3_sumDeposits, 3, (some FieldType.int), 3, 1, 1, false, false),
  (yX3_countOn, cX3_countOn, 3, (some FieldType.int), 3, 1, 2, false, false),
  (yX4_setting, cX4_setting, 2, (some FieldType.int), 4, 2, 1, false, false),
  (yX4_member, cX4_member, 3, (some FieldType.int), 4, 3, 4, false, false),
  (yX3_countShown, cX3_countShown, 2, (some FieldType.int), 3, 2, 3, false, false),
  (yX4_mark, cX4_mark, 3, (some FieldType.int), 4, 3, 2, false, false)]
def rb_mt2 : List rb_T := [
  (yX4_share, cX4_share, 3, (some FieldType.int), 4, 3, 1, false, false),
  (yX4_commitment, cX4_commitment, 4, (some FieldType.int), 4, 4, 1, false, false),
  (yX4_openings, cX4_openings, 6, (some FieldType.int), 4, 3, 2, false, false),
  (yX4_countSalts, cX4_countSalts, 7, (some FieldType.int), 4, 3, 1, false, false),
  (yX4_past, cX4_past, 2, (some FieldType.int), 4, 2, 1, false, false),
  (yX4_honest, cX4_honest, 1, (some FieldType.int), 4, 1, 3, false, false),
  (yX3_combineBound, cX3_combineBound, 3, (some FieldType.int), 3, 1, 2, false, false),
  (yX4_outcome, cX4_outcome, 1, (some FieldType.int), 4, 1, 5, false, false),
  (yX3_showAll, cX3_showAll, 4, none, 3, 2, 4, false, false),
  (yX4_influence, cX4_influence, 2, (some FieldType.int), 4, 2, 6, false, false),
  (yX4_tryOut, cX4_tryOut, 3, (some FieldType.int), 4, 3, 5, false, false),
  (yX3_uncoverAllBut, cX3_uncoverAllBut, 3, none, 3, 2, 3, false, false),
  (yX3_uncover, cX3_uncover, 2, none, 3, 2, 2, false, false),
  (yX4_mean, cX4_mean, 2, (some FieldType.float), 4, 1, 2, false, false),
  (yX4_keep, cX4_keep, 3, (some FieldType.int), 4, 2, 3, false, false),
  (yX4_imageAt, cX4_imageAt, 2, (some (FieldType.object "RevealBeacon$Image")), 4, 2, 0, false, false),
  (yX4_back, cX4_back, 3, (some FieldType.int), 4, 2, 4, false, false),
  (yX5_init, cX5_init, 2, none, 5, 1, 2, true, true),
  (yX5_lay, cX5_lay, 4, none, 5, 3, 1, false, false),
  (yX5_layRound, cX5_layRound, 2, none, 5, 1, 0, false, false),
  (yX5_begin, cX5_begin, 4, (some FieldType.int), 5, 3, 2, false, false),
  (yX5_isIn, cX5_isIn, 3, (some FieldType.boolean), 5, 3, 0, false, false),
  (yX5_remember, cX5_remember, 2, none, 5, 1, 0, false, false),
  (yX5_set, cX5_set, 4, (some FieldType.int), 5, 3, 2, false, false),
  (yX5_isSetting, cX5_isSetting, 1, (some FieldType.boolean), 5, 1, 1, false, false),
  (yX5_put, cX5_put, 4, (some FieldType.int), 5, 3, 1, false, false),
  (yX5_setSeed, cX5_setSeed, 2, (some FieldType.int), 5, 2, 2, false, false),
  (yX5_turn, cX5_turn, 3, (some FieldType.int), 5, 3, 2, false, false),
  (yX5_isMember, cX5_isMember, 2, (some FieldType.boolean), 5, 2, 1, false, false),
  (yX5_pay, cX5_pay, 3, (some FieldType.int), 5, 3, 2, false, false),
  (yX5_commit, cX5_commit, 4, (some FieldType.int), 5, 4, 3, false, false),
  (yX5_isOpening, cX5_isOpening, 4, (some FieldType.boolean), 5, 4, 2, false, false),
  (yX5_isOn, cX5_isOn, 2, (some FieldType.boolean), 5, 2, 0, false, false),
  (yX5_isBound, cX5_isBound, 2, (some FieldType.boolean), 5, 2, 0, false, false),
  (yX5_bind, cX5_bind, 3, (some FieldType.int), 5, 3, 0, false, false),
  (yX5_layShares, cX5_layShares, 6, none, 5, 3, 1, false, false),
  (yX5_draw, cX5_draw, 4, (some FieldType.int), 5, 2, 0, false, false),
  (yX5_power, cX5_power, 4, (some FieldType.int), 5, 2, 0, false, false),
  (yX5_reveal, cX5_reveal, 4, (some FieldType.int), 5, 4, 3, false, false),
  (yX5_fine, cX5_fine, 4, none, 5, 3, 0, false, false)]
def rb_mt3 : List rb_T := [
  (yX5_publish, cX5_publish, 5, (some FieldType.int), 5, 4, 3, false, false),
  (yX5_areTwo, cX5_areTwo, 3, (some FieldType.boolean), 5, 3, 2, false, false),
  (yX5_mayPublish, cX5_mayPublish, 3, (some FieldType.boolean), 5, 3, 1, false, false),
  (yX5_known, cX5_known, 2, (some FieldType.int), 5, 2, 0, false, false),
  (yX5_markOf, cX5_markOf, 2, (some FieldType.int), 5, 2, 0, false, false),
  (yX5_takePublished, cX5_takePublished, 3, none, 5, 2, 0, false, false),
  (yX5_sharesKnown, cX5_sharesKnown, 3, (some FieldType.int), 5, 1, 0, false, false),
  (yX5_atZero, cX5_atZero, 6, (some FieldType.int), 5, 1, 1, false, false),
  (yX5_give, cX5_give, 3, (some FieldType.int), 5, 3, 4, false, false),
  (yX5_tick, cX5_tick, 3, (some FieldType.int), 5, 2, 5, false, false),
  (yX5_tickOnce, cX5_tickOnce, 1, none, 5, 1, 4, false, false),
  (yX5_endPhase, cX5_endPhase, 2, none, 5, 1, 3, false, false),
  (yX5_bound, cX5_bound, 3, (some FieldType.int), 5, 1, 1, false, false),
  (yX5_count, cX5_count, 4, (some FieldType.int), 5, 2, 0, false, false),
  (yX5_shut, cX5_shut, 1, none, 5, 1, 2, false, false),
  (yX5_payOut, cX5_payOut, 4, none, 5, 1, 1, false, false),
  (yX5_outputNow, cX5_outputNow, 5, (some FieldType.int), 5, 1, 1, false, false),
  (yX5_next, cX5_next, 1, (some FieldType.int), 5, 1, 1, false, false),
  (yX5_undo, cX5_undo, 2, (some FieldType.int), 5, 1, 0, false, false),
  (yX5_told, cX5_told, 2, (some FieldType.int), 5, 2, 2, false, false),
  (yX5_deposits, cX5_deposits, 3, (some FieldType.int), 5, 1, 0, false, false),
  (yX5_membersOn, cX5_membersOn, 3, (some FieldType.int), 5, 1, 0, false, false),
  (yX5_setting, cX5_setting, 2, (some FieldType.int), 5, 2, 2, false, false),
  (yX5_member, cX5_member, 3, (some FieldType.int), 5, 3, 2, false, false),
  (yX5_published, cX5_published, 2, (some FieldType.int), 5, 2, 1, false, false),
  (yX5_standing, cX5_standing, 2, (some FieldType.int), 5, 2, 1, false, false),
  (yX5_mark, cX5_mark, 3, (some FieldType.int), 5, 3, 2, false, false),
  (yX5_share, cX5_share, 3, (some FieldType.int), 5, 3, 2, false, false),
  (yX5_commitment, cX5_commitment, 4, (some FieldType.int), 5, 4, 3, false, false),
  (yX5_openings, cX5_openings, 5, (some FieldType.int), 5, 3, 2, false, false),
  (yX5_openingsOf, cX5_openingsOf, 5, (some FieldType.int), 5, 3, 1, false, false),
  (yX5_past, cX5_past, 2, (some FieldType.int), 5, 2, 1, false, false),
  (yX5_honest, cX5_honest, 3, (some FieldType.int), 5, 1, 2, false, false),
  (yX5_outcome, cX5_outcome, 2, (some FieldType.int), 5, 1, 3, false, false),
  (yX5_hold, cX5_hold, 2, none, 5, 1, 0, false, false),
  (yX5_recoverAll, cX5_recoverAll, 5, none, 5, 2, 2, false, false),
  (yX5_release, cX5_release, 2, none, 5, 1, 0, false, false),
  (yX5_influence, cX5_influence, 2, (some FieldType.int), 5, 2, 4, false, false),
  (yX5_outputIf, cX5_outputIf, 4, (some FieldType.int), 5, 3, 3, false, false),
  (yX5_mean, cX5_mean, 1, (some FieldType.float), 5, 1, 1, false, false)]
def rb_mt4 : List rb_T := [
  (yX5_keep, cX5_keep, 3, (some FieldType.int), 5, 2, 2, false, false),
  (yX5_isImage, cX5_isImage, 1, (some FieldType.boolean), 5, 1, 1, false, false),
  (yX5_back, cX5_back, 3, (some FieldType.int), 5, 2, 2, false, false),
  (yL_law, cL_law, 8, (some FieldType.boolean), 9, 1, 7, true, false)]
def rb_mt : List rb_T := rb_mt0 ++ (rb_mt1 ++ (rb_mt2 ++ (rb_mt3 ++ (rb_mt4))))
/-- field links: (own table, entry) to (place of the table, field) -/
def rb_fl : List ((Nat × Nat) × (Nat × Nat)) := [((0, 11), (0, 0)), ((0, 18), (0, 2)), ((0, 30), (0, 1)), ((1, 10), (1, 0)), ((2, 7), (2, 0)), ((3, 14), (3, 8)), ((3, 20), (3, 9)), ((3, 23), (3, 10)), ((3, 26), (3, 11)), ((3, 29), (3, 12)), ((3, 32), (3, 13)), ((3, 35), (3, 14)), ((3, 38), (3, 15)), ((3, 41), (3, 16)), ((3, 44), (3, 17)), ((3, 47), (3, 18)), ((3, 50), (3, 7)), ((3, 58), (3, 0)), ((3, 61), (3, 1)), ((3, 64), (3, 2)), ((3, 67), (3, 3)), ((3, 70), (3, 4)), ((3, 73), (3, 5)), ((3, 76), (3, 6)), ((4, 10), (4, 0)), ((4, 16), (4, 1)), ((4, 22), (4, 2)), ((4, 29), (4, 3)), ((4, 33), (4, 4)), ((4, 40), (3, 3)), ((4, 59), (3, 8)), ((4, 71), (3, 7)), ((4, 77), (3, 11)), ((4, 80), (3, 10)), ((4, 99), (3, 14)), ((4, 126), (3, 4)), ((4, 132), (0, 2)), ((4, 138), (3, 0)), ((4, 141), (3, 1)), ((4, 144), (3, 2)), ((4, 147), (3, 5)), ((4, 150), (3, 6)), ((4, 160), (3, 9)), ((4, 175), (3, 16)), ((4, 181), (3, 13)), ((4, 184), (3, 12)), ((4, 190), (3, 18)), ((4, 223), (1, 0)), ((4, 226), (1, 1)), ((5, 7), (5, 0)), ((5, 13), (5, 1)), ((5, 16), (5, 3)), ((5, 19), (5, 5)), ((5, 22), (5, 6)), ((5, 25), (5, 7)), ((5, 35), (5, 2)), ((5, 169), (5, 4))]
/-- method links: to (method, kind): 0 by receiver, 1 static, 2 constructor, 3 static of a mate, 4 constructor of a mate, 5 Object.<init>, 6 arraycopy -/
def rb_il : List ((Nat × Nat) × (Nat × Nat)) := [((0, 3), (0, 5)), ((0, 17), (1, 2)), ((0, 22), (12, 0)), ((0, 26), (13, 0)), ((1, 1), (0, 5)), ((1, 9), (1, 2)), ((2, 1), (0, 5)), ((2, 13), (20, 0)), ((2, 17), (3, 0)), ((2, 21), (15, 1)), ((2, 27), (0, 6)), ((3, 3), (0, 5)), ((3, 11), (2, 2)), ((3, 54), (3, 0)), ((3, 79), (14, 0)), ((3, 83), (7, 0)), ((3, 86), (8, 0)), ((3, 89), (9, 0)), ((3, 92), (23, 0)), ((3, 96), (20, 0)), ((3, 100), (30, 0)), ((3, 103), (64, 0)), ((3, 106), (15, 1)), ((3, 112), (25, 0)), ((3, 115), (31, 0)), ((3, 118), (33, 3)), ((3, 122), (34, 0)), ((3, 125), (35, 3)), ((3, 128), (36, 0)), ((3, 132), (37, 0)), ((3, 135), (38, 3)), ((3, 145), (41, 0)), ((3, 148), (43, 0)), ((3, 151), (44, 0)), ((3, 155), (92, 0)), ((3, 158), (48, 0)), ((3, 162), (49, 0)), ((3, 165), (52, 0)), ((3, 168), (53, 1)), ((3, 173), (51, 3)), ((3, 176), (54, 0)), ((3, 179), (55, 3)), ((3, 182), (56, 3)), ((3, 185), (50, 0)), ((3, 188), (62, 0)), ((3, 191), (63, 0)), ((3, 194), (65, 0)), ((3, 197), (66, 0)), ((3, 200), (67, 0)), ((3, 203), (68, 0)), ((3, 206), (69, 0)), ((4, 1), (0, 5)), ((4, 9), (1, 2)), ((4, 21), (4, 2)), ((4, 28), (5, 4)), ((4, 36), (6, 0)), ((4, 44), (11, 0)), ((4, 48), (17, 1)), ((4, 52), (18, 1)), ((4, 56), (19, 1)), ((4, 63), (20, 0)), ((4, 68), (3, 0)), ((4, 74), (23, 0)), ((4, 83), (25, 0)), ((4, 86), (27, 1)), ((4, 89), (28, 1)), ((4, 92), (29, 0)), ((4, 95), (32, 0)), ((4, 102), (40, 0)), ((4, 105), (42, 0)), ((4, 109), (46, 0)), ((4, 113), (47, 0)), ((4, 116), (50, 0)), ((4, 119), (37, 0)), ((4, 123), (61, 0)), ((4, 129), (8, 0)), ((4, 135), (72, 0)), ((4, 153), (63, 0)), ((4, 157), (64, 0)), ((4, 163), (74, 0)), ((4, 166), (75, 0)), ((4, 169), (31, 0)), ((4, 172), (69, 0)), ((4, 178), (78, 0)), ((4, 187), (51, 1)), ((4, 193), (35, 1)), ((4, 196), (33, 1)), ((4, 199), (83, 1)), ((4, 202), (86, 0)), ((4, 205), (13, 0)), ((4, 208), (88, 0)), ((4, 212), (68, 0)), ((4, 215), (90, 0)), ((4, 219), (95, 0)), ((4, 230), (91, 0)), ((4, 233), (92, 0)), ((4, 236), (57, 1)), ((4, 241), (55, 1)), ((4, 244), (58, 1)), ((5, 1), (0, 5)), ((5, 28), (98, 0)), ((5, 32), (99, 0)), ((5, 39), (101, 1)), ((5, 43), (113, 0)), ((5, 54), (116, 0)), ((5, 58), (117, 1)), ((5, 62), (133, 0)), ((5, 65), (123, 0)), ((5, 68), (135, 0)), ((5, 71), (136, 0)), ((5, 75), (132, 0)), ((5, 78), (119, 0)), ((5, 81), (134, 0)), ((5, 84), (131, 0)), ((5, 87), (102, 0)), ((5, 90), (104, 1)), ((5, 93), (105, 0)), ((5, 96), (108, 0)), ((5, 99), (111, 0)), ((5, 102), (112, 0)), ((5, 105), (114, 1)), ((5, 109), (115, 0)), ((5, 112), (121, 0)), ((5, 116), (122, 0)), ((5, 119), (124, 1)), ((5, 122), (125, 0)), ((5, 126), (126, 0)), ((5, 129), (127, 0)), ((5, 132), (120, 0)), ((5, 135), (130, 0)), ((5, 138), (140, 0)), ((5, 141), (141, 0)), ((5, 144), (144, 0)), ((5, 147), (145, 0)), ((5, 150), (150, 0)), ((5, 153), (154, 0)), ((5, 156), (155, 0)), ((5, 159), (156, 0)), ((5, 162), (158, 0)), ((5, 166), (161, 1)), ((9, 9), (0, 2)), ((9, 12), (97, 2)), ((9, 13), (10, 0)), ((9, 17), (100, 0)), ((9, 18), (16, 0)), ((9, 21), (103, 0)), ((9, 22), (21, 0)), ((9, 26), (106, 0)), ((9, 27), (22, 0)), ((9, 30), (107, 0)), ((9, 31), (24, 0)), ((9, 34), (109, 0)), ((9, 35), (26, 0)), ((9, 39), (110, 0)), ((9, 40), (39, 0)), ((9, 43), (118, 0)), ((9, 44), (45, 0)), ((9, 47), (120, 0)), ((9, 48), (59, 0)), ((9, 51), (128, 0)), ((9, 52), (60, 0)), ((9, 55), (129, 0)), ((9, 56), (70, 0)), ((9, 60), (137, 0)), ((9, 61), (71, 0)), ((9, 64), (138, 0)), ((9, 65), (73, 0)), ((9, 68), (139, 0)), ((9, 69), (76, 0)), ((9, 72), (142, 0)), ((9, 73), (77, 0)), ((9, 76), (143, 0)), ((9, 77), (79, 0)), ((9, 80), (146, 0)), ((9, 81), (80, 0)), ((9, 84), (147, 0)), ((9, 85), (81, 0)), ((9, 88), (148, 0)), ((9, 89), (82, 0)), ((9, 92), (149, 0)), ((9, 93), (84, 0)), ((9, 96), (151, 0)), ((9, 97), (85, 0)), ((9, 100), (152, 0)), ((9, 101), (87, 0)), ((9, 104), (153, 0)), ((9, 105), (89, 0)), ((9, 108), (157, 0)), ((9, 109), (93, 0)), ((9, 113), (159, 0)), ((9, 114), (94, 0)), ((9, 117), (160, 0)), ((9, 118), (96, 0)), ((9, 121), (162, 0))]
/-- links to what is made -/
def rb_cl : List ((Nat × Nat) × Nat) := [((0, 9), 3), ((1, 7), 3), ((3, 9), 2), ((4, 7), 3), ((4, 19), 0), ((4, 26), 1), ((9, 7), 4), ((9, 10), 5)]
/-- constants -/
def rb_kl : List ((Nat × Nat) × Value) := [((3, 138), .long 1103515245), ((3, 140), .long 12345), ((3, 142), .long 2147483648), ((3, 144), .int 65536), ((5, 47), .long 1103515245), ((5, 49), .long 12345), ((5, 51), .long 2147483648), ((5, 53), .int 65536), ((6, 265), .int 1431655765), ((6, 266), .int 858993459), ((6, 267), .int 252645135)]
/-- slots of two words: (method, place) -/
def rb_dd : List (Nat × Nat) := [(116, 2), (163, 4), (163, 6)]
def rb_cn : Nat → String := fun k => match k with
  | 0 => RX0
  | 1 => RX1
  | 2 => RX2
  | 3 => RX3
  | 4 => RX4
  | 5 => RX5
  | 6 => RJ6
  | 7 => RJ9
  | 8 => RJ10
  | _ => RL
