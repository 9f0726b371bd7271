section
/-- a private method of a class that the tables say can be made, by its rows of tables_1 -/
def lw_okq (q : MethodName × Nat) : Prop := (q.1.cls ≠ "java/lang/invoke/MethodHandle" ∧ q.1.cls ≠ "java/lang/invoke/VarHandle") ∧ Cond.instantiable q.1.cls q.2 ∈ tables_1 ∧ Cond.privateMethod q.1 ∈ tables_1 ∧ Cond.instanceMethod q.1 ∈ tables_1
theorem lw_p0 : lw_okq (⟨"RevealBeacon$History", "placeAt", "(I)LRevealBeacon$State;"⟩, 3) := ⟨⟨by decide +kernel, by decide +kernel⟩, List.mem_of_getElem? (i := 115) (by decide +kernel), List.mem_of_getElem? (i := 191) (by decide +kernel), List.mem_of_getElem? (i := 192) (by decide +kernel)⟩
theorem lw_p1 : lw_okq (⟨"RevealBeacon", "tryOut", "(IZ)I"⟩, 5) := ⟨⟨by decide +kernel, by decide +kernel⟩, List.mem_of_getElem? (i := 11) (by decide +kernel), List.mem_of_getElem? (i := 517) (by decide +kernel), List.mem_of_getElem? (i := 518) (by decide +kernel)⟩
theorem lw_p2 : lw_okq (⟨"RevealBeacon", "imageAt", "(I)LRevealBeacon$Image;"⟩, 5) := ⟨⟨by decide +kernel, by decide +kernel⟩, List.mem_of_getElem? (i := 11) (by decide +kernel), List.mem_of_getElem? (i := 538) (by decide +kernel), List.mem_of_getElem? (i := 539) (by decide +kernel)⟩
theorem lw_p3 : lw_okq (⟨"RevealBeaconModel", "lay", "(II)V"⟩, 8) := ⟨⟨by decide +kernel, by decide +kernel⟩, List.mem_of_getElem? (i := 546) (by decide +kernel), List.mem_of_getElem? (i := 552) (by decide +kernel), List.mem_of_getElem? (i := 553) (by decide +kernel)⟩
theorem lw_p4 : lw_okq (⟨"RevealBeaconModel", "layRound", "()V"⟩, 8) := ⟨⟨by decide +kernel, by decide +kernel⟩, List.mem_of_getElem? (i := 546) (by decide +kernel), List.mem_of_getElem? (i := 556) (by decide +kernel), List.mem_of_getElem? (i := 557) (by decide +kernel)⟩
theorem lw_p5 : lw_okq (⟨"RevealBeaconModel", "remember", "()V"⟩, 8) := ⟨⟨by decide +kernel, by decide +kernel⟩, List.mem_of_getElem? (i := 546) (by decide +kernel), List.mem_of_getElem? (i := 592) (by decide +kernel), List.mem_of_getElem? (i := 593) (by decide +kernel)⟩
theorem lw_p6 : lw_okq (⟨"RevealBeaconModel", "put", "(II)I"⟩, 8) := ⟨⟨by decide +kernel, by decide +kernel⟩, List.mem_of_getElem? (i := 546) (by decide +kernel), List.mem_of_getElem? (i := 603) (by decide +kernel), List.mem_of_getElem? (i := 604) (by decide +kernel)⟩
theorem lw_p7 : lw_okq (⟨"RevealBeaconModel", "isMember", "(I)Z"⟩, 8) := ⟨⟨by decide +kernel, by decide +kernel⟩, List.mem_of_getElem? (i := 546) (by decide +kernel), List.mem_of_getElem? (i := 615) (by decide +kernel), List.mem_of_getElem? (i := 616) (by decide +kernel)⟩
theorem lw_p8 : lw_okq (⟨"RevealBeaconModel", "isOpening", "(III)Z"⟩, 8) := ⟨⟨by decide +kernel, by decide +kernel⟩, List.mem_of_getElem? (i := 546) (by decide +kernel), List.mem_of_getElem? (i := 627) (by decide +kernel), List.mem_of_getElem? (i := 628) (by decide +kernel)⟩
theorem lw_p9 : lw_okq (⟨"RevealBeaconModel", "isOn", "(I)Z"⟩, 8) := ⟨⟨by decide +kernel, by decide +kernel⟩, List.mem_of_getElem? (i := 546) (by decide +kernel), List.mem_of_getElem? (i := 631) (by decide +kernel), List.mem_of_getElem? (i := 632) (by decide +kernel)⟩
theorem lw_p10 : lw_okq (⟨"RevealBeaconModel", "isBound", "(I)Z"⟩, 8) := ⟨⟨by decide +kernel, by decide +kernel⟩, List.mem_of_getElem? (i := 546) (by decide +kernel), List.mem_of_getElem? (i := 635) (by decide +kernel), List.mem_of_getElem? (i := 636) (by decide +kernel)⟩
theorem lw_p11 : lw_okq (⟨"RevealBeaconModel", "layShares", "(II)V"⟩, 8) := ⟨⟨by decide +kernel, by decide +kernel⟩, List.mem_of_getElem? (i := 546) (by decide +kernel), List.mem_of_getElem? (i := 642) (by decide +kernel), List.mem_of_getElem? (i := 643) (by decide +kernel)⟩
theorem lw_p12 : lw_okq (⟨"RevealBeaconModel", "draw", "(I)I"⟩, 8) := ⟨⟨by decide +kernel, by decide +kernel⟩, List.mem_of_getElem? (i := 546) (by decide +kernel), List.mem_of_getElem? (i := 646) (by decide +kernel), List.mem_of_getElem? (i := 647) (by decide +kernel)⟩
theorem lw_p13 : lw_okq (⟨"RevealBeaconModel", "fine", "(II)V"⟩, 8) := ⟨⟨by decide +kernel, by decide +kernel⟩, List.mem_of_getElem? (i := 546) (by decide +kernel), List.mem_of_getElem? (i := 661) (by decide +kernel), List.mem_of_getElem? (i := 662) (by decide +kernel)⟩
theorem lw_p14 : lw_okq (⟨"RevealBeaconModel", "areTwo", "(II)Z"⟩, 8) := ⟨⟨by decide +kernel, by decide +kernel⟩, List.mem_of_getElem? (i := 546) (by decide +kernel), List.mem_of_getElem? (i := 669) (by decide +kernel), List.mem_of_getElem? (i := 670) (by decide +kernel)⟩
theorem lw_p15 : lw_okq (⟨"RevealBeaconModel", "mayPublish", "(II)Z"⟩, 8) := ⟨⟨by decide +kernel, by decide +kernel⟩, List.mem_of_getElem? (i := 546) (by decide +kernel), List.mem_of_getElem? (i := 673) (by decide +kernel), List.mem_of_getElem? (i := 674) (by decide +kernel)⟩
def lw_privs_1 : List (MethodName × Nat) := [(⟨"RevealBeacon$History", "placeAt", "(I)LRevealBeacon$State;"⟩, 3), (⟨"RevealBeacon", "tryOut", "(IZ)I"⟩, 5), (⟨"RevealBeacon", "imageAt", "(I)LRevealBeacon$Image;"⟩, 5), (⟨"RevealBeaconModel", "lay", "(II)V"⟩, 8), (⟨"RevealBeaconModel", "layRound", "()V"⟩, 8), (⟨"RevealBeaconModel", "remember", "()V"⟩, 8), (⟨"RevealBeaconModel", "put", "(II)I"⟩, 8), (⟨"RevealBeaconModel", "isMember", "(I)Z"⟩, 8), (⟨"RevealBeaconModel", "isOpening", "(III)Z"⟩, 8), (⟨"RevealBeaconModel", "isOn", "(I)Z"⟩, 8), (⟨"RevealBeaconModel", "isBound", "(I)Z"⟩, 8), (⟨"RevealBeaconModel", "layShares", "(II)V"⟩, 8), (⟨"RevealBeaconModel", "draw", "(I)I"⟩, 8), (⟨"RevealBeaconModel", "fine", "(II)V"⟩, 8), (⟨"RevealBeaconModel", "areTwo", "(II)Z"⟩, 8), (⟨"RevealBeaconModel", "mayPublish", "(II)Z"⟩, 8)]
theorem lw_r1 : ∀ q ∈ lw_privs_1, lw_okq q := List.forall_mem_cons.mpr ⟨lw_p0, List.forall_mem_cons.mpr ⟨lw_p1, List.forall_mem_cons.mpr ⟨lw_p2, List.forall_mem_cons.mpr ⟨lw_p3, List.forall_mem_cons.mpr ⟨lw_p4, List.forall_mem_cons.mpr ⟨lw_p5, List.forall_mem_cons.mpr ⟨lw_p6, List.forall_mem_cons.mpr ⟨lw_p7, List.forall_mem_cons.mpr ⟨lw_p8, List.forall_mem_cons.mpr ⟨lw_p9, List.forall_mem_cons.mpr ⟨lw_p10, List.forall_mem_cons.mpr ⟨lw_p11, List.forall_mem_cons.mpr ⟨lw_p12, List.forall_mem_cons.mpr ⟨lw_p13, List.forall_mem_cons.mpr ⟨lw_p14, List.forall_mem_cons.mpr ⟨lw_p15, fun _ h => absurd h List.not_mem_nil⟩⟩⟩⟩⟩⟩⟩⟩⟩⟩⟩⟩⟩⟩⟩⟩
theorem lw_p16 : lw_okq (⟨"RevealBeaconModel", "known", "(I)I"⟩, 8) := ⟨⟨by decide +kernel, by decide +kernel⟩, List.mem_of_getElem? (i := 546) (by decide +kernel), List.mem_of_getElem? (i := 677) (by decide +kernel), List.mem_of_getElem? (i := 678) (by decide +kernel)⟩
theorem lw_p17 : lw_okq (⟨"RevealBeaconModel", "takePublished", "(I)V"⟩, 8) := ⟨⟨by decide +kernel, by decide +kernel⟩, List.mem_of_getElem? (i := 546) (by decide +kernel), List.mem_of_getElem? (i := 684) (by decide +kernel), List.mem_of_getElem? (i := 685) (by decide +kernel)⟩
theorem lw_p18 : lw_okq (⟨"RevealBeaconModel", "sharesKnown", "()I"⟩, 8) := ⟨⟨by decide +kernel, by decide +kernel⟩, List.mem_of_getElem? (i := 546) (by decide +kernel), List.mem_of_getElem? (i := 688) (by decide +kernel), List.mem_of_getElem? (i := 689) (by decide +kernel)⟩
theorem lw_p19 : lw_okq (⟨"RevealBeaconModel", "atZero", "()I"⟩, 8) := ⟨⟨by decide +kernel, by decide +kernel⟩, List.mem_of_getElem? (i := 546) (by decide +kernel), List.mem_of_getElem? (i := 692) (by decide +kernel), List.mem_of_getElem? (i := 693) (by decide +kernel)⟩
theorem lw_p20 : lw_okq (⟨"RevealBeaconModel", "tickOnce", "()V"⟩, 8) := ⟨⟨by decide +kernel, by decide +kernel⟩, List.mem_of_getElem? (i := 546) (by decide +kernel), List.mem_of_getElem? (i := 705) (by decide +kernel), List.mem_of_getElem? (i := 706) (by decide +kernel)⟩
theorem lw_p21 : lw_okq (⟨"RevealBeaconModel", "endPhase", "()V"⟩, 8) := ⟨⟨by decide +kernel, by decide +kernel⟩, List.mem_of_getElem? (i := 546) (by decide +kernel), List.mem_of_getElem? (i := 709) (by decide +kernel), List.mem_of_getElem? (i := 710) (by decide +kernel)⟩
theorem lw_p22 : lw_okq (⟨"RevealBeaconModel", "bound", "()I"⟩, 8) := ⟨⟨by decide +kernel, by decide +kernel⟩, List.mem_of_getElem? (i := 546) (by decide +kernel), List.mem_of_getElem? (i := 713) (by decide +kernel), List.mem_of_getElem? (i := 714) (by decide +kernel)⟩
theorem lw_p23 : lw_okq (⟨"RevealBeaconModel", "count", "(I)I"⟩, 8) := ⟨⟨by decide +kernel, by decide +kernel⟩, List.mem_of_getElem? (i := 546) (by decide +kernel), List.mem_of_getElem? (i := 717) (by decide +kernel), List.mem_of_getElem? (i := 718) (by decide +kernel)⟩
theorem lw_p24 : lw_okq (⟨"RevealBeaconModel", "shut", "()V"⟩, 8) := ⟨⟨by decide +kernel, by decide +kernel⟩, List.mem_of_getElem? (i := 546) (by decide +kernel), List.mem_of_getElem? (i := 721) (by decide +kernel), List.mem_of_getElem? (i := 722) (by decide +kernel)⟩
theorem lw_p25 : lw_okq (⟨"RevealBeaconModel", "payOut", "()V"⟩, 8) := ⟨⟨by decide +kernel, by decide +kernel⟩, List.mem_of_getElem? (i := 546) (by decide +kernel), List.mem_of_getElem? (i := 725) (by decide +kernel), List.mem_of_getElem? (i := 726) (by decide +kernel)⟩
theorem lw_p26 : lw_okq (⟨"RevealBeaconModel", "outputNow", "()I"⟩, 8) := ⟨⟨by decide +kernel, by decide +kernel⟩, List.mem_of_getElem? (i := 546) (by decide +kernel), List.mem_of_getElem? (i := 729) (by decide +kernel), List.mem_of_getElem? (i := 730) (by decide +kernel)⟩
theorem lw_p27 : lw_okq (⟨"RevealBeaconModel", "deposits", "()I"⟩, 8) := ⟨⟨by decide +kernel, by decide +kernel⟩, List.mem_of_getElem? (i := 546) (by decide +kernel), List.mem_of_getElem? (i := 745) (by decide +kernel), List.mem_of_getElem? (i := 746) (by decide +kernel)⟩
theorem lw_p28 : lw_okq (⟨"RevealBeaconModel", "membersOn", "()I"⟩, 8) := ⟨⟨by decide +kernel, by decide +kernel⟩, List.mem_of_getElem? (i := 546) (by decide +kernel), List.mem_of_getElem? (i := 749) (by decide +kernel), List.mem_of_getElem? (i := 750) (by decide +kernel)⟩
theorem lw_p29 : lw_okq (⟨"RevealBeaconModel", "published", "(I)I"⟩, 8) := ⟨⟨by decide +kernel, by decide +kernel⟩, List.mem_of_getElem? (i := 546) (by decide +kernel), List.mem_of_getElem? (i := 761) (by decide +kernel), List.mem_of_getElem? (i := 762) (by decide +kernel)⟩
theorem lw_p30 : lw_okq (⟨"RevealBeaconModel", "standing", "(I)I"⟩, 8) := ⟨⟨by decide +kernel, by decide +kernel⟩, List.mem_of_getElem? (i := 546) (by decide +kernel), List.mem_of_getElem? (i := 765) (by decide +kernel), List.mem_of_getElem? (i := 766) (by decide +kernel)⟩
theorem lw_p31 : lw_okq (⟨"RevealBeaconModel", "openingsOf", "(II)I"⟩, 8) := ⟨⟨by decide +kernel, by decide +kernel⟩, List.mem_of_getElem? (i := 546) (by decide +kernel), List.mem_of_getElem? (i := 785) (by decide +kernel), List.mem_of_getElem? (i := 786) (by decide +kernel)⟩
def lw_privs_2 : List (MethodName × Nat) := [(⟨"RevealBeaconModel", "known", "(I)I"⟩, 8), (⟨"RevealBeaconModel", "takePublished", "(I)V"⟩, 8), (⟨"RevealBeaconModel", "sharesKnown", "()I"⟩, 8), (⟨"RevealBeaconModel", "atZero", "()I"⟩, 8), (⟨"RevealBeaconModel", "tickOnce", "()V"⟩, 8), (⟨"RevealBeaconModel", "endPhase", "()V"⟩, 8), (⟨"RevealBeaconModel", "bound", "()I"⟩, 8), (⟨"RevealBeaconModel", "count", "(I)I"⟩, 8), (⟨"RevealBeaconModel", "shut", "()V"⟩, 8), (⟨"RevealBeaconModel", "payOut", "()V"⟩, 8), (⟨"RevealBeaconModel", "outputNow", "()I"⟩, 8), (⟨"RevealBeaconModel", "deposits", "()I"⟩, 8), (⟨"RevealBeaconModel", "membersOn", "()I"⟩, 8), (⟨"RevealBeaconModel", "published", "(I)I"⟩, 8), (⟨"RevealBeaconModel", "standing", "(I)I"⟩, 8), (⟨"RevealBeaconModel", "openingsOf", "(II)I"⟩, 8)]
theorem lw_r2 : ∀ q ∈ lw_privs_2, lw_okq q := List.forall_mem_cons.mpr ⟨lw_p16, List.forall_mem_cons.mpr ⟨lw_p17, List.forall_mem_cons.mpr ⟨lw_p18, List.forall_mem_cons.mpr ⟨lw_p19, List.forall_mem_cons.mpr ⟨lw_p20, List.forall_mem_cons.mpr ⟨lw_p21, List.forall_mem_cons.mpr ⟨lw_p22, List.forall_mem_cons.mpr ⟨lw_p23, List.forall_mem_cons.mpr ⟨lw_p24, List.forall_mem_cons.mpr ⟨lw_p25, List.forall_mem_cons.mpr ⟨lw_p26, List.forall_mem_cons.mpr ⟨lw_p27, List.forall_mem_cons.mpr ⟨lw_p28, List.forall_mem_cons.mpr ⟨lw_p29, List.forall_mem_cons.mpr ⟨lw_p30, List.forall_mem_cons.mpr ⟨lw_p31, fun _ h => absurd h List.not_mem_nil⟩⟩⟩⟩⟩⟩⟩⟩⟩⟩⟩⟩⟩⟩⟩⟩
theorem lw_p32 : lw_okq (⟨"RevealBeaconModel", "hold", "()V"⟩, 8) := ⟨⟨by decide +kernel, by decide +kernel⟩, List.mem_of_getElem? (i := 546) (by decide +kernel), List.mem_of_getElem? (i := 801) (by decide +kernel), List.mem_of_getElem? (i := 802) (by decide +kernel)⟩
theorem lw_p33 : lw_okq (⟨"RevealBeaconModel", "recoverAll", "(I)V"⟩, 8) := ⟨⟨by decide +kernel, by decide +kernel⟩, List.mem_of_getElem? (i := 546) (by decide +kernel), List.mem_of_getElem? (i := 805) (by decide +kernel), List.mem_of_getElem? (i := 806) (by decide +kernel)⟩
theorem lw_p34 : lw_okq (⟨"RevealBeaconModel", "release", "()V"⟩, 8) := ⟨⟨by decide +kernel, by decide +kernel⟩, List.mem_of_getElem? (i := 546) (by decide +kernel), List.mem_of_getElem? (i := 809) (by decide +kernel), List.mem_of_getElem? (i := 810) (by decide +kernel)⟩
theorem lw_p35 : lw_okq (⟨"RevealBeaconModel", "outputIf", "(IZ)I"⟩, 8) := ⟨⟨by decide +kernel, by decide +kernel⟩, List.mem_of_getElem? (i := 546) (by decide +kernel), List.mem_of_getElem? (i := 817) (by decide +kernel), List.mem_of_getElem? (i := 818) (by decide +kernel)⟩
def lw_privs_3 : List (MethodName × Nat) := [(⟨"RevealBeaconModel", "hold", "()V"⟩, 8), (⟨"RevealBeaconModel", "recoverAll", "(I)V"⟩, 8), (⟨"RevealBeaconModel", "release", "()V"⟩, 8), (⟨"RevealBeaconModel", "outputIf", "(IZ)I"⟩, 8)]
theorem lw_r3 : ∀ q ∈ lw_privs_3, lw_okq q := List.forall_mem_cons.mpr ⟨lw_p32, List.forall_mem_cons.mpr ⟨lw_p33, List.forall_mem_cons.mpr ⟨lw_p34, List.forall_mem_cons.mpr ⟨lw_p35, fun _ h => absurd h List.not_mem_nil⟩⟩⟩⟩
def lw_privs : List (MethodName × Nat) := lw_privs_1 ++ (lw_privs_2 ++ (lw_privs_3))
def lw_tbl : List Cond := k2_sels lw_privs ++ tables_1
theorem lw_privs_ok : ∀ q ∈ lw_privs, lw_okq q := by
  show ∀ q ∈ lw_privs_1 ++ (lw_privs_2 ++ (lw_privs_3)), lw_okq q
  exact List.forall_mem_append.mpr ⟨lw_r1, List.forall_mem_append.mpr ⟨lw_r2, lw_r3⟩⟩
/-- the streams that the claim lets the run draw from -/
abbrev lw_cs : List Choice := [Jvm.Choice.named "NaN.bits"]
theorem lw_bits : nanBits ∈ lw_cs := by first | decide | exact List.mem_cons_self | simp [lw_cs, nanBits]
def RX0 : String := "RevealBeacon$History"
def TX0 : u_T := fun k => match k with
  | 0 => ("RevealBeacon$History", "states", "[LRevealBeacon$State;", true)
  | 1 => ("RevealBeacon$History", "first", "I", false)
  | _ => ("RevealBeacon$History", "count", "I", false)
def tyX0 : Nat → FieldType := fun k => match k with
  | 0 => .array (.object "RevealBeacon$State")
  | 1 => .int
  | _ => .int
theorem nmX0 : ∀ a, a < 3 → ∀ b, b < 3 → a ≠ b → (TX0 a).2.1 ≠ (TX0 b).2.1 := by decide +kernel
theorem tyX0_ok : ∀ k, k < 3 → parseFieldDescriptor (TX0 k).2.2.1 = some (tyX0 k) := by decide +kernel
abbrev cX0_init : ByteArray := prog_2_method_1_code
def yX0_init : MethodName := ⟨RX0, "<init>", "()V"⟩
abbrev cX0_record : ByteArray := prog_2_method_2_code
def yX0_record : MethodName := ⟨RX0, "record", "(LRevealBeacon$State;)V"⟩
abbrev cX0_restore : ByteArray := prog_2_method_3_code
def yX0_restore : MethodName := ⟨RX0, "restore", "(LRevealBeacon$State;)V"⟩
abbrev cX0_placeAt : ByteArray := prog_2_method_4_code
def yX0_placeAt : MethodName := ⟨RX0, "placeAt", "(I)LRevealBeacon$State;"⟩
def RX1 : String := "RevealBeacon$Image"
def TX1 : u_T := fun k => match k with
  | 0 => ("RevealBeacon$Image", "content", "LRevealBeacon$State;", true)
  | _ => ("RevealBeacon$Image", "filled", "Z", false)
def tyX1 : Nat → FieldType := fun k => match k with
  | 0 => .object "RevealBeacon$State"
  | _ => .boolean
theorem nmX1 : ∀ a, a < 2 → ∀ b, b < 2 → a ≠ b → (TX1 a).2.1 ≠ (TX1 b).2.1 := by decide +kernel
theorem tyX1_ok : ∀ k, k < 2 → parseFieldDescriptor (TX1 k).2.2.1 = some (tyX1 k) := by decide +kernel
abbrev cX1_init : ByteArray := prog_3_method_1_code
def yX1_init : MethodName := ⟨RX1, "<init>", "()V"⟩
def RX2 : String := "RevealBeacon$Row"
def TX2 : u_T := fun k => match k with
  | _ => ("RevealBeacon$Row", "cells", "[I", true)
def tyX2 : Nat → FieldType := fun k => match k with
  | _ => .array .int
theorem nmX2 : ∀ a, a < 1 → ∀ b, b < 1 → a ≠ b → (TX2 a).2.1 ≠ (TX2 b).2.1 := by decide +kernel
theorem tyX2_ok : ∀ k, k < 1 → parseFieldDescriptor (TX2 k).2.2.1 = some (tyX2 k) := by decide +kernel
abbrev cX2_init : ByteArray := prog_4_method_1_code
def yX2_init : MethodName := ⟨RX2, "<init>", "(I)V"⟩
abbrev cX2_at : ByteArray := prog_4_method_2_code
def yX2_at : MethodName := ⟨RX2, "at", "(I)I"⟩
abbrev cX2_put : ByteArray := prog_4_method_3_code
def yX2_put : MethodName := ⟨RX2, "put", "(II)V"⟩
abbrev cX2_add : ByteArray := prog_4_method_4_code
def yX2_add : MethodName := ⟨RX2, "add", "(II)V"⟩
abbrev cX2_fill : ByteArray := prog_4_method_5_code
def yX2_fill : MethodName := ⟨RX2, "fill", "(I)V"⟩
abbrev cX2_copyFrom : ByteArray := prog_4_method_6_code
def yX2_copyFrom : MethodName := ⟨RX2, "copyFrom", "(LRevealBeacon$Row;)V"⟩
def RX3 : String := "RevealBeacon$State"
def TX3 : u_T := fun k => match k with
  | 0 => ("RevealBeacon$State", "members", "I", false)
  | 1 => ("RevealBeacon$State", "threshold", "I", false)
  | 2 => ("RevealBeacon$State", "clock", "I", false)
  | 3 => ("RevealBeacon$State", "round", "I", false)
  | 4 => ("RevealBeacon$State", "phase", "I", false)
  | 5 => ("RevealBeacon$State", "age", "I", false)
  | 6 => ("RevealBeacon$State", "pool", "I", false)
  | 7 => ("RevealBeacon$State", "seed", "I", false)
  | 8 => ("RevealBeacon$State", "settings", "LRevealBeacon$Row;", true)
  | 9 => ("RevealBeacon$State", "outputs", "LRevealBeacon$Row;", true)
  | 10 => ("RevealBeacon$State", "deposits", "LRevealBeacon$Row;", true)
  | 11 => ("RevealBeacon$State", "switches", "LRevealBeacon$Row;", true)
  | 12 => ("RevealBeacon$State", "fines", "LRevealBeacon$Row;", true)
  | 13 => ("RevealBeacon$State", "standings", "LRevealBeacon$Row;", true)
  | 14 => ("RevealBeacon$State", "commitments", "LRevealBeacon$Row;", true)
  | 15 => ("RevealBeacon$State", "secrets", "LRevealBeacon$Row;", true)
  | 16 => ("RevealBeacon$State", "knowns", "LRevealBeacon$Row;", true)
  | 17 => ("RevealBeacon$State", "shares", "LRevealBeacon$Row;", true)
  | _ => ("RevealBeacon$State", "shown", "LRevealBeacon$Row;", true)
def tyX3 : Nat → FieldType := fun k => match k with
  | 0 => .int
  | 1 => .int
  | 2 => .int
  | 3 => .int
  | 4 => .int
  | 5 => .int
  | 6 => .int
  | 7 => .int
  | 8 => .object "RevealBeacon$Row"
  | 9 => .object "RevealBeacon$Row"
  | 10 => .object "RevealBeacon$Row"
  | 11 => .object "RevealBeacon$Row"
  | 12 => .object "RevealBeacon$Row"
  | 13 => .object "RevealBeacon$Row"
  | 14 => .object "RevealBeacon$Row"
  | 15 => .object "RevealBeacon$Row"
  | 16 => .object "RevealBeacon$Row"
  | 17 => .object "RevealBeacon$Row"
  | _ => .object "RevealBeacon$Row"
theorem nmX3 : ∀ a, a < 19 → ∀ b, b < 19 → a ≠ b → (TX3 a).2.1 ≠ (TX3 b).2.1 := by decide +kernel
theorem tyX3_ok : ∀ k, k < 19 → parseFieldDescriptor (TX3 k).2.2.1 = some (tyX3 k) := by decide +kernel
abbrev cX3_init : ByteArray := prog_5_method_1_code
def yX3_init : MethodName := ⟨RX3, "<init>", "()V"⟩
abbrev cX3_copyFrom : ByteArray := prog_5_method_2_code
def yX3_copyFrom : MethodName := ⟨RX3, "copyFrom", "(LRevealBeacon$State;)V"⟩
abbrev cX3_restart : ByteArray := prog_5_method_3_code
def yX3_restart : MethodName := ⟨RX3, "restart", "(II)V"⟩
abbrev cX3_startRound : ByteArray := prog_5_method_4_code
def yX3_startRound : MethodName := ⟨RX3, "startRound", "()V"⟩
abbrev cX3_enter : ByteArray := prog_5_method_5_code
def yX3_enter : MethodName := ⟨RX3, "enter", "(I)V"⟩
abbrev cX3_isMember : ByteArray := prog_5_method_6_code
def yX3_isMember : MethodName := ⟨RX3, "isMember", "(I)Z"⟩
abbrev cX3_isPair : ByteArray := prog_5_method_7_code
def yX3_isPair : MethodName := ⟨RX3, "isPair", "(II)Z"⟩
abbrev cX3_isOn : ByteArray := prog_5_method_8_code
def yX3_isOn : MethodName := ⟨RX3, "isOn", "(I)Z"⟩
abbrev cX3_isBound : ByteArray := prog_5_method_9_code
def yX3_isBound : MethodName := ⟨RX3, "isBound", "(I)Z"⟩
abbrev cX3_isKnown : ByteArray := prog_5_method_10_code
def yX3_isKnown : MethodName := ⟨RX3, "isKnown", "(I)Z"⟩
abbrev cX3_isHidden : ByteArray := prog_5_method_11_code
def yX3_isHidden : MethodName := ⟨RX3, "isHidden", "(I)Z"⟩
abbrev cX3_countOn : ByteArray := prog_5_method_12_code
def yX3_countOn : MethodName := ⟨RX3, "countOn", "()I"⟩
abbrev cX3_countBound : ByteArray := prog_5_method_13_code
def yX3_countBound : MethodName := ⟨RX3, "countBound", "()I"⟩
abbrev cX3_countStanding : ByteArray := prog_5_method_14_code
def yX3_countStanding : MethodName := ⟨RX3, "countStanding", "(I)I"⟩
abbrev cX3_sumDeposits : ByteArray := prog_5_method_15_code
def yX3_sumDeposits : MethodName := ⟨RX3, "sumDeposits", "()I"⟩
abbrev cX3_fine : ByteArray := prog_5_method_16_code
def yX3_fine : MethodName := ⟨RX3, "fine", "(II)V"⟩
abbrev cX3_mayCommit : ByteArray := prog_5_method_17_code
def yX3_mayCommit : MethodName := ⟨RX3, "mayCommit", "(I)Z"⟩
abbrev cX3_bind : ByteArray := prog_5_method_18_code
def yX3_bind : MethodName := ⟨RX3, "bind", "(III)V"⟩
abbrev cX3_dealShares : ByteArray := prog_5_method_19_code
def yX3_dealShares : MethodName := ⟨RX3, "dealShares", "(II)V"⟩
abbrev cX3_drawCoefficient : ByteArray := prog_5_method_20_code
def yX3_drawCoefficient : MethodName := ⟨RX3, "drawCoefficient", "()I"⟩
abbrev cX3_trueShare : ByteArray := prog_5_method_21_code
def yX3_trueShare : MethodName := ⟨RX3, "trueShare", "(II)I"⟩
abbrev cX3_mayReveal : ByteArray := prog_5_method_22_code
def yX3_mayReveal : MethodName := ⟨RX3, "mayReveal", "(I)Z"⟩
abbrev cX3_open : ByteArray := prog_5_method_23_code
def yX3_open : MethodName := ⟨RX3, "open", "(III)I"⟩
abbrev cX3_learn : ByteArray := prog_5_method_24_code
def yX3_learn : MethodName := ⟨RX3, "learn", "(III)V"⟩
abbrev cX3_uncover : ByteArray := prog_5_method_25_code
def yX3_uncover : MethodName := ⟨RX3, "uncover", "(I)V"⟩
abbrev cX3_uncoverAllBut : ByteArray := prog_5_method_26_code
def yX3_uncoverAllBut : MethodName := ⟨RX3, "uncoverAllBut", "(I)V"⟩
abbrev cX3_mayPublish : ByteArray := prog_5_method_27_code
def yX3_mayPublish : MethodName := ⟨RX3, "mayPublish", "(II)Z"⟩
abbrev cX3_canShow : ByteArray := prog_5_method_28_code
def yX3_canShow : MethodName := ⟨RX3, "canShow", "(II)Z"⟩
abbrev cX3_isShown : ByteArray := prog_5_method_29_code
def yX3_isShown : MethodName := ⟨RX3, "isShown", "(II)Z"⟩
abbrev cX3_findGivers : ByteArray := prog_5_method_30_code
def yX3_findGivers : MethodName := ⟨RX3, "findGivers", "(I)I"⟩
abbrev cX3_countShown : ByteArray := prog_5_method_31_code
def yX3_countShown : MethodName := ⟨RX3, "countShown", "(I)I"⟩
abbrev cX3_show : ByteArray := prog_5_method_32_code
def yX3_show : MethodName := ⟨RX3, "show", "(III)I"⟩
abbrev cX3_interpolate : ByteArray := prog_5_method_33_code
def yX3_interpolate : MethodName := ⟨RX3, "interpolate", "(II)I"⟩
abbrev cX3_showAll : ByteArray := prog_5_method_34_code
def yX3_showAll : MethodName := ⟨RX3, "showAll", "(I)V"⟩
abbrev cX3_passTime : ByteArray := prog_5_method_35_code
def yX3_passTime : MethodName := ⟨RX3, "passTime", "()V"⟩
abbrev cX3_endPhase : ByteArray := prog_5_method_36_code
def yX3_endPhase : MethodName := ⟨RX3, "endPhase", "()V"⟩
abbrev cX3_fineSilent : ByteArray := prog_5_method_37_code
def yX3_fineSilent : MethodName := ⟨RX3, "fineSilent", "()V"⟩
abbrev cX3_close : ByteArray := prog_5_method_38_code
def yX3_close : MethodName := ⟨RX3, "close", "()V"⟩
abbrev cX3_payOut : ByteArray := prog_5_method_39_code
def yX3_payOut : MethodName := ⟨RX3, "payOut", "()V"⟩
abbrev cX3_combineKnown : ByteArray := prog_5_method_40_code
def yX3_combineKnown : MethodName := ⟨RX3, "combineKnown", "()I"⟩
abbrev cX3_combineBound : ByteArray := prog_5_method_41_code
def yX3_combineBound : MethodName := ⟨RX3, "combineBound", "()I"⟩
def RX4 : String := "RevealBeacon"
def TX4 : u_T := fun k => match k with
  | 0 => ("RevealBeacon", "now", "LRevealBeacon$State;", true)
  | 1 => ("RevealBeacon", "trial", "LRevealBeacon$State;", true)
  | 2 => ("RevealBeacon", "history", "LRevealBeacon$History;", true)
  | 3 => ("RevealBeacon", "imageZero", "LRevealBeacon$Image;", true)
  | _ => ("RevealBeacon", "imageOne", "LRevealBeacon$Image;", true)
def tyX4 : Nat → FieldType := fun k => match k with
  | 0 => .object "RevealBeacon$State"
  | 1 => .object "RevealBeacon$State"
  | 2 => .object "RevealBeacon$History"
  | 3 => .object "RevealBeacon$Image"
  | _ => .object "RevealBeacon$Image"
theorem nmX4 : ∀ a, a < 5 → ∀ b, b < 5 → a ≠ b → (TX4 a).2.1 ≠ (TX4 b).2.1 := by decide +kernel
theorem tyX4_ok : ∀ k, k < 5 → parseFieldDescriptor (TX4 k).2.2.1 = some (tyX4 k) := by decide +kernel
abbrev cX4_init : ByteArray := prog_1_method_1_code
def yX4_init : MethodName := ⟨RX4, "<init>", "()V"⟩
abbrev cX4_begin : ByteArray := prog_1_method_2_code
def yX4_begin : MethodName := ⟨RX4, "begin", "(II)I"⟩
abbrev cX4_set : ByteArray := prog_1_method_3_code
def yX4_set : MethodName := ⟨RX4, "set", "(II)I"⟩
abbrev cX4_setSeed : ByteArray := prog_1_method_4_code
def yX4_setSeed : MethodName := ⟨RX4, "setSeed", "(I)I"⟩
abbrev cX4_turn : ByteArray := prog_1_method_5_code
def yX4_turn : MethodName := ⟨RX4, "turn", "(II)I"⟩
abbrev cX4_pay : ByteArray := prog_1_method_6_code
def yX4_pay : MethodName := ⟨RX4, "pay", "(II)I"⟩
abbrev cX4_commit : ByteArray := prog_1_method_7_code
def yX4_commit : MethodName := ⟨RX4, "commit", "(III)I"⟩
abbrev cX4_reveal : ByteArray := prog_1_method_8_code
def yX4_reveal : MethodName := ⟨RX4, "reveal", "(III)I"⟩
abbrev cX4_publish : ByteArray := prog_1_method_9_code
def yX4_publish : MethodName := ⟨RX4, "publish", "(III)I"⟩
abbrev cX4_give : ByteArray := prog_1_method_10_code
def yX4_give : MethodName := ⟨RX4, "give", "(II)I"⟩
abbrev cX4_tick : ByteArray := prog_1_method_11_code
def yX4_tick : MethodName := ⟨RX4, "tick", "(I)I"⟩
abbrev cX4_next : ByteArray := prog_1_method_12_code
def yX4_next : MethodName := ⟨RX4, "next", "()I"⟩
abbrev cX4_undo : ByteArray := prog_1_method_13_code
def yX4_undo : MethodName := ⟨RX4, "undo", "()I"⟩
abbrev cX4_told : ByteArray := prog_1_method_14_code
def yX4_told : MethodName := ⟨RX4, "told", "(I)I"⟩
abbrev cX4_setting : ByteArray := prog_1_method_15_code
def yX4_setting : MethodName := ⟨RX4, "setting", "(I)I"⟩
abbrev cX4_member : ByteArray := prog_1_method_16_code
def yX4_member : MethodName := ⟨RX4, "member", "(II)I"⟩
abbrev cX4_mark : ByteArray := prog_1_method_17_code
def yX4_mark : MethodName := ⟨RX4, "mark", "(II)I"⟩
abbrev cX4_share : ByteArray := prog_1_method_18_code
def yX4_share : MethodName := ⟨RX4, "share", "(II)I"⟩
abbrev cX4_commitment : ByteArray := prog_1_method_19_code
def yX4_commitment : MethodName := ⟨RX4, "commitment", "(III)I"⟩
abbrev cX4_openings : ByteArray := prog_1_method_20_code
def yX4_openings : MethodName := ⟨RX4, "openings", "(II)I"⟩
abbrev cX4_past : ByteArray := prog_1_method_21_code
def yX4_past : MethodName := ⟨RX4, "past", "(I)I"⟩
abbrev cX4_honest : ByteArray := prog_1_method_22_code
def yX4_honest : MethodName := ⟨RX4, "honest", "()I"⟩
abbrev cX4_outcome : ByteArray := prog_1_method_23_code
def yX4_outcome : MethodName := ⟨RX4, "outcome", "()I"⟩
abbrev cX4_influence : ByteArray := prog_1_method_24_code
def yX4_influence : MethodName := ⟨RX4, "influence", "(I)I"⟩
abbrev cX4_mean : ByteArray := prog_1_method_25_code
def yX4_mean : MethodName := ⟨RX4, "mean", "()F"⟩
abbrev cX4_keep : ByteArray := prog_1_method_26_code
def yX4_keep : MethodName := ⟨RX4, "keep", "(I)I"⟩
abbrev cX4_back : ByteArray := prog_1_method_27_code
def yX4_back : MethodName := ⟨RX4, "back", "(I)I"⟩
abbrev cX4_imageAt : ByteArray := prog_1_method_28_code
def yX4_imageAt : MethodName := ⟨RX4, "imageAt", "(I)LRevealBeacon$Image;"⟩
abbrev cX4_tryOut : ByteArray := prog_1_method_29_code
def yX4_tryOut : MethodName := ⟨RX4, "tryOut", "(IZ)I"⟩
abbrev cX4_isSetting : ByteArray := prog_1_method_30_code
def yX4_isSetting : MethodName := ⟨RX4, "isSetting", "(I)Z"⟩
abbrev cX4_lowestValue : ByteArray := prog_1_method_31_code
def yX4_lowestValue : MethodName := ⟨RX4, "lowestValue", "(I)I"⟩
abbrev cX4_highestValue : ByteArray := prog_1_method_32_code
def yX4_highestValue : MethodName := ⟨RX4, "highestValue", "(I)I"⟩
abbrev cX4_isSecret : ByteArray := prog_1_method_33_code
def yX4_isSecret : MethodName := ⟨RX4, "isSecret", "(I)Z"⟩
abbrev cX4_isSalt : ByteArray := prog_1_method_34_code
def yX4_isSalt : MethodName := ⟨RX4, "isSalt", "(I)Z"⟩
abbrev cX4_computeCommitment : ByteArray := prog_1_method_35_code
def yX4_computeCommitment : MethodName := ⟨RX4, "computeCommitment", "(III)I"⟩
abbrev cX4_computeMark : ByteArray := prog_1_method_36_code
def yX4_computeMark : MethodName := ⟨RX4, "computeMark", "(II)I"⟩
abbrev cX4_countSalts : ByteArray := prog_1_method_37_code
def yX4_countSalts : MethodName := ⟨RX4, "countSalts", "(III)I"⟩
abbrev cX4_cell : ByteArray := prog_1_method_38_code
def yX4_cell : MethodName := ⟨RX4, "cell", "(II)I"⟩
abbrev cX4_raise : ByteArray := prog_1_method_39_code
def yX4_raise : MethodName := ⟨RX4, "raise", "(II)I"⟩
abbrev cX4_invert : ByteArray := prog_1_method_40_code
def yX4_invert : MethodName := ⟨RX4, "invert", "(I)I"⟩
abbrev cX4_isAmong : ByteArray := prog_1_method_41_code
def yX4_isAmong : MethodName := ⟨RX4, "isAmong", "(II)Z"⟩
abbrev cX4_weigh : ByteArray := prog_1_method_42_code
def yX4_weigh : MethodName := ⟨RX4, "weigh", "(II)I"⟩
def RX5 : String := "RevealBeaconModel"
def TX5 : u_T := fun k => match k with
  | 0 => ("RevealBeaconModel", "w", "[I", true)
  | 1 => ("RevealBeaconModel", "past", "[I", true)
  | 2 => ("RevealBeaconModel", "pastMany", "I", false)
  | 3 => ("RevealBeaconModel", "images", "[I", true)
  | 4 => ("RevealBeaconModel", "filled", "I", false)
  | 5 => ("RevealBeaconModel", "terms", "[I", true)
  | 6 => ("RevealBeaconModel", "shares", "[I", true)
  | _ => ("RevealBeaconModel", "held", "[I", true)
def tyX5 : Nat → FieldType := fun k => match k with
  | 0 => .array .int
  | 1 => .array .int
  | 2 => .int
  | 3 => .array .int
  | 4 => .int
  | 5 => .array .int
  | 6 => .array .int
  | _ => .array .int
theorem nmX5 : ∀ a, a < 8 → ∀ b, b < 8 → a ≠ b → (TX5 a).2.1 ≠ (TX5 b).2.1 := by decide +kernel
theorem tyX5_ok : ∀ k, k < 8 → parseFieldDescriptor (TX5 k).2.2.1 = some (tyX5 k) := by decide +kernel
abbrev cX5_init : ByteArray := prog_7_method_1_code
def yX5_init : MethodName := ⟨RX5, "<init>", "()V"⟩
abbrev cX5_isIn : ByteArray := prog_7_method_3_code
def yX5_isIn : MethodName := ⟨RX5, "isIn", "(III)Z"⟩
abbrev cX5_lay : ByteArray := prog_7_method_4_code
def yX5_lay : MethodName := ⟨RX5, "lay", "(II)V"⟩
abbrev cX5_layRound : ByteArray := prog_7_method_5_code
def yX5_layRound : MethodName := ⟨RX5, "layRound", "()V"⟩
abbrev cX5_remember : ByteArray := prog_7_method_6_code
def yX5_remember : MethodName := ⟨RX5, "remember", "()V"⟩
abbrev cX5_isMember : ByteArray := prog_7_method_7_code
def yX5_isMember : MethodName := ⟨RX5, "isMember", "(I)Z"⟩
abbrev cX5_isOn : ByteArray := prog_7_method_8_code
def yX5_isOn : MethodName := ⟨RX5, "isOn", "(I)Z"⟩
abbrev cX5_isBound : ByteArray := prog_7_method_9_code
def yX5_isBound : MethodName := ⟨RX5, "isBound", "(I)Z"⟩
abbrev cX5_known : ByteArray := prog_7_method_10_code
def yX5_known : MethodName := ⟨RX5, "known", "(I)I"⟩
abbrev cX5_bound : ByteArray := prog_7_method_11_code
def yX5_bound : MethodName := ⟨RX5, "bound", "()I"⟩
abbrev cX5_count : ByteArray := prog_7_method_12_code
def yX5_count : MethodName := ⟨RX5, "count", "(I)I"⟩
abbrev cX5_draw : ByteArray := prog_7_method_13_code
def yX5_draw : MethodName := ⟨RX5, "draw", "(I)I"⟩
abbrev cX5_bind : ByteArray := prog_7_method_14_code
def yX5_bind : MethodName := ⟨RX5, "bind", "(III)I"⟩
abbrev cX5_markOf : ByteArray := prog_7_method_15_code
def yX5_markOf : MethodName := ⟨RX5, "markOf", "(II)I"⟩
abbrev cX5_power : ByteArray := prog_7_method_16_code
def yX5_power : MethodName := ⟨RX5, "power", "(II)I"⟩
abbrev cX5_layShares : ByteArray := prog_7_method_17_code
def yX5_layShares : MethodName := ⟨RX5, "layShares", "(II)V"⟩
abbrev cX5_sharesKnown : ByteArray := prog_7_method_18_code
def yX5_sharesKnown : MethodName := ⟨RX5, "sharesKnown", "()I"⟩
abbrev cX5_takePublished : ByteArray := prog_7_method_19_code
def yX5_takePublished : MethodName := ⟨RX5, "takePublished", "(I)V"⟩
abbrev cX5_atZero : ByteArray := prog_7_method_20_code
def yX5_atZero : MethodName := ⟨RX5, "atZero", "()I"⟩
abbrev cX5_fine : ByteArray := prog_7_method_21_code
def yX5_fine : MethodName := ⟨RX5, "fine", "(II)V"⟩
abbrev cX5_payOut : ByteArray := prog_7_method_22_code
def yX5_payOut : MethodName := ⟨RX5, "payOut", "()V"⟩
abbrev cX5_outputNow : ByteArray := prog_7_method_23_code
def yX5_outputNow : MethodName := ⟨RX5, "outputNow", "()I"⟩
abbrev cX5_shut : ByteArray := prog_7_method_24_code
def yX5_shut : MethodName := ⟨RX5, "shut", "()V"⟩
abbrev cX5_endPhase : ByteArray := prog_7_method_25_code
def yX5_endPhase : MethodName := ⟨RX5, "endPhase", "()V"⟩
abbrev cX5_tickOnce : ByteArray := prog_7_method_26_code
def yX5_tickOnce : MethodName := ⟨RX5, "tickOnce", "()V"⟩
abbrev cX5_begin : ByteArray := prog_7_method_27_code
def yX5_begin : MethodName := ⟨RX5, "begin", "(II)I"⟩
abbrev cX5_isSetting : ByteArray := prog_7_method_28_code
def yX5_isSetting : MethodName := ⟨RX5, "isSetting", "(I)Z"⟩
abbrev cX5_put : ByteArray := prog_7_method_29_code
def yX5_put : MethodName := ⟨RX5, "put", "(II)I"⟩
abbrev cX5_set : ByteArray := prog_7_method_30_code
def yX5_set : MethodName := ⟨RX5, "set", "(II)I"⟩
abbrev cX5_setSeed : ByteArray := prog_7_method_31_code
def yX5_setSeed : MethodName := ⟨RX5, "setSeed", "(I)I"⟩
abbrev cX5_turn : ByteArray := prog_7_method_32_code
def yX5_turn : MethodName := ⟨RX5, "turn", "(II)I"⟩
abbrev cX5_pay : ByteArray := prog_7_method_33_code
def yX5_pay : MethodName := ⟨RX5, "pay", "(II)I"⟩
abbrev cX5_isOpening : ByteArray := prog_7_method_34_code
def yX5_isOpening : MethodName := ⟨RX5, "isOpening", "(III)Z"⟩
abbrev cX5_commit : ByteArray := prog_7_method_35_code
def yX5_commit : MethodName := ⟨RX5, "commit", "(III)I"⟩
abbrev cX5_reveal : ByteArray := prog_7_method_36_code
def yX5_reveal : MethodName := ⟨RX5, "reveal", "(III)I"⟩
abbrev cX5_mayPublish : ByteArray := prog_7_method_37_code
def yX5_mayPublish : MethodName := ⟨RX5, "mayPublish", "(II)Z"⟩
abbrev cX5_areTwo : ByteArray := prog_7_method_38_code
def yX5_areTwo : MethodName := ⟨RX5, "areTwo", "(II)Z"⟩
abbrev cX5_publish : ByteArray := prog_7_method_39_code
def yX5_publish : MethodName := ⟨RX5, "publish", "(III)I"⟩
abbrev cX5_give : ByteArray := prog_7_method_40_code
def yX5_give : MethodName := ⟨RX5, "give", "(II)I"⟩
abbrev cX5_tick : ByteArray := prog_7_method_41_code
def yX5_tick : MethodName := ⟨RX5, "tick", "(I)I"⟩
abbrev cX5_next : ByteArray := prog_7_method_42_code
def yX5_next : MethodName := ⟨RX5, "next", "()I"⟩
abbrev cX5_undo : ByteArray := prog_7_method_43_code
def yX5_undo : MethodName := ⟨RX5, "undo", "()I"⟩
abbrev cX5_deposits : ByteArray := prog_7_method_44_code
def yX5_deposits : MethodName := ⟨RX5, "deposits", "()I"⟩
abbrev cX5_membersOn : ByteArray := prog_7_method_45_code
def yX5_membersOn : MethodName := ⟨RX5, "membersOn", "()I"⟩
abbrev cX5_told : ByteArray := prog_7_method_46_code
def yX5_told : MethodName := ⟨RX5, "told", "(I)I"⟩
abbrev cX5_setting : ByteArray := prog_7_method_47_code
def yX5_setting : MethodName := ⟨RX5, "setting", "(I)I"⟩
abbrev cX5_published : ByteArray := prog_7_method_48_code
def yX5_published : MethodName := ⟨RX5, "published", "(I)I"⟩
abbrev cX5_standing : ByteArray := prog_7_method_49_code
def yX5_standing : MethodName := ⟨RX5, "standing", "(I)I"⟩
abbrev cX5_member : ByteArray := prog_7_method_50_code
def yX5_member : MethodName := ⟨RX5, "member", "(II)I"⟩
abbrev cX5_mark : ByteArray := prog_7_method_51_code
def yX5_mark : MethodName := ⟨RX5, "mark", "(II)I"⟩
abbrev cX5_share : ByteArray := prog_7_method_52_code
def yX5_share : MethodName := ⟨RX5, "share", "(II)I"⟩
abbrev cX5_commitment : ByteArray := prog_7_method_53_code
def yX5_commitment : MethodName := ⟨RX5, "commitment", "(III)I"⟩
abbrev cX5_openingsOf : ByteArray := prog_7_method_54_code
def yX5_openingsOf : MethodName := ⟨RX5, "openingsOf", "(II)I"⟩
abbrev cX5_openings : ByteArray := prog_7_method_55_code
def yX5_openings : MethodName := ⟨RX5, "openings", "(II)I"⟩
abbrev cX5_past : ByteArray := prog_7_method_56_code
def yX5_past : MethodName := ⟨RX5, "past", "(I)I"⟩
abbrev cX5_honest : ByteArray := prog_7_method_57_code
def yX5_honest : MethodName := ⟨RX5, "honest", "()I"⟩
abbrev cX5_hold : ByteArray := prog_7_method_58_code
def yX5_hold : MethodName := ⟨RX5, "hold", "()V"⟩
abbrev cX5_release : ByteArray := prog_7_method_59_code
def yX5_release : MethodName := ⟨RX5, "release", "()V"⟩
abbrev cX5_recoverAll : ByteArray := prog_7_method_60_code
def yX5_recoverAll : MethodName := ⟨RX5, "recoverAll", "(I)V"⟩
abbrev cX5_outcome : ByteArray := prog_7_method_61_code
def yX5_outcome : MethodName := ⟨RX5, "outcome", "()I"⟩
abbrev cX5_outputIf : ByteArray := prog_7_method_62_code
def yX5_outputIf : MethodName := ⟨RX5, "outputIf", "(IZ)I"⟩
abbrev cX5_influence : ByteArray := prog_7_method_63_code
def yX5_influence : MethodName := ⟨RX5, "influence", "(I)I"⟩
abbrev cX5_mean : ByteArray := prog_7_method_64_code
def yX5_mean : MethodName := ⟨RX5, "mean", "()F"⟩
abbrev cX5_isImage : ByteArray := prog_7_method_65_code
def yX5_isImage : MethodName := ⟨RX5, "isImage", "(I)Z"⟩
abbrev cX5_keep : ByteArray := prog_7_method_66_code
def yX5_keep : MethodName := ⟨RX5, "keep", "(I)I"⟩
abbrev cX5_back : ByteArray := prog_7_method_67_code
def yX5_back : MethodName := ⟨RX5, "back", "(I)I"⟩
def RJ6 : String := "java/lang/Integer"
abbrev cJ6_bitCount_0f7a4 : ByteArray := prog_8_method_49_code
def yJ6_bitCount_0f7a4 : MethodName := ⟨RJ6, "bitCount", "(I)I"⟩
def RJ9 : String := "java/lang/Math"
abbrev cJ9_floorMod_7cf53 : ByteArray := prog_9_method_50_code
def yJ9_floorMod_7cf53 : MethodName := ⟨RJ9, "floorMod", "(II)I"⟩
abbrev cJ9_min_7cf53 : ByteArray := prog_9_method_69_code
def yJ9_min_7cf53 : MethodName := ⟨RJ9, "min", "(II)I"⟩
def RJ10 : String := "java/lang/System"
def RL : String := "RevealBeaconLaw"
abbrev cL_law : ByteArray := code
def yL_law : MethodName := ⟨RL, "law", "([I)Z"⟩
abbrev vwCl : List vw_C := [(RX0, TX0, 3), (RX1, TX1, 2), (RX2, TX2, 1), (RX3, TX3, 19), (RX4, TX4, 5), (RX5, TX5, 8)]
/-! the methods: name, bytes, locals, answer; own table, arguments (with the receiver), height of calls, makes cells, constructor -/
abbrev rb_T : Type := MethodName × ByteArray × Nat × Option FieldType × Nat × Nat × Nat × Bool × Bool
def rb_mt0 : List rb_T := [
  (yX4_init, cX4_init, 1, none, 4, 1, 4, true, true),
  (yX3_init, cX3_init, 1, none, 3, 1, 2, true, true),
  (yX2_init, cX2_init, 2, none, 2, 2, 1, true, true),
  (yX2_put, cX2_put, 3, none, 2, 3, 0, false, false),
  (yX0_init, cX0_init, 2, none, 0, 1, 3, true, true),
  (yX1_init, cX1_init, 1, none, 1, 1, 3, true, true),
  (yX3_restart, cX3_restart, 3, none, 3, 3, 2, false, false),
  (yX2_fill, cX2_fill, 3, none, 2, 2, 0, false, false),
  (yX3_startRound, cX3_startRound, 1, none, 3, 1, 1, false, false),
  (yX3_enter, cX3_enter, 2, none, 3, 2, 0, false, false),
  (yX4_begin, cX4_begin, 4, (some FieldType.int), 4, 3, 4, false, false),
  (yX0_record, cX0_record, 3, none, 0, 2, 3, false, false),
  (yX0_placeAt, cX0_placeAt, 3, (some (FieldType.object "RevealBeacon$State")), 0, 2, 0, false, false),
  (yX3_copyFrom, cX3_copyFrom, 2, none, 3, 2, 2, false, false),
  (yX2_copyFrom, cX2_copyFrom, 2, none, 2, 2, 1, false, false),
  (yJ9_min_7cf53, cJ9_min_7cf53, 2, (some FieldType.int), 7, 2, 0, false, false),
  (yX4_set, cX4_set, 4, (some FieldType.int), 4, 3, 4, false, false),
  (yX4_isSetting, cX4_isSetting, 1, (some FieldType.boolean), 4, 1, 0, false, false),
  (yX4_lowestValue, cX4_lowestValue, 1, (some FieldType.int), 4, 1, 0, false, false),
  (yX4_highestValue, cX4_highestValue, 1, (some FieldType.int), 4, 1, 0, false, false),
  (yX2_at, cX2_at, 2, (some FieldType.int), 2, 2, 0, false, false),
  (yX4_setSeed, cX4_setSeed, 3, (some FieldType.int), 4, 2, 4, false, false),
  (yX4_turn, cX4_turn, 4, (some FieldType.int), 4, 3, 4, false, false),
  (yX3_isMember, cX3_isMember, 2, (some FieldType.boolean), 3, 2, 0, false, false),
  (yX4_pay, cX4_pay, 3, (some FieldType.int), 4, 3, 4, false, false),
  (yX2_add, cX2_add, 3, none, 2, 3, 1, false, false),
  (yX4_commit, cX4_commit, 4, (some FieldType.int), 4, 4, 4, false, false),
  (yX4_isSecret, cX4_isSecret, 1, (some FieldType.boolean), 4, 1, 0, false, false),
  (yX4_isSalt, cX4_isSalt, 1, (some FieldType.boolean), 4, 1, 0, false, false),
  (yX3_mayCommit, cX3_mayCommit, 2, (some FieldType.boolean), 3, 2, 2, false, false),
  (yX3_isOn, cX3_isOn, 2, (some FieldType.boolean), 3, 2, 1, false, false),
  (yX3_isBound, cX3_isBound, 2, (some FieldType.boolean), 3, 2, 1, false, false),
  (yX3_bind, cX3_bind, 4, none, 3, 4, 3, false, false),
  (yX4_computeCommitment, cX4_computeCommitment, 3, (some FieldType.int), 4, 3, 0, false, false),
  (yX3_dealShares, cX3_dealShares, 7, none, 3, 3, 2, false, false),
  (yX4_cell, cX4_cell, 2, (some FieldType.int), 4, 2, 0, false, false),
  (yX3_drawCoefficient, cX3_drawCoefficient, 1, (some FieldType.int), 3, 1, 0, false, false),
  (yX3_trueShare, cX3_trueShare, 3, (some FieldType.int), 3, 3, 1, false, false),
  (yX4_raise, cX4_raise, 4, (some FieldType.int), 4, 2, 0, false, false),
  (yX4_reveal, cX4_reveal, 4, (some FieldType.int), 4, 4, 4, false, false)]
def rb_mt1 : List rb_T := [
  (yX3_mayReveal, cX3_mayReveal, 2, (some FieldType.boolean), 3, 2, 2, false, false),
  (yX3_isHidden, cX3_isHidden, 2, (some FieldType.boolean), 3, 2, 1, false, false),
  (yX3_open, cX3_open, 4, (some FieldType.int), 3, 4, 3, false, false),
  (yX3_fine, cX3_fine, 4, none, 3, 3, 2, false, false),
  (yX3_learn, cX3_learn, 4, none, 3, 4, 1, false, false),
  (yX4_publish, cX4_publish, 4, (some FieldType.int), 4, 4, 4, false, false),
  (yX3_isPair, cX3_isPair, 3, (some FieldType.boolean), 3, 3, 1, false, false),
  (yX3_mayPublish, cX3_mayPublish, 3, (some FieldType.boolean), 3, 3, 3, false, false),
  (yX3_canShow, cX3_canShow, 3, (some FieldType.boolean), 3, 3, 2, false, false),
  (yX3_isShown, cX3_isShown, 3, (some FieldType.boolean), 3, 3, 1, false, false),
  (yX3_show, cX3_show, 6, (some FieldType.int), 3, 4, 3, false, false),
  (yX4_computeMark, cX4_computeMark, 2, (some FieldType.int), 4, 2, 0, false, false),
  (yX3_findGivers, cX3_findGivers, 4, (some FieldType.int), 3, 2, 2, false, false),
  (yJ6_bitCount_0f7a4, cJ6_bitCount_0f7a4, 1, (some FieldType.int), 6, 1, 0, false, false),
  (yX3_interpolate, cX3_interpolate, 5, (some FieldType.int), 3, 3, 2, false, false),
  (yX4_isAmong, cX4_isAmong, 2, (some FieldType.boolean), 4, 2, 0, false, false),
  (yX4_weigh, cX4_weigh, 5, (some FieldType.int), 4, 2, 1, false, false),
  (yJ9_floorMod_7cf53, cJ9_floorMod_7cf53, 3, (some FieldType.int), 7, 2, 0, false, false),
  (yX4_invert, cX4_invert, 3, (some FieldType.int), 4, 1, 0, false, false),
  (yX4_give, cX4_give, 3, (some FieldType.int), 4, 3, 4, false, false),
  (yX4_tick, cX4_tick, 3, (some FieldType.int), 4, 2, 6, false, false),
  (yX3_passTime, cX3_passTime, 1, none, 3, 1, 5, false, false),
  (yX3_endPhase, cX3_endPhase, 1, none, 3, 1, 4, false, false),
  (yX3_countBound, cX3_countBound, 1, (some FieldType.int), 3, 1, 2, false, false),
  (yX3_countStanding, cX3_countStanding, 4, (some FieldType.int), 3, 2, 1, false, false),
  (yX3_fineSilent, cX3_fineSilent, 2, none, 3, 1, 3, false, false),
  (yX3_close, cX3_close, 1, none, 3, 1, 3, false, false),
  (yX3_payOut, cX3_payOut, 4, none, 3, 1, 2, false, false),
  (yX3_combineKnown, cX3_combineKnown, 5, (some FieldType.int), 3, 1, 2, false, false),
  (yX3_isKnown, cX3_isKnown, 2, (some FieldType.boolean), 3, 2, 1, false, false),
  (yX4_next, cX4_next, 1, (some FieldType.int), 4, 1, 4, false, false),
  (yX4_undo, cX4_undo, 1, (some FieldType.int), 4, 1, 4, false, false),
  (yX0_restore, cX0_restore, 3, none, 0, 2, 3, false, false),
  (yX4_told, cX4_told, 2, (some FieldType.int), 4, 2, 3, false, false),
  (yX3_sumDeposits, cX3_sumDeposits, 3, (some FieldType.int), 3, 1, 1, false, false),
  (yX3_countOn, cX3_countOn, 3, (some FieldType.int), 3, 1, 2, false, false),
  (yX4_setting, cX4_setting, 2, (some FieldType.int), 4, 2, 1, false, false),
  (yX4_member, cX4_member, 3, (some FieldType.int), 4, 3, 4, false, false),
  (yX3_countShown, cX3_countShown, 2, (some FieldType.int), 3, 2, 3, false, false),
  (yX4_mark, cX4_mark, 3, (some FieldType.int), 4, 3, 2, false, false)]
def rb_mt2 : List rb_T := [
  (yX4_share, cX4_share, 3, (some FieldType.int), 4, 3, 1, false, false),
  (yX4_commitment, cX4_commitment, 4, (some FieldType.int), 4, 4, 1, false, false),
  (yX4_openings, cX4_openings, 6, (some FieldType.int), 4, 3, 2, false, false),
  (yX4_countSalts, cX4_countSalts, 7, (some FieldType.int), 4, 3, 1, false, false),
  (yX4_past, cX4_past, 2, (some FieldType.int), 4, 2, 1, false, false),
  (yX4_honest, cX4_honest, 1, (some FieldType.int), 4, 1, 3, false, false),
  (yX3_combineBound, cX3_combineBound, 3, (some FieldType.int), 3, 1, 2, false, false),
  (yX4_outcome, cX4_outcome, 1, (some FieldType.int), 4, 1, 5, false, false),
  (yX3_showAll, cX3_showAll, 4, none, 3, 2, 4, false, false),
  (yX4_influence, cX4_influence, 2, (some FieldType.int), 4, 2, 6, false, false),
  (yX4_tryOut, cX4_tryOut, 3, (some FieldType.int), 4, 3, 5, false, false),
  (yX3_uncoverAllBut, cX3_uncoverAllBut, 3, none, 3, 2, 3, false, false),
  (yX3_uncover, cX3_uncover, 2, none, 3, 2, 2, false, false),
  (yX4_mean, cX4_mean, 2, (some FieldType.float), 4, 1, 2, false, false),
  (yX4_keep, cX4_keep, 3, (some FieldType.int), 4, 2, 3, false, false),
  (yX4_imageAt, cX4_imageAt, 2, (some (FieldType.object "RevealBeacon$Image")), 4, 2, 0, false, false),
  (yX4_back, cX4_back, 3, (some FieldType.int), 4, 2, 4, false, false),
  (yX5_init, cX5_init, 2, none, 5, 1, 2, true, true),
  (yX5_lay, cX5_lay, 4, none, 5, 3, 1, false, false),
  (yX5_layRound, cX5_layRound, 2, none, 5, 1, 0, false, false),
  (yX5_begin, cX5_begin, 4, (some FieldType.int), 5, 3, 2, false, false),
  (yX5_isIn, cX5_isIn, 3, (some FieldType.boolean), 5, 3, 0, false, false),
  (yX5_remember, cX5_remember, 2, none, 5, 1, 0, false, false),
  (yX5_set, cX5_set, 4, (some FieldType.int), 5, 3, 2, false, false),
  (yX5_isSetting, cX5_isSetting, 1, (some FieldType.boolean), 5, 1, 1, false, false),
  (yX5_put, cX5_put, 4, (some FieldType.int), 5, 3, 1, false, false),
  (yX5_setSeed, cX5_setSeed, 2, (some FieldType.int), 5, 2, 2, false, false),
  (yX5_turn, cX5_turn, 3, (some FieldType.int), 5, 3, 2, false, false),
  (yX5_isMember, cX5_isMember, 2, (some FieldType.boolean), 5, 2, 1, false, false),
  (yX5_pay, cX5_pay, 3, (some FieldType.int), 5, 3, 2, false, false),
  (yX5_commit, cX5_commit, 4, (some FieldType.int), 5, 4, 3, false, false),
  (yX5_isOpening, cX5_isOpening, 4, (some FieldType.boolean), 5, 4, 2, false, false),
  (yX5_isOn, cX5_isOn, 2, (some FieldType.boolean), 5, 2, 0, false, false),
  (yX5_isBound, cX5_isBound, 2, (some FieldType.boolean), 5, 2, 0, false, false),
  (yX5_bind, cX5_bind, 3, (some FieldType.int), 5, 3, 0, false, false),
  (yX5_layShares, cX5_layShares, 6, none, 5, 3, 1, false, false),
  (yX5_draw, cX5_draw, 4, (some FieldType.int), 5, 2, 0, false, false),
  (yX5_power, cX5_power, 4, (some FieldType.int), 5, 2, 0, false, false),
  (yX5_reveal, cX5_reveal, 4, (some FieldType.int), 5, 4, 3, false, false),
  (yX5_fine, cX5_fine, 4, none, 5, 3, 0, false, false)]
def rb_mt3 : List rb_T := [
  (yX5_publish, cX5_publish, 5, (some FieldType.int), 5, 4, 3, false, false),
  (yX5_areTwo, cX5_areTwo, 3, (some FieldType.boolean), 5, 3, 2, false, false),
  (yX5_mayPublish, cX5_mayPublish, 3, (some FieldType.boolean), 5, 3, 1, false, false),
  (yX5_known, cX5_known, 2, (some FieldType.int), 5, 2, 0, false, false),
  (yX5_markOf, cX5_markOf, 2, (some FieldType.int), 5, 2, 0, false, false),
  (yX5_takePublished, cX5_takePublished, 3, none, 5, 2, 0, false, false),
  (yX5_sharesKnown, cX5_sharesKnown, 3, (some FieldType.int), 5, 1, 0, false, false),
  (yX5_atZero, cX5_atZero, 6, (some FieldType.int), 5, 1, 1, false, false),
  (yX5_give, cX5_give, 3, (some FieldType.int), 5, 3, 4, false, false),
  (yX5_tick, cX5_tick, 3, (some FieldType.int), 5, 2, 5, false, false),
  (yX5_tickOnce, cX5_tickOnce, 1, none, 5, 1, 4, false, false),
  (yX5_endPhase, cX5_endPhase, 2, none, 5, 1, 3, false, false),
  (yX5_bound, cX5_bound, 3, (some FieldType.int), 5, 1, 1, false, false),
  (yX5_count, cX5_count, 4, (some FieldType.int), 5, 2, 0, false, false),
  (yX5_shut, cX5_shut, 1, none, 5, 1, 2, false, false),
  (yX5_payOut, cX5_payOut, 4, none, 5, 1, 1, false, false),
  (yX5_outputNow, cX5_outputNow, 5, (some FieldType.int), 5, 1, 1, false, false),
  (yX5_next, cX5_next, 1, (some FieldType.int), 5, 1, 1, false, false),
  (yX5_undo, cX5_undo, 2, (some FieldType.int), 5, 1, 0, false, false),
  (yX5_told, cX5_told, 2, (some FieldType.int), 5, 2, 2, false, false),
  (yX5_deposits, cX5_deposits, 3, (some FieldType.int), 5, 1, 0, false, false),
  (yX5_membersOn, cX5_membersOn, 3, (some FieldType.int), 5, 1, 0, false, false),
  (yX5_setting, cX5_setting, 2, (some FieldType.int), 5, 2, 2, false, false),
  (yX5_member, cX5_member, 3, (some FieldType.int), 5, 3, 2, false, false),
  (yX5_published, cX5_published, 2, (some FieldType.int), 5, 2, 1, false, false),
  (yX5_standing, cX5_standing, 2, (some FieldType.int), 5, 2, 1, false, false),
  (yX5_mark, cX5_mark, 3, (some FieldType.int), 5, 3, 2, false, false),
  (yX5_share, cX5_share, 3, (some FieldType.int), 5, 3, 2, false, false),
  (yX5_commitment, cX5_commitment, 4, (some FieldType.int), 5, 4, 3, false, false),
  (yX5_openings, cX5_openings, 5, (some FieldType.int), 5, 3, 2, false, false),
  (yX5_openingsOf, cX5_openingsOf, 5, (some FieldType.int), 5, 3, 1, false, false),
  (yX5_past, cX5_past, 2, (some FieldType.int), 5, 2, 1, false, false),
  (yX5_honest, cX5_honest, 3, (some FieldType.int), 5, 1, 2, false, false),
  (yX5_outcome, cX5_outcome, 2, (some FieldType.int), 5, 1, 3, false, false),
  (yX5_hold, cX5_hold, 2, none, 5, 1, 0, false, false),
  (yX5_recoverAll, cX5_recoverAll, 5, none, 5, 2, 2, false, false),
  (yX5_release, cX5_release, 2, none, 5, 1, 0, false, false),
  (yX5_influence, cX5_influence, 2, (some FieldType.int), 5, 2, 4, false, false),
  (yX5_outputIf, cX5_outputIf, 4, (some FieldType.int), 5, 3, 3, false, false),
  (yX5_mean, cX5_mean, 1, (some FieldType.float), 5, 1, 1, false, false)]
def rb_mt4 : List rb_T := [
  (yX5_keep, cX5_keep, 3, (some FieldType.int), 5, 2, 2, false, false),
  (yX5_isImage, cX5_isImage, 1, (some FieldType.boolean), 5, 1, 1, false, false),
  (yX5_back, cX5_back, 3, (some FieldType.int), 5, 2, 2, false, false),
  (yL_law, cL_law, 8, (some FieldType.boolean), 9, 1, 7, true, false)]
def rb_mt : List rb_T := rb_mt0 ++ (rb_mt1 ++ (rb_mt2 ++ (rb_mt3 ++ (rb_mt4))))
/-- field links: (own table, entry) to (place of the table, field) -/
def rb_fl : List ((Nat × Nat) × (Nat × Nat)) := [((0, 11), (0, 0)), ((0, 18), (0, 2)), ((0, 30), (0, 1)), ((1, 10), (1, 0)), ((2, 7), (2, 0)), ((3, 14), (3, 8)), ((3, 20), (3, 9)), ((3, 23), (3, 10)), ((3, 26), (3, 11)), ((3, 29), (3, 12)), ((3, 32), (3, 13)), ((3, 35), (3, 14)), ((3, 38), (3, 15)), ((3, 41), (3, 16)), ((3, 44), (3, 17)), ((3, 47), (3, 18)), ((3, 50), (3, 7)), ((3, 58), (3, 0)), ((3, 61), (3, 1)), ((3, 64), (3, 2)), ((3, 67), (3, 3)), ((3, 70), (3, 4)), ((3, 73), (3, 5)), ((3, 76), (3, 6)), ((4, 10), (4, 0)), ((4, 16), (4, 1)), ((4, 22), (4, 2)), ((4, 29), (4, 3)), ((4, 33), (4, 4)), ((4, 40), (3, 3)), ((4, 59), (3, 8)), ((4, 71), (3, 7)), ((4, 77), (3, 11)), ((4, 80), (3, 10)), ((4, 99), (3, 14)), ((4, 126), (3, 4)), ((4, 132), (0, 2)), ((4, 138), (3, 0)), ((4, 141), (3, 1)), ((4, 144), (3, 2)), ((4, 147), (3, 5)), ((4, 150), (3, 6)), ((4, 160), (3, 9)), ((4, 175), (3, 16)), ((4, 181), (3, 13)), ((4, 184), (3, 12)), ((4, 190), (3, 18)), ((4, 223), (1, 0)), ((4, 226), (1, 1)), ((5, 7), (5, 0)), ((5, 13), (5, 1)), ((5, 16), (5, 3)), ((5, 19), (5, 5)), ((5, 22), (5, 6)), ((5, 25), (5, 7)), ((5, 35), (5, 2)), ((5, 169), (5, 4))]
/-- method links: to (method, kind): 0 by receiver, 1 static, 2 constructor, 3 static of a mate, 4 constructor of a mate, 5 Object.<init>, 6 arraycopy -/
def rb_il : List ((Nat × Nat) × (Nat × Nat)) := [((0, 3), (0, 5)), ((0, 17), (1, 2)), ((0, 22), (12, 0)), ((0, 26), (13, 0)), ((1, 1), (0, 5)), ((1, 9), (1, 2)), ((2, 1), (0, 5)), ((2, 13), (20, 0)), ((2, 17), (3, 0)), ((2, 21), (15, 1)), ((2, 27), (0, 6)), ((3, 3), (0, 5)), ((3, 11), (2, 2)), ((3, 54), (3, 0)), ((3, 79), (14, 0)), ((3, 83), (7, 0)), ((3, 86), (8, 0)), ((3, 89), (9, 0)), ((3, 92), (23, 0)), ((3, 96), (20, 0)), ((3, 100), (30, 0)), ((3, 103), (64, 0)), ((3, 106), (15, 1)), ((3, 112), (25, 0)), ((3, 115), (31, 0)), ((3, 118), (33, 3)), ((3, 122), (34, 0)), ((3, 125), (35, 3)), ((3, 128), (36, 0)), ((3, 132), (37, 0)), ((3, 135), (38, 3)), ((3, 145), (41, 0)), ((3, 148), (43, 0)), ((3, 151), (44, 0)), ((3, 155), (92, 0)), ((3, 158), (48, 0)), ((3, 162), (49, 0)), ((3, 165), (52, 0)), ((3, 168), (53, 1)), ((3, 173), (51, 3)), ((3, 176), (54, 0)), ((3, 179), (55, 3)), ((3, 182), (56, 3)), ((3, 185), (50, 0)), ((3, 188), (62, 0)), ((3, 191), (63, 0)), ((3, 194), (65, 0)), ((3, 197), (66, 0)), ((3, 200), (67, 0)), ((3, 203), (68, 0)), ((3, 206), (69, 0)), ((4, 1), (0, 5)), ((4, 9), (1, 2)), ((4, 21), (4, 2)), ((4, 28), (5, 4)), ((4, 36), (6, 0)), ((4, 44), (11, 0)), ((4, 48), (17, 1)), ((4, 52), (18, 1)), ((4, 56), (19, 1)), ((4, 63), (20, 0)), ((4, 68), (3, 0)), ((4, 74), (23, 0)), ((4, 83), (25, 0)), ((4, 86), (27, 1)), ((4, 89), (28, 1)), ((4, 92), (29, 0)), ((4, 95), (32, 0)), ((4, 102), (40, 0)), ((4, 105), (42, 0)), ((4, 109), (46, 0)), ((4, 113), (47, 0)), ((4, 116), (50, 0)), ((4, 119), (37, 0)), ((4, 123), (61, 0)), ((4, 129), (8, 0)), ((4, 135), (72, 0)), ((4, 153), (63, 0)), ((4, 157), (64, 0)), ((4, 163), (74, 0)), ((4, 166), (75, 0)), ((4, 169), (31, 0)), ((4, 172), (69, 0)), ((4, 178), (78, 0)), ((4, 187), (51, 1)), ((4, 193), (35, 1)), ((4, 196), (33, 1)), ((4, 199), (83, 1)), ((4, 202), (86, 0)), ((4, 205), (13, 0)), ((4, 208), (88, 0)), ((4, 212), (68, 0)), ((4, 215), (90, 0)), ((4, 219), (95, 0)), ((4, 230), (91, 0)), ((4, 233), (92, 0)), ((4, 236), (57, 1)), ((4, 241), (55, 1)), ((4, 244), (58, 1)), ((5, 1), (0, 5)), ((5, 28), (98, 0)), ((5, 32), (99, 0)), ((5, 39), (101, 1)), ((5, 43), (113, 0)), ((5, 54), (116, 0)), ((5, 58), (117, 1)), ((5, 62), (133, 0)), ((5, 65), (123, 0)), ((5, 68), (135, 0)), ((5, 71), (136, 0)), ((5, 75), (132, 0)), ((5, 78), (119, 0)), ((5, 81), (134, 0)), ((5, 84), (131, 0)), ((5, 87), (102, 0)), ((5, 90), (104, 1)), ((5, 93), (105, 0)), ((5, 96), (108, 0)), ((5, 99), (111, 0)), ((5, 102), (112, 0)), ((5, 105), (114, 1)), ((5, 109), (115, 0)), ((5, 112), (121, 0)), ((5, 116), (122, 0)), ((5, 119), (124, 1)), ((5, 122), (125, 0)), ((5, 126), (126, 0)), ((5, 129), (127, 0)), ((5, 132), (120, 0)), ((5, 135), (130, 0)), ((5, 138), (140, 0)), ((5, 141), (141, 0)), ((5, 144), (144, 0)), ((5, 147), (145, 0)), ((5, 150), (150, 0)), ((5, 153), (154, 0)), ((5, 156), (155, 0)), ((5, 159), (156, 0)), ((5, 162), (158, 0)), ((5, 166), (161, 1)), ((9, 9), (0, 2)), ((9, 12), (97, 2)), ((9, 13), (10, 0)), ((9, 17), (100, 0)), ((9, 18), (16, 0)), ((9, 21), (103, 0)), ((9, 22), (21, 0)), ((9, 26), (106, 0)), ((9, 27), (22, 0)), ((9, 30), (107, 0)), ((9, 31), (24, 0)), ((9, 34), (109, 0)), ((9, 35), (26, 0)), ((9, 39), (110, 0)), ((9, 40), (39, 0)), ((9, 43), (118, 0)), ((9, 44), (45, 0)), ((9, 47), (120, 0)), ((9, 48), (59, 0)), ((9, 51), (128, 0)), ((9, 52), (60, 0)), ((9, 55), (129, 0)), ((9, 56), (70, 0)), ((9, 60), (137, 0)), ((9, 61), (71, 0)), ((9, 64), (138, 0)), ((9, 65), (73, 0)), ((9, 68), (139, 0)), ((9, 69), (76, 0)), ((9, 72), (142, 0)), ((9, 73), (77, 0)), ((9, 76), (143, 0)), ((9, 77), (79, 0)), ((9, 80), (146, 0)), ((9, 81), (80, 0)), ((9, 84), (147, 0)), ((9, 85), (81, 0)), ((9, 88), (148, 0)), ((9, 89), (82, 0)), ((9, 92), (149, 0)), ((9, 93), (84, 0)), ((9, 96), (151, 0)), ((9, 97), (85, 0)), ((9, 100), (152, 0)), ((9, 101), (87, 0)), ((9, 104), (153, 0)), ((9, 105), (89, 0)), ((9, 108), (157, 0)), ((9, 109), (93, 0)), ((9, 113), (159, 0)), ((9, 114), (94, 0)), ((9, 117), (160, 0)), ((9, 118), (96, 0)), ((9, 121), (162, 0))]
/-- links to what is made -/
def rb_cl : List ((Nat × Nat) × Nat) := [((0, 9), 3), ((1, 7), 3), ((3, 9), 2), ((4, 7), 3), ((4, 19), 0), ((4, 26), 1), ((9, 7), 4), ((9, 10), 5)]
/-- constants -/
def rb_kl : List ((Nat × Nat) × Value) := [((3, 138), .long 1103515245), ((3, 140), .long 12345), ((3, 142), .long 2147483648), ((3, 144), .int 65536), ((5, 47), .long 1103515245), ((5, 49), .long 12345), ((5, 51), .long 2147483648), ((5, 53), .int 65536), ((6, 265), .int 1431655765), ((6, 266), .int 858993459), ((6, 267), .int 252645135)]
/-- slots of two words: (method, place) -/
def rb_dd : List (Nat × Nat) := [(116, 2), (163, 4), (163, 6)]
def rb_cn : Nat → String := fun k => match k with
  | 0 => RX0
  | 1 => RX1
  | 2 => RX2
  | 3 => RX3
  | 4 => RX4
  | 5 => RX5
  | 6 => RJ6
  | 7 => RJ9
  | 8 => RJ10
  | _ => RL
end
section
/-! A SMALL INTERPRETER: the bytecode run over a list of cells; a reference is a place in the list -/
abbrev rb_O : Type := (Nat × List Value) ⊕ (List Int32 ⊕ List (Option Nat))
abbrev rb_M : Type := List rb_O
abbrev rb_L : Type := List (Option Value)
def rb_scr : Nat := 1000000
def rb_find {α : Type} : List ((Nat × Nat) × α) → Nat → Nat → Option α
  | [], _, _ => none
  | e :: r, a, b => if e.1.1 == a && e.1.2 == b then some e.2 else rb_find r a b
def rb_t0 : rb_T := (⟨"", "", ""⟩, ⟨#[]⟩, 0, none, 0, 0, 0, false, false)
def rb_m (k : Nat) : rb_T := rb_mt.getD k rb_t0
def rb_y (k : Nat) : MethodName := (rb_m k).1
def rb_by (k : Nat) : ByteArray := (rb_m k).2.1
def rb_ml (k : Nat) : Nat := (rb_m k).2.2.1
def rb_rt (k : Nat) : Option FieldType := (rb_m k).2.2.2.1
def rb_ow (k : Nat) : Nat := (rb_m k).2.2.2.2.1
def rb_na (k : Nat) : Nat := (rb_m k).2.2.2.2.2.1
def rb_h (k : Nat) : Nat := (rb_m k).2.2.2.2.2.2.1
def rb_al (k : Nat) : Bool := (rb_m k).2.2.2.2.2.2.2.1
def rb_in (k : Nat) : Bool := (rb_m k).2.2.2.2.2.2.2.2
/-- the types, the finals and the first values of a table's fields -/
def rb_ty (ci sl : Nat) : FieldType := match ci with
  | 0 => tyX0 sl
  | 1 => tyX1 sl
  | 2 => tyX2 sl
  | 3 => tyX3 sl
  | 4 => tyX4 sl
  | _ => tyX5 sl
def rb_fn (ci sl : Nat) : Bool := match ci with
  | 0 => (TX0 sl).2.2.2
  | 1 => (TX1 sl).2.2.2
  | 2 => (TX2 sl).2.2.2
  | 3 => (TX3 sl).2.2.2
  | 4 => (TX4 sl).2.2.2
  | _ => (TX5 sl).2.2.2
def rb_df (ci : Nat) : List Value := match ci with
  | 0 => (List.range 3).map fun k => defaultValue (tyX0 k)
  | 1 => (List.range 2).map fun k => defaultValue (tyX1 k)
  | 2 => (List.range 1).map fun k => defaultValue (tyX2 k)
  | 3 => (List.range 19).map fun k => defaultValue (tyX3 k)
  | 4 => (List.range 5).map fun k => defaultValue (tyX4 k)
  | _ => (List.range 8).map fun k => defaultValue (tyX5 k)
def rb_okv : FieldType → Value → Bool
  | .int, .int _ => true
  | .boolean, .int v => v == 0 || v == 1
  | .object _, .ref _ => true
  | .object _, .null => true
  | .array _, .ref _ => true
  | .array _, .null => true
  | .float, .float _ => true
  | _, _ => false
def rb_inb (j : Int32) (n : Nat) : Bool := !(decide (j < 0) || decide (n ≤ j.toNatClampNeg))
def rb_rf : Option Nat → Value
  | none => .null
  | some a => .ref a
/-- no value is the reference i -/
def rb_nr (i : Nat) (v : Value) : Bool := match v with
  | .ref a => a != i
  | _ => true
def rb_no (i : Nat) (o : rb_O) : Bool := match o with
  | .inl (_, fs) => fs.all (rb_nr i)
  | .inr (.inl _) => true
  | .inr (.inr rs) => rs.all (fun r => rb_nr i (rb_rf r))
def rb_nl (i : Nat) (r : Option Value) : Bool := match r with
  | some v => rb_nr i v
  | none => true
def rb_fresh (i : Nat) (ls : rb_L) (st : List Value) (M : rb_M) : Bool := ls.all (rb_nl i) && (st.all (rb_nr i) && M.all (rb_no i))
/-- no value is a reference from a up to b -/
def rb_out (a b : Nat) (v : Value) : Bool := match v with
  | .ref i => decide (i < a) || decide (b ≤ i)
  | _ => true
def rb_outl (a b : Nat) (r : Option Value) : Bool := match r with
  | some v => rb_out a b v
  | none => true
def rb_sz : rb_O → Nat
  | .inl (_, fs) => fs.length
  | .inr (.inl xs) => xs.length
  | .inr (.inr rs) => rs.length
def rb_sl (M : rb_M) : Nat := (M.map rb_sz).sum
/-- a slot that may be stored to: it isn't the second half of one of two words -/
def rb_sto (k i : Nat) : Bool := !(rb_dd.any fun e => e.1 == k && e.2 + 1 == i)
def rb_std (k i : Nat) : Bool := rb_dd.any fun e => e.1 == k && e.2 == i
def rb_tg (pc : Nat) (off : Int) : Option Nat := if 0 ≤ (pc : Int) + off then some ((pc : Int) + off).toNat else none
def rb_br (pc : Nat) (off : Int) (ls : rb_L) (st : List Value) (c : Bool) : Option (Nat × rb_L × List Value) := match rb_tg pc off with
  | some t => some (if c = true then t else pc + 3, ls, st)
  | none => none
def rb_c1 (c : ClassFile.Cond) (x : Int32) : Bool := match c with
  | .eq => decide (x = 0)
  | .ne => decide (¬ x = 0)
  | .lt => decide (x < 0)
  | .ge => decide (0 ≤ x)
  | .gt => decide (0 < x)
  | .le => decide (x ≤ 0)
def rb_c2 (c : ClassFile.Cond) (x y : Int32) : Bool := match c with
  | .eq => decide (x = y)
  | .ne => decide (¬ x = y)
  | .lt => decide (x < y)
  | .ge => decide (y ≤ x)
  | .gt => decide (y < x)
  | .le => decide (x ≤ y)
def rb_rem (x y : Int32) : Int32 := x - x / y * y
def rb_lrem (x y : Int64) : Int64 := x - x / y * y
def rb_ush (x y : Int32) : Int32 := (x.toUInt32 >>> (y.toUInt32 &&& Int32.toUInt32 31)).toInt32
def rb_b2 (pc : Nat) (ls : rb_L) (f : Int32 → Int32 → Int32) (st : List Value) : Option (Nat × rb_L × List Value) := match st with
  | .int y :: .int x :: st => some (pc + 1, ls, .int (f x y) :: st)
  | _ => none
def rb_bl (pc : Nat) (ls : rb_L) (f : Int64 → Int64 → Int64) (st : List Value) : Option (Nat × rb_L × List Value) := match st with
  | .long y :: .long x :: st => some (pc + 1, ls, .long (f x y) :: st)
  | _ => none
def rb_ldi (pc : Nat) (ls : rb_L) (i : Nat) (st : List Value) : Option (Nat × rb_L × List Value) := match ls[i]? with
  | some (some (.int x)) => some (pc, ls, .int x :: st)
  | _ => none
def rb_lda (pc : Nat) (ls : rb_L) (i : Nat) (st : List Value) : Option (Nat × rb_L × List Value) := match ls[i]? with
  | some (some (.ref x)) => some (pc, ls, .ref x :: st)
  | _ => none
def rb_ldl (pc : Nat) (ls : rb_L) (i : Nat) (st : List Value) : Option (Nat × rb_L × List Value) := match ls[i]? with
  | some (some (.long x)) => some (pc, ls, .long x :: st)
  | _ => none
def rb_ldd (pc : Nat) (ls : rb_L) (i : Nat) (st : List Value) : Option (Nat × rb_L × List Value) := match ls[i]? with
  | some (some (.double x)) => some (pc, ls, .double x :: st)
  | _ => none
def rb_sti (k pc : Nat) (ls : rb_L) (i : Nat) (st : List Value) : Option (Nat × rb_L × List Value) := match st with
  | .int x :: st => if rb_sto k i = true ∧ i < ls.length then some (pc, ls.set i (some (.int x)), st) else none
  | _ => none
def rb_sta (k pc : Nat) (ls : rb_L) (i : Nat) (st : List Value) : Option (Nat × rb_L × List Value) := match st with
  | .ref x :: st => if rb_sto k i = true ∧ i < ls.length then some (pc, ls.set i (some (.ref x)), st) else none
  | _ => none
def rb_st2 (k pc : Nat) (ls : rb_L) (i : Nat) (st : List Value) : Option (Nat × rb_L × List Value) := match st with
  | .long x :: st => if rb_sto k i = true ∧ rb_std k i = true ∧ i + 1 < ls.length then some (pc, (ls.set i (some (.long x))).set (i + 1) none, st) else none
  | .double x :: st => if rb_sto k i = true ∧ rb_std k i = true ∧ i + 1 < ls.length then some (pc, (ls.set i (some (.double x))).set (i + 1) none, st) else none
  | _ => none
def rb_pure (k pc : Nat) (i : Instr) (len : Nat) (ls : rb_L) (st : List Value) : Option (Nat × rb_L × List Value) := match i with
  | .iconst n => if len = 1 then some (pc + 1, ls, .int (Int32.ofInt n) :: st) else none
  | .bipush n => if len = 2 then some (pc + 2, ls, .int (Int8.ofInt n).toInt32 :: st) else none
  | .sipush n => if len = 3 then some (pc + 3, ls, .int (Int16.ofInt n).toInt32 :: st) else none
  | .fconst n => if len = 1 ∧ n = 0 then some (pc + 1, ls, .float 0 :: st) else none
  | .aconst_null => if len = 1 then some (pc + 1, ls, .null :: st) else none
  | .ldc ix => if len = 2 then (match rb_find rb_kl (rb_ow k) ix with
    | some (.int v) => some (pc + 2, ls, .int v :: st)
    | _ => none) else none
  | .ldc_w ix => if len = 3 then (match rb_find rb_kl (rb_ow k) ix with
    | some (.int v) => some (pc + 3, ls, .int v :: st)
    | _ => none) else none
  | .ldc2_w ix => if len = 3 then (match rb_find rb_kl (rb_ow k) ix with
    | some (.long v) => some (pc + 3, ls, .long v :: st)
    | _ => none) else none
  | .iload_n j => if len = 1 then rb_ldi (pc + 1) ls j st else none
  | .iload j => if len = 2 then rb_ldi (pc + 2) ls j st else none
  | .aload_n j => if len = 1 then rb_lda (pc + 1) ls j st else none
  | .aload j => if len = 2 then rb_lda (pc + 2) ls j st else none
  | .lload_n j => if len = 1 then rb_ldl (pc + 1) ls j st else none
  | .dload j => if len = 2 then rb_ldd (pc + 2) ls j st else none
  | .istore_n j => if len = 1 then rb_sti k (pc + 1) ls j st else none
  | .istore j => if len = 2 then rb_sti k (pc + 2) ls j st else none
  | .astore_n j => if len = 1 then rb_sta k (pc + 1) ls j st else none
  | .astore j => if len = 2 then rb_sta k (pc + 2) ls j st else none
  | .lstore_n j => if len = 1 then (match st with
    | .long _ :: _ => rb_st2 k (pc + 1) ls j st
    | _ => none) else none
  | .dstore j => if len = 2 then (match st with
    | .double _ :: _ => rb_st2 k (pc + 2) ls j st
    | _ => none) else none
  | .iinc j n => if len = 3 then (match ls[j]? with
    | some (some (.int x)) => if rb_sto k j = true then some (pc + 3, ls.set j (some (.int (x + Int32.ofInt n))), st) else none
    | _ => none) else none
  | .iadd => if len = 1 then rb_b2 pc ls (fun x y => x + y) st else none
  | .isub => if len = 1 then rb_b2 pc ls (fun x y => x - y) st else none
  | .imul => if len = 1 then rb_b2 pc ls (fun x y => x * y) st else none
  | .iand => if len = 1 then rb_b2 pc ls (fun x y => x &&& y) st else none
  | .ior => if len = 1 then rb_b2 pc ls (fun x y => x ||| y) st else none
  | .ixor => if len = 1 then rb_b2 pc ls (fun x y => x ^^^ y) st else none
  | .ishl => if len = 1 then rb_b2 pc ls (fun x y => x <<< (y &&& 31)) st else none
  | .ishr => if len = 1 then rb_b2 pc ls (fun x y => x >>> (y &&& 31)) st else none
  | .iushr => if len = 1 then rb_b2 pc ls rb_ush st else none
  | .idiv => if len = 1 then (match st with
    | .int y :: .int x :: st => if y = 0 then none else some (pc + 1, ls, .int (x / y) :: st)
    | _ => none) else none
  | .irem => if len = 1 then (match st with
    | .int y :: .int x :: st => if y = 0 then none else some (pc + 1, ls, .int (rb_rem x y) :: st)
    | _ => none) else none
  | .ineg => if len = 1 then (match st with
    | .int x :: st => some (pc + 1, ls, .int (-x) :: st)
    | _ => none) else none
  | .ladd => if len = 1 then rb_bl pc ls (fun x y => x + y) st else none
  | .lmul => if len = 1 then rb_bl pc ls (fun x y => x * y) st else none
  | .lrem => if len = 1 then (match st with
    | .long y :: .long x :: st => if y = 0 then none else some (pc + 1, ls, .long (rb_lrem x y) :: st)
    | _ => none) else none
  | .i2l => if len = 1 then (match st with
    | .int x :: st => some (pc + 1, ls, .long x.toInt64 :: st)
    | _ => none) else none
  | .l2i => if len = 1 then (match st with
    | .long x :: st => some (pc + 1, ls, .int x.toInt32 :: st)
    | _ => none) else none
  | .i2f => if len = 1 then (match st with
    | .int x :: st => some (pc + 1, ls, .float (FP.i2f x) :: st)
    | _ => none) else none
  | .fdiv => if len = 1 then (match st with
    | .float y :: .float x :: st => if FP.fdiv x y &&& 0x7fffffff ≤ 0x7f800000 then some (pc + 1, ls, .float (FP.fdiv x y) :: st) else none
    | _ => none) else none
  | .f2d => if len = 1 then (match st with
    | .float x :: st => if FP.f2d x &&& 0x7fffffffffffffff ≤ 0x7ff0000000000000 then some (pc + 1, ls, .double (FP.f2d x) :: st) else none
    | _ => none) else none
  | .dcmp op => if len = 1 then (match st with
    | .double y :: .double x :: st => some (pc + 1, ls, .int (Op.cmpValue (FP.dcmp x y) op) :: st)
    | _ => none) else none
  | .dup => if len = 1 then (match st with
    | v :: st => if v.category = 1 then some (pc + 1, ls, v :: v :: st) else none
    | _ => none) else none
  | .pop => if len = 1 then (match st with
    | v :: st => if v.category = 1 then some (pc + 1, ls, st) else none
    | _ => none) else none
  | .dup2 => if len = 1 then (match st with
    | v :: u :: st => if v.category = 1 ∧ u.category = 1 then some (pc + 1, ls, v :: u :: v :: u :: st) else none
    | _ => none) else none
  | .goto off => if len = 3 then (match rb_tg pc off with
    | some t => some (t, ls, st)
    | none => none) else none
  | .ifCond c off => if len = 3 then (match st with
    | .int x :: st => rb_br pc off ls st (rb_c1 c x)
    | _ => none) else none
  | .if_icmp c off => if len = 3 then (match st with
    | .int y :: .int x :: st => rb_br pc off ls st (rb_c2 c x y)
    | _ => none) else none
  | .ifnull off => if len = 3 then (match st with
    | .null :: st => rb_br pc off ls st true
    | .ref _ :: st => rb_br pc off ls st false
    | _ => none) else none
  | .ifnonnull off => if len = 3 then (match st with
    | .null :: st => rb_br pc off ls st false
    | .ref _ :: st => rb_br pc off ls st true
    | _ => none) else none
  | .tableswitch dflt lo hi offs => match st with
    | .int x :: st => if x.toInt < lo ∨ hi < x.toInt then (match rb_tg pc dflt with
        | some t => some (t, ls, st)
        | none => none)
      else (match offs[(x.toInt - lo).toNat]? with
        | some off => (match rb_tg pc off with
          | some t => some (t, ls, st)
          | none => none)
        | none => none)
    | _ => none
  | .lookupswitch dflt ps => match st with
    | .int x :: st => if (ps.toList.zip (ps.toList.drop 1)).all (fun (a, next) => a.1 < next.1) = true then (match rb_tg pc (Op.lookupswitch.offset ps.toList dflt x.toInt) with
        | some t => some (t, ls, st)
        | none => none) else none
    | _ => none
  | _ => none
def rb_mem (k : Nat) (i : Instr) (len : Nat) (sc : Option (List Int32)) (ls : rb_L) (st : List Value) (M : rb_M) : Option (List Value × rb_M) := match i with
  | .getfield ix => if len = 3 then (match st, rb_find rb_fl (rb_ow k) ix with
    | .ref a :: st, some (ci, sl) => (match M[a]? with
      | some (.inl (cj, fs)) => if cj = ci then (match fs[sl]? with
        | some v => some (v :: st, M)
        | none => none) else none
      | _ => none)
    | _, _ => none) else none
  | .putfield ix => if len = 3 then (match st, rb_find rb_fl (rb_ow k) ix with
    | v :: .ref a :: st, some (ci, sl) => (match M[a]? with
      | some (.inl (cj, fs)) => if cj = ci ∧ sl < fs.length ∧ rb_okv (rb_ty ci sl) v = true ∧ (rb_fn ci sl = true → rb_in k = true ∧ rb_ow k = ci) then some (st, M.set a (.inl (cj, fs.set sl v))) else none
      | _ => none)
    | _, _ => none) else none
  | .iaload => if len = 1 then (match st with
    | .int j :: .ref a :: st => (match M[a]? with
      | some (.inr (.inl xs)) => if rb_inb j xs.length = true then some (.int (xs.getD j.toNatClampNeg 0) :: st, M) else none
      | some _ => none
      | none => if a = rb_scr then (match sc with
        | some xs => if rb_inb j xs.length = true then some (.int (xs.getD j.toNatClampNeg 0) :: st, M) else none
        | none => none) else none)
    | _ => none) else none
  | .iastore => if len = 1 then (match st with
    | .int x :: .int j :: .ref a :: st => (match M[a]? with
      | some (.inr (.inl xs)) => if rb_inb j xs.length = true then some (st, M.set a (.inr (.inl (xs.set j.toNatClampNeg x)))) else none
      | _ => none)
    | _ => none) else none
  | .arraylength => if len = 1 then (match st with
    | .ref a :: st => (match M[a]? with
      | some (.inr (.inl xs)) => some (.int (Int32.ofNat xs.length) :: st, M)
      | some (.inr (.inr rs)) => some (.int (Int32.ofNat rs.length) :: st, M)
      | some _ => none
      | none => if a = rb_scr then (match sc with
        | some xs => some (.int (Int32.ofNat xs.length) :: st, M)
        | none => none) else none)
    | _ => none) else none
  | .aaload => if len = 1 then (match st with
    | .int j :: .ref a :: st => (match M[a]? with
      | some (.inr (.inr rs)) => if rb_inb j rs.length = true then some (rb_rf (rs.getD j.toNatClampNeg none) :: st, M) else none
      | _ => none)
    | _ => none) else none
  | .aastore => if len = 1 then (match st with
    | .ref v :: .int j :: .ref a :: st => (match M[a]?, M[v]? with
      | some (.inr (.inr rs)), some (.inl (ci, _)) => if ci = 3 ∧ rb_inb j rs.length = true then some (st, M.set a (.inr (.inr (rs.set j.toNatClampNeg (some v))))) else none
      | _, _ => none)
    | _ => none) else none
  | .new ix => if len = 3 then (match rb_find rb_cl (rb_ow k) ix with
    | some ci => if ci < 6 ∧ M.length < rb_scr ∧ rb_fresh M.length ls st M = true then some (.ref M.length :: st, M ++ [.inl (ci, rb_df ci)]) else none
    | none => none) else none
  | .newarray ty => if len = 2 ∧ ty = .int then (match st with
    | .int n :: st => if ¬ n < 0 ∧ n.toNatClampNeg ≤ 100000 ∧ M.length < rb_scr ∧ rb_fresh M.length ls st M = true then some (.ref M.length :: st, M ++ [.inr (.inl (List.replicate n.toNatClampNeg 0))]) else none
    | _ => none) else none
  | .anewarray ix => if len = 3 ∧ rb_find rb_cl (rb_ow k) ix = some 3 then (match st with
    | .int n :: st => if ¬ n < 0 ∧ n.toNatClampNeg ≤ 100000 ∧ M.length < rb_scr ∧ rb_fresh M.length ls st M = true then some (.ref M.length :: st, M ++ [.inr (.inr (List.replicate n.toNatClampNeg none))]) else none
    | _ => none) else none
  | .invokespecial ix => if len = 3 ∧ rb_find rb_il (rb_ow k) ix = some (0, 5) ∧ 1 ≤ rb_h k then (match st with
    | .ref _ :: st => if st.length ≤ 4 then some (st, M) else none
    | _ => none) else none
  | .invokestatic ix => if len = 3 ∧ rb_find rb_il (rb_ow k) ix = some (0, 6) ∧ 1 ≤ rb_h k then (match st with
    | .int n :: .int dp :: .ref a :: .int sp :: .ref b :: st => (match M[a]?, M[b]? with
      | some (.inr (.inl g)), some (.inr (.inl f)) => if sp = 0 ∧ dp = 0 ∧ ¬ n < 0 ∧ n.toNatClampNeg ≤ f.length ∧ n.toNatClampNeg ≤ g.length ∧ st.length ≤ 4 then some (st, M.set a (.inr (.inl (f.take n.toNatClampNeg ++ g.drop n.toNatClampNeg)))) else none
      | _, _ => none)
    | _ => none) else none
  | _ => none
/-- what is called: the method, its arguments in order, what stays on the stack -/
def rb_call (k : Nat) (i : Instr) (len : Nat) (st : List Value) (M : rb_M) : Option (Nat × List Value × List Value) := match i with
  | .invokevirtual ix => if len = 3 then (match rb_find rb_il (rb_ow k) ix with
    | some (k', kd) => if kd = 0 ∧ rb_h k' < rb_h k ∧ (st.drop (rb_na k')).length ≤ 4 ∧ rb_na k' ≤ st.length then (match (st.take (rb_na k')).reverse with
      | .ref a :: as => (match M[a]? with
        | some (.inl (ci, _)) => if ci = rb_ow k' ∧ ci < 6 then some (k', .ref a :: as, st.drop (rb_na k')) else none
        | _ => none)
      | _ => none) else none
    | none => none) else none
  | .invokestatic ix => if len = 3 then (match rb_find rb_il (rb_ow k) ix with
    | some (k', kd) => if (kd = 1 ∨ kd = 3) ∧ rb_h k' < rb_h k ∧ (st.drop (rb_na k')).length ≤ 4 ∧ rb_na k' ≤ st.length then some (k', (st.take (rb_na k')).reverse, st.drop (rb_na k')) else none
    | none => none) else none
  | .invokespecial ix => if len = 3 then (match rb_find rb_il (rb_ow k) ix with
    | some (k', kd) => if (kd = 2 ∨ kd = 4) ∧ rb_h k' < rb_h k ∧ (st.drop (rb_na k')).length ≤ 4 ∧ rb_na k' ≤ st.length then (match (st.take (rb_na k')).reverse with
      | .ref a :: as => some (k', .ref a :: as, st.drop (rb_na k'))
      | _ => none) else none
    | none => none) else none
  | _ => none
def rb_ret (k : Nat) (i : Instr) (len : Nat) (st : List Value) : Option (Option Value) := match i with
  | .ireturn => if len = 1 then (match st, rb_rt k with
    | [.int v], some ty => if rb_okv ty (.int v) = true then some (some (.int v)) else none
    | _, _ => none) else none
  | .areturn => if len = 1 then (match st, rb_rt k with
    | [v], some (.object C) => if rb_okv (.object C) v = true then some (some v) else none
    | _, _ => none) else none
  | .freturn => if len = 1 then (match st, rb_rt k with
    | [.float v], some .float => some (some (.float v))
    | _, _ => none) else none
  | .return_ => if len = 1 then (match st, rb_rt k with
    | [], none => some none
    | _, _ => none) else none
  | _ => none
/-- which of the four: 0 without cells, 1 with cells, 2 a call, 3 the end -/
def rb_ki (k : Nat) (i : Instr) : Nat := match i with
  | .getfield _ => 1
  | .putfield _ => 1
  | .iaload => 1
  | .iastore => 1
  | .arraylength => 1
  | .aaload => 1
  | .aastore => 1
  | .new _ => 1
  | .newarray _ => 1
  | .anewarray _ => 1
  | .invokevirtual _ => 2
  | .invokespecial ix => if rb_find rb_il (rb_ow k) ix = some (0, 5) then 1 else 2
  | .invokestatic ix => if rb_find rb_il (rb_ow k) ix = some (0, 6) then 1 else 2
  | .ireturn => 3
  | .areturn => 3
  | .freturn => 3
  | .return_ => 3
  | _ => 0
def rb_dec (k pc : Nat) : Option (Instr × Nat) := match decode (rb_by k) pc with
  | .ok x => some x
  | .error _ => none
def rb_ent (k : Nat) (as : List Value) : rb_L := as.map some ++ List.replicate (rb_ml k - as.length) none
def rb_ck (k k' : Nat) (ls : rb_L) (rest : List Value) (a b : Nat) : Bool := !(rb_al k') || (rb_al k && (ls.all (rb_outl a b) && rest.all (rb_out a b)))
def rb_ex : Nat → Option (List Int32) → Nat → Nat → rb_L → List Value → rb_M → Option (Option Value × rb_M)
  | 0, _, _, _, _, _, _ => none
  | n + 1, sc, k, pc, ls, st, M => match rb_dec k pc with
    | none => none
    | some (i, len) => match rb_ki k i with
      | 0 => (match rb_pure k pc i len ls st with
        | some (pc', ls', st') => rb_ex n sc k pc' ls' st' M
        | none => none)
      | 1 => (match rb_mem k i len sc ls st M with
        | some (st', M') => if M'.length = M.length ∨ rb_al k = true then rb_ex n sc k (pc + len) ls st' M' else none
        | none => none)
      | 2 => (match rb_call k i len st M with
        | some (k', as, rest) => if as.length ≤ rb_ml k' ∧ as.all (fun v => v.category == 1) = true then (match rb_ex n none k' 0 (rb_ent k' as) [] M with
          | some (r, M1) => if rb_ck k k' ls rest M.length M1.length = true then rb_ex n sc k (pc + 3) ls (r.toList ++ rest) M1 else none
          | none => none) else none
        | none => none)
      | _ => (match rb_ret k i len st with
        | some r => some (r, M)
        | none => none)
end
section
/-! THE INTERPRETER AGAINST THE MACHINE, 1: what needs no cells -/
def rb_tr (ad : Nat → Nat) (v : Value) : Value := match v with
  | .ref i => .ref (ad i)
  | .int x => .int x
  | .long x => .long x
  | .float x => .float x
  | .double x => .double x
  | .null => .null
  | .retAddr x => .retAddr x
theorem rb_tr_cat (ad : Nat → Nat) (v : Value) : (rb_tr ad v).category = v.category := by cases v <;> rfl
theorem rb_ite_inv {α : Type} {c : Prop} [Decidable c] {a : Option α} {b : α} (h : (if c then a else none) = some b) : c ∧ a = some b := by
  by_cases hc : c
  · rw [if_pos hc] at h; exact ⟨hc, h⟩
  · rw [if_neg hc] at h; cases h
theorem rb_ite_inv' {α : Type} {c : Prop} [Decidable c] {a : Option α} {b : α} (h : (if c then none else a) = some b) : ¬ c ∧ a = some b := by
  by_cases hc : c
  · rw [if_pos hc] at h; cases h
  · rw [if_neg hc] at h; exact ⟨hc, h⟩
theorem rb_b2_inv {pc pc' : Nat} {ls ls' : rb_L} {f : Int32 → Int32 → Int32} {st st' : List Value} (h : rb_b2 pc ls f st = some (pc', ls', st')) : ∃ x y r, st = .int y :: .int x :: r ∧ pc' = pc + 1 ∧ ls' = ls ∧ st' = .int (f x y) :: r := by
  unfold rb_b2 at h
  split at h
  · cases h; exact ⟨_, _, _, rfl, rfl, rfl, rfl⟩
  · cases h
theorem rb_bl_inv {pc pc' : Nat} {ls ls' : rb_L} {f : Int64 → Int64 → Int64} {st st' : List Value} (h : rb_bl pc ls f st = some (pc', ls', st')) : ∃ x y r, st = .long y :: .long x :: r ∧ pc' = pc + 1 ∧ ls' = ls ∧ st' = .long (f x y) :: r := by
  unfold rb_bl at h
  split at h
  · cases h; exact ⟨_, _, _, rfl, rfl, rfl, rfl⟩
  · cases h
theorem rb_ldi_inv {pc pc' i : Nat} {ls ls' : rb_L} {st st' : List Value} (h : rb_ldi pc ls i st = some (pc', ls', st')) : ∃ x, ls[i]? = some (some (.int x)) ∧ pc' = pc ∧ ls' = ls ∧ st' = .int x :: st := by
  unfold rb_ldi at h
  split at h
  · rename_i x hx; cases h; exact ⟨x, hx, rfl, rfl, rfl⟩
  · cases h
theorem rb_lda_inv {pc pc' i : Nat} {ls ls' : rb_L} {st st' : List Value} (h : rb_lda pc ls i st = some (pc', ls', st')) : ∃ x, ls[i]? = some (some (.ref x)) ∧ pc' = pc ∧ ls' = ls ∧ st' = .ref x :: st := by
  unfold rb_lda at h
  split at h
  · rename_i x hx; cases h; exact ⟨x, hx, rfl, rfl, rfl⟩
  · cases h
theorem rb_ldl_inv {pc pc' i : Nat} {ls ls' : rb_L} {st st' : List Value} (h : rb_ldl pc ls i st = some (pc', ls', st')) : ∃ x, ls[i]? = some (some (.long x)) ∧ pc' = pc ∧ ls' = ls ∧ st' = .long x :: st := by
  unfold rb_ldl at h
  split at h
  · rename_i x hx; cases h; exact ⟨x, hx, rfl, rfl, rfl⟩
  · cases h
theorem rb_ldd_inv {pc pc' i : Nat} {ls ls' : rb_L} {st st' : List Value} (h : rb_ldd pc ls i st = some (pc', ls', st')) : ∃ x, ls[i]? = some (some (.double x)) ∧ pc' = pc ∧ ls' = ls ∧ st' = .double x :: st := by
  unfold rb_ldd at h
  split at h
  · rename_i x hx; cases h; exact ⟨x, hx, rfl, rfl, rfl⟩
  · cases h
theorem rb_sti_inv {k pc pc' i : Nat} {ls ls' : rb_L} {st st' : List Value} (h : rb_sti k pc ls i st = some (pc', ls', st')) : ∃ x r, st = .int x :: r ∧ rb_sto k i = true ∧ i < ls.length ∧ pc' = pc ∧ ls' = ls.set i (some (.int x)) ∧ st' = r := by
  unfold rb_sti at h
  split at h
  · obtain ⟨hc, h⟩ := rb_ite_inv h
    cases h; exact ⟨_, _, rfl, hc.1, hc.2, rfl, rfl, rfl⟩
  · cases h
theorem rb_sta_inv {k pc pc' i : Nat} {ls ls' : rb_L} {st st' : List Value} (h : rb_sta k pc ls i st = some (pc', ls', st')) : ∃ x r, st = .ref x :: r ∧ rb_sto k i = true ∧ i < ls.length ∧ pc' = pc ∧ ls' = ls.set i (some (.ref x)) ∧ st' = r := by
  unfold rb_sta at h
  split at h
  · obtain ⟨hc, h⟩ := rb_ite_inv h
    cases h; exact ⟨_, _, rfl, hc.1, hc.2, rfl, rfl, rfl⟩
  · cases h
theorem rb_tg_inv {pc t : Nat} {off : Int} (h : rb_tg pc off = some t) : (pc : Int) + off = (t : Int) := by
  unfold rb_tg at h
  obtain ⟨hc, h⟩ := rb_ite_inv h
  cases h
  exact (Int.toNat_of_nonneg hc).symm
theorem rb_br_inv {pc pc' : Nat} {off : Int} {ls ls' : rb_L} {st st' : List Value} {b : Bool} (h : rb_br pc off ls st b = some (pc', ls', st')) : ∃ t : Nat, (pc : Int) + off = (t : Int) ∧ pc' = (if b = true then t else pc + 3) ∧ ls' = ls ∧ st' = st := by
  unfold rb_br at h
  split at h
  · rename_i t ht; cases h; exact ⟨t, rb_tg_inv ht, rfl, rfl, rfl⟩
  · cases h
/-- the machine's slots hold what the interpreter's do -/
def rb_lok (k : Nat) (ad : Nat → Nat) (ls : rb_L) (arr : Array Slot) (nL : Nat) : Prop := ls.length = nL ∧ arr.size = nL ∧ lv_wf arr ∧ (∀ (i : Nat) (v : Value), ls[i]? = some (some v) → arr[i]? = some (.val (rb_tr ad v))) ∧ ∀ (i : Nat) (v : Value), ls[i]? = some (some v) → v.category = 2 → rb_std k i = true
def rb_lv (ad : Nat → Nat) (ls : rb_L) : List (Nat × Value) := (List.range ls.length).filterMap fun i => match ls[i]? with
  | some (some v) => some (i, rb_tr ad v)
  | _ => none
theorem rb_lv_mem {ad : Nat → Nat} {ls : rb_L} {q : Nat × Value} : q ∈ rb_lv ad ls ↔ ∃ v, ls[q.1]? = some (some v) ∧ q.2 = rb_tr ad v := by
  unfold rb_lv
  rw [List.mem_filterMap]
  constructor
  · rintro ⟨i, -, h⟩
    split at h
    · rename_i v hv; cases h; exact ⟨v, hv, rfl⟩
    · cases h
  · rintro ⟨v, hv, h2⟩
    refine ⟨q.1, List.mem_range.mpr (List.getElem?_eq_some_iff.mp hv).1, ?_⟩
    rw [hv]
    show some (q.1, rb_tr ad v) = some q
    rw [← h2]
theorem rb_lok_has {k nL : Nat} {ad : Nat → Nat} {ls : rb_L} {arr : Array Slot} (h : rb_lok k ad ls arr nL) : lv_has arr nL (rb_lv ad ls) := by
  refine ⟨h.2.1, h.2.2.1, fun q hq => ?_⟩
  obtain ⟨v, h1, h2⟩ := rb_lv_mem.mp hq
  rw [h2]
  exact h.2.2.2.1 _ _ h1
theorem rb_sto_std {k i j : Nat} (h : rb_sto k i = true) (hj : j + 1 = i) : rb_std k j = false := by
  unfold rb_sto at h
  unfold rb_std
  cases hb : rb_dd.any fun e => e.1 == k && e.2 == j with
  | false => rfl
  | true =>
    obtain ⟨e, he, h2⟩ := List.any_eq_true.mp hb
    have : (rb_dd.any fun e => e.1 == k && e.2 + 1 == i) = true := List.any_eq_true.mpr ⟨e, he, by
      simp only [Bool.and_eq_true, beq_iff_eq] at h2 ⊢
      exact ⟨h2.1, by omega⟩⟩
    rw [this] at h; cases h
theorem rb_lok_set {k nL i : Nat} {ad : Nat → Nat} {ls : rb_L} {arr arr' : Array Slot} {x : Value} (h : rb_lok k ad ls arr nL) (hs : rb_sto k i = true) (hx : x.category = 1) (h' : lv_has arr' nL ((i, rb_tr ad x) :: (rb_lv ad ls).filter (fun q => !(q.1 == i) && !(q.1 + 1 == i && q.2.category == 2)))) : rb_lok k ad (ls.set i (some x)) arr' nL := by
  refine ⟨by rw [List.length_set]; exact h.1, h'.1, h'.2.1, fun j v hj => ?_, fun j v hj hc => ?_⟩
  · by_cases hij : i = j
    · subst hij
      rw [List.getElem?_set_self' ] at hj
      have hx2 : x = v := by
        cases hq : ls[i]? with
        | none => rw [hq] at hj; cases hj
        | some o => rw [hq] at hj; exact Option.some.inj (Option.some.inj hj)
      rw [← hx2]
      exact h'.2.2 (i, rb_tr ad x) List.mem_cons_self
    · rw [List.getElem?_set_ne hij] at hj
      refine h'.2.2 (j, rb_tr ad v) (List.mem_cons_of_mem _ (List.mem_filter.mpr ⟨rb_lv_mem.mpr ⟨v, hj, rfl⟩, ?_⟩))
      have h1 : (j == i) = false := by rw [beq_eq_false_iff_ne]; exact fun q => hij q.symm
      have h2 : (j + 1 == i && (rb_tr ad v).category == 2) = false := by
        cases hb : (j + 1 == i && (rb_tr ad v).category == 2) with
        | false => rfl
        | true =>
          simp only [Bool.and_eq_true, beq_iff_eq] at hb
          rw [rb_tr_cat] at hb
          have := h.2.2.2.2 j v hj hb.2
          rw [rb_sto_std hs hb.1] at this; cases this
      show (!(j == i) && !(j + 1 == i && (rb_tr ad v).category == 2)) = true
      rw [h1, h2]; rfl
  · by_cases hij : i = j
    · subst hij
      rw [List.getElem?_set_self'] at hj
      cases hq : ls[i]? with
      | none => rw [hq] at hj; cases hj
      | some o =>
        rw [hq] at hj
        have hx2 : x = v := Option.some.inj (Option.some.inj hj)
        rw [← hx2, hx] at hc; cases hc
    · rw [List.getElem?_set_ne hij] at hj
      exact h.2.2.2.2 j v hj hc
theorem rb_lok_set2 {k nL i : Nat} {ad : Nat → Nat} {ls : rb_L} {arr arr' : Array Slot} {x : Value} (h : rb_lok k ad ls arr nL) (hs : rb_sto k i = true) (hd : rb_std k i = true) (h' : lv_has arr' nL ((i, rb_tr ad x) :: (rb_lv ad ls).filter (fun q => !(q.1 == i) && (!(q.1 == i + 1) && !(q.1 + 1 == i && q.2.category == 2))))) : rb_lok k ad ((ls.set i (some x)).set (i + 1) none) arr' nL := by
  have key : ∀ (j : Nat) (v : Value), ((ls.set i (some x)).set (i + 1) none)[j]? = some (some v) → (j = i ∧ v = x) ∨ (j ≠ i ∧ j ≠ i + 1 ∧ ls[j]? = some (some v)) := by
    intro j v hj
    by_cases h1 : i + 1 = j
    · subst h1
      rw [List.getElem?_set_self'] at hj
      cases hq : (ls.set i (some x))[i + 1]? with
      | none => rw [hq] at hj; cases hj
      | some o => rw [hq] at hj; cases hj
    · rw [List.getElem?_set_ne h1] at hj
      by_cases h2 : i = j
      · subst h2
        rw [List.getElem?_set_self'] at hj
        cases hq : ls[i]? with
        | none => rw [hq] at hj; cases hj
        | some o => rw [hq] at hj; exact Or.inl ⟨rfl, (Option.some.inj (Option.some.inj hj)).symm⟩
      · rw [List.getElem?_set_ne h2] at hj
        exact Or.inr ⟨fun q => h2 q.symm, fun q => h1 q.symm, hj⟩
  refine ⟨by rw [List.length_set, List.length_set]; exact h.1, h'.1, h'.2.1, fun j v hj => ?_, fun j v hj hc => ?_⟩
  · rcases key j v hj with ⟨rfl, rfl⟩ | ⟨n1, n2, hj⟩
    · exact h'.2.2 (j, rb_tr ad v) List.mem_cons_self
    · refine h'.2.2 (j, rb_tr ad v) (List.mem_cons_of_mem _ (List.mem_filter.mpr ⟨rb_lv_mem.mpr ⟨v, hj, rfl⟩, ?_⟩))
      have h1 : (j == i) = false := beq_eq_false_iff_ne.mpr n1
      have h3 : (j == i + 1) = false := beq_eq_false_iff_ne.mpr n2
      have h2 : (j + 1 == i && (rb_tr ad v).category == 2) = false := by
        cases hb : (j + 1 == i && (rb_tr ad v).category == 2) with
        | false => rfl
        | true =>
          simp only [Bool.and_eq_true, beq_iff_eq] at hb
          rw [rb_tr_cat] at hb
          have := h.2.2.2.2 j v hj hb.2
          rw [rb_sto_std hs hb.1] at this; cases this
      show (!(j == i) && (!(j == i + 1) && !(j + 1 == i && (rb_tr ad v).category == 2))) = true
      rw [h1, h2, h3]; rfl
  · rcases key j v hj with ⟨rfl, rfl⟩ | ⟨n1, n2, hj⟩
    · exact hd
    · exact h.2.2.2.2 j v hj hc
/-- the constants' words -/
def rb_kc (e : (Nat × Nat) × Value) : Jvm.Cond := match e.2 with
  | .int v => .constant (rb_cn e.1.1) e.1.2 v
  | .long v => .constantLong (rb_cn e.1.1) e.1.2 v
  | _ => .constant "" 0 0
/-- the tables' words that stay true wherever a call goes -/
def rb_gw : List Jvm.Cond := lw_tbl.filter goodWord
def rb_is (w : Jvm.Cond) : Bool := decide (w ∈ lw_tbl) && goodWord w
theorem rb_is_in {w : Jvm.Cond} (h : rb_is w = true) : w ∈ rb_gw := by
  unfold rb_is at h
  rw [Bool.and_eq_true] at h
  exact List.mem_filter.mpr ⟨of_decide_eq_true h.1, h.2⟩
theorem rb_kl_ok : ∀ e ∈ rb_kl, rb_is (rb_kc e) = true := by decide +kernel
theorem rb_find_mem {α : Type} {l : List ((Nat × Nat) × α)} {a b : Nat} {x : α} (h : rb_find l a b = some x) : ((a, b), x) ∈ l := by
  induction l with
  | nil => cases h
  | cons e r ih =>
    unfold rb_find at h
    by_cases hc : (e.1.1 == a && e.1.2 == b) = true
    · rw [if_pos hc] at h
      simp only [Bool.and_eq_true, beq_iff_eq] at hc
      obtain ⟨⟨e1, e2⟩, e3⟩ := e
      cases h
      obtain ⟨rfl, rfl⟩ := hc
      exact List.mem_cons_self
    · rw [if_neg hc] at h
      exact List.mem_cons_of_mem _ (ih h)
section RBP
variable {p : Program} {l : Launch} {e : Env} {R : Room} {s : State} {m : MethodId} {args : Array Value} {below : List Frame} {meth : Method} {c : Code} {H : Heap} {locs : List Loc} {cells slots : Nat} {Q : State → Prop}
theorem rb_jump {b : Bool} {P : Prop} [Decidable P] {t pc pc' : Nat} {arr : Array Slot} {st : List Value} (hb : b = decide P) (hp : pc' = (if b = true then t else pc + 3)) (kk : W p l e R s m args below meth c H locs cells slots Q (F0 m pc' arr st)) : (P → W p l e R s m args below meth c H locs cells slots Q (F0 m t arr st)) ∧ (¬ P → W p l e R s m args below meth c H locs cells slots Q (F0 m (pc + 3) arr st)) := by
  subst hb
  refine ⟨fun h => ?_, fun h => ?_⟩
  · rw [hp, if_pos (decide_eq_true h)] at kk; exact kk
  · rw [hp, if_neg (by rw [decide_eq_true_eq]; exact h)] at kk; exact kk
set_option maxHeartbeats 4000000 in
theorem rb_pure_ok {k nL pc pc' len : Nat} {ad : Nat → Nat} {i : Instr} {ls ls' : rb_L} {st st' : List Value} {arr : Array Slot} (hx : p.tables.exec = Jvm.exec) (hb : c.code = rb_by k) (hown : s.vm.findClass (rb_cn (rb_ow k)) = some m.cls) (hts : ∀ w ∈ rb_gw, w.before args s = true) (hd : decode (rb_by k) pc = .ok (i, len)) (hl : rb_lok k ad ls arr nL) (h : rb_pure k pc i len ls st = some (pc', ls', st')) (kk : ∀ arr' : Array Slot, rb_lok k ad ls' arr' nL → W p l e R s m args below meth c H locs cells slots Q (F0 m pc' arr' (st'.map (rb_tr ad)))) : W p l e R s m args below meth c H locs cells slots Q (F0 m pc arr (st.map (rb_tr ad))) := by
  cases i <;> simp only [rb_pure] at h <;> (try cases h)
  case iconst n => replace h := rb_ite_inv h; obtain ⟨rfl, h⟩ := h; cases h; exact lv_iconst hx hb hd rfl (kk arr hl)
  case bipush n => replace h := rb_ite_inv h; obtain ⟨rfl, h⟩ := h; cases h; exact lv_bipush hx hb hd rfl (kk arr hl)
  case sipush n => replace h := rb_ite_inv h; obtain ⟨rfl, h⟩ := h; cases h; exact lv_sipush hx hb hd rfl (kk arr hl)
  case fconst n => replace h := rb_ite_inv h; obtain ⟨⟨rfl, rfl⟩, h⟩ := h; cases h; exact lv_fconst0 hx hb hd (kk arr hl)
  case aconst_null => replace h := rb_ite_inv h; obtain ⟨rfl, h⟩ := h; cases h; exact lv_null hx hb hd (kk arr hl)
  case ldc ix =>
    replace h := rb_ite_inv h; obtain ⟨rfl, h⟩ := h
    split at h
    · rename_i v hf; cases h; exact lv_ldc hx hb hown (hts _ (rb_is_in (rb_kl_ok _ (rb_find_mem hf)))) hd (kk arr hl)
    · cases h
  case ldc_w ix =>
    replace h := rb_ite_inv h; obtain ⟨rfl, h⟩ := h
    split at h
    · rename_i v hf; cases h; exact lv_ldcw hx hb hown (hts _ (rb_is_in (rb_kl_ok _ (rb_find_mem hf)))) hd (kk arr hl)
    · cases h
  case ldc2_w ix =>
    replace h := rb_ite_inv h; obtain ⟨rfl, h⟩ := h
    split at h
    · rename_i v hf; cases h; exact lv_ldc2 hx hb hown (hts _ (rb_is_in (rb_kl_ok _ (rb_find_mem hf)))) hd (kk arr hl)
    · cases h
  case iload_n j => replace h := rb_ite_inv h; obtain ⟨rfl, h⟩ := h; replace h := rb_ldi_inv h; obtain ⟨x, hi, rfl, rfl, rfl⟩ := h; exact lv_iload_n hx hb hd rfl (hl.2.2.2.1 _ _ hi) (kk arr hl)
  case iload j => replace h := rb_ite_inv h; obtain ⟨rfl, h⟩ := h; replace h := rb_ldi_inv h; obtain ⟨x, hi, rfl, rfl, rfl⟩ := h; exact lv_iload hx hb hd (hl.2.2.2.1 _ _ hi) (kk arr hl)
  case aload_n j => replace h := rb_ite_inv h; obtain ⟨rfl, h⟩ := h; replace h := rb_lda_inv h; obtain ⟨x, hi, rfl, rfl, rfl⟩ := h; exact lv_aload_n hx hb hd rfl (hl.2.2.2.1 _ _ hi) (kk arr hl)
  case aload j => replace h := rb_ite_inv h; obtain ⟨rfl, h⟩ := h; replace h := rb_lda_inv h; obtain ⟨x, hi, rfl, rfl, rfl⟩ := h; exact lv_aload hx hb hd (hl.2.2.2.1 _ _ hi) (kk arr hl)
  case lload_n j => replace h := rb_ite_inv h; obtain ⟨rfl, h⟩ := h; replace h := rb_ldl_inv h; obtain ⟨x, hi, rfl, rfl, rfl⟩ := h; exact lv_lload_n hx hb hd rfl (hl.2.2.2.1 _ _ hi) (kk arr hl)
  case dload j => replace h := rb_ite_inv h; obtain ⟨rfl, h⟩ := h; replace h := rb_ldd_inv h; obtain ⟨x, hi, rfl, rfl, rfl⟩ := h; exact lv_dload hx hb hd (hl.2.2.2.1 _ _ hi) (kk arr hl)
  case istore_n j => replace h := rb_ite_inv h; obtain ⟨rfl, h⟩ := h; replace h := rb_sti_inv h; obtain ⟨x, r, rfl, h1, h2, rfl, rfl, rfl⟩ := h; exact lv_istore_n hx hb hd rfl (rb_lok_has hl) (by rw [← hl.1]; exact h2) rfl (fun arr' h' => kk arr' (rb_lok_set hl h1 rfl h'))
  case istore j => replace h := rb_ite_inv h; obtain ⟨rfl, h⟩ := h; replace h := rb_sti_inv h; obtain ⟨x, r, rfl, h1, h2, rfl, rfl, rfl⟩ := h; exact lv_istore hx hb hd (rb_lok_has hl) (by rw [← hl.1]; exact h2) rfl (fun arr' h' => kk arr' (rb_lok_set hl h1 rfl h'))
  case astore_n j => replace h := rb_ite_inv h; obtain ⟨rfl, h⟩ := h; replace h := rb_sta_inv h; obtain ⟨x, r, rfl, h1, h2, rfl, rfl, rfl⟩ := h; exact lv_astore_n hx hb hd rfl (rb_lok_has hl) (by rw [← hl.1]; exact h2) rfl (fun arr' h' => kk arr' (rb_lok_set hl h1 rfl h'))
  case astore j => replace h := rb_ite_inv h; obtain ⟨rfl, h⟩ := h; replace h := rb_sta_inv h; obtain ⟨x, r, rfl, h1, h2, rfl, rfl, rfl⟩ := h; exact lv_astore hx hb hd (rb_lok_has hl) (by rw [← hl.1]; exact h2) rfl (fun arr' h' => kk arr' (rb_lok_set hl h1 rfl h'))
  case lstore_n j =>
    replace h := rb_ite_inv h; obtain ⟨rfl, h⟩ := h
    split at h
    · replace h := rb_ite_inv h; obtain ⟨h1, h⟩ := h
      cases h
      exact lv_lstore_n hx hb hd rfl (rb_lok_has hl) (by rw [← hl.1]; exact h1.2.2) rfl (fun arr' h' => kk arr' (rb_lok_set2 hl h1.1 h1.2.1 h'))
    · cases h
  case dstore j =>
    replace h := rb_ite_inv h; obtain ⟨rfl, h⟩ := h
    split at h
    · replace h := rb_ite_inv h; obtain ⟨h1, h⟩ := h
      cases h
      exact lv_dstore hx hb hd (rb_lok_has hl) (by rw [← hl.1]; exact h1.2.2) rfl (fun arr' h' => kk arr' (rb_lok_set2 hl h1.1 h1.2.1 h'))
    · cases h
  case iinc j n =>
    replace h := rb_ite_inv h; obtain ⟨rfl, h⟩ := h
    split at h
    · rename_i x hj
      replace h := rb_ite_inv h; obtain ⟨h1, h⟩ := h
      cases h
      obtain ⟨q, hq⟩ := List.getElem?_of_mem (rb_lv_mem (ad := ad) (q := (j, Value.int x)).mpr ⟨.int x, hj, rfl⟩)
      exact lv_iinc hx hb hd (rb_lok_has hl) hq rfl (by rw [← hl.1]; exact (List.getElem?_eq_some_iff.mp hj).1) rfl (fun arr' h' => kk arr' (rb_lok_set (x := .int (x + Int32.ofInt n)) hl h1 rfl h'))
    · cases h
  case iadd => replace h := rb_ite_inv h; obtain ⟨rfl, h⟩ := h; replace h := rb_b2_inv h; obtain ⟨x, y, r, rfl, rfl, rfl, rfl⟩ := h; exact lv_iadd hx hb hd (kk arr hl)
  case isub => replace h := rb_ite_inv h; obtain ⟨rfl, h⟩ := h; replace h := rb_b2_inv h; obtain ⟨x, y, r, rfl, rfl, rfl, rfl⟩ := h; exact lv_isub hx hb hd (kk arr hl)
  case imul => replace h := rb_ite_inv h; obtain ⟨rfl, h⟩ := h; replace h := rb_b2_inv h; obtain ⟨x, y, r, rfl, rfl, rfl, rfl⟩ := h; exact lv_imul hx hb hd (kk arr hl)
  case iand => replace h := rb_ite_inv h; obtain ⟨rfl, h⟩ := h; replace h := rb_b2_inv h; obtain ⟨x, y, r, rfl, rfl, rfl, rfl⟩ := h; exact lv_iand hx hb hd (kk arr hl)
  case ior => replace h := rb_ite_inv h; obtain ⟨rfl, h⟩ := h; replace h := rb_b2_inv h; obtain ⟨x, y, r, rfl, rfl, rfl, rfl⟩ := h; exact lv_ior hx hb hd (kk arr hl)
  case ixor => replace h := rb_ite_inv h; obtain ⟨rfl, h⟩ := h; replace h := rb_b2_inv h; obtain ⟨x, y, r, rfl, rfl, rfl, rfl⟩ := h; exact lv_ixor hx hb hd (kk arr hl)
  case ishl => replace h := rb_ite_inv h; obtain ⟨rfl, h⟩ := h; replace h := rb_b2_inv h; obtain ⟨x, y, r, rfl, rfl, rfl, rfl⟩ := h; exact lv_ishl hx hb hd (kk arr hl)
  case ishr => replace h := rb_ite_inv h; obtain ⟨rfl, h⟩ := h; replace h := rb_b2_inv h; obtain ⟨x, y, r, rfl, rfl, rfl, rfl⟩ := h; exact lv_ishr hx hb hd (kk arr hl)
  case iushr => replace h := rb_ite_inv h; obtain ⟨rfl, h⟩ := h; replace h := rb_b2_inv h; obtain ⟨x, y, r, rfl, rfl, rfl, rfl⟩ := h; exact lv_iushr hx hb hd rfl (kk arr hl)
  case idiv =>
    replace h := rb_ite_inv h; obtain ⟨rfl, h⟩ := h
    split at h
    · replace h := rb_ite_inv' h; obtain ⟨h1, h⟩ := h
      cases h
      exact lv_idiv hx hb hd h1 (kk arr hl)
    · cases h
  case irem =>
    replace h := rb_ite_inv h; obtain ⟨rfl, h⟩ := h
    split at h
    · replace h := rb_ite_inv' h; obtain ⟨h1, h⟩ := h
      cases h
      exact lv_irem hx hb hd h1 (kk arr hl)
    · cases h
  case ineg => replace h := rb_ite_inv h; obtain ⟨rfl, h⟩ := h; split at h; (· cases h; exact lv_ineg hx hb hd (kk arr hl)); (· cases h)
  case ladd => replace h := rb_ite_inv h; obtain ⟨rfl, h⟩ := h; replace h := rb_bl_inv h; obtain ⟨x, y, r, rfl, rfl, rfl, rfl⟩ := h; exact lv_ladd hx hb hd (kk arr hl)
  case lmul => replace h := rb_ite_inv h; obtain ⟨rfl, h⟩ := h; replace h := rb_bl_inv h; obtain ⟨x, y, r, rfl, rfl, rfl, rfl⟩ := h; exact lv_lmul hx hb hd (kk arr hl)
  case lrem =>
    replace h := rb_ite_inv h; obtain ⟨rfl, h⟩ := h
    split at h
    · replace h := rb_ite_inv' h; obtain ⟨h1, h⟩ := h
      cases h
      exact lv_lrem hx hb hd h1 (kk arr hl)
    · cases h
  case i2l => replace h := rb_ite_inv h; obtain ⟨rfl, h⟩ := h; split at h; (· cases h; exact lv_i2l hx hb hd rfl (kk arr hl)); (· cases h)
  case l2i => replace h := rb_ite_inv h; obtain ⟨rfl, h⟩ := h; split at h; (· cases h; exact lv_l2i hx hb hd rfl (kk arr hl)); (· cases h)
  case i2f => replace h := rb_ite_inv h; obtain ⟨rfl, h⟩ := h; split at h; (· cases h; exact lv_i2f hx hb hd (kk arr hl)); (· cases h)
  case fdiv =>
    replace h := rb_ite_inv h; obtain ⟨rfl, h⟩ := h
    split at h
    · replace h := rb_ite_inv h; obtain ⟨h1, h⟩ := h
      cases h
      exact lv_fdiv hx hb hd h1 (kk arr hl)
    · cases h
  case f2d =>
    replace h := rb_ite_inv h; obtain ⟨rfl, h⟩ := h
    split at h
    · replace h := rb_ite_inv h; obtain ⟨h1, h⟩ := h
      cases h
      exact lv_f2d hx hb hd h1 (kk arr hl)
    · cases h
  case dcmp op => replace h := rb_ite_inv h; obtain ⟨rfl, h⟩ := h; split at h; (· cases h; exact lv_dcmp hx hb hd (kk arr hl)); (· cases h)
  case dup =>
    replace h := rb_ite_inv h; obtain ⟨rfl, h⟩ := h
    split at h
    · replace h := rb_ite_inv h; obtain ⟨h1, h⟩ := h
      cases h
      exact lv_dup hx hb hd (by rw [rb_tr_cat]; exact h1) (kk arr hl)
    · cases h
  case pop =>
    replace h := rb_ite_inv h; obtain ⟨rfl, h⟩ := h
    split at h
    · replace h := rb_ite_inv h; obtain ⟨h1, h⟩ := h
      cases h
      exact lv_pop hx hb hd (by rw [rb_tr_cat]; exact h1) (kk arr hl)
    · cases h
  case dup2 =>
    replace h := rb_ite_inv h; obtain ⟨rfl, h⟩ := h
    split at h
    · replace h := rb_ite_inv h; obtain ⟨h1, h⟩ := h
      cases h
      exact lv_dup2_11 hx hb hd (by rw [rb_tr_cat]; exact h1.1) (by rw [rb_tr_cat]; exact h1.2) (kk arr hl)
    · cases h
  case goto off =>
    replace h := rb_ite_inv h; obtain ⟨rfl, h⟩ := h
    split at h
    · rename_i t ht; cases h; exact lv_goto hx hb hd (rb_tg_inv ht) (kk arr hl)
    · cases h
  case ifCond cd off =>
    replace h := rb_ite_inv h; obtain ⟨rfl, h⟩ := h
    split at h
    · replace h := rb_br_inv h; obtain ⟨t, h1, h2, rfl, rfl⟩ := h
      cases cd
      · exact lv_if_eq hx hb hd h1 (rb_jump rfl h2 (kk arr hl)).1 (rb_jump rfl h2 (kk arr hl)).2
      · exact lv_if_ne hx hb hd h1 (rb_jump rfl h2 (kk arr hl)).1 (fun h => (rb_jump rfl h2 (kk arr hl)).2 (fun q => q h))
      · exact lv_if_lt hx hb hd h1 (rb_jump rfl h2 (kk arr hl)).1 (rb_jump rfl h2 (kk arr hl)).2
      · exact lv_if_ge hx hb hd h1 (rb_jump rfl h2 (kk arr hl)).1 (rb_jump rfl h2 (kk arr hl)).2
      · exact lv_if_gt hx hb hd h1 (rb_jump rfl h2 (kk arr hl)).1 (rb_jump rfl h2 (kk arr hl)).2
      · exact lv_if_le hx hb hd h1 (rb_jump rfl h2 (kk arr hl)).1 (rb_jump rfl h2 (kk arr hl)).2
    · cases h
  case if_icmp cd off =>
    replace h := rb_ite_inv h; obtain ⟨rfl, h⟩ := h
    split at h
    · replace h := rb_br_inv h; obtain ⟨t, h1, h2, rfl, rfl⟩ := h
      cases cd
      · exact lv_icmp_eq hx hb hd h1 (rb_jump rfl h2 (kk arr hl)).1 (rb_jump rfl h2 (kk arr hl)).2
      · exact lv_icmp_ne hx hb hd h1 (rb_jump rfl h2 (kk arr hl)).1 (fun h => (rb_jump rfl h2 (kk arr hl)).2 (fun q => q h))
      · exact lv_icmp_lt hx hb hd h1 (rb_jump rfl h2 (kk arr hl)).1 (rb_jump rfl h2 (kk arr hl)).2
      · exact lv_icmp_ge hx hb hd h1 (rb_jump rfl h2 (kk arr hl)).1 (rb_jump rfl h2 (kk arr hl)).2
      · exact lv_icmp_gt hx hb hd h1 (rb_jump rfl h2 (kk arr hl)).1 (rb_jump rfl h2 (kk arr hl)).2
      · exact lv_icmp_le hx hb hd h1 (rb_jump rfl h2 (kk arr hl)).1 (rb_jump rfl h2 (kk arr hl)).2
    · cases h
  case ifnull off =>
    replace h := rb_ite_inv h; obtain ⟨rfl, h⟩ := h
    split at h
    · replace h := rb_br_inv h; obtain ⟨t, h1, rfl, rfl, rfl⟩ := h
      exact lv_ifnullN hx hb hd h1 (kk arr hl)
    · replace h := rb_br_inv h; obtain ⟨t, h1, rfl, rfl, rfl⟩ := h
      exact lv_ifnull hx hb hd (kk arr hl)
    · cases h
  case ifnonnull off =>
    replace h := rb_ite_inv h; obtain ⟨rfl, h⟩ := h
    split at h
    · replace h := rb_br_inv h; obtain ⟨t, h1, rfl, rfl, rfl⟩ := h
      exact lv_ifnonnullN hx hb hd (kk arr hl)
    · replace h := rb_br_inv h; obtain ⟨t, h1, rfl, rfl, rfl⟩ := h
      exact lv_ifnonnull hx hb hd h1 (kk arr hl)
    · cases h
  case tableswitch dflt lo hi offs =>
    split at h
    · split at h
      · rename_i hc
        split at h
        · rename_i t ht; cases h; exact lv_tableOut hx hb hd hc (rb_tg_inv ht) (kk arr hl)
        · cases h
      · rename_i hc
        split at h
        · rename_i off ho
          split at h
          · rename_i t ht; cases h; exact lv_tableIn hx hb hd (fun q => hc (Or.inl q)) (fun q => hc (Or.inr q)) ho (rb_tg_inv ht) (kk arr hl)
          · cases h
        · cases h
    · cases h
  case lookupswitch dflt ps =>
    split at h
    · replace h := rb_ite_inv h; obtain ⟨hc, h⟩ := h
      split at h
      · rename_i t ht; cases h; exact lv_lookup hx hb hd hc rfl (rb_tg_inv ht) (kk arr hl)
      · cases h
    · cases h
end RBP
end
section
/-! what the tables say, by program -/
def rb_tt (ci : Nat) : u_T := match ci with
  | 0 => TX0
  | 1 => TX1
  | 2 => TX2
  | 3 => TX3
  | 4 => TX4
  | _ => TX5
def rb_nn (ci : Nat) : Nat := match ci with
  | 0 => 3
  | 1 => 2
  | 2 => 1
  | 3 => 19
  | 4 => 5
  | _ => 8
/-- the words of the mates' links and of arrays of states, which a contract carries itself -/
def rb_nest : List Jvm.Cond := lw_tbl.filter fun w => match w with
  | .methodLinkNest _ _ _ _ => true
  | _ => false
def rb_fc (e : (Nat × Nat) × (Nat × Nat)) : Jvm.Cond := .fieldLink (rb_cn e.1.1) e.1.2 (rb_tt e.2.1 e.2.2).1 (rb_tt e.2.1 e.2.2).2.1 (rb_tt e.2.1 e.2.2).2.2.1
theorem rb_fl_ok : rb_fl.all (fun e => rb_is (rb_fc e) && (decide (e.2.1 < 6) && decide (e.2.2 < rb_nn e.2.1))) = true := by decide +kernel
theorem rb_cl_ok : rb_cl.all (fun e => rb_is (.classLink (rb_cn e.1.1) e.1.2 (rb_cn e.2)) && (rb_is (.instantiable (rb_cn e.2) (rb_nn e.2)) && (rb_is (.initialized (rb_cn e.2)) && decide (e.2 < 6)))) = true := by decide +kernel
theorem rb_us_ok : (List.range 6).all (fun ci => (u_ws (rb_cn ci) (rb_tt ci) (rb_nn ci)).all rb_is) = true := by decide +kernel
theorem rb_vw : ∀ ci, ci < 6 → vwCl[ci]? = some (rb_cn ci, rb_tt ci, rb_nn ci) := fun ci h => match ci, h with
  | 0, _ => rfl
  | 1, _ => rfl
  | 2, _ => rfl
  | 3, _ => rfl
  | 4, _ => rfl
  | 5, _ => rfl
  | n + 6, h => absurd h (by omega)
theorem rb_ft : ∀ ci, ci < 6 → ∀ k, k < rb_nn ci → parseFieldDescriptor (rb_tt ci k).2.2.1 = some (rb_ty ci k) := fun ci h => match ci, h with
  | 0, _ => tyX0_ok
  | 1, _ => tyX1_ok
  | 2, _ => tyX2_ok
  | 3, _ => tyX3_ok
  | 4, _ => tyX4_ok
  | 5, _ => tyX5_ok
  | n + 6, h => absurd h (by omega)
theorem rb_fnm : ∀ ci, ci < 6 → ∀ a, a < rb_nn ci → ∀ b, b < rb_nn ci → a ≠ b → (rb_tt ci a).2.1 ≠ (rb_tt ci b).2.1 := fun ci h => match ci, h with
  | 0, _ => nmX0
  | 1, _ => nmX1
  | 2, _ => nmX2
  | 3, _ => nmX3
  | 4, _ => nmX4
  | 5, _ => nmX5
  | n + 6, h => absurd h (by omega)
theorem rb_fnal : ∀ ci, ci < 6 → ∀ k, (rb_tt ci k).2.2.2 = rb_fn ci k := fun ci h => match ci, h with
  | 0, _ => fun _ => rfl
  | 1, _ => fun _ => rfl
  | 2, _ => fun _ => rfl
  | 3, _ => fun _ => rfl
  | 4, _ => fun _ => rfl
  | 5, _ => fun _ => rfl
  | n + 6, h => absurd h (by omega)
theorem rb_fcl : ∀ ci, ci < 6 → ∀ k, k < rb_nn ci → (rb_tt ci k).1 = rb_cn ci := by decide +kernel
theorem rb_dfl : ∀ ci, ci < 6 → (rb_df ci).length = rb_nn ci := by decide +kernel
theorem rb_dfv : ∀ ci, ci < 6 → ∀ j, j < rb_nn ci → defaultValue (rb_ty ci j) = vp_V (rb_df ci) j := by decide +kernel
/-- a method's own words -/
def rb_ws0 (k : Nat) : List Jvm.Cond := .code (rb_y k) (rb_by k) (rb_ml k) (rb_rt k) :: rb_gw
def rb_mok (k : Nat) : Bool := rb_is (.code (rb_y k) (rb_by k) (rb_ml k) (rb_rt k)) && (rb_is (.initialized (rb_y k).cls) && (decide ((rb_y k).cls ≠ "java/lang/invoke/MethodHandle") && (decide ((rb_y k).cls ≠ "java/lang/invoke/VarHandle") && (plainFor (rb_y k) && (decide ((rb_y k).cls = rb_cn (rb_ow k)) && (decide (rb_ml k ≤ 16) && decide (rb_in k = true → (rb_y k).name = "<init>")))))))
def rb_ar (k : Nat) : Option Nat := (parseMethodDescriptor (rb_y k).desc).map (fun d => d.parameters.length)
/-- a link of a method: its words and its arguments -/
def rb_iok (e : (Nat × Nat) × (Nat × Nat)) : Bool := match e.2.2 with
  | 0 => decide (e.2.1 < 163) && (rb_is (.methodLink (rb_cn e.1.1) e.1.2 (rb_y e.2.1)) && (rb_is (.instanceMethod (rb_y e.2.1)) && (rb_is (.selects (rb_y e.2.1).cls (rb_y e.2.1) (rb_y e.2.1)) && (decide (1 ≤ rb_na e.2.1) && decide (rb_ar e.2.1 = some (rb_na e.2.1 - 1))))))
  | 1 => decide (e.2.1 < 163) && (rb_is (.methodLink (rb_cn e.1.1) e.1.2 (rb_y e.2.1)) && (rb_is (.static (rb_y e.2.1)) && decide (rb_ar e.2.1 = some (rb_na e.2.1))))
  | 2 => decide (e.2.1 < 163) && (rb_is (.methodLink (rb_cn e.1.1) e.1.2 (rb_y e.2.1)) && (rb_is (.instanceMethod (rb_y e.2.1)) && (decide ((rb_y e.2.1).name = "<init>") && (decide (rb_rt e.2.1 = none) && (decide (1 ≤ rb_na e.2.1) && decide (rb_ar e.2.1 = some (rb_na e.2.1 - 1)))))))
  | 3 => decide (e.2.1 < 163) && (decide (Jvm.Cond.methodLinkNest (rb_cn e.1.1) e.1.2 (rb_y e.2.1) RX4 ∈ rb_nest) && (rb_is (.static (rb_y e.2.1)) && decide (rb_ar e.2.1 = some (rb_na e.2.1))))
  | 4 => decide (e.2.1 < 163) && (decide (Jvm.Cond.methodLinkNest (rb_cn e.1.1) e.1.2 (rb_y e.2.1) RX4 ∈ rb_nest) && (rb_is (.instanceMethod (rb_y e.2.1)) && (decide ((rb_y e.2.1).name = "<init>") && (decide (rb_rt e.2.1 = none) && (decide (1 ≤ rb_na e.2.1) && decide (rb_ar e.2.1 = some (rb_na e.2.1 - 1)))))))
  | 5 => rb_is (.methodLink (rb_cn e.1.1) e.1.2 Lib.objectInit) && (rb_is (.instanceMethod Lib.objectInit) && rb_is (.code Lib.objectInit ⟨#[0xb1]⟩ 1 none))
  | _ => rb_is (.methodLink (rb_cn e.1.1) e.1.2 arraycopyName) && (rb_is (.native arraycopyName) && (rb_is (.static arraycopyName) && rb_is (.initialized "java/lang/System")))
theorem rb_arr_int : rb_is (.arrayClass .int) = true := by decide +kernel
theorem rb_arr_st : (Jvm.Cond.arrayOver (.object RX3)) ∈ lw_tbl := by decide +kernel
/-- a word by its place -/
def rb_at (i : Nat) (w : Jvm.Cond) : Bool := decide (lw_tbl[i]? = some w) && goodWord w
theorem rb_at_is {i : Nat} {w : Jvm.Cond} (h : rb_at i w = true) : rb_is w = true := by
  unfold rb_at at h
  unfold rb_is
  rw [Bool.and_eq_true] at h ⊢
  exact ⟨decide_eq_true (List.mem_of_getElem? (of_decide_eq_true h.1)), h.2⟩
def rb_an (i : Nat) (w : Jvm.Cond) : Bool := decide (lw_tbl[i]? = some w) && (match w with
  | .methodLinkNest _ _ _ _ => true
  | _ => false)
theorem rb_an_in {i : Nat} {w : Jvm.Cond} (h : rb_an i w = true) : decide (w ∈ rb_nest) = true := by
  unfold rb_an at h
  rw [Bool.and_eq_true] at h
  exact decide_eq_true (List.mem_filter.mpr ⟨List.mem_of_getElem? (of_decide_eq_true h.1), h.2⟩)
def rb_ioj (e : (Nat × Nat) × (Nat × Nat)) (ps : List Nat) : Bool := match e.2.2 with
  | 0 => decide (e.2.1 < 163) && (rb_at (ps.getD 0 0) (.methodLink (rb_cn e.1.1) e.1.2 (rb_y e.2.1)) && (rb_at (ps.getD 1 0) (.instanceMethod (rb_y e.2.1)) && (rb_at (ps.getD 2 0) (.selects (rb_y e.2.1).cls (rb_y e.2.1) (rb_y e.2.1)) && (decide (1 ≤ rb_na e.2.1) && decide (rb_ar e.2.1 = some (rb_na e.2.1 - 1))))))
  | 1 => decide (e.2.1 < 163) && (rb_at (ps.getD 0 0) (.methodLink (rb_cn e.1.1) e.1.2 (rb_y e.2.1)) && (rb_at (ps.getD 1 0) (.static (rb_y e.2.1)) && decide (rb_ar e.2.1 = some (rb_na e.2.1))))
  | 2 => decide (e.2.1 < 163) && (rb_at (ps.getD 0 0) (.methodLink (rb_cn e.1.1) e.1.2 (rb_y e.2.1)) && (rb_at (ps.getD 1 0) (.instanceMethod (rb_y e.2.1)) && (decide ((rb_y e.2.1).name = "<init>") && (decide (rb_rt e.2.1 = none) && (decide (1 ≤ rb_na e.2.1) && decide (rb_ar e.2.1 = some (rb_na e.2.1 - 1)))))))
  | 3 => decide (e.2.1 < 163) && (rb_an (ps.getD 0 0) (Jvm.Cond.methodLinkNest (rb_cn e.1.1) e.1.2 (rb_y e.2.1) RX4) && (rb_at (ps.getD 1 0) (.static (rb_y e.2.1)) && decide (rb_ar e.2.1 = some (rb_na e.2.1))))
  | 4 => decide (e.2.1 < 163) && (rb_an (ps.getD 0 0) (Jvm.Cond.methodLinkNest (rb_cn e.1.1) e.1.2 (rb_y e.2.1) RX4) && (rb_at (ps.getD 1 0) (.instanceMethod (rb_y e.2.1)) && (decide ((rb_y e.2.1).name = "<init>") && (decide (rb_rt e.2.1 = none) && (decide (1 ≤ rb_na e.2.1) && decide (rb_ar e.2.1 = some (rb_na e.2.1 - 1)))))))
  | 5 => rb_at (ps.getD 0 0) (.methodLink (rb_cn e.1.1) e.1.2 Lib.objectInit) && (rb_at (ps.getD 1 0) (.instanceMethod Lib.objectInit) && rb_at (ps.getD 2 0) (.code Lib.objectInit ⟨#[0xb1]⟩ 1 none))
  | _ => rb_at (ps.getD 0 0) (.methodLink (rb_cn e.1.1) e.1.2 arraycopyName) && (rb_at (ps.getD 1 0) (.native arraycopyName) && (rb_at (ps.getD 2 0) (.static arraycopyName) && rb_at (ps.getD 3 0) (.initialized "java/lang/System")))
theorem rb_ioj_iok {e : (Nat × Nat) × (Nat × Nat)} {ps : List Nat} (h : rb_ioj e ps = true) : rb_iok e = true := by
  unfold rb_ioj at h
  unfold rb_iok
  split at h <;> simp only [Bool.and_eq_true] at h ⊢
  · exact ⟨h.1, rb_at_is h.2.1, rb_at_is h.2.2.1, rb_at_is h.2.2.2.1, h.2.2.2.2⟩
  · exact ⟨h.1, rb_at_is h.2.1, rb_at_is h.2.2.1, h.2.2.2⟩
  · exact ⟨h.1, rb_at_is h.2.1, rb_at_is h.2.2.1, h.2.2.2⟩
  · exact ⟨h.1, rb_an_in h.2.1, rb_at_is h.2.2.1, h.2.2.2⟩
  · exact ⟨h.1, rb_an_in h.2.1, rb_at_is h.2.2.1, h.2.2.2⟩
  · exact ⟨rb_at_is h.1, rb_at_is h.2.1, rb_at_is h.2.2⟩
  · exact ⟨rb_at_is h.1, rb_at_is h.2.1, rb_at_is h.2.2.1, rb_at_is h.2.2.2⟩
def rb_moj (k : Nat) (ps : Nat × Nat) : Bool := rb_at ps.1 (.code (rb_y k) (rb_by k) (rb_ml k) (rb_rt k)) && (rb_at ps.2 (.initialized (rb_y k).cls) && (decide ((rb_y k).cls ≠ "java/lang/invoke/MethodHandle") && (decide ((rb_y k).cls ≠ "java/lang/invoke/VarHandle") && (plainFor (rb_y k) && (decide ((rb_y k).cls = rb_cn (rb_ow k)) && (decide (rb_ml k ≤ 16) && decide (rb_in k = true → (rb_y k).name = "<init>")))))))
theorem rb_moj_mok {k : Nat} {ps : Nat × Nat} (h : rb_moj k ps = true) : rb_mok k = true := by
  unfold rb_moj at h
  unfold rb_mok
  rw [Bool.and_eq_true, Bool.and_eq_true] at h ⊢
  exact ⟨rb_at_is h.1, rb_at_is h.2.1, h.2.2⟩
def rb_mps : List (Nat × Nat) := [(50, 37), (58, 38), (64, 39), (74, 39), (154, 40), (174, 41), (189, 38), (193, 39), (197, 38), (201, 38), (221, 37), (225, 40), (229, 40), (233, 38), (237, 39), (240, 43), (247, 37), (250, 37), (253, 37), (256, 37), (260, 39), (265, 37), (269, 37), (273, 38), (277, 37), (281, 39), (287, 37), (290, 37), (293, 37), (297, 38), (301, 38), (306, 38), (310, 38), (313, 37), (317, 38), (320, 37), (324, 38), (332, 38), (335, 37), (339, 37), (343, 38), (347, 38), (351, 38), (355, 38), (361, 38), (365, 37), (369, 38), (374, 38), (378, 38), (382, 38), (386, 38), (389, 37), (393, 38), (396, 45), (403, 38), (406, 37), (409, 37), (413, 43), (416, 37), (420, 37), (425, 37), (429, 38), (433, 38), (437, 38), (441, 38), (445, 38), (449, 38), (453, 38), (457, 38), (461, 38), (465, 37), (470, 37), (474, 40), (478, 37), (484, 38), (488, 38), (492, 37), (496, 37), (502, 38), (506, 37), (511, 37), (516, 37), (521, 37), (524, 37), (528, 37), (532, 37), (536, 38), (540, 37), (545, 38), (551, 37), (555, 37), (559, 38), (563, 38), (568, 37), (572, 37), (576, 37), (580, 37), (585, 42), (590, 42), (594, 42), (623, 42), (626, 42), (630, 42), (634, 42), (637, 42), (641, 42), (645, 42), (649, 42), (653, 42), (657, 42), (661, 42), (665, 42), (669, 42), (673, 42), (676, 42), (680, 42), (684, 42), (691, 42), (695, 42), (699, 42), (703, 42), (707, 42), (711, 42), (715, 42), (718, 42), (722, 42), (726, 42), (730, 42), (734, 42), (739, 42), (743, 42), (747, 42), (751, 42), (755, 42), (759, 42), (763, 42), (767, 42), (771, 42), (775, 42), (779, 42), (783, 42), (787, 42), (791, 42), (795, 42), (799, 42), (803, 42), (807, 42), (811, 42), (815, 42), (819, 42), (823, 42), (827, 42), (831, 42), (835, 42), (839, 42), (843, 42), (847, 42), (851, 42), (855, 42), (859, 42), (863, 42), (866, 42), (870, 42)]
def rb_ips : List (List Nat) := [[155, 52, 53], [158, 57], [226, 228, 0], [230, 231, 232], [175, 52, 53], [177, 57], [65, 52, 53], [282, 258, 259], [283, 72, 73], [238, 239], [241, 243, 242, 44], [59, 52, 53], [62, 63], [71, 72, 73], [234, 235, 236], [190, 191, 192], [194, 195, 196], [198, 199, 200], [370, 271, 272], [302, 258, 259], [298, 299, 300], [438, 439, 440], [356, 239], [357, 279, 280], [303, 304, 305], [311, 312], [314, 315, 316], [318, 319], [321, 322, 323], [329, 330, 331], [333, 334], [344, 345, 346], [352, 353, 354], [358, 359, 360], [560, 561, 562], [375, 376, 377], [379, 380, 381], [390, 391, 392], [394, 395], [387, 388], [400, 401, 402], [404, 405], [407, 408], [546, 384, 385], [430, 431, 432], [434, 435, 436], [442, 443, 444], [446, 447, 448], [450, 451, 452], [454, 455, 456], [458, 459, 460], [51, 52, 53], [56, 57], [152, 153], [172, 173], [186, 187, 188], [222, 223, 224], [248, 249], [251, 252], [254, 255], [257, 258, 259], [261, 72, 73], [270, 271, 272], [278, 279, 280], [288, 289], [291, 292], [294, 295, 296], [307, 308, 309], [340, 341, 342], [348, 349, 350], [366, 367, 368], [371, 372, 373], [383, 384, 385], [421, 330, 331], [426, 427, 428], [466, 195, 196], [471, 472, 473], [479, 435, 436], [480, 439, 440], [481, 482, 483], [485, 486, 487], [497, 304, 305], [498, 459, 460], [499, 500, 501], [507, 388], [512, 319], [517, 312], [522, 523], [533, 534, 535], [541, 231, 232], [542, 543, 544], [547, 455, 456], [552, 554, 1], [573, 575, 2], [556, 557, 558], [564, 561, 562], [411, 412], [410, 405], [414, 415], [586, 52, 53], [587, 589, 3], [591, 593, 4], [624, 625], [670, 672, 10], [681, 683, 12], [689, 690], [752, 754, 23], [712, 714, 16], [760, 762, 25], [764, 766, 26], [748, 750, 22], [696, 698, 13], [756, 758, 24], [744, 746, 21], [627, 629, 5], [635, 636], [638, 640, 6], [650, 652, 7], [662, 664, 8], [666, 668, 9], [674, 675], [677, 679, 11], [704, 706, 14], [708, 710, 15], [716, 717], [719, 721, 17], [723, 725, 18], [727, 729, 19], [735, 701, 702], [740, 742, 20], [780, 782, 27], [784, 786, 28], [796, 798, 29], [800, 802, 30], [820, 822, 31], [836, 838, 32], [840, 842, 33], [844, 846, 34], [852, 854, 35], [864, 865], [48, 49], [583, 584], [218, 219, 220], [620, 621, 622], [244, 245, 246], [631, 632, 633], [262, 263, 264], [642, 643, 644], [266, 267, 268], [646, 647, 648], [274, 275, 276], [654, 655, 656], [284, 285, 286], [658, 659, 660], [336, 337, 338], [692, 693, 694], [362, 363, 364], [700, 701, 702], [417, 418, 419], [731, 732, 733], [422, 423, 424], [736, 737, 738], [462, 463, 464], [768, 769, 770], [467, 468, 469], [772, 773, 774], [475, 476, 477], [776, 777, 778], [489, 490, 491], [788, 789, 790], [493, 494, 495], [792, 793, 794], [503, 504, 505], [804, 805, 806], [508, 509, 510], [808, 809, 810], [513, 514, 515], [812, 813, 814], [518, 519, 520], [816, 817, 818], [525, 526, 527], [824, 825, 826], [529, 530, 531], [828, 829, 830], [537, 538, 539], [832, 833, 834], [548, 549, 550], [848, 849, 850], [565, 566, 567], [856, 857, 858], [569, 570, 571], [860, 861, 862], [577, 578, 579], [867, 868, 869]]
theorem rb_mok_0 : (List.range' 0 41).all (fun k => rb_moj k (rb_mps.getD k (0, 0))) = true := by decide +kernel
theorem rb_mok_41 : (List.range' 41 41).all (fun k => rb_moj k (rb_mps.getD k (0, 0))) = true := by decide +kernel
theorem rb_mok_82 : (List.range' 82 41).all (fun k => rb_moj k (rb_mps.getD k (0, 0))) = true := by decide +kernel
theorem rb_mok_123 : (List.range' 123 40).all (fun k => rb_moj k (rb_mps.getD k (0, 0))) = true := by decide +kernel
theorem rb_mok_all : ∀ k, k < 163 → rb_mok k = true := fun k h => by
  refine rb_moj_mok (ps := rb_mps.getD k (0, 0)) ?_
  by_cases h0 : k < 41
  · exact List.all_eq_true.mp rb_mok_0 k (List.mem_range'_1.mpr ⟨by omega, by omega⟩)
  by_cases h41 : k < 82
  · exact List.all_eq_true.mp rb_mok_41 k (List.mem_range'_1.mpr ⟨by omega, by omega⟩)
  by_cases h82 : k < 123
  · exact List.all_eq_true.mp rb_mok_82 k (List.mem_range'_1.mpr ⟨by omega, by omega⟩)
  by_cases h123 : k < 163
  · exact List.all_eq_true.mp rb_mok_123 k (List.mem_range'_1.mpr ⟨by omega, by omega⟩)
  omega
theorem rb_il_0 : (List.range' 0 41).all (fun i => rb_ioj (rb_il.getD i ((0, 0), (0, 0))) (rb_ips.getD i [])) = true := by decide +kernel
theorem rb_il_41 : (List.range' 41 41).all (fun i => rb_ioj (rb_il.getD i ((0, 0), (0, 0))) (rb_ips.getD i [])) = true := by decide +kernel
theorem rb_il_82 : (List.range' 82 41).all (fun i => rb_ioj (rb_il.getD i ((0, 0), (0, 0))) (rb_ips.getD i [])) = true := by decide +kernel
theorem rb_il_123 : (List.range' 123 41).all (fun i => rb_ioj (rb_il.getD i ((0, 0), (0, 0))) (rb_ips.getD i [])) = true := by decide +kernel
theorem rb_il_164 : (List.range' 164 30).all (fun i => rb_ioj (rb_il.getD i ((0, 0), (0, 0))) (rb_ips.getD i [])) = true := by decide +kernel
theorem rb_il_len : rb_il.length = 194 := by decide +kernel
theorem rb_il_all : ∀ e ∈ rb_il, rb_iok e = true := fun e h => by
  obtain ⟨i, hi⟩ := List.getElem?_of_mem h
  have hl : i < 194 := by rw [← rb_il_len]; exact (List.getElem?_eq_some_iff.mp hi).1
  have he : rb_il.getD i ((0, 0), (0, 0)) = e := by rw [List.getD_eq_getElem?_getD, hi]; rfl
  refine rb_ioj_iok (ps := rb_ips.getD i []) ?_
  have key : ∀ a n, a ≤ i → i < a + n → (List.range' a n).all (fun i => rb_ioj (rb_il.getD i ((0, 0), (0, 0))) (rb_ips.getD i [])) = true → rb_ioj e (rb_ips.getD i []) = true := fun a n h1 h2 h3 => by
    have := List.all_eq_true.mp h3 i (List.mem_range'_1.mpr ⟨h1, h2⟩)
    rw [he] at this
    exact this
  by_cases h0 : i < 41
  · exact key 0 41 (by omega) (by omega) rb_il_0
  by_cases h41 : i < 82
  · exact key 41 41 (by omega) (by omega) rb_il_41
  by_cases h82 : i < 123
  · exact key 82 41 (by omega) (by omega) rb_il_82
  by_cases h123 : i < 164
  · exact key 123 41 (by omega) (by omega) rb_il_123
  by_cases h164 : i < 194
  · exact key 164 30 (by omega) (by omega) rb_il_164
  omega
end
section
/-! THE INTERPRETER AGAINST THE MACHINE, 2: cells -/
def rb_en (ad : Nat → Nat) (cA : ClassId) (o : rb_O) : va_E := match o with
  | .inl (ci, fs) => .inr (ci, fs.map (rb_tr ad))
  | .inr (.inl xs) => .inl (cA, xs.length, .inl (fun j => xs.getD j 0))
  | .inr (.inr rs) => .inl (cA, rs.length, .inr (.inr (.inr (.inr (fun j => (rs.getD j none).map ad)))))
def rb_ws (ad : Nat → Nat) (cA : Nat → ClassId) (M : rb_M) : va_W := M.mapIdx fun i o => (ad i, rb_en ad (cA i) o)
def rb_ot (o : rb_O) : Option FieldType := match o with
  | .inl _ => none
  | .inr (.inl _) => some .int
  | .inr (.inr _) => some (.object RX3)
def rb_KA (D : va_G) (cA : Nat → ClassId) (M : rb_M) (s : State) : Prop := ∀ (i : Nat) (o : rb_O) (ty : FieldType), M[i]? = some o → rb_ot o = some ty → va_K D vwCl [(cA i, ty)] s
def rb_Wd (D : va_G) (ad : Nat → Nat) (cA : Nat → ClassId) (M : rb_M) (A : Nat → Prop) (s : State) (H : Heap) : Prop := va_P D vwCl (rb_ws ad cA M) H ∧ va_D A (rb_ws ad cA M) ∧ rb_KA D cA M s
theorem rb_ws_at {ad : Nat → Nat} {cA : Nat → ClassId} {M : rb_M} {i : Nat} {o : rb_O} (h : M[i]? = some o) : (rb_ws ad cA M)[i]? = some (ad i, rb_en ad (cA i) o) := by
  unfold rb_ws
  rw [List.getElem?_mapIdx, h]
  rfl
theorem rb_ws_set {ad : Nat → Nat} {cA : Nat → ClassId} {M : rb_M} {i : Nat} {o : rb_O} : (rb_ws ad cA M).set i (ad i, rb_en ad (cA i) o) = rb_ws ad cA (M.set i o) := by
  unfold rb_ws
  apply List.ext_getElem?
  intro j
  rw [List.getElem?_mapIdx]
  by_cases h : i = j
  · subst h
    rw [List.getElem?_set_self', List.getElem?_set_self', List.getElem?_mapIdx]
    cases M[i]? <;> rfl
  · rw [List.getElem?_set_ne h, List.getElem?_set_ne h, List.getElem?_mapIdx]
theorem rb_KA_set {D : va_G} {cA : Nat → ClassId} {M : rb_M} {s : State} {i : Nat} {o o' : rb_O} (h : rb_KA D cA M s) (ho : M[i]? = some o) (he : rb_ot o' = rb_ot o) : rb_KA D cA (M.set i o') s := by
  intro j q ty hj hty
  by_cases hij : i = j
  · subst hij
    rw [List.getElem?_set_self', ho] at hj
    have hq : o' = q := Option.some.inj hj
    subst hq
    exact h i o ty ho (he ▸ hty)
  · rw [List.getElem?_set_ne hij] at hj
    exact h j q ty hj hty
def rb_up {α : Type} (f : Nat → α) (i : Nat) (q : α) : Nat → α := fun j => if j = i then q else f j
theorem rb_up_self {α : Type} (f : Nat → α) (i : Nat) (q : α) : rb_up f i q i = q := if_pos rfl
theorem rb_up_ne {α : Type} (f : Nat → α) {i j : Nat} (q : α) (h : j ≠ i) : rb_up f i q j = f j := if_neg h
theorem rb_tr_up {ad : Nat → Nat} {i q : Nat} {v : Value} (h : rb_nr i v = true) : rb_tr (rb_up ad i q) v = rb_tr ad v := by
  cases v <;> try rfl
  rename_i a
  show Value.ref (rb_up ad i q a) = .ref (ad a)
  rw [rb_up_ne]
  simpa [rb_nr] using h
theorem rb_en_up {ad : Nat → Nat} {i q : Nat} {c : ClassId} {o : rb_O} (h : rb_no i o = true) : rb_en (rb_up ad i q) c o = rb_en ad c o := by
  rcases o with ⟨ci, fs⟩ | xs | rs
  · have : fs.map (rb_tr (rb_up ad i q)) = fs.map (rb_tr ad) := List.map_congr_left fun v hv => rb_tr_up (List.all_eq_true.mp h v hv)
    show Sum.inr (ci, fs.map (rb_tr (rb_up ad i q))) = _
    rw [this]; rfl
  · rfl
  · have : (fun j => (rs.getD j none).map (rb_up ad i q)) = fun j => (rs.getD j none).map ad := by
      funext j
      rw [List.getD_eq_getElem?_getD]
      cases hj : rs[j]? with
      | none => rfl
      | some r =>
        cases r with
        | none => rfl
        | some a =>
          have h1 : rb_nr i (rb_rf (some a)) = true := List.all_eq_true.mp h (some a) (List.mem_of_getElem? hj)
          show some (rb_up ad i q a) = some (ad a)
          rw [rb_up_ne]
          simpa [rb_nr, rb_rf] using h1
    show Sum.inl (c, rs.length, Sum.inr (Sum.inr (Sum.inr (Sum.inr (fun j => (rs.getD j none).map (rb_up ad i q)))))) = _
    rw [this]; rfl
theorem rb_ws_new {ad : Nat → Nat} {cA : Nat → ClassId} {M : rb_M} {q : Nat} {c : ClassId} {o : rb_O} (h : M.all (rb_no M.length) = true) : rb_ws (rb_up ad M.length q) (rb_up cA M.length c) (M ++ [o]) = rb_ws ad cA M ++ [(q, rb_en (rb_up ad M.length q) c o)] := by
  unfold rb_ws
  rw [List.mapIdx_append]
  congr 1
  · apply List.ext_getElem?
    intro j
    rw [List.getElem?_mapIdx, List.getElem?_mapIdx]
    cases hj : M[j]? with
    | none => rfl
    | some x =>
      have hl : j < M.length := (List.getElem?_eq_some_iff.mp hj).1
      show some (rb_up ad M.length q j, rb_en (rb_up ad M.length q) (rb_up cA M.length c j) x) = some (ad j, rb_en ad (cA j) x)
      rw [rb_up_ne _ _ (by omega), rb_up_ne _ _ (by omega), rb_en_up (List.all_eq_true.mp h x (List.mem_of_getElem? hj))]
  · show [(rb_up ad M.length q (0 + M.length), rb_en (rb_up ad M.length q) (rb_up cA M.length c (0 + M.length)) o)] = _
    rw [Nat.zero_add, rb_up_self, rb_up_self]
theorem rb_KA_new {D : va_G} {cA : Nat → ClassId} {M : rb_M} {s : State} {c : ClassId} {o : rb_O} (h : rb_KA D cA M s) (ho : ∀ ty, rb_ot o = some ty → va_K D vwCl [(c, ty)] s) : rb_KA D (rb_up cA M.length c) (M ++ [o]) s := by
  intro j q ty hj hty
  by_cases hl : j < M.length
  · rw [List.getElem?_append_left hl] at hj
    rw [rb_up_ne _ _ (by omega)]
    exact h j q ty hj hty
  · rw [List.getElem?_append_right (by omega)] at hj
    have h0 : j - M.length = 0 := by
      cases hz : j - M.length with
      | zero => rfl
      | succ n => rw [hz] at hj; cases hj
    rw [h0] at hj
    have hq : o = q := Option.some.inj hj
    subst hq
    have : j = M.length := by omega
    subst this
    rw [rb_up_self]
    exact ho ty hty
theorem rb_lok_up {k nL i q : Nat} {ad : Nat → Nat} {ls : rb_L} {arr : Array Slot} (h : rb_lok k ad ls arr nL) (hf : ls.all (rb_nl i) = true) : rb_lok k (rb_up ad i q) ls arr nL := by
  refine ⟨h.1, h.2.1, h.2.2.1, fun j v hj => ?_, h.2.2.2.2⟩
  rw [rb_tr_up]
  · exact h.2.2.2.1 j v hj
  · exact List.all_eq_true.mp hf _ (List.mem_of_getElem? hj)
theorem rb_map_up {i q : Nat} {ad : Nat → Nat} {st : List Value} (hf : st.all (rb_nr i) = true) : st.map (rb_tr (rb_up ad i q)) = st.map (rb_tr ad) := List.map_congr_left fun v hv => rb_tr_up (List.all_eq_true.mp hf v hv)
theorem rb_okv_ok {ad : Nat → Nat} {ty : FieldType} {v : Value} (h : rb_okv ty v = true) : narrow ty (rb_tr ad v) = rb_tr ad v ∧ fits ty (rb_tr ad v) = true := by
  cases ty <;> cases v <;> first | (simp [rb_okv] at h; done) | skip
  case boolean.int v =>
    have hv : v = 0 ∨ v = 1 := by simpa [rb_okv] using h
    rcases hv with rfl | rfl
    · exact ⟨rfl, rfl⟩
    · exact ⟨rfl, rfl⟩
  all_goals exact ⟨rfl, rfl⟩
theorem rb_inb_in {j : Int32} {n : Nat} (h : rb_inb j n = true) : vp_in j n := by
  unfold rb_inb at h
  unfold vp_in
  intro hc
  rcases hc with hc | hc
  · simp [hc] at h
  · simp [hc] at h
theorem rb_inb_lt {j : Int32} {n : Nat} (h : rb_inb j n = true) : j.toNatClampNeg < n := by
  have := rb_inb_in h
  unfold vp_in at this
  omega
def rb_agr (ad ad' : Nat → Nat) (a b : Nat) : Prop := ∀ i, (i < a ∨ b ≤ i) → ad' i = ad i
theorem rb_sl_set {M : rb_M} {i : Nat} {o o' : rb_O} (ho : M[i]? = some o) (hs : rb_sz o' = rb_sz o) : rb_sl (M.set i o') = rb_sl M := by
  unfold rb_sl
  congr 1
  apply List.ext_getElem?
  intro j
  rw [List.getElem?_map, List.getElem?_map]
  by_cases h : i = j
  · subst h
    rw [List.getElem?_set_self', ho]
    show some (rb_sz o') = some (rb_sz o)
    rw [hs]
  · rw [List.getElem?_set_ne h]
theorem rb_sl_app (M : rb_M) (o : rb_O) : rb_sl (M ++ [o]) = rb_sl M + rb_sz o := by
  unfold rb_sl
  rw [List.map_append, List.sum_append]
  simp
theorem rb_cat_sum : ∀ (st : List Value), (st.map fun v => v.category).sum ≤ 2 * st.length
  | [] => Nat.zero_le _
  | v :: st => by
    have h1 := rb_cat_sum st
    have h2 : v.category ≤ 2 := by cases v <;> simp [Value.category]
    simp only [List.map_cons, List.sum_cons, List.length_cons]
    omega
theorem rb_cls_at {ci : Nat} (h : ci < 6) : (∀ w ∈ u_ws (rb_cn ci) (rb_tt ci) (rb_nn ci), w ∈ rb_gw) := by
  have h1 := List.all_eq_true.mp rb_us_ok ci (List.mem_range.mpr h)
  exact fun w hw => rb_is_in (List.all_eq_true.mp h1 w hw)
/-- the script: cells that nobody writes -/
def rb_Xs (sc : Option (List Int32)) (ad : Nat → Nat) (A : Nat → Prop) (s : State) (H0 : Heap) : Prop := ∀ xs, sc = some xs → va_X (ad rb_scr) xs.length (fun j => xs.getD j 0) s H0 ∧ ad rb_scr < H0.size ∧ ¬ A (ad rb_scr)
section RBC
variable {p : Program} {l : Launch} {e : Env} {R : Room} {s : State} {m : MethodId} {args : Array Value} {below : List Frame} {meth : Method} {c : Code} {H : Heap} {locs : List Loc} {cells slots : Nat} {Q : State → Prop}
/-- what a frame stands on -/
def rb_cx (p : Program) (R : Room) (s : State) (m : MethodId) (args : Array Value) (meth : Method) (c : Code) (D : va_G) (k : Nat) : Prop :=
  p.tables.exec = Jvm.exec ∧ c.code = rb_by k ∧ c.maxLocals = rb_ml k ∧ s.vm.findClass (rb_cn (rb_ow k)) = some m.cls ∧ (∀ w ∈ rb_gw, w.before args s = true) ∧ (rb_in k = true → meth.name = "<init>") ∧ rb_h k ≤ R.frames ∧ 35 * rb_h k ≤ R.locals ∧ va_K D vwCl [] s ∧ (∀ w ∈ rb_nest, va_Nw w s) ∧ va_AO RX3 s
theorem rb_cells0 {H1 : Heap} {locs1 : List Loc} {g : JFrame} (h : W p l e R s m args below meth c H1 locs1 (cells + 0) (slots + 0) Q g) : W p l e R s m args below meth c H1 locs1 cells slots Q g := h
set_option maxHeartbeats 4000000 in
theorem rb_mem_ok {k pc len : Nat} {D : va_G} {ad : Nat → Nat} {cA : Nat → ClassId} {i : Instr} {ls : rb_L} {st st' : List Value} {M M' : rb_M} {arr : Array Slot} {A : Nat → Prop} {H0 : Heap} {sc : Option (List Int32)} (C : rb_cx p R s m args meth c D k) (hd : decode (rb_by k) pc = .ok (i, len)) (hl : rb_lok k ad ls arr (rb_ml k)) (hW : rb_Wd D ad cA M A s H) (hS : va_S A H0 H locs) (hA : ∀ q, H0.size ≤ q → A q) (hX : rb_Xs sc ad A s H0)
    (h : rb_mem k i len sc ls st M = some (st', M'))
    (hroom : ∀ dc ds, M'.length = M.length + dc → rb_sl M' = rb_sl M + ds → cells + dc ≤ R.cells ∧ slots + ds ≤ R.slots)
    (kk : ∀ (ad' : Nat → Nat) (cA' : Nat → ClassId) (H' : Heap) (locs' : List Loc) (dc ds : Nat), M'.length = M.length + dc → rb_sl M' = rb_sl M + ds → M.length ≤ M'.length → (M'.length ≤ rb_scr ∨ M'.length = M.length) → rb_agr ad ad' M.length M'.length → rb_lok k ad' ls arr (rb_ml k) → rb_Wd D ad' cA' M' A s H' → va_S A H0 H' locs' → W p l e R s m args below meth c H' locs' (cells + dc) (slots + ds) Q (F0 m (pc + len) arr (st'.map (rb_tr ad')))) :
    W p l e R s m args below meth c H locs cells slots Q (F0 m pc arr (st.map (rb_tr ad))) := by
  obtain ⟨hx, hb, hml, hown, hts, hin, hfr, hlo, hK, hNw, hAO⟩ := C
  obtain ⟨hP, hD, hKA⟩ := hW
  have kR : ∀ {v : List Value}, M' = M → st' = v → W p l e R s m args below meth c H locs cells slots Q (F0 m (pc + len) arr (v.map (rb_tr ad))) := by
    intro v e1 e2
    subst e1; subst e2
    exact rb_cells0 (kk ad cA H locs 0 0 rfl rfl (Nat.le_refl _) (Or.inr rfl) (fun _ _ => rfl) hl ⟨hP, hD, hKA⟩ hS)
  have kS : ∀ {a : Nat} {o o' : rb_O} {v : List Value} (H1 : Heap) (locs1 : List Loc), M[a]? = some o → rb_ot o' = rb_ot o → rb_sz o' = rb_sz o → M' = M.set a o' → st' = v → va_P D vwCl ((rb_ws ad cA M).set a (ad a, rb_en ad (cA a) o')) H1 → va_D A ((rb_ws ad cA M).set a (ad a, rb_en ad (cA a) o')) → va_S A H0 H1 locs1 → W p l e R s m args below meth c H1 locs1 cells slots Q (F0 m (pc + len) arr (v.map (rb_tr ad))) := by
    intro a o o' v H1 locs1 ho ht hz e1 e2 hP1 hD1 hS1
    subst e1; subst e2
    rw [rb_ws_set] at hP1 hD1
    have hlen : (M.set a o').length = M.length := List.length_set
    exact rb_cells0 (kk ad cA H1 locs1 0 0 hlen (rb_sl_set ho hz) (by rw [hlen]; exact Nat.le_refl _) (Or.inr hlen) (fun _ _ => rfl) hl ⟨hP1, hD1, rb_KA_set hKA ho ht⟩ hS1)
  have kN : ∀ {o : rb_O} {cA1 : ClassId} {q : Nat} {v : List Value} {e0 : va_E} (H1 : Heap), M' = M ++ [o] → st' = .ref M.length :: v → M.length < rb_scr → rb_fresh M.length ls v M = true → rb_en (rb_up ad M.length q) cA1 o = e0 → (∀ ty, rb_ot o = some ty → va_K D vwCl [(cA1, ty)] s) → va_P D vwCl (rb_ws ad cA M ++ [(q, e0)]) H1 → va_D A (rb_ws ad cA M ++ [(q, e0)]) → va_S A H0 H1 locs → W p l e R s m args below meth c H1 locs (cells + 1) (slots + rb_sz o) Q (F0 m (pc + len) arr (.ref q :: v.map (rb_tr ad))) := by
    intro o cA1 q v e0 H1 e1 e2 hlt hf he hk hP1 hD1 hS1
    subst e1; subst e2; subst he
    unfold rb_fresh at hf
    rw [Bool.and_eq_true, Bool.and_eq_true] at hf
    rw [← rb_ws_new hf.2.2] at hP1 hD1
    have hlen : (M ++ [o]).length = M.length + 1 := by simp
    have := kk (rb_up ad M.length q) (rb_up cA M.length cA1) H1 locs 1 (rb_sz o) hlen (rb_sl_app M o) (by rw [hlen]; omega) (Or.inl (by rw [hlen]; omega)) (fun j hj => rb_up_ne _ _ (by rw [hlen] at hj; omega)) (rb_lok_up hl hf.1) ⟨hP1, hD1, rb_KA_new hKA hk⟩ hS1
    rw [List.map_cons, rb_map_up hf.2.1] at this
    have e3 : rb_tr (rb_up ad M.length q) (.ref M.length) = .ref q := by show Value.ref (rb_up ad M.length q M.length) = _; rw [rb_up_self]
    rw [e3] at this
    exact this
  have rN : ∀ {o : rb_O}, M' = M ++ [o] → cells + 1 ≤ R.cells ∧ slots + rb_sz o ≤ R.slots := by
    intro o e1
    exact hroom 1 (rb_sz o) (by rw [e1]; simp) (by rw [e1]; exact rb_sl_app M o)
  cases i <;> simp only [rb_mem] at h <;> (try cases h)
  case getfield ix =>
    replace h := rb_ite_inv h; obtain ⟨rfl, h⟩ := h
    split at h
    · rename_i a st0 ci sl hf
      have hfo := List.all_eq_true.mp rb_fl_ok _ (rb_find_mem hf)
      simp only [Bool.and_eq_true, decide_eq_true_eq] at hfo
      split at h
      · rename_i cj fs ho
        replace h := rb_ite_inv h; obtain ⟨rfl, h⟩ := h
        split at h
        · rename_i v hv
          cases h
          refine va_get (D := D) (cl := vwCl) (tys := []) (ci := cj) (v := rb_tr ad v) (C := rb_cn cj) (T := rb_tt cj) (N := rb_nn cj) hx hb hts (rb_cls_at hfo.2.1) hown hK hP a (rb_ws_at ho) (rb_vw cj hfo.2.1) sl hfo.2.2 (hts _ (rb_is_in hfo.1)) (fun _ h9 => h9) (by show (fs.map (rb_tr ad))[sl]? = _; rw [List.getElem?_map, hv]; rfl) hd (kR rfl rfl)
        · cases h
      · cases h
    · cases h
  case putfield ix =>
    replace h := rb_ite_inv h; obtain ⟨rfl, h⟩ := h
    split at h
    · rename_i v a st0 ci sl hf
      have hfo := List.all_eq_true.mp rb_fl_ok _ (rb_find_mem hf)
      simp only [Bool.and_eq_true, decide_eq_true_eq] at hfo
      split at h
      · rename_i cj fs ho
        replace h := rb_ite_inv h; obtain ⟨⟨rfl, hsl, hok, hfi⟩, h⟩ := h
        cases h
        have hnf := rb_okv_ok (ad := ad) hok
        have hty := rb_ft cj hfo.2.1 sl hfo.2.2
        by_cases hfn : rb_fn cj sl = true
        · obtain ⟨h1, h2⟩ := hfi hfn
          refine va_putF (D := D) (cl := vwCl) (tys := []) (ci := cj) (v := rb_tr ad v) (ty := rb_ty cj sl) (C := rb_cn cj) (T := rb_tt cj) (N := rb_nn cj) hx hb hts (rb_cls_at hfo.2.1) (rb_ty cj) (rb_ft cj hfo.2.1) (rb_fnm cj hfo.2.1) hown hK hP hD hS a (rb_ws_at ho) (rb_vw cj hfo.2.1) sl hfo.2.2 (hts _ (rb_is_in hfo.1)) (fun _ h9 => h9) (by rw [rb_fnal cj hfo.2.1]; exact hfn) (hin h1) (by rw [rb_fcl cj hfo.2.1 sl hfo.2.2, h2]) hty hnf.1 hnf.2 (by rw [List.length_map]; exact hsl) hd (fun H1 locs1 hP1 hD1 hS1 => ?_)
          rw [← List.map_set] at hP1 hD1
          exact kS (o := .inl (cj, fs)) (o' := .inl (cj, fs.set sl v)) H1 locs1 ho rfl (by show (fs.set sl v).length = fs.length; exact List.length_set) rfl rfl hP1 hD1 hS1
        · refine va_put (D := D) (cl := vwCl) (tys := []) (ci := cj) (v := rb_tr ad v) (ty := rb_ty cj sl) (C := rb_cn cj) (T := rb_tt cj) (N := rb_nn cj) hx hb hts (rb_cls_at hfo.2.1) (rb_ty cj) (rb_ft cj hfo.2.1) (rb_fnm cj hfo.2.1) hown hK hP hD hS a (rb_ws_at ho) (rb_vw cj hfo.2.1) sl hfo.2.2 (hts _ (rb_is_in hfo.1)) (fun _ h9 => h9) (by rw [rb_fnal cj hfo.2.1]; exact Bool.eq_false_iff.mpr hfn) hty hnf.1 hnf.2 (by rw [List.length_map]; exact hsl) hd (fun H1 locs1 hP1 hD1 hS1 => ?_)
          rw [← List.map_set] at hP1 hD1
          exact kS (o := .inl (cj, fs)) (o' := .inl (cj, fs.set sl v)) H1 locs1 ho rfl (by show (fs.set sl v).length = fs.length; exact List.length_set) rfl rfl hP1 hD1 hS1
      · cases h
    · cases h
  case iaload =>
    replace h := rb_ite_inv h; obtain ⟨rfl, h⟩ := h
    split at h
    · rename_i j a st0
      split at h
      · rename_i xs ho
        replace h := rb_ite_inv h; obtain ⟨hi, h⟩ := h
        cases h
        exact va_iald (D := D) (cl := vwCl) (tys := [(cA a, .int)]) hx hb (hKA a _ .int ho rfl) hP a 0 (rb_ws_at ho) rfl (rb_inb_in hi) hd (kR rfl rfl)
      · cases h
      · replace h := rb_ite_inv h; obtain ⟨rfl, h⟩ := h
        split at h
        · rename_i xs
          replace h := rb_ite_inv h; obtain ⟨hi, h⟩ := h
          cases h
          obtain ⟨x1, x2, x3⟩ := hX xs rfl
          exact va_sld hx hb x1 x2 x3 hS (rb_inb_in hi) hd (kR rfl rfl)
        · cases h
    · cases h
  case iastore =>
    replace h := rb_ite_inv h; obtain ⟨rfl, h⟩ := h
    split at h
    · rename_i x j a st0
      split at h
      · rename_i xs ho
        replace h := rb_ite_inv h; obtain ⟨hi, h⟩ := h
        cases h
        refine va_iast (D := D) (cl := vwCl) (tys := [(cA a, .int)]) hx hb (hKA a _ .int ho rfl) hP hD hS a 0 (rb_ws_at ho) rfl (rb_inb_in hi) hd (fun H1 locs1 hP1 hD1 hS1 => ?_)
        have e1 : (Sum.inl (cA a, xs.length, Sum.inl (upd (fun j => xs.getD j 0) j.toNatClampNeg x)) : va_E) = rb_en ad (cA a) (.inr (.inl (xs.set j.toNatClampNeg x))) := by
          show _ = (Sum.inl (cA a, (xs.set j.toNatClampNeg x).length, Sum.inl (fun i => (xs.set j.toNatClampNeg x).getD i 0)) : va_E)
          rw [List.length_set]
          congr 4
          funext i
          show (if i = j.toNatClampNeg then x else xs.getD i 0) = (xs.set j.toNatClampNeg x).getD i 0
          rw [List.getD_eq_getElem?_getD, List.getD_eq_getElem?_getD]
          by_cases hij : i = j.toNatClampNeg
          · subst hij
            rw [if_pos rfl, List.getElem?_set_self (rb_inb_lt hi)]; rfl
          · rw [if_neg hij, List.getElem?_set_ne (fun q => hij q.symm)]
        rw [e1] at hP1 hD1
        exact kS (o := .inr (.inl xs)) (o' := .inr (.inl (xs.set j.toNatClampNeg x))) H1 locs1 ho rfl (by show (xs.set _ x).length = xs.length; exact List.length_set) rfl rfl hP1 hD1 hS1
      · cases h
    · cases h
  case arraylength =>
    replace h := rb_ite_inv h; obtain ⟨rfl, h⟩ := h
    split at h
    · rename_i a st0
      split at h
      · rename_i xs ho
        cases h
        exact va_alen (D := D) (cl := vwCl) (tys := [(cA a, .int)]) hx hb (hKA a _ .int ho rfl) hP a 0 (rb_ws_at ho) rfl rfl hd (kR rfl rfl)
      · rename_i rs ho
        cases h
        exact va_alen (D := D) (cl := vwCl) (tys := [(cA a, .object RX3)]) hx hb (hKA a _ (.object RX3) ho rfl) hP a 0 (rb_ws_at ho) rfl rfl hd (kR rfl rfl)
      · cases h
      · replace h := rb_ite_inv h; obtain ⟨rfl, h⟩ := h
        split at h
        · rename_i xs
          cases h
          obtain ⟨x1, x2, x3⟩ := hX xs rfl
          exact va_slen hx hb x1 x2 x3 hS hd (kR rfl rfl)
        · cases h
    · cases h
  case aaload =>
    replace h := rb_ite_inv h; obtain ⟨rfl, h⟩ := h
    split at h
    · rename_i j a st0
      split at h
      · rename_i rs ho
        replace h := rb_ite_inv h; obtain ⟨hi, h⟩ := h
        cases h
        refine va_aldq (D := D) (cl := vwCl) (tys := [(cA a, .object RX3)]) hx hb (hKA a _ (.object RX3) ho rfl) hP a 0 (rb_ws_at ho) rfl (rb_inb_in hi) hd ?_
        have e1 : va_rf ((rs.getD j.toNatClampNeg none).map ad) = rb_tr ad (rb_rf (rs.getD j.toNatClampNeg none)) := by cases rs.getD j.toNatClampNeg none <;> rfl
        rw [e1]
        exact kR rfl rfl
      · cases h
    · cases h
  case aastore =>
    replace h := rb_ite_inv h; obtain ⟨rfl, h⟩ := h
    split at h
    · rename_i v j a st0
      split at h
      · rename_i rs ci vs ho hv
        replace h := rb_ite_inv h; obtain ⟨⟨rfl, hi⟩, h⟩ := h
        cases h
        refine va_astq (D := D) (cl := vwCl) (tys := [(cA a, .object RX3)]) (r := (RX3, TX3, 19)) hx hb (hKA a _ (.object RX3) ho rfl) hP hD hS a 0 v 3 (rb_ws_at ho) rfl (rb_ws_at hv) rfl (rb_inb_in hi) hd (fun H1 locs1 hP1 hD1 hS1 => ?_)
        have e1 : (Sum.inl (cA a, rs.length, Sum.inr (Sum.inr (Sum.inr (Sum.inr (va_up (fun j => (rs.getD j none).map ad) j.toNatClampNeg (some (ad v))))))) : va_E) = rb_en ad (cA a) (.inr (.inr (rs.set j.toNatClampNeg (some v)))) := by
          show _ = (Sum.inl (cA a, (rs.set j.toNatClampNeg (some v)).length, Sum.inr (Sum.inr (Sum.inr (Sum.inr (fun i => ((rs.set j.toNatClampNeg (some v)).getD i none).map ad))))) : va_E)
          rw [List.length_set]
          congr 7
          funext i
          show (if i = j.toNatClampNeg then some (ad v) else (rs.getD i none).map ad) = ((rs.set j.toNatClampNeg (some v)).getD i none).map ad
          rw [List.getD_eq_getElem?_getD, List.getD_eq_getElem?_getD]
          by_cases hij : i = j.toNatClampNeg
          · subst hij
            rw [if_pos rfl, List.getElem?_set_self (rb_inb_lt hi)]; rfl
          · rw [if_neg hij, List.getElem?_set_ne (fun q => hij q.symm)]
        rw [e1] at hP1 hD1
        exact kS (o := .inr (.inr rs)) (o' := .inr (.inr (rs.set j.toNatClampNeg (some v)))) H1 locs1 ho rfl (by show (rs.set _ (some v)).length = rs.length; exact List.length_set) rfl rfl hP1 hD1 hS1
      · cases h
    · cases h
  case new ix =>
    replace h := rb_ite_inv h; obtain ⟨rfl, h⟩ := h
    split at h
    · rename_i ci hf
      replace h := rb_ite_inv h; obtain ⟨⟨hci, hlt, hfr2⟩, h⟩ := h
      cases h
      have hfo := List.all_eq_true.mp rb_cl_ok _ (rb_find_mem hf)
      simp only [Bool.and_eq_true, decide_eq_true_eq] at hfo
      have hr := rN rfl
      have hz : rb_sz (.inl (ci, rb_df ci)) = rb_nn ci := rb_dfl ci hci
      rw [hz] at hr
      refine va_new (D := D) (cl := vwCl) (tys := []) (ci := ci) (C := rb_cn ci) (T := rb_tt ci) (N := rb_nn ci) (fs := rb_df ci) hx hb hts (rb_cls_at hci) (rb_ty ci) (rb_ft ci hci) hown (hts _ (rb_is_in hfo.1)) (hts _ (rb_is_in hfo.2.1)) (hts _ (rb_is_in hfo.2.2.1)) hK hP hD hS hA (rb_vw ci hci) (rb_dfv ci hci) hr.1 hr.2 hd (fun q H1 hP1 hD1 hS1 => ?_)
      have := kN (o := .inl (ci, rb_df ci)) (cA1 := 0) (q := q) H1 rfl rfl hlt hfr2 ?_ (fun ty hty => by cases hty) hP1 hD1 hS1
      · rw [hz] at this; exact this
      · have hm : ∀ v ∈ rb_df ci, ∀ f : Nat → Nat, rb_tr f v = v := by
          have : ∀ ci, ci < 6 → (rb_df ci).all (fun v => match v with | .ref _ => false | _ => true) = true := by decide +kernel
          intro v hv f
          have h2 := List.all_eq_true.mp (this ci hci) v hv
          cases v <;> first | rfl | cases h2
        show (Sum.inr (ci, (rb_df ci).map (rb_tr (rb_up ad M.length q))) : va_E) = Sum.inr (ci, rb_df ci)
        rw [List.map_congr_left (g := id) (fun v hv => hm v hv _), List.map_id]
    · cases h
  case newarray ty =>
    replace h := rb_ite_inv h; obtain ⟨⟨rfl, rfl⟩, h⟩ := h
    split at h
    · rename_i n st0
      replace h := rb_ite_inv h; obtain ⟨⟨hn, hN, hlt, hfr2⟩, h⟩ := h
      cases h
      have hr := rN rfl
      have hz : rb_sz (.inr (.inl (List.replicate n.toNatClampNeg 0))) = n.toNatClampNeg := List.length_replicate
      rw [hz] at hr
      refine va_newa (D := D) (cl := vwCl) (tys := []) (atype := .int) (a0 := (n.toNatClampNeg, .inl (fun _ => 0))) hx hb (hts _ (rb_is_in rb_arr_int)) (ty := .int) rfl hK hP hD hS hA (fun _ => rfl) hn rfl (by show n.toNatClampNeg * 4 ≤ _; omega) hr.1 hr.2 hd (fun q cA1 H1 hK1 hP1 hD1 hS1 => ?_)
      have := kN (o := .inr (.inl (List.replicate n.toNatClampNeg 0))) (cA1 := cA1) (q := q) H1 rfl rfl hlt hfr2 ?_ (fun ty hty => by cases hty; exact hK1) hP1 hD1 hS1
      · rw [hz] at this; exact this
      · show (Sum.inl (cA1, (List.replicate n.toNatClampNeg (0 : Int32)).length, Sum.inl (fun j => (List.replicate n.toNatClampNeg (0 : Int32)).getD j 0)) : va_E) = _
        rw [List.length_replicate]
        congr 4
        funext j
        rw [List.getD_eq_getElem?_getD, List.getElem?_replicate]
        split <;> rfl
    · cases h
  case anewarray ix =>
    replace h := rb_ite_inv h; obtain ⟨⟨rfl, hf⟩, h⟩ := h
    split at h
    · rename_i n st0
      replace h := rb_ite_inv h; obtain ⟨⟨hn, hN, hlt, hfr2⟩, h⟩ := h
      cases h
      have hfo := List.all_eq_true.mp rb_cl_ok _ (rb_find_mem hf)
      simp only [Bool.and_eq_true, decide_eq_true_eq] at hfo
      have hr := rN rfl
      have hz : rb_sz (.inr (.inr (List.replicate n.toNatClampNeg none))) = n.toNatClampNeg := List.length_replicate
      rw [hz] at hr
      refine va_newq (D := D) (cl := vwCl) (tys := []) (C := RX3) hx hb hown (hts _ (rb_is_in hfo.1)) hAO hK hP hD hS hA hn rfl (by omega) hr.1 hr.2 hd (fun q cA1 H1 hK1 hP1 hD1 hS1 => ?_)
      have := kN (o := .inr (.inr (List.replicate n.toNatClampNeg none))) (cA1 := cA1) (q := q) H1 rfl rfl hlt hfr2 ?_ (fun ty hty => by cases hty; exact hK1) hP1 hD1 hS1
      · rw [hz] at this; exact this
      · show (Sum.inl (cA1, (List.replicate n.toNatClampNeg (none : Option Nat)).length, Sum.inr (Sum.inr (Sum.inr (Sum.inr (fun j => ((List.replicate n.toNatClampNeg (none : Option Nat)).getD j none).map (rb_up ad M.length q)))))) : va_E) = _
        rw [List.length_replicate]
        congr 7
        funext j
        rw [List.getD_eq_getElem?_getD, List.getElem?_replicate]
        split <;> rfl
    · cases h
  case invokespecial ix =>
    replace h := rb_ite_inv h; obtain ⟨⟨rfl, hf, hh⟩, h⟩ := h
    split at h
    · rename_i a st0
      replace h := rb_ite_inv h; obtain ⟨hst, h⟩ := h
      cases h
      have hio := rb_il_all _ (rb_find_mem hf)
      simp only [rb_iok, Bool.and_eq_true] at hio
      have hsum := rb_cat_sum (st'.map (rb_tr ad))
      rw [List.length_map] at hsum
      exact W.objInit hx hb hown (hts _ (rb_is_in hio.1)) (hts _ (rb_is_in hio.2.1)) (hts _ (rb_is_in hio.2.2)) (g := F0 m pc arr _) rfl (by rw [hml]; exact hl.2.1) rfl hd (by omega) (by show 2 * 0 + _ + 12 ≤ _; omega) (kR rfl rfl)
    · cases h
  case invokestatic ix =>
    replace h := rb_ite_inv h; obtain ⟨⟨rfl, hf, hh⟩, h⟩ := h
    split at h
    · rename_i n dp a sp b st0
      split at h
      · rename_i g f ho ho2
        replace h := rb_ite_inv h; obtain ⟨⟨rfl, rfl, hn, h4, h5, hst⟩, h⟩ := h
        cases h
        have hio := rb_il_all _ (rb_find_mem hf)
        simp only [rb_iok, Bool.and_eq_true] at hio
        have hsum := rb_cat_sum (st'.map (rb_tr ad))
        rw [List.length_map] at hsum
        have hKb := hKA b _ .int ho2 rfl
        have hKa := hKA a _ .int ho rfl
        have e9 : nativeFrameWords "java/lang/System" "arraycopy" 5 = 7 := by decide +kernel
        have hl35 : ((st'.map (rb_tr ad)).map fun v => v.category).sum + (nativeFrameWords "java/lang/System" "arraycopy" 5 + 11) ≤ R.locals := by rw [e9]; omega
        refine va_copyi (sp := 0) (dp := 0) (n := n) (D := D) (cl := vwCl) (tys := [(cA b, .int), (cA a, .int)]) hx hb (by rw [hml]; exact hl.2.1.symm) hown (hts _ (rb_is_in hio.1)) (hts _ (rb_is_in hio.2.1)) (hts _ (rb_is_in hio.2.2.1)) (hts _ (rb_is_in hio.2.2.2)) (hKb.app hKa) hP hD hS b a 0 1 (rb_ws_at ho2) (rb_ws_at ho) rfl rfl rfl (by decide) (by decide) hn (by show 0 + n.toNatClampNeg ≤ f.length; omega) (by show 0 + n.toNatClampNeg ≤ g.length; omega) (fun _ _ => rfl) (show 1 ≤ R.frames by omega) hl35 hd (fun H1 locs1 hP1 hD1 hS1 => ?_)
        have e1 : (Sum.inl (cA a, g.length, Sum.inl (va_cpy (fun j => f.getD j 0) (fun j => g.getD j 0) (Int32.toNatClampNeg 0) (Int32.toNatClampNeg 0) n.toNatClampNeg)) : va_E) = rb_en ad (cA a) (.inr (.inl (f.take n.toNatClampNeg ++ g.drop n.toNatClampNeg))) := by
          show _ = (Sum.inl (cA a, (f.take n.toNatClampNeg ++ g.drop n.toNatClampNeg).length, Sum.inl (fun i => (f.take n.toNatClampNeg ++ g.drop n.toNatClampNeg).getD i 0)) : va_E)
          have e0 : (f.take n.toNatClampNeg ++ g.drop n.toNatClampNeg).length = g.length := by
            rw [List.length_append, List.length_take, List.length_drop]; omega
          rw [e0]
          congr 4
          funext i
          show (if 0 ≤ i ∧ i < 0 + n.toNatClampNeg then f.getD (0 + (i - 0)) 0 else g.getD i 0) = (f.take n.toNatClampNeg ++ g.drop n.toNatClampNeg).getD i 0
          rw [List.getD_eq_getElem?_getD, List.getD_eq_getElem?_getD, List.getD_eq_getElem?_getD]
          by_cases hi : i < n.toNatClampNeg
          · rw [if_pos ⟨Nat.zero_le _, by omega⟩, List.getElem?_append_left (by rw [List.length_take]; omega), List.getElem?_take_of_lt hi, Nat.zero_add, Nat.sub_zero]
          · rw [if_neg (by omega), List.getElem?_append_right (by rw [List.length_take]; omega), List.length_take, List.getElem?_drop]
            congr 2
            omega
        rw [e1] at hP1 hD1
        exact kS (o := .inr (.inl g)) (o' := .inr (.inl (f.take n.toNatClampNeg ++ g.drop n.toNatClampNeg))) H1 locs1 ho rfl (by show (f.take n.toNatClampNeg ++ g.drop n.toNatClampNeg).length = g.length; rw [List.length_append, List.length_take, List.length_drop]; omega) rfl rfl hP1 hD1 hS1
      · cases h
    · cases h
end RBC
end
section
/-! THE INTERPRETER AGAINST THE MACHINE, 3: calls, ends, the whole -/
def rb_Pc (D : va_G) (ad : Nat → Nat) (cA : Nat → ClassId) (M : rb_M) (avs : List Value) (sz : Nat) : Array Value → State → Prop := va_Pc (avs.map (rb_tr ad)) fun U => U.heap.size = sz ∧ va_K D vwCl [] U ∧ (∀ w ∈ rb_nest, va_Nw w U) ∧ va_AO RX3 U ∧ rb_Wd D ad cA M (fun _ => True) U U.heap
def rb_Qc (D : va_G) (ad : Nat → Nat) (M : rb_M) (A : Nat → Prop) (r : Option Value) (M' : rb_M) : Array Value → State → Outcome → State → Prop := fun _ st oc t => (∃ (ad' : Nat → Nat) (cA' : Nat → ClassId), oc = .returned (r.map (rb_tr ad')) ∧ rb_agr ad ad' M.length M'.length ∧ rb_Wd D ad' cA' M' A t t.heap) ∧ va_F A st t
theorem rb_KA_moved {D : va_G} {cA : Nat → ClassId} {M : rb_M} {u U : State} (hvm : u.vm.Alike U.vm) (h : rb_KA D cA M u) : rb_KA D cA M U := fun i o ty hi ht => va_K.moved hvm (h i o ty hi ht)
theorem rb_Pc_blind {D : va_G} {ad : Nat → Nat} {cA : Nat → ClassId} {M : rb_M} {avs : List Value} {sz : Nat} : FrameBlind (rb_Pc D ad cA M avs sz) := by
  intro a U g mk h
  obtain ⟨h1, h2, h3, h4, h5, h6⟩ := h
  have hvm : U.vm.Alike (U.calling g mk a).vm := Vm.Alike.refl U.vm
  refine ⟨h1, h2, va_K.moved hvm h3, fun w hw => ?_, va_AO.moved hvm h5, h6.1, h6.2.1, rb_KA_moved hvm h6.2.2⟩
  have hw2 := (List.mem_filter.mp hw).2
  cases w <;> first | (cases hw2; done) | skip
  exact va_Nw.same rfl rfl (h4 _ hw)
theorem rb_nest_warm {s U : State} (hW : s.WarmedH U.vm) (h : ∀ w ∈ rb_nest, va_Nw w s) : ∀ w ∈ rb_nest, va_Nw w U := by
  intro w hw
  have hw2 := (List.mem_filter.mp hw).2
  cases w <;> first | (cases hw2; done) | skip
  exact va_Nw.warmM hW (h _ hw)
theorem rb_gw_good {k : Nat} (h : rb_is (.code (rb_y k) (rb_by k) (rb_ml k) (rb_rt k)) = true) : GoodIn rb_gw (rb_ws0 k) := by
  intro w hw
  rcases List.mem_cons.mp hw with rfl | hw
  · have h2 := rb_is_in h
    exact ⟨h2, good_of_word (List.mem_filter.mp h2).2⟩
  · exact ⟨hw, good_of_word (List.mem_filter.mp hw).2⟩
/-- a method's contract out of its body's walk, by its own name -/
theorem rb_ofWF {l : Launch} {y : MethodName} {ws ws' : List Jvm.Cond} {rm : Room} {Pc : Array Value → State → Prop} {Qc : Array Value → State → Outcome → State → Prop} {mc ms : Nat} {free : Addr → Prop} {cc : ByteArray} {maxL : Nat} {ret : Option FieldType}
    (hy : plainFor y = true) (hw : ws = Jvm.Cond.code y cc maxL ret :: ws')
    (body : ∀ p e s m args below meth c s₁, BodyLoose p l y (headSpec ws rm) cc maxL ret e s m args below meth c s₁ → c.maxLocals = maxL → Pc args s →
      W p l e (headSpec ws rm).room s m args below meth c s.heap [] 0 0 (MQ below Qc args s mc ms free) (entryFrame m args maxL)) : Met l y ws rm Pc Qc mc ms free := by
  refine MetFree.of_bodySF (code := cc) (maxLocals := maxL) (ret := ret) hy ?_ ?_
  · intro args s m h hn
    obtain ⟨meth, c, h1, h2, h3, h4, h5, h6, -, -⟩ := Cond.code_spec hn (atoms_spec (ws := ws) h _ (by rw [hw]; exact List.mem_cons_self))
    exact ⟨meth, c, h1, h2, h3, h4, h5, h6⟩
  · intro p e s m args below meth c s₁ B hml hP _
    have hh0 : s₁.heap = s.heap := by rw [B.state]; rfl
    obtain ⟨t, a1, o, b1, b2, b3⟩ := body p e s m args below meth c s₁ B hml hP s₁ hh0 (Stand.of_body B)
    exact ⟨t, o, a1, b1, b2, ⟨b3.1, b3.2⟩⟩
theorem rb_args_mem : ∀ (vs : List Value) (j i : Nat) (v : Value), (∀ u ∈ vs, u.category = 1) → vs[i]? = some v → (j + i, v) ∈ lv_args j vs
  | [], _, _, _, _, h => by cases h
  | u :: vs, j, 0, v, hc, h => by
    have hu : u = v := Option.some.inj h
    subst hu
    rw [Nat.add_zero]
    exact List.mem_cons_self
  | u :: vs, j, i + 1, v, hc, h => by
    have h1 : ¬ u.category = 2 := by rw [hc u List.mem_cons_self]; decide
    have := rb_args_mem vs (j + 1) i v (fun w hw => hc w (List.mem_cons_of_mem _ hw)) h
    show (j + (i + 1), v) ∈ (j, u) :: lv_args (if u.category = 2 then j + 2 else j + 1) vs
    rw [if_neg h1, show j + (i + 1) = j + 1 + i by omega]
    exact List.mem_cons_of_mem _ this
theorem rb_sl_len : ∀ (vs : List Value), (∀ u ∈ vs, u.category = 1) → (lg_sl vs).length = vs.length
  | [], _ => rfl
  | u :: vs, hc => by
    have h1 : ¬ u.category = 2 := by rw [hc u List.mem_cons_self]; decide
    have := rb_sl_len vs (fun w hw => hc w (List.mem_cons_of_mem _ hw))
    show ((if u.category = 2 then [Slot.val u, Slot.second] else [Slot.val u]) ++ lg_sl vs).length = vs.length + 1
    rw [if_neg h1, List.length_append, this]
    show 1 + vs.length = _
    omega
theorem rb_lok_ent {k : Nat} {ad : Nat → Nat} {avs : List Value} (hc : ∀ u ∈ avs, u.category = 1) (hl : avs.length ≤ rb_ml k) : rb_lok k ad (rb_ent k avs) ((lg_sl (avs.map (rb_tr ad)) ++ List.replicate (rb_ml k - (lg_sl (avs.map (rb_tr ad))).length) Slot.unset).toArray) (rb_ml k) := by
  have hc' : ∀ u ∈ avs.map (rb_tr ad), u.category = 1 := by
    intro u hu
    obtain ⟨v, hv, rfl⟩ := List.mem_map.mp hu
    rw [rb_tr_cat]; exact hc v hv
  have hlen : (lg_sl (avs.map (rb_tr ad))).length = avs.length := by rw [rb_sl_len _ hc', List.length_map]
  have hv := lv_entry (avs.map (rb_tr ad)) (n := rb_ml k) (by rw [hlen]; exact hl)
  have key : ∀ (i : Nat) (v : Value), (rb_ent k avs)[i]? = some (some v) → avs[i]? = some v := by
    intro i v hi
    unfold rb_ent at hi
    by_cases h : i < avs.length
    · rw [List.getElem?_append_left (by rw [List.length_map]; exact h), List.getElem?_map] at hi
      cases hq : avs[i]? with
      | none => rw [hq] at hi; cases hi
      | some w => rw [hq] at hi; cases hi; rfl
    · rw [List.getElem?_append_right (by rw [List.length_map]; omega), List.getElem?_replicate] at hi
      split at hi
      · cases hi
      · cases hi
  refine ⟨?_, hv.1, hv.2.1, fun i v hi => ?_, fun i v hi h2 => ?_⟩
  · unfold rb_ent
    rw [List.length_append, List.length_map, List.length_replicate]; omega
  · have h1 := key i v hi
    have h2 := rb_args_mem (avs.map (rb_tr ad)) 0 i (rb_tr ad v) hc' (by rw [List.getElem?_map, h1]; rfl)
    rw [Nat.zero_add] at h2
    exact hv.2.2 (i, rb_tr ad v) h2
  · have h1 := key i v hi
    rw [hc v (List.mem_of_getElem? h1)] at h2; cases h2
theorem rb_agr_trans {ad ad1 ad2 : Nat → Nat} {a b c : Nat} (h1 : rb_agr ad ad1 a b) (h2 : rb_agr ad1 ad2 b c) (hab : a ≤ b) (hbc : b ≤ c) : rb_agr ad ad2 a c := by
  intro i hi
  rcases hi with hi | hi
  · rw [h2 i (Or.inl (by omega)), h1 i (Or.inl hi)]
  · rw [h2 i (Or.inr hi), h1 i (Or.inr (by omega))]
theorem rb_tr_out {ad ad1 : Nat → Nat} {a b : Nat} {v : Value} (h : rb_agr ad ad1 a b) (ho : rb_out a b v = true) : rb_tr ad1 v = rb_tr ad v := by
  cases v <;> try rfl
  rename_i i
  show Value.ref (ad1 i) = .ref (ad i)
  rw [h i (by simpa [rb_out] using ho)]
theorem rb_lok_out {k nL a b : Nat} {ad ad1 : Nat → Nat} {ls : rb_L} {arr : Array Slot} (hl : rb_lok k ad ls arr nL) (h : rb_agr ad ad1 a b) (ho : ls.all (rb_outl a b) = true) : rb_lok k ad1 ls arr nL := by
  refine ⟨hl.1, hl.2.1, hl.2.2.1, fun i v hi => ?_, hl.2.2.2.2⟩
  have h1 : rb_outl a b (some v) = true := List.all_eq_true.mp ho _ (List.mem_of_getElem? hi)
  rw [rb_tr_out h h1]
  exact hl.2.2.2.1 i v hi
theorem rb_map_out {a b : Nat} {ad ad1 : Nat → Nat} {st : List Value} (h : rb_agr ad ad1 a b) (ho : st.all (rb_out a b) = true) : st.map (rb_tr ad1) = st.map (rb_tr ad) := List.map_congr_left fun v hv => rb_tr_out h (List.all_eq_true.mp ho v hv)
theorem rb_agr_all {ad ad1 : Nat → Nat} {a : Nat} (h : rb_agr ad ad1 a a) : ad1 = ad := by
  funext i
  exact h i (by omega)
/-- cells only come -/
theorem rb_mem_len {k len : Nat} {i : Instr} {sc : Option (List Int32)} {ls : rb_L} {st st' : List Value} {M M' : rb_M} (h : rb_mem k i len sc ls st M = some (st', M')) : (M'.length = M.length ∧ rb_sl M' = rb_sl M) ∨ (M'.length = M.length + 1 ∧ rb_sl M ≤ rb_sl M' ∧ M'.length ≤ rb_scr) := by
  have same : ∀ {a b : List Value} {N : rb_M}, some (a, N) = some (b, M') → N = M → (M'.length = M.length ∧ rb_sl M' = rb_sl M) ∨ (M'.length = M.length + 1 ∧ rb_sl M ≤ rb_sl M' ∧ M'.length ≤ rb_scr) := by
    intro a b N h1 h2; cases h1; subst h2; exact Or.inl ⟨rfl, rfl⟩
  have put : ∀ {a b : List Value} {q : Nat} {o o' : rb_O}, some (a, M.set q o') = some (b, M') → M[q]? = some o → rb_sz o' = rb_sz o → (M'.length = M.length ∧ rb_sl M' = rb_sl M) ∨ (M'.length = M.length + 1 ∧ rb_sl M ≤ rb_sl M' ∧ M'.length ≤ rb_scr) := by
    intro a b q o o' h1 h2 h3; cases h1; exact Or.inl ⟨List.length_set, rb_sl_set h2 h3⟩
  have new : ∀ {a b : List Value} {o : rb_O}, some (a, M ++ [o]) = some (b, M') → M.length < rb_scr → (M'.length = M.length ∧ rb_sl M' = rb_sl M) ∨ (M'.length = M.length + 1 ∧ rb_sl M ≤ rb_sl M' ∧ M'.length ≤ rb_scr) := by
    intro a b o h1 h2; cases h1; exact Or.inr ⟨by simp, by rw [rb_sl_app]; omega, by simp; omega⟩
  cases i <;> simp only [rb_mem] at h <;> (try cases h) <;> (replace h := rb_ite_inv h) <;> (obtain ⟨h0, h⟩ := h)
  case getfield ix =>
    split at h
    · split at h
      · replace h := rb_ite_inv h; obtain ⟨h1, h⟩ := h
        split at h
        · exact same h rfl
        · cases h
      · cases h
    · cases h
  case putfield ix =>
    split at h
    · split at h
      · rename_i ho
        replace h := rb_ite_inv h; obtain ⟨h1, h⟩ := h
        exact put h ho (by show (List.set _ _ _).length = _; exact List.length_set)
      · cases h
    · cases h
  case iaload =>
    split at h
    · split at h
      · replace h := rb_ite_inv h; obtain ⟨h1, h⟩ := h
        exact same h rfl
      · cases h
      · replace h := rb_ite_inv h; obtain ⟨h1, h⟩ := h
        split at h
        · replace h := rb_ite_inv h; obtain ⟨h2, h⟩ := h
          exact same h rfl
        · cases h
    · cases h
  case iastore =>
    split at h
    · split at h
      · rename_i ho
        replace h := rb_ite_inv h; obtain ⟨h1, h⟩ := h
        exact put h ho (by show (List.set _ _ _).length = _; exact List.length_set)
      · cases h
    · cases h
  case arraylength =>
    split at h
    · split at h
      · exact same h rfl
      · exact same h rfl
      · cases h
      · replace h := rb_ite_inv h; obtain ⟨h1, h⟩ := h
        split at h
        · exact same h rfl
        · cases h
    · cases h
  case aaload =>
    split at h
    · split at h
      · replace h := rb_ite_inv h; obtain ⟨h1, h⟩ := h
        exact same h rfl
      · cases h
    · cases h
  case aastore =>
    split at h
    · split at h
      · rename_i ho hv
        replace h := rb_ite_inv h; obtain ⟨h1, h⟩ := h
        exact put h ho (by show (List.set _ _ _).length = _; exact List.length_set)
      · cases h
    · cases h
  case new ix =>
    split at h
    · replace h := rb_ite_inv h; obtain ⟨h1, h⟩ := h
      exact new h h1.2.1
    · cases h
  case newarray ty =>
    split at h
    · replace h := rb_ite_inv h; obtain ⟨h1, h⟩ := h
      exact new h h1.2.2.1
    · cases h
  case anewarray ix =>
    split at h
    · replace h := rb_ite_inv h; obtain ⟨h1, h⟩ := h
      exact new h h1.2.2.1
    · cases h
  case invokespecial ix =>
    split at h
    · replace h := rb_ite_inv h; obtain ⟨h1, h⟩ := h
      exact same h rfl
    · cases h
  case invokestatic ix =>
    split at h
    · split at h
      · rename_i ho ho2
        replace h := rb_ite_inv h; obtain ⟨h1, h⟩ := h
        exact put h ho (by show (_ ++ _ : List Int32).length = List.length _; rw [List.length_append, List.length_take, List.length_drop]; omega)
      · cases h
    · cases h
/-- one step: what the next state is, or what is called -/
theorem rb_ex_inv {n k pc : Nat} {sc : Option (List Int32)} {ls : rb_L} {st : List Value} {M M' : rb_M} {r : Option Value} (h : rb_ex (n + 1) sc k pc ls st M = some (r, M')) : ∃ i len, decode (rb_by k) pc = .ok (i, len) ∧
    ((rb_ki k i = 0 ∧ ∃ pc' ls' st', rb_pure k pc i len ls st = some (pc', ls', st') ∧ rb_ex n sc k pc' ls' st' M = some (r, M')) ∨
     (rb_ki k i = 1 ∧ ∃ st' M1, rb_mem k i len sc ls st M = some (st', M1) ∧ (M1.length = M.length ∨ rb_al k = true) ∧ rb_ex n sc k (pc + len) ls st' M1 = some (r, M')) ∨
     (rb_ki k i = 2 ∧ ∃ k' as rest r1 M1, rb_call k i len st M = some (k', as, rest) ∧ as.length ≤ rb_ml k' ∧ (∀ u ∈ as, u.category = 1) ∧ rb_ex n none k' 0 (rb_ent k' as) [] M = some (r1, M1) ∧ rb_ck k k' ls rest M.length M1.length = true ∧ rb_ex n sc k (pc + 3) ls (r1.toList ++ rest) M1 = some (r, M')) ∨
     (rb_ret k i len st = some r ∧ M' = M)) := by
  unfold rb_ex at h
  split at h
  · cases h
  · rename_i i len hdec
    have hd : decode (rb_by k) pc = .ok (i, len) := by
      unfold rb_dec at hdec
      split at hdec
      · rename_i x hx; cases hdec; exact hx
      · cases hdec
    refine ⟨i, len, hd, ?_⟩
    split at h
    · rename_i hk
      split at h
      · rename_i pc' ls' st' hp
        exact Or.inl ⟨hk, pc', ls', st', hp, h⟩
      · cases h
    · rename_i hk
      split at h
      · rename_i st' M1 hp
        replace h := rb_ite_inv h; obtain ⟨h1, h⟩ := h
        exact Or.inr (Or.inl ⟨hk, st', M1, hp, h1, h⟩)
      · cases h
    · rename_i hk
      split at h
      · rename_i k' as rest hp
        replace h := rb_ite_inv h; obtain ⟨h1, h⟩ := h
        split at h
        · rename_i r1 M1 hc
          replace h := rb_ite_inv h; obtain ⟨h2, h⟩ := h
          exact Or.inr (Or.inr (Or.inl ⟨hk, k', as, rest, r1, M1, hp, h1.1, fun u hu => by simpa using List.all_eq_true.mp h1.2 u hu, hc, h2, h⟩))
        · cases h
      · cases h
    · split at h
      · rename_i r1 hp
        cases h
        exact Or.inr (Or.inr (Or.inr ⟨hp, rfl⟩))
      · cases h
theorem rb_mono : ∀ (n : Nat) (sc : Option (List Int32)) (k pc : Nat) (ls : rb_L) (st : List Value) (M M' : rb_M) (r : Option Value), rb_ex n sc k pc ls st M = some (r, M') → M.length ≤ M'.length ∧ rb_sl M ≤ rb_sl M' ∧ (rb_al k = false → M'.length = M.length) ∧ (M'.length ≤ rb_scr ∨ M'.length = M.length)
  | 0, _, _, _, _, _, _, _, _, h => by cases h
  | n + 1, sc, k, pc, ls, st, M, M', r, h => by
    obtain ⟨i, len, -, h⟩ := rb_ex_inv h
    rcases h with ⟨-, pc', ls', st', -, h⟩ | ⟨-, st', M1, hm, ha, h⟩ | ⟨-, k', as, rest, r1, M1, -, -, -, hc, hck, h⟩ | ⟨-, rfl⟩
    · exact rb_mono n _ _ _ _ _ _ _ _ h
    · obtain ⟨h1, h2, h3, h4⟩ := rb_mono n _ _ _ _ _ _ _ _ h
      rcases rb_mem_len hm with ⟨e1, e2⟩ | ⟨e1, e2, e3⟩
      · exact ⟨by omega, by omega, fun q => by rw [h3 q, e1], by omega⟩
      · refine ⟨by omega, by omega, fun q => ?_, by omega⟩
        rcases ha with ha | ha
        · omega
        · rw [q] at ha; cases ha
    · obtain ⟨h1, h2, h3, h4⟩ := rb_mono n _ _ _ _ _ _ _ _ h
      obtain ⟨g1, g2, g3, g4⟩ := rb_mono n _ _ _ _ _ _ _ _ hc
      refine ⟨by omega, by omega, fun q => ?_, by omega⟩
      unfold rb_ck at hck
      rw [q] at hck
      have : rb_al k' = false := by
        cases hq : rb_al k' with
        | false => rfl
        | true => rw [hq] at hck; simp at hck
      rw [h3 q, g3 this]
    · exact ⟨Nat.le_refl _, Nat.le_refl _, fun _ => rfl, Or.inr rfl⟩
theorem rb_ck_use {k k' : Nat} {ls : rb_L} {rest : List Value} {a b : Nat} {ad ad1 : Nat → Nat} {arr : Array Slot} {nL : Nat} (h : rb_ck k k' ls rest a b = true) (hab : rb_al k' = false → b = a) (hg : rb_agr ad ad1 a b) (hl : rb_lok k ad ls arr nL) : rb_lok k ad1 ls arr nL ∧ rest.map (rb_tr ad1) = rest.map (rb_tr ad) := by
  cases hq : rb_al k' with
  | false =>
    have := hab hq
    subst this
    have := rb_agr_all hg
    subst this
    exact ⟨hl, rfl⟩
  | true =>
    unfold rb_ck at h
    rw [hq] at h
    simp only [Bool.not_true, Bool.false_or, Bool.and_eq_true] at h
    exact ⟨rb_lok_out hl hg h.2.1, rb_map_out hg h.2.2⟩
section RBS
variable {p : Program} {l : Launch} {e : Env} {R : Room} {s : State} {m : MethodId} {args : Array Value} {below : List Frame} {meth : Method} {c : Code} {H : Heap} {locs : List Loc} {cells slots : Nat} {Q : State → Prop}
theorem rb_ret_ok {k pc len : Nat} {ad : Nat → Nat} {i : Instr} {st : List Value} {r : Option Value} {arr : Array Slot} {Qc : Array Value → State → Outcome → State → Prop} {free : Addr → Prop} (hx : p.tables.exec = Jvm.exec) (hb : c.code = rb_by k) (hr : meth.sig.returnType = rb_rt k) (hlocks : meth.locks = false) (hd : decode (rb_by k) pc = .ok (i, len)) (h : rb_ret k i len st = some r)
    (hq : ∀ t : State, t.heap = H → s.WarmedH t.vm → Qc args s (.returned (r.map (rb_tr ad))) t) (hf : ∀ q ∈ locs, free q.base) : W p l e R s m args below meth c H locs cells slots (MQ below Qc args s cells slots free) (F0 m pc arr (st.map (rb_tr ad))) := by
  cases i <;> simp only [rb_ret] at h <;> (try cases h) <;> (replace h := rb_ite_inv h) <;> (obtain ⟨rfl, h⟩ := h)
  case ireturn =>
    split at h
    · rename_i v ty hty
      replace h := rb_ite_inv h; obtain ⟨h1, h⟩ := h
      cases h
      exact W.zret hx hb (hr.trans hty) (rb_okv_ok (ad := ad) h1).1 hq hf hd hlocks
    · cases h
  case areturn =>
    split at h
    · rename_i v C hty
      replace h := rb_ite_inv h; obtain ⟨h1, h⟩ := h
      cases h
      refine W.aret hx hb (hr.trans hty) (Or.inl ⟨_, rfl⟩) ?_ hq hf hd hlocks
      cases v <;> first | (cases h1; done) | skip
      · exact Or.inl rfl
      · exact Or.inr ⟨_, rfl⟩
    · cases h
  case freturn =>
    split at h
    · rename_i v hty
      cases h
      exact W.fret hx hb (hr.trans hty) hq hf hd hlocks
    · cases h
  case return_ =>
    split at h
    · rename_i hty
      cases h
      exact W.vret hx hb (hr.trans hty) hq hf hd hlocks
    · cases h
/-- behind a call: the callee's world is the caller's -/
theorem rb_back {D : va_G} {ad : Nat → Nat} {cA : Nat → ClassId} {M M1 : rb_M} {r : Option Value} {A : Nat → Prop} {H0 : Heap} {pc mc ms : Nat} {arr : Array Slot} {st0 rest : List Value} {aa : Array Value} {free : Addr → Prop} (hr : va_Run p l e R s m args below meth c H locs cells slots mc ms (F0 m pc arr st0) rest (rb_Qc D ad M (va_A (rb_ws ad cA M) H.size) r M1 aa) free) (hS : va_S A H0 H locs) (hA : ∀ q, va_A (rb_ws ad cA M) H.size q → A q) (hf : ∀ q, free q → A q)
    (kk : ∀ (ad1 : Nat → Nat) (cA1 : Nat → ClassId) (H1 : Heap) (locs1 : List Loc), rb_agr ad ad1 M.length M1.length → rb_Wd D ad1 cA1 M1 A s H1 → va_S A H0 H1 locs1 → W p l e R s m args below meth c H1 locs1 (cells + mc) (slots + ms) Q (F0 m (pc + 3) arr ((r.map (rb_tr ad1)).toList ++ rest))) : W p l e R s m args below meth c H locs cells slots Q (F0 m pc arr st0) := by
  intro T hT X
  obtain ⟨v, st₀, t, T', L, h0, X', hL, e1, e2, ⟨⟨ad1, cA1, hv, hg, hW⟩, hz, hk⟩, st⟩ := hr T hT X
  cases hv
  rw [h0] at hz hk
  have hvm : s.vm.Alike t.vm := by rw [← e2]; exact X'.warmed.alike
  obtain ⟨t2, a1, b1⟩ := kk ad1 cA1 T'.heap (locs ++ L) hg ⟨by rw [e1]; exact hW.1, hW.2.1.weaken (fun _ q _ h => hA q.1 h), rb_KA_moved hvm.symm hW.2.2⟩
    ⟨Nat.le_trans hS.1 (by rw [e1]; exact hz), fun q h1 h2 => by rw [e1, hk q (Nat.lt_of_lt_of_le h1 hS.1) (fun z => h2 (hA q z))]; exact hS.2.1 q h1 h2, fun q hq => by
      rcases List.mem_append.mp hq with h | h
      · exact hS.2.2 q h
      · exact hf _ (hL q h)⟩ T' rfl X'
  exact ⟨t2, st t2 a1, b1⟩
end RBS
def rb_rm (k : Nat) (M M' : rb_M) : Room := { frames := rb_h k, cells := M'.length - M.length, slots := rb_sl M' - rb_sl M, locals := 35 * rb_h k }
def rb_MetOK (l : Launch) (D : va_G) (n : Nat) : Prop := ∀ (k : Nat) (avs : List Value) (M M' : rb_M) (r : Option Value), k < 163 → (∀ u ∈ avs, u.category = 1) → avs.length ≤ rb_ml k → rb_ex n none k 0 (rb_ent k avs) [] M = some (r, M') → ∀ (ad : Nat → Nat) (cA : Nat → ClassId) (sz : Nat), Met l (rb_y k) (rb_ws0 k) (rb_rm k M M') (rb_Pc D ad cA M avs sz) (rb_Qc D ad M (va_A (rb_ws ad cA M) sz) r M') (M'.length - M.length) (rb_sl M' - rb_sl M) (va_A (rb_ws ad cA M) sz)
def rb_WOK (l : Launch) (D : va_G) (n : Nat) : Prop := ∀ (sc : Option (List Int32)) (k pc : Nat) (ls : rb_L) (st : List Value) (M M' : rb_M) (r : Option Value), rb_ex n sc k pc ls st M = some (r, M') → ∀ (p : Program) (e : Env) (R : Room) (s : State) (m : MethodId) (args : Array Value) (below : List Frame) (meth : Method) (c : Code) (H : Heap) (locs : List Loc) (Q : State → Prop) (ad : Nat → Nat) (cA : Nat → ClassId) (arr : Array Slot) (A : Nat → Prop) (H0 : Heap) (c0 s0 : Nat), rb_cx p R s m args meth c D k → rb_lok k ad ls arr (rb_ml k) → rb_Wd D ad cA M A s H → va_S A H0 H locs → (∀ q, H0.size ≤ q → A q) → rb_Xs sc ad A s H0 → c0 ≤ M.length → s0 ≤ rb_sl M → M'.length - c0 ≤ R.cells → rb_sl M' - s0 ≤ R.slots →
  (∀ (pc' : Nat) (i : Instr) (len : Nat) (st' : List Value) (ad' : Nat → Nat) (cA' : Nat → ClassId) (H' : Heap) (locs' : List Loc) (arr' : Array Slot), decode (rb_by k) pc' = .ok (i, len) → rb_ret k i len st' = some r → rb_agr ad ad' M.length M'.length → rb_Wd D ad' cA' M' A s H' → va_S A H0 H' locs' → W p l e R s m args below meth c H' locs' (M'.length - c0) (rb_sl M' - s0) Q (F0 m pc' arr' (st'.map (rb_tr ad')))) →
  W p l e R s m args below meth c H locs (M.length - c0) (rb_sl M - s0) Q (F0 m pc arr (st.map (rb_tr ad)))
theorem rb_met_of_w {l : Launch} {D : va_G} {n : Nat} (hW : rb_WOK l D n) : rb_MetOK l D n := by
  intro k avs M M' r hk hc hl hex ad cA sz
  have hmok := rb_mok_all k hk
  simp only [rb_mok, Bool.and_eq_true, decide_eq_true_eq] at hmok
  obtain ⟨h1, h2, h3, h4, h5, h6, h7, h8⟩ := hmok
  obtain ⟨m1, m2, m3, m4⟩ := rb_mono n _ _ _ _ _ _ _ _ hex
  refine rb_ofWF (cc := rb_by k) (maxL := rb_ml k) (ret := rb_rt k) h5 rfl ?_
  intro p e s m args below meth c s₁ B hml hv
  obtain ⟨rfl, hsz, hK, hNw, hAO, hWd⟩ := hv
  have hts0 := atoms_spec (ws := rb_ws0 k) B.pre
  have hts : ∀ w ∈ rb_gw, w.before _ s = true := fun w hw => hts0 w (List.mem_cons_of_mem _ hw)
  have hown : s.vm.findClass (rb_cn (rb_ow k)) = some m.cls := by rw [← h6]; exact findClass_of_methodNamed B.named
  have hin : rb_in k = true → meth.name = "<init>" := fun q => by
    have h9 := h8 q
    rw [(name_of_methodNamed B.named B.method).1]; exact h9
  have hcx : rb_cx p (rb_rm k M M') s m _ meth c D k := ⟨B.exec, B.bytes, hml, hown, hts, hin, Nat.le_refl _, Nat.le_refl _, hK, hNw, hAO⟩
  rw [lg_entry_eq]
  subst hsz
  have hD := hWd.2.1.self (sz := s.heap.size)
  have := hW none k 0 (rb_ent k avs) [] M M' r hex p e (rb_rm k M M') s m _ below meth c s.heap [] (MQ below (rb_Qc D ad M (va_A (rb_ws ad cA M) s.heap.size) r M') (avs.map (rb_tr ad)).toArray s (M'.length - M.length) (rb_sl M' - rb_sl M) (va_A (rb_ws ad cA M) s.heap.size)) ad cA _ (va_A (rb_ws ad cA M) s.heap.size) s.heap M.length (rb_sl M) hcx (rb_lok_ent hc hl) ⟨hWd.1, hD, hWd.2.2⟩ va_S.rf (fun q h => Or.inr h) (fun xs h => by cases h) (Nat.le_refl _) (Nat.le_refl _) (Nat.le_refl _) (Nat.le_refl _) ?_
  · rw [Nat.sub_self, Nat.sub_self] at this
    exact this
  · intro pc' i len st' ad' cA' H' locs' arr' hd hr hg hWd' hS'
    exact rb_ret_ok B.exec B.bytes B.returns B.notSynchronized hd hr (fun t ht hW2 => ⟨⟨ad', cA', rfl, hg, by rw [ht]; exact hWd'.1, hWd'.2.1, rb_KA_moved hW2.alike hWd'.2.2⟩, hS'.F ht⟩) hS'.2.2
theorem rb_call_inv {k k' len : Nat} {i : Instr} {st as rest : List Value} {M : rb_M} (h : rb_call k i len st M = some (k', as, rest)) : len = 3 ∧ rb_h k' < rb_h k ∧ rest.length ≤ 4 ∧ st = as.reverse ++ rest ∧ as.length = rb_na k' ∧
    ((∃ ix a as0 ci fs, i = .invokevirtual ix ∧ rb_find rb_il (rb_ow k) ix = some (k', 0) ∧ as = .ref a :: as0 ∧ M[a]? = some (.inl (ci, fs)) ∧ ci = rb_ow k' ∧ ci < 6) ∨
     (∃ ix kd, i = .invokestatic ix ∧ rb_find rb_il (rb_ow k) ix = some (k', kd) ∧ (kd = 1 ∨ kd = 3)) ∨
     (∃ ix kd a as0, i = .invokespecial ix ∧ rb_find rb_il (rb_ow k) ix = some (k', kd) ∧ (kd = 2 ∨ kd = 4) ∧ as = .ref a :: as0)) := by
  have hst : ∀ {n : Nat} {z : List Value}, (st.take n).reverse = z → st = z.reverse ++ st.drop n := by
    intro n z hz; rw [← hz, List.reverse_reverse, List.take_append_drop]
  have hln : ∀ {n : Nat} {z : List Value}, n ≤ st.length → (st.take n).reverse = z → z.length = n := by
    intro n z h1 hz; rw [← hz, List.length_reverse, List.length_take]; omega
  cases i <;> simp only [rb_call] at h <;> (try cases h) <;> (replace h := rb_ite_inv h) <;> (obtain ⟨h0, h⟩ := h)
  case invokevirtual ix =>
    split at h
    · rename_i k2 kd hf
      replace h := rb_ite_inv h; obtain ⟨⟨rfl, h2, h3, h4⟩, h⟩ := h
      split at h
      · rename_i a as0 hz
        split at h
        · rename_i ci fs ho
          replace h := rb_ite_inv h; obtain ⟨h5, h⟩ := h
          cases h
          exact ⟨h0, h2, h3, hst hz, hln h4 hz, Or.inl ⟨ix, a, as0, ci, fs, rfl, hf, rfl, ho, h5.1, h5.2⟩⟩
        · cases h
      · cases h
    · cases h
  case invokestatic ix =>
    split at h
    · rename_i k2 kd hf
      replace h := rb_ite_inv h; obtain ⟨⟨h1, h2, h3, h4⟩, h⟩ := h
      cases h
      exact ⟨h0, h2, h3, hst rfl, hln h4 rfl, Or.inr (Or.inl ⟨ix, kd, rfl, hf, h1⟩)⟩
    · cases h
  case invokespecial ix =>
    split at h
    · rename_i k2 kd hf
      replace h := rb_ite_inv h; obtain ⟨⟨h1, h2, h3, h4⟩, h⟩ := h
      split at h
      · rename_i a as0 hz
        cases h
        exact ⟨h0, h2, h3, hst hz, hln h4 hz, Or.inr (Or.inr ⟨ix, kd, a, as0, rfl, hf, h1, rfl⟩)⟩
      · cases h
    · cases h
theorem rb_Xs_agr {sc : Option (List Int32)} {ad ad' : Nat → Nat} {A : Nat → Prop} {s : State} {H0 : Heap} {a b : Nat} (hX : rb_Xs sc ad A s H0) (hg : rb_agr ad ad' a b) (hb : b ≤ rb_scr ∨ b = a) : rb_Xs sc ad' A s H0 := by
  have h1 : ad' rb_scr = ad rb_scr := hg rb_scr (by omega)
  intro xs hxs
  rw [h1]
  exact hX xs hxs
set_option maxHeartbeats 4000000 in
theorem rb_w_step {l : Launch} {D : va_G} {n : Nat} (hW : rb_WOK l D n) : rb_WOK l D (n + 1) := by
  have hM := rb_met_of_w hW
  intro sc k pc ls st M M' r hex p e R s m args below meth c H locs Q ad cA arr A H0 c0 s0 C hl hWd hS hA hX hc0 hs0 hrc hrs hend
  obtain ⟨i, len, hd, h⟩ := rb_ex_inv hex
  have C' := C
  obtain ⟨hx, hb, hml, hown, hts, hin, hfr, hlo, hK, hNw, hAO⟩ := C'
  rcases h with ⟨-, pc', ls', st', hp, h⟩ | ⟨-, st', M1, hm, ha, h⟩ | ⟨-, k', as, rest, r1, M1, hcall, hal, hac, hcx, hck, h⟩ | ⟨hr, rfl⟩
  · exact rb_pure_ok hx hb hown hts hd hl hp (fun arr' hl' => hW sc k pc' ls' st' M M' r h p e R s m args below meth c H locs Q ad cA arr' A H0 c0 s0 C hl' hWd hS hA hX hc0 hs0 hrc hrs hend)
  · obtain ⟨m1, m2, m3, m4⟩ := rb_mono n _ _ _ _ _ _ _ _ h
    refine rb_mem_ok C hd hl hWd hS hA hX hm (fun dc ds e1 e2 => ⟨by omega, by omega⟩) (fun ad' cA' H' locs' dc ds e1 e2 e3 e4 hg hl' hWd' hS' => ?_)
    have := hW sc k (pc + len) ls st' M1 M' r h p e R s m args below meth c H' locs' Q ad' cA' arr A H0 c0 s0 C hl' hWd' hS' hA (rb_Xs_agr hX hg e4) (by omega) (by omega) hrc hrs (fun pc2 i2 len2 st2 ad2 cA2 H2 locs2 arr2 q1 q2 q3 q4 q5 => hend pc2 i2 len2 st2 ad2 cA2 H2 locs2 arr2 q1 q2 (rb_agr_trans hg q3 e3 m1) q4 q5)
    rw [show M1.length - c0 = M.length - c0 + dc by omega, show rb_sl M1 - s0 = rb_sl M - s0 + ds by omega] at this
    exact this
  · obtain ⟨m1, m2, m3, m4⟩ := rb_mono n _ _ _ _ _ _ _ _ h
    obtain ⟨g1, g2, g3, g4⟩ := rb_mono n _ _ _ _ _ _ _ _ hcx
    obtain ⟨rfl, hht, hrl, hst, hln, hkind⟩ := rb_call_inv hcall
    have hPre : ∀ U : State, U.heap = H → s.WarmedH U.vm → rb_Pc D ad cA M as H.size (as.map (rb_tr ad)).toArray U := fun U hU hWm => ⟨rfl, by rw [hU], va_K.moved hWm.alike hK, rb_nest_warm hWm hNw, va_AO.moved hWm.alike hAO, by rw [hU]; exact hWd.1, hWd.2.1.weaken (fun _ _ _ _ => trivial), rb_KA_moved hWm.alike hWd.2.2⟩
    have hfix : CallFix p m c (rb_by k) (rb_ml k) s args rb_gw (rb_cn (rb_ow k)) := ⟨hx, hb, hml, hown, hts⟩
    have hsum : 2 * (F0 m pc arr (st.map (rb_tr ad))).monitorRoom + ((rest.map (rb_tr ad)).map fun v => v.category).sum ≤ 8 := by
      have := rb_cat_sum (rest.map (rb_tr ad))
      rw [List.length_map] at this
      exact lv_room (by omega)
    have hroom : (M.length - c0) + (M1.length - M.length) ≤ R.cells ∧ (rb_sl M - s0) + (rb_sl M1 - rb_sl M) ≤ R.slots := ⟨by omega, by omega⟩
    have hR : rb_h k' + 1 ≤ R.frames := by omega
    have hA1 : ∀ q, va_A (rb_ws ad cA M) H.size q → A q := by
      intro q hq
      rcases hq with ⟨j, e0, hq⟩ | hq
      · exact hWd.2.1.2 j _ hq
      · exact hA q (Nat.le_trans hS.1 hq)
    have fin : k' < 163 → (∀ hMet : Met l (rb_y k') (rb_ws0 k') (rb_rm k' M M1) (rb_Pc D ad cA M as H.size) (rb_Qc D ad M (va_A (rb_ws ad cA M) H.size) r1 M1) (M1.length - M.length) (rb_sl M1 - rb_sl M) (va_A (rb_ws ad cA M) H.size), va_Run p l e R s m args below meth c H locs (M.length - c0) (rb_sl M - s0) (M1.length - M.length) (rb_sl M1 - rb_sl M) (F0 m pc arr (st.map (rb_tr ad))) (rest.map (rb_tr ad)) (rb_Qc D ad M (va_A (rb_ws ad cA M) H.size) r1 M1 (as.map (rb_tr ad)).toArray) (va_A (rb_ws ad cA M) H.size)) → W p l e R s m args below meth c H locs (M.length - c0) (rb_sl M - s0) Q (F0 m pc arr (st.map (rb_tr ad))) := by
      intro hk' hrun
      refine rb_back (hrun (hM k' as M M1 r1 hk' hac hal hcx ad cA H.size)) hS hA1 hA1 (fun ad1 cA1 H1 locs1 hg hWd1 hS1 => ?_)
      obtain ⟨hl1, hr1⟩ := rb_ck_use hck g3 hg hl
      have := hW sc k (pc + 3) ls (r1.toList ++ rest) M1 M' r h p e R s m args below meth c H1 locs1 Q ad1 cA1 arr A H0 c0 s0 C hl1 hWd1 hS1 hA (rb_Xs_agr hX hg g4) (by omega) (by omega) hrc hrs (fun pc2 i2 len2 st2 ad2 cA2 H2 locs2 arr2 q1 q2 q3 q4 q5 => hend pc2 i2 len2 st2 ad2 cA2 H2 locs2 arr2 q1 q2 (rb_agr_trans hg q3 g1 m1) q4 q5)
      rw [show M1.length - c0 = M.length - c0 + (M1.length - M.length) by omega, show rb_sl M1 - s0 = rb_sl M - s0 + (rb_sl M1 - rb_sl M) by omega, List.map_append, hr1] at this
      cases r1 <;> exact this
    have hcb : k' < 163 → ∀ ix, (Jvm.Cond.methodLink (rb_cn (rb_ow k)) ix (rb_y k')).before args s = true → ∀ n0, rb_ar k' = some n0 → CallB R s args (rb_cn (rb_ow k)) ix (rb_y k') (rb_by k') (rb_ml k') (rb_rt k') (rb_ws0 k') (rb_rm k' M M1) (M1.length - M.length) (rb_sl M1 - rb_sl M) n0 := by
      intro hk' ix hlink n0 hn0
      have hmok := rb_mok_all k' hk'
      simp only [rb_mok, Bool.and_eq_true, decide_eq_true_eq] at hmok
      obtain ⟨h1, h2, h3, h4, h5, h6, h7, h8⟩ := hmok
      exact callB_of n0 hts (rb_gw_good h1) rfl rfl rfl (hts _ (rb_is_in h2)) hlink ⟨h3, h4, hn0⟩ ⟨hR, by show 8 + (rb_ml k' + 11) + 35 * rb_h k' ≤ R.locals; omega⟩
    have hcn : k' < 163 → ∀ ix, va_Nw (.methodLinkNest (rb_cn (rb_ow k)) ix (rb_y k') RX4) s → ∀ n0, rb_ar k' = some n0 → va_CN R s args (rb_cn (rb_ow k)) ix (rb_y k') RX4 (rb_by k') (rb_ml k') (rb_rt k') (rb_ws0 k') (rb_rm k' M M1) (M1.length - M.length) (rb_sl M1 - rb_sl M) n0 := by
      intro hk' ix hlink n0 hn0
      have hmok := rb_mok_all k' hk'
      simp only [rb_mok, Bool.and_eq_true, decide_eq_true_eq] at hmok
      obtain ⟨h1, h2, h3, h4, h5, h6, h7, h8⟩ := hmok
      exact va_cnB n0 hts (rb_gw_good h1) rfl rfl rfl hlink (hts _ (rb_is_in h2)) ⟨h3, h4, hn0⟩ ⟨hR, by show 8 + (rb_ml k' + 11) + 35 * rb_h k' ≤ R.locals; omega⟩
    rcases hkind with ⟨ix, a, as0, ci, fs, rfl, hf, rfl, ho, rfl, hci⟩ | ⟨ix, kd, rfl, hf, hkd⟩ | ⟨ix, kd, a, as0, rfl, hf, hkd, rfl⟩
    · have hio := rb_il_all _ (rb_find_mem hf)
      simp only [rb_iok, Bool.and_eq_true, decide_eq_true_eq] at hio
      obtain ⟨i1, i2, i3, i4, i5, i6⟩ := hio
      have hmok := rb_mok_all k' i1
      simp only [rb_mok, Bool.and_eq_true, decide_eq_true_eq] at hmok
      have hcls := hmok.2.2.2.2.2.1
      refine fin i1 (fun hMet => ?_)
      have hrec := va_recv hK hWd.1 (rb_vw _ hci) (rb_ws_at ho)
      rw [← hcls] at hrec
      exact va_runV (As := as0.map (rb_tr ad)) (rest := rest.map (rb_tr ad)) (b := ad a) (C := (rb_y k').cls) hfix hMet ⟨hcb i1 ix (hts _ (rb_is_in i2)) (rb_na k' - 1) i6, hts _ (rb_is_in i3), hts _ (rb_is_in i4)⟩ ⟨rb_Pc_blind, hrec, hPre⟩ rfl (by rw [List.length_map]; simp at hln; omega) hl.2.1 (by rw [hst]; simp [rb_tr]) hsum hd hroom
    · have hio := rb_il_all _ (rb_find_mem hf)
      rcases hkd with rfl | rfl
      · simp only [rb_iok, Bool.and_eq_true, decide_eq_true_eq] at hio
        obtain ⟨i1, i2, i3, i4⟩ := hio
        refine fin i1 (fun hMet => ?_)
        exact va_runS (As := as.map (rb_tr ad)) (rest := rest.map (rb_tr ad)) hfix hMet ⟨hcb i1 ix (hts _ (rb_is_in i2)) (rb_na k') i4, hts _ (rb_is_in i3)⟩ ⟨rb_Pc_blind, hPre⟩ rfl (by rw [List.length_map]; exact hln) hl.2.1 (by rw [hst]; simp) hsum hd hroom
      · simp only [rb_iok, Bool.and_eq_true, decide_eq_true_eq] at hio
        obtain ⟨i1, i2, i3, i4⟩ := hio
        refine fin i1 (fun hMet => ?_)
        exact va_runSN (As := as.map (rb_tr ad)) (rest := rest.map (rb_tr ad)) hfix hMet ⟨hcn i1 ix (hNw _ i2) (rb_na k') i4, hts _ (rb_is_in i3), trivial⟩ ⟨rb_Pc_blind, hPre⟩ rfl (by rw [List.length_map]; exact hln) hl.2.1 (by rw [hst]; simp) hsum hd hroom
    · have hio := rb_il_all _ (rb_find_mem hf)
      rcases hkd with rfl | rfl
      · simp only [rb_iok, Bool.and_eq_true, decide_eq_true_eq] at hio
        obtain ⟨i1, i2, i3, i4, i5, i6, i7⟩ := hio
        refine fin i1 (fun hMet => ?_)
        have hcb1 := hcb i1 ix (hts _ (rb_is_in i2)) (rb_na k' - 1) i7
        rw [i5] at hcb1
        exact va_runI (As := as0.map (rb_tr ad)) (rest := rest.map (rb_tr ad)) (b := ad a) hfix hMet ⟨hcb1, i4, hts _ (rb_is_in i3)⟩ ⟨rb_Pc_blind, hPre⟩ rfl (by rw [List.length_map]; simp at hln; omega) hl.2.1 (by rw [hst]; simp [rb_tr]) hsum hd hroom
      · simp only [rb_iok, Bool.and_eq_true, decide_eq_true_eq] at hio
        obtain ⟨i1, i2, i3, i4, i5, i6, i7⟩ := hio
        refine fin i1 (fun hMet => ?_)
        have hcb1 := hcn i1 ix (hNw _ i2) (rb_na k' - 1) i7
        rw [i5] at hcb1
        exact va_runIN (As := as0.map (rb_tr ad)) (rest := rest.map (rb_tr ad)) (b := ad a) hfix hMet ⟨hcb1, i4, hts _ (rb_is_in i3)⟩ ⟨rb_Pc_blind, hPre⟩ rfl (by rw [List.length_map]; simp at hln; omega) hl.2.1 (by rw [hst]; simp [rb_tr]) hsum hd hroom
  · exact hend pc i len st ad cA H locs arr hd hr (fun _ _ => rfl) hWd hS
theorem rb_w_all (l : Launch) (D : va_G) : ∀ n, rb_WOK l D n
  | 0 => fun _ _ _ _ _ _ _ _ h => by cases h
  | n + 1 => rb_w_step (rb_w_all l D n)
end
section
/-! RULES: what a point of the code comes to, said as equivalences -/
def rb_G (sc : Option (List Int32)) (k pc : Nat) (ls : rb_L) (st : List Value) (M : rb_M) (P : Option Value → rb_M → Prop) : Prop := ∃ (n : Nat) (r : Option Value) (M' : rb_M), rb_ex n sc k pc ls st M = some (r, M') ∧ P r M'
theorem rb_fuel1 : ∀ (n : Nat) (sc : Option (List Int32)) (k pc : Nat) (ls : rb_L) (st : List Value) (M : rb_M) (x : Option Value × rb_M), rb_ex n sc k pc ls st M = some x → rb_ex (n + 1) sc k pc ls st M = some x
  | 0, _, _, _, _, _, _, _, h => by cases h
  | n + 1, sc, k, pc, ls, st, M, x, h => by
    unfold rb_ex at h ⊢
    split at h
    · cases h
    · rename_i i len hdec
      split at h
      · split at h
        · exact rb_fuel1 n _ _ _ _ _ _ _ h
        · cases h
      · split at h
        · replace h := rb_ite_inv h; obtain ⟨h1, h⟩ := h
          simp only [if_pos h1]
          exact rb_fuel1 n _ _ _ _ _ _ _ h
        · cases h
      · split at h
        · replace h := rb_ite_inv h; obtain ⟨h1, h⟩ := h
          simp only [if_pos h1]
          split at h
          · rename_i r M1 hc
            replace h := rb_ite_inv h; obtain ⟨h2, h⟩ := h
            rw [rb_fuel1 n _ _ _ _ _ _ _ hc]
            simp only [if_pos h2]
            exact rb_fuel1 n _ _ _ _ _ _ _ h
          · cases h
        · cases h
      · exact h
theorem rb_fuel {n m : Nat} {sc : Option (List Int32)} {k pc : Nat} {ls : rb_L} {st : List Value} {M : rb_M} {x : Option Value × rb_M} (h : rb_ex n sc k pc ls st M = some x) (hm : n ≤ m) : rb_ex m sc k pc ls st M = some x := by
  induction m with
  | zero => cases (by omega : n = 0); exact h
  | succ m ih =>
    by_cases hq : n = m + 1
    · subst hq; exact h
    · exact rb_fuel1 _ _ _ _ _ _ _ _ (ih (by omega))
section RBG
variable {sc : Option (List Int32)} {k pc : Nat} {ls : rb_L} {st : List Value} {M : rb_M} {P : Option Value → rb_M → Prop} {i : Instr} {len : Nat}
theorem rb_dec_of (hd : decode (rb_by k) pc = .ok (i, len)) : rb_dec k pc = some (i, len) := by unfold rb_dec; rw [hd]
theorem rb_G_pure {pc' : Nat} {ls' : rb_L} {st' : List Value} (hd : decode (rb_by k) pc = .ok (i, len)) (hk : rb_ki k i = 0) (hp : rb_pure k pc i len ls st = some (pc', ls', st')) : rb_G sc k pc ls st M P ↔ rb_G sc k pc' ls' st' M P := by
  have e : ∀ n, rb_ex (n + 1) sc k pc ls st M = rb_ex n sc k pc' ls' st' M := by
    intro n
    conv => lhs; unfold rb_ex
    simp only [rb_dec_of hd, hk, hp]
  constructor
  · rintro ⟨n, r, M', h, hP⟩
    cases n with
    | zero => cases h
    | succ n => exact ⟨n, r, M', by rw [← e]; exact h, hP⟩
  · rintro ⟨n, r, M', h, hP⟩
    exact ⟨n + 1, r, M', by rw [e]; exact h, hP⟩
theorem rb_G_mem {st' : List Value} {M1 : rb_M} (hd : decode (rb_by k) pc = .ok (i, len)) (hk : rb_ki k i = 1) (hm : rb_mem k i len sc ls st M = some (st', M1)) (hl : M1.length = M.length ∨ rb_al k = true) : rb_G sc k pc ls st M P ↔ rb_G sc k (pc + len) ls st' M1 P := by
  have e : ∀ n, rb_ex (n + 1) sc k pc ls st M = rb_ex n sc k (pc + len) ls st' M1 := by
    intro n
    conv => lhs; unfold rb_ex
    simp only [rb_dec_of hd, hk, hm, if_pos hl]
  constructor
  · rintro ⟨n, r, M', h, hP⟩
    cases n with
    | zero => cases h
    | succ n => exact ⟨n, r, M', by rw [← e]; exact h, hP⟩
  · rintro ⟨n, r, M', h, hP⟩
    exact ⟨n + 1, r, M', by rw [e]; exact h, hP⟩
theorem rb_G_ret {r : Option Value} (hd : decode (rb_by k) pc = .ok (i, len)) (hk : rb_ki k i = 3) (hr : rb_ret k i len st = some r) : rb_G sc k pc ls st M P ↔ P r M := by
  have e : ∀ n, rb_ex (n + 1) sc k pc ls st M = some (r, M) := by
    intro n
    conv => lhs; unfold rb_ex
    simp only [rb_dec_of hd, hk, hr]
  constructor
  · rintro ⟨n, r1, M', h, hP⟩
    cases n with
    | zero => cases h
    | succ n => rw [e] at h; cases h; exact hP
  · intro h
    exact ⟨1, r, M, e 0, h⟩
theorem rb_G_call {k' : Nat} {as rest : List Value} (hd : decode (rb_by k) pc = .ok (i, len)) (hk : rb_ki k i = 2) (hc : rb_call k i len st M = some (k', as, rest)) (ha : as.length ≤ rb_ml k' ∧ as.all (fun v => v.category == 1) = true) (hal : rb_al k' = false) : rb_G sc k pc ls st M P ↔ rb_G none k' 0 (rb_ent k' as) [] M (fun r1 M1 => rb_G sc k (pc + 3) ls (r1.toList ++ rest) M1 P) := by
  have hck : ∀ b, rb_ck k k' ls rest M.length b = true := by intro b; unfold rb_ck; rw [hal]; rfl
  have e : ∀ n, rb_ex (n + 1) sc k pc ls st M = (match rb_ex n none k' 0 (rb_ent k' as) [] M with
      | some (r, M1) => rb_ex n sc k (pc + 3) ls (r.toList ++ rest) M1
      | none => none) := by
    intro n
    conv => lhs; unfold rb_ex
    simp only [rb_dec_of hd, hk, hc, if_pos ha]
    cases rb_ex n none k' 0 (rb_ent k' as) [] M with
    | none => rfl
    | some x => simp only [if_pos (hck _)]
  constructor
  · rintro ⟨n, r, M', h, hP⟩
    cases n with
    | zero => cases h
    | succ n =>
      rw [e] at h
      split at h
      · rename_i r1 M1 h1
        exact ⟨n, r1, M1, h1, n, r, M', h, hP⟩
      · cases h
  · rintro ⟨n1, r1, M1, h1, n2, r, M', h2, hP⟩
    refine ⟨max n1 n2 + 1, r, M', ?_, hP⟩
    rw [e, rb_fuel h1 (Nat.le_max_left n1 n2)]
    exact rb_fuel h2 (Nat.le_max_right n1 n2)
theorem rb_G_mono {P' : Option Value → rb_M → Prop} (h : rb_G sc k pc ls st M P) (hP : ∀ r M', P r M' → P' r M') : rb_G sc k pc ls st M P' := by
  obtain ⟨n, r, M', h1, h2⟩ := h
  exact ⟨n, r, M', h1, hP r M' h2⟩
theorem rb_G_ite {c : Prop} [Decidable c] {a b : Nat} : rb_G sc k (if c then a else b) ls st M P ↔ if c then rb_G sc k a ls st M P else rb_G sc k b ls st M P := by split <;> exact Iff.rfl
theorem g_iconst {n : Int} {v : Int32} (hd : decode (rb_by k) pc = .ok (.iconst n, 1)) (hv : Int32.ofInt n = v) : rb_G sc k pc ls st M P ↔ rb_G sc k (pc + 1) ls (.int v :: st) M P := by subst hv; exact rb_G_pure hd rfl (by simp [rb_pure])
theorem g_bipush {n : Int} {v : Int32} (hd : decode (rb_by k) pc = .ok (.bipush n, 2)) (hv : (Int8.ofInt n).toInt32 = v) : rb_G sc k pc ls st M P ↔ rb_G sc k (pc + 2) ls (.int v :: st) M P := by subst hv; exact rb_G_pure hd rfl (by simp [rb_pure])
theorem g_sipush {n : Int} {v : Int32} (hd : decode (rb_by k) pc = .ok (.sipush n, 3)) (hv : (Int16.ofInt n).toInt32 = v) : rb_G sc k pc ls st M P ↔ rb_G sc k (pc + 3) ls (.int v :: st) M P := by subst hv; exact rb_G_pure hd rfl (by simp [rb_pure])
theorem g_null (hd : decode (rb_by k) pc = .ok (.aconst_null, 1)) : rb_G sc k pc ls st M P ↔ rb_G sc k (pc + 1) ls (.null :: st) M P := rb_G_pure hd rfl (by simp [rb_pure])
theorem g_fconst (hd : decode (rb_by k) pc = .ok (.fconst 0, 1)) : rb_G sc k pc ls st M P ↔ rb_G sc k (pc + 1) ls (.float 0 :: st) M P := rb_G_pure hd rfl (by simp [rb_pure])
theorem g_ldc {ix : Nat} {v : Int32} (hd : decode (rb_by k) pc = .ok (.ldc ix, 2)) (hf : rb_find rb_kl (rb_ow k) ix = some (.int v)) : rb_G sc k pc ls st M P ↔ rb_G sc k (pc + 2) ls (.int v :: st) M P := rb_G_pure hd rfl (by simp [rb_pure, hf])
theorem g_ldc_w {ix : Nat} {v : Int32} (hd : decode (rb_by k) pc = .ok (.ldc_w ix, 3)) (hf : rb_find rb_kl (rb_ow k) ix = some (.int v)) : rb_G sc k pc ls st M P ↔ rb_G sc k (pc + 3) ls (.int v :: st) M P := rb_G_pure hd rfl (by simp [rb_pure, hf])
theorem g_ldc2_w {ix : Nat} {v : Int64} (hd : decode (rb_by k) pc = .ok (.ldc2_w ix, 3)) (hf : rb_find rb_kl (rb_ow k) ix = some (.long v)) : rb_G sc k pc ls st M P ↔ rb_G sc k (pc + 3) ls (.long v :: st) M P := rb_G_pure hd rfl (by simp [rb_pure, hf])
theorem g_iload_n {j : Fin 4} {x : Int32} (hd : decode (rb_by k) pc = .ok (.iload_n j, 1)) (hl : ls[(j : Nat)]? = some (some (.int x))) : rb_G sc k pc ls st M P ↔ rb_G sc k (pc + 1) ls (.int x :: st) M P := rb_G_pure hd rfl (by simp [rb_pure, rb_ldi, hl])
theorem g_iload {j : Nat} {x : Int32} (hd : decode (rb_by k) pc = .ok (.iload j, 2)) (hl : ls[j]? = some (some (.int x))) : rb_G sc k pc ls st M P ↔ rb_G sc k (pc + 2) ls (.int x :: st) M P := rb_G_pure hd rfl (by simp [rb_pure, rb_ldi, hl])
theorem g_aload_n {j : Fin 4} {x : Nat} (hd : decode (rb_by k) pc = .ok (.aload_n j, 1)) (hl : ls[(j : Nat)]? = some (some (.ref x))) : rb_G sc k pc ls st M P ↔ rb_G sc k (pc + 1) ls (.ref x :: st) M P := rb_G_pure hd rfl (by simp [rb_pure, rb_lda, hl])
theorem g_lload_n {j : Fin 4} {x : Int64} (hd : decode (rb_by k) pc = .ok (.lload_n j, 1)) (hl : ls[(j : Nat)]? = some (some (.long x))) : rb_G sc k pc ls st M P ↔ rb_G sc k (pc + 1) ls (.long x :: st) M P := rb_G_pure hd rfl (by simp [rb_pure, rb_ldl, hl])
theorem g_dload {j : Nat} {x : UInt64} (hd : decode (rb_by k) pc = .ok (.dload j, 2)) (hl : ls[j]? = some (some (.double x))) : rb_G sc k pc ls st M P ↔ rb_G sc k (pc + 2) ls (.double x :: st) M P := rb_G_pure hd rfl (by simp [rb_pure, rb_ldd, hl])
theorem g_istore_n {j : Fin 4} {x : Int32} {ls' : rb_L} (hd : decode (rb_by k) pc = .ok (.istore_n j, 1)) (hs : rb_sto k j = true) (hj : (j : Nat) < ls.length) (he : ls.set j (some (.int x)) = ls') : rb_G sc k pc ls (.int x :: st) M P ↔ rb_G sc k (pc + 1) ls' st M P := by subst he; exact rb_G_pure hd rfl (by simp [rb_pure, rb_sti, hs, hj])
theorem g_istore {j : Nat} {x : Int32} {ls' : rb_L} (hd : decode (rb_by k) pc = .ok (.istore j, 2)) (hs : rb_sto k j = true) (hj : j < ls.length) (he : ls.set j (some (.int x)) = ls') : rb_G sc k pc ls (.int x :: st) M P ↔ rb_G sc k (pc + 2) ls' st M P := by subst he; exact rb_G_pure hd rfl (by simp [rb_pure, rb_sti, hs, hj])
theorem g_astore_n {j : Fin 4} {x : Nat} {ls' : rb_L} (hd : decode (rb_by k) pc = .ok (.astore_n j, 1)) (hs : rb_sto k j = true) (hj : (j : Nat) < ls.length) (he : ls.set j (some (.ref x)) = ls') : rb_G sc k pc ls (.ref x :: st) M P ↔ rb_G sc k (pc + 1) ls' st M P := by subst he; exact rb_G_pure hd rfl (by simp [rb_pure, rb_sta, hs, hj])
theorem g_lstore_n {j : Fin 4} {x : Int64} {ls' : rb_L} (hd : decode (rb_by k) pc = .ok (.lstore_n j, 1)) (hs : rb_sto k j = true) (hs2 : rb_std k j = true) (hj : (j : Nat) + 1 < ls.length) (he : (ls.set j (some (.long x))).set ((j : Nat) + 1) none = ls') : rb_G sc k pc ls (.long x :: st) M P ↔ rb_G sc k (pc + 1) ls' st M P := by subst he; exact rb_G_pure hd rfl (by simp [rb_pure, rb_st2, hs, hs2, hj])
theorem g_dstore {j : Nat} {x : UInt64} {ls' : rb_L} (hd : decode (rb_by k) pc = .ok (.dstore j, 2)) (hs : rb_sto k j = true) (hs2 : rb_std k j = true) (hj : j + 1 < ls.length) (he : (ls.set j (some (.double x))).set (j + 1) none = ls') : rb_G sc k pc ls (.double x :: st) M P ↔ rb_G sc k (pc + 2) ls' st M P := by subst he; exact rb_G_pure hd rfl (by simp [rb_pure, rb_st2, hs, hs2, hj])
theorem g_iinc {j : Nat} {n : Int} {x v : Int32} {ls' : rb_L} (hd : decode (rb_by k) pc = .ok (.iinc j n, 3)) (hs : rb_sto k j = true) (hl : ls[j]? = some (some (.int x))) (hv : Int32.ofInt n = v) (he : ls.set j (some (.int (x + v))) = ls') : rb_G sc k pc ls st M P ↔ rb_G sc k (pc + 3) ls' st M P := by subst he; subst hv; exact rb_G_pure hd rfl (by simp [rb_pure, hs, hl])
theorem g_iadd {x y : Int32} (hd : decode (rb_by k) pc = .ok (.iadd, 1)) : rb_G sc k pc ls (.int y :: .int x :: st) M P ↔ rb_G sc k (pc + 1) ls (.int (x + y) :: st) M P := rb_G_pure hd rfl (by simp [rb_pure, rb_b2])
theorem g_isub {x y : Int32} (hd : decode (rb_by k) pc = .ok (.isub, 1)) : rb_G sc k pc ls (.int y :: .int x :: st) M P ↔ rb_G sc k (pc + 1) ls (.int (x - y) :: st) M P := rb_G_pure hd rfl (by simp [rb_pure, rb_b2])
theorem g_imul {x y : Int32} (hd : decode (rb_by k) pc = .ok (.imul, 1)) : rb_G sc k pc ls (.int y :: .int x :: st) M P ↔ rb_G sc k (pc + 1) ls (.int (x * y) :: st) M P := rb_G_pure hd rfl (by simp [rb_pure, rb_b2])
theorem g_iand {x y : Int32} (hd : decode (rb_by k) pc = .ok (.iand, 1)) : rb_G sc k pc ls (.int y :: .int x :: st) M P ↔ rb_G sc k (pc + 1) ls (.int (x &&& y) :: st) M P := rb_G_pure hd rfl (by simp [rb_pure, rb_b2])
theorem g_ior {x y : Int32} (hd : decode (rb_by k) pc = .ok (.ior, 1)) : rb_G sc k pc ls (.int y :: .int x :: st) M P ↔ rb_G sc k (pc + 1) ls (.int (x ||| y) :: st) M P := rb_G_pure hd rfl (by simp [rb_pure, rb_b2])
theorem g_ixor {x y : Int32} (hd : decode (rb_by k) pc = .ok (.ixor, 1)) : rb_G sc k pc ls (.int y :: .int x :: st) M P ↔ rb_G sc k (pc + 1) ls (.int (x ^^^ y) :: st) M P := rb_G_pure hd rfl (by simp [rb_pure, rb_b2])
theorem g_ishl {x y : Int32} (hd : decode (rb_by k) pc = .ok (.ishl, 1)) : rb_G sc k pc ls (.int y :: .int x :: st) M P ↔ rb_G sc k (pc + 1) ls (.int (x <<< (y &&& 31)) :: st) M P := rb_G_pure hd rfl (by simp [rb_pure, rb_b2])
theorem g_ishr {x y : Int32} (hd : decode (rb_by k) pc = .ok (.ishr, 1)) : rb_G sc k pc ls (.int y :: .int x :: st) M P ↔ rb_G sc k (pc + 1) ls (.int (x >>> (y &&& 31)) :: st) M P := rb_G_pure hd rfl (by simp [rb_pure, rb_b2])
theorem g_iushr {x y : Int32} (hd : decode (rb_by k) pc = .ok (.iushr, 1)) : rb_G sc k pc ls (.int y :: .int x :: st) M P ↔ rb_G sc k (pc + 1) ls (.int (rb_ush x y) :: st) M P := rb_G_pure hd rfl (by simp [rb_pure, rb_b2])
theorem g_idiv {x y : Int32} (hd : decode (rb_by k) pc = .ok (.idiv, 1)) (hy : ¬ y = 0) : rb_G sc k pc ls (.int y :: .int x :: st) M P ↔ rb_G sc k (pc + 1) ls (.int (x / y) :: st) M P := rb_G_pure hd rfl (by simp [rb_pure, hy])
theorem g_irem {x y : Int32} (hd : decode (rb_by k) pc = .ok (.irem, 1)) (hy : ¬ y = 0) : rb_G sc k pc ls (.int y :: .int x :: st) M P ↔ rb_G sc k (pc + 1) ls (.int (rb_rem x y) :: st) M P := rb_G_pure hd rfl (by simp [rb_pure, hy])
theorem g_ineg {x : Int32} (hd : decode (rb_by k) pc = .ok (.ineg, 1)) : rb_G sc k pc ls (.int x :: st) M P ↔ rb_G sc k (pc + 1) ls (.int (-x) :: st) M P := rb_G_pure hd rfl (by simp [rb_pure])
theorem g_ladd {x y : Int64} (hd : decode (rb_by k) pc = .ok (.ladd, 1)) : rb_G sc k pc ls (.long y :: .long x :: st) M P ↔ rb_G sc k (pc + 1) ls (.long (x + y) :: st) M P := rb_G_pure hd rfl (by simp [rb_pure, rb_bl])
theorem g_lmul {x y : Int64} (hd : decode (rb_by k) pc = .ok (.lmul, 1)) : rb_G sc k pc ls (.long y :: .long x :: st) M P ↔ rb_G sc k (pc + 1) ls (.long (x * y) :: st) M P := rb_G_pure hd rfl (by simp [rb_pure, rb_bl])
theorem g_lrem {x y : Int64} (hd : decode (rb_by k) pc = .ok (.lrem, 1)) (hy : ¬ y = 0) : rb_G sc k pc ls (.long y :: .long x :: st) M P ↔ rb_G sc k (pc + 1) ls (.long (rb_lrem x y) :: st) M P := rb_G_pure hd rfl (by simp [rb_pure, hy])
theorem g_i2l {x : Int32} (hd : decode (rb_by k) pc = .ok (.i2l, 1)) : rb_G sc k pc ls (.int x :: st) M P ↔ rb_G sc k (pc + 1) ls (.long x.toInt64 :: st) M P := rb_G_pure hd rfl (by simp [rb_pure])
theorem g_l2i {x : Int64} (hd : decode (rb_by k) pc = .ok (.l2i, 1)) : rb_G sc k pc ls (.long x :: st) M P ↔ rb_G sc k (pc + 1) ls (.int x.toInt32 :: st) M P := rb_G_pure hd rfl (by simp [rb_pure])
theorem g_i2f {x : Int32} (hd : decode (rb_by k) pc = .ok (.i2f, 1)) : rb_G sc k pc ls (.int x :: st) M P ↔ rb_G sc k (pc + 1) ls (.float (FP.i2f x) :: st) M P := rb_G_pure hd rfl (by simp [rb_pure])
theorem g_fdiv {x y : UInt32} (hd : decode (rb_by k) pc = .ok (.fdiv, 1)) (hy : FP.fdiv x y &&& 0x7fffffff ≤ 0x7f800000) : rb_G sc k pc ls (.float y :: .float x :: st) M P ↔ rb_G sc k (pc + 1) ls (.float (FP.fdiv x y) :: st) M P := rb_G_pure hd rfl (by simp only [rb_pure, if_true, if_pos hy])
theorem g_f2d {x : UInt32} (hd : decode (rb_by k) pc = .ok (.f2d, 1)) (hy : FP.f2d x &&& 0x7fffffffffffffff ≤ 0x7ff0000000000000) : rb_G sc k pc ls (.float x :: st) M P ↔ rb_G sc k (pc + 1) ls (.double (FP.f2d x) :: st) M P := rb_G_pure hd rfl (by simp only [rb_pure, if_true, if_pos hy])
theorem g_dcmp {x y : UInt64} {op : CmpOp} (hd : decode (rb_by k) pc = .ok (.dcmp op, 1)) : rb_G sc k pc ls (.double y :: .double x :: st) M P ↔ rb_G sc k (pc + 1) ls (.int (Op.cmpValue (FP.dcmp x y) op) :: st) M P := rb_G_pure hd rfl (by simp [rb_pure])
theorem g_dup {v : Value} (hd : decode (rb_by k) pc = .ok (.dup, 1)) (hv : v.category = 1) : rb_G sc k pc ls (v :: st) M P ↔ rb_G sc k (pc + 1) ls (v :: v :: st) M P := rb_G_pure hd rfl (by simp [rb_pure, hv])
theorem g_pop {v : Value} (hd : decode (rb_by k) pc = .ok (.pop, 1)) (hv : v.category = 1) : rb_G sc k pc ls (v :: st) M P ↔ rb_G sc k (pc + 1) ls st M P := rb_G_pure hd rfl (by simp [rb_pure, hv])
theorem g_dup2 {v u : Value} (hd : decode (rb_by k) pc = .ok (.dup2, 1)) (hv : v.category = 1) (hu : u.category = 1) : rb_G sc k pc ls (v :: u :: st) M P ↔ rb_G sc k (pc + 1) ls (v :: u :: v :: u :: st) M P := rb_G_pure hd rfl (by simp [rb_pure, hv, hu])
theorem g_goto {off : Int} {t : Nat} (hd : decode (rb_by k) pc = .ok (.goto off, 3)) (ht : rb_tg pc off = some t) : rb_G sc k pc ls st M P ↔ rb_G sc k t ls st M P := rb_G_pure hd rfl (by simp [rb_pure, ht])
theorem g_if {c : ClassFile.Cond} {off : Int} {t : Nat} {x : Int32} (hd : decode (rb_by k) pc = .ok (.ifCond c off, 3)) (ht : rb_tg pc off = some t) : rb_G sc k pc ls (.int x :: st) M P ↔ if rb_c1 c x = true then rb_G sc k t ls st M P else rb_G sc k (pc + 3) ls st M P := by
  rw [← rb_G_ite]; exact rb_G_pure hd rfl (by simp [rb_pure, rb_br, ht])
theorem g_if2 {c : ClassFile.Cond} {off : Int} {t : Nat} {x y : Int32} (hd : decode (rb_by k) pc = .ok (.if_icmp c off, 3)) (ht : rb_tg pc off = some t) : rb_G sc k pc ls (.int y :: .int x :: st) M P ↔ if rb_c2 c x y = true then rb_G sc k t ls st M P else rb_G sc k (pc + 3) ls st M P := by
  rw [← rb_G_ite]; exact rb_G_pure hd rfl (by simp [rb_pure, rb_br, ht])
theorem g_ifz {c : ClassFile.Cond} {off : Int} {t : Nat} {x : Int32} {p : Prop} [Decidable p] (hd : decode (rb_by k) pc = .ok (.ifCond c off, 3)) (ht : rb_tg pc off = some t) (hp : rb_c1 c x = decide p) : rb_G sc k pc ls (.int x :: st) M P ↔ if p then rb_G sc k t ls st M P else rb_G sc k (pc + 3) ls st M P := by
  rw [g_if hd ht, hp]; simp only [decide_eq_true_eq]
theorem g_ifc {c : ClassFile.Cond} {off : Int} {t : Nat} {x y : Int32} {p : Prop} [Decidable p] (hd : decode (rb_by k) pc = .ok (.if_icmp c off, 3)) (ht : rb_tg pc off = some t) (hp : rb_c2 c x y = decide p) : rb_G sc k pc ls (.int y :: .int x :: st) M P ↔ if p then rb_G sc k t ls st M P else rb_G sc k (pc + 3) ls st M P := by
  rw [g_if2 hd ht, hp]; simp only [decide_eq_true_eq]
theorem g_ifnullN {off : Int} {t : Nat} (hd : decode (rb_by k) pc = .ok (.ifnull off, 3)) (ht : rb_tg pc off = some t) : rb_G sc k pc ls (.null :: st) M P ↔ rb_G sc k t ls st M P := rb_G_pure hd rfl (by simp [rb_pure, rb_br, ht])
theorem g_ifnullR {off : Int} {t a : Nat} (hd : decode (rb_by k) pc = .ok (.ifnull off, 3)) (ht : rb_tg pc off = some t) : rb_G sc k pc ls (.ref a :: st) M P ↔ rb_G sc k (pc + 3) ls st M P := rb_G_pure hd rfl (by simp [rb_pure, rb_br, ht])
theorem g_ifnonnullN {off : Int} {t : Nat} (hd : decode (rb_by k) pc = .ok (.ifnonnull off, 3)) (ht : rb_tg pc off = some t) : rb_G sc k pc ls (.null :: st) M P ↔ rb_G sc k (pc + 3) ls st M P := rb_G_pure hd rfl (by simp [rb_pure, rb_br, ht])
theorem g_ifnonnullR {off : Int} {t a : Nat} (hd : decode (rb_by k) pc = .ok (.ifnonnull off, 3)) (ht : rb_tg pc off = some t) : rb_G sc k pc ls (.ref a :: st) M P ↔ rb_G sc k t ls st M P := rb_G_pure hd rfl (by simp [rb_pure, rb_br, ht])
theorem g_tableOut {dflt lo hi : Int} {offs : Array Int} {len t : Nat} {x : Int32} (hd : decode (rb_by k) pc = .ok (.tableswitch dflt lo hi offs, len)) (hx : x.toInt < lo ∨ hi < x.toInt) (ht : rb_tg pc dflt = some t) : rb_G sc k pc ls (.int x :: st) M P ↔ rb_G sc k t ls st M P := rb_G_pure hd rfl (by simp only [rb_pure, if_pos hx, ht])
theorem g_tableIn {dflt lo hi off : Int} {offs : Array Int} {len t : Nat} {x : Int32} (hd : decode (rb_by k) pc = .ok (.tableswitch dflt lo hi offs, len)) (hx : ¬ (x.toInt < lo ∨ hi < x.toInt)) (ho : offs[(x.toInt - lo).toNat]? = some off) (ht : rb_tg pc off = some t) : rb_G sc k pc ls (.int x :: st) M P ↔ rb_G sc k t ls st M P := rb_G_pure hd rfl (by simp only [rb_pure, if_neg hx, ho, ht])
theorem g_lookup {dflt : Int} {ps : Array (Int × Int)} {len t : Nat} {x : Int32} (hd : decode (rb_by k) pc = .ok (.lookupswitch dflt ps, len)) (hx : (ps.toList.zip (ps.toList.drop 1)).all (fun (a, next) => a.1 < next.1) = true) (ht : rb_tg pc (Op.lookupswitch.offset ps.toList dflt x.toInt) = some t) : rb_G sc k pc ls (.int x :: st) M P ↔ rb_G sc k t ls st M P := rb_G_pure hd rfl (by simp only [rb_pure, if_pos hx, ht])
theorem g_iret {v : Int32} {ty : FieldType} (hd : decode (rb_by k) pc = .ok (.ireturn, 1)) (hr : rb_rt k = some ty) (hv : rb_okv ty (.int v) = true) : rb_G sc k pc ls [.int v] M P ↔ P (some (.int v)) M := rb_G_ret hd rfl (by simp only [rb_ret, if_true, hr, hv])
theorem g_aret {v : Value} {C : String} (hd : decode (rb_by k) pc = .ok (.areturn, 1)) (hr : rb_rt k = some (.object C)) (hv : rb_okv (.object C) v = true) : rb_G sc k pc ls [v] M P ↔ P (some v) M := rb_G_ret hd rfl (by simp only [rb_ret, if_true, hr, hv])
theorem g_fret {v : UInt32} (hd : decode (rb_by k) pc = .ok (.freturn, 1)) (hr : rb_rt k = some .float) : rb_G sc k pc ls [.float v] M P ↔ P (some (.float v)) M := rb_G_ret hd rfl (by simp only [rb_ret, if_true, hr])
theorem g_vret (hd : decode (rb_by k) pc = .ok (.return_, 1)) (hr : rb_rt k = none) : rb_G sc k pc ls [] M P ↔ P none M := rb_G_ret hd rfl (by simp only [rb_ret, if_true, hr])
end RBG
end
section
/-! THE WORLD behind the two constructors: its shape is fixed, its whole numbers are V (which: group, row, place). Groups 0 to 11 are the states (now, trial, eight of the history, two images), 12 the reference, 13 the history's and the images' own numbers; in a state row 11 are its own fields. -/
abbrev rb_V : Type := Nat → Nat → Nat → Int32
def rb_st (g : Nat) : Nat := if g = 0 then 1 else if g = 1 then 24 else if g < 10 then 49 + 23 * (g - 2) else if g = 10 then 234 else 258
def rb_rw (g r : Nat) : Nat := rb_st g + 1 + 2 * r
def rb_aa (g r : Nat) : Nat := if g < 12 then rb_st g + 2 + 2 * r else 281 + r
def rb_ln (g r : Nat) : Nat := if g < 12 then (match r with
  | 0 => 6
  | 1 => 30
  | 9 => 64
  | 10 => 64
  | _ => 8) else (match r with
  | 1 => 229
  | 2 => 1832
  | 3 => 458
  | 4 => 8
  | 5 => 8
  | _ => 229)
abbrev rb_F : Type := Nat ⊕ (Nat × Nat × Nat)
abbrev rb_Sh : Type := (Nat × List rb_F) ⊕ ((Nat × Nat × Nat) ⊕ List Nat)
def rb_shS (g : Nat) : List rb_F := [.inr (g, 11, 0), .inr (g, 11, 1), .inr (g, 11, 2), .inr (g, 11, 3), .inr (g, 11, 4), .inr (g, 11, 5), .inr (g, 11, 6), .inr (g, 11, 7), .inl (rb_rw g 0), .inl (rb_rw g 1), .inl (rb_rw g 2), .inl (rb_rw g 3), .inl (rb_rw g 4), .inl (rb_rw g 5), .inl (rb_rw g 6), .inl (rb_rw g 7), .inl (rb_rw g 8), .inl (rb_rw g 9), .inl (rb_rw g 10)]
def rb_cellsS (g : Nat) : List rb_Sh := .inl (3, rb_shS g) :: (List.range 11).flatMap fun r => [.inl (2, [.inl (rb_aa g r)]), .inr (.inl (g, r, rb_ln g r))]
def rb_shapes : List rb_Sh := [.inl (4, [.inl 1, .inl 24, .inl 47, .inl 233, .inl 257])] ++ rb_cellsS 0 ++ rb_cellsS 1 ++ [.inl (0, [.inl 48, .inr (13, 0, 0), .inr (13, 0, 1)]), .inr (.inr ((List.range 8).map fun i => rb_st (2 + i)))] ++ ((List.range 8).flatMap fun i => rb_cellsS (2 + i)) ++ [.inl (1, [.inl 234, .inr (13, 1, 0)])] ++ rb_cellsS 10 ++ [.inl (1, [.inl 258, .inr (13, 2, 0)])] ++ rb_cellsS 11 ++ [.inl (5, [.inl 282, .inl 283, .inr (12, 0, 0), .inl 284, .inr (12, 0, 1), .inl 285, .inl 286, .inl 287])] ++ ((List.range 6).map fun r => .inr (.inl (12, r + 1, rb_ln 12 (r + 1))))
def rb_bv (V : rb_V) (f : rb_F) : Value := match f with
  | .inl i => .ref i
  | .inr (g, r, j) => .int (V g r j)
def rb_bd (V : rb_V) (s : rb_Sh) : rb_O := match s with
  | .inl (ci, fs) => .inl (ci, fs.map (rb_bv V))
  | .inr (.inl (g, r, n)) => .inr (.inl ((List.range n).map (V g r)))
  | .inr (.inr l) => .inr (.inr (l.map some))
def rb_W (V : rb_V) : rb_M := rb_shapes.map (rb_bd V)
theorem rb_shapes_len : rb_shapes.length = 288 := by decide +kernel
theorem rb_W_len (V : rb_V) : (rb_W V).length = 288 := by unfold rb_W; rw [List.length_map]; exact rb_shapes_len
def rb_eqF (a b : rb_F) : Bool := match a, b with
  | .inl i, .inl j => i == j
  | .inr x, .inr y => x.1 == y.1 && (x.2.1 == y.2.1 && x.2.2 == y.2.2)
  | _, _ => false
theorem rb_eqF_eq {a b : rb_F} (h : rb_eqF a b = true) : a = b := by
  rcases a with i | ⟨x, y, z⟩ <;> rcases b with j | ⟨x', y', z'⟩
  · exact congrArg Sum.inl (beq_iff_eq.mp h)
  · cases h
  · cases h
  · simp only [rb_eqF, Bool.and_eq_true, beq_iff_eq] at h
    obtain ⟨rfl, rfl, rfl⟩ := h
    rfl
def rb_eqL : List rb_F → List rb_F → Bool
  | [], [] => true
  | a :: x, b :: y => rb_eqF a b && rb_eqL x y
  | _, _ => false
theorem rb_eqL_eq : ∀ {x y : List rb_F}, rb_eqL x y = true → x = y
  | [], [], _ => rfl
  | a :: x, b :: y, h => by
    unfold rb_eqL at h
    rw [Bool.and_eq_true] at h
    rw [rb_eqF_eq h.1, rb_eqL_eq h.2]
  | [], _ :: _, h => by cases h
  | _ :: _, [], h => by cases h
def rb_eqS (a b : rb_Sh) : Bool := match a, b with
  | .inl x, .inl y => x.1 == y.1 && rb_eqL x.2 y.2
  | .inr (.inl x), .inr (.inl y) => x.1 == y.1 && (x.2.1 == y.2.1 && x.2.2 == y.2.2)
  | .inr (.inr x), .inr (.inr y) => x == y
  | _, _ => false
theorem rb_eqS_eq {a b : rb_Sh} (h : rb_eqS a b = true) : a = b := by
  rcases a with ⟨c, x⟩ | ⟨x, y, z⟩ | x <;> rcases b with ⟨c', x'⟩ | ⟨x', y', z'⟩ | x' <;> try cases h
  · simp only [rb_eqS, Bool.and_eq_true, beq_iff_eq] at h
    obtain ⟨rfl, h⟩ := h
    rw [rb_eqL_eq h]
  · simp only [rb_eqS, Bool.and_eq_true, beq_iff_eq] at h
    obtain ⟨rfl, rfl, rfl⟩ := h
    rfl
  · have : x = x' := beq_iff_eq.mp h
    rw [this]
def rb_atS (i : Nat) (s : rb_Sh) : Bool := match rb_shapes[i]? with
  | some t => rb_eqS t s
  | none => false
theorem rb_atS_eq {i : Nat} {s : rb_Sh} (h : rb_atS i s = true) : rb_shapes[i]? = some s := by
  unfold rb_atS at h
  split at h
  · rename_i t ht; rw [ht, rb_eqS_eq h]
  · cases h
theorem rb_sh_st1 : ∀ g, g < 12 → rb_atS (rb_st g) (.inl (3, rb_shS g)) = true := by decide +kernel
theorem rb_sh_rw1 : ∀ g, g < 12 → ∀ r, r < 11 → rb_atS (rb_rw g r) (.inl (2, [.inl (rb_aa g r)])) = true := by decide +kernel
theorem rb_sh_ar2 : ∀ g, g < 12 → ∀ r, r < 11 → rb_atS (rb_aa g r) (.inr (.inl (g, r, rb_ln g r))) = true := by decide +kernel
theorem rb_sh_ar3 : ∀ r, r < 7 → 0 < r → rb_atS (rb_aa 12 r) (.inr (.inl (12, r, rb_ln 12 r))) = true := by decide +kernel
theorem rb_sh_st0 (g : Nat) (h : g < 12) : rb_shapes[rb_st g]? = some (.inl (3, rb_shS g)) := rb_atS_eq (rb_sh_st1 g h)
theorem rb_sh_rw0 (g : Nat) (h : g < 12) (r : Nat) (hr : r < 11) : rb_shapes[rb_rw g r]? = some (.inl (2, [.inl (rb_aa g r)])) := rb_atS_eq (rb_sh_rw1 g h r hr)
theorem rb_sh_ar0 (g : Nat) (h : g < 12) (r : Nat) (hr : r < 11) : rb_shapes[rb_aa g r]? = some (.inr (.inl (g, r, rb_ln g r))) := rb_atS_eq (rb_sh_ar2 g h r hr)
theorem rb_sh_ar1 (r : Nat) (h : r < 7) (h0 : 0 < r) : rb_shapes[rb_aa 12 r]? = some (.inr (.inl (12, r, rb_ln 12 r))) := rb_atS_eq (rb_sh_ar3 r h h0)
theorem rb_sh_bc : rb_shapes[0]? = some (.inl (4, [.inl (rb_st 0), .inl (rb_st 1), .inl 47, .inl 233, .inl 257])) := rb_atS_eq (by decide +kernel)
theorem rb_sh_hi : rb_shapes[47]? = some (.inl (0, [.inl 48, .inr (13, 0, 0), .inr (13, 0, 1)])) := rb_atS_eq (by decide +kernel)
theorem rb_sh_ha : rb_shapes[48]? = some (.inr (.inr ((List.range 8).map fun i => rb_st (2 + i)))) := rb_atS_eq (by decide +kernel)
theorem rb_sh_i0 : rb_shapes[233]? = some (.inl (1, [.inl (rb_st 10), .inr (13, 1, 0)])) := rb_atS_eq (by decide +kernel)
theorem rb_sh_i1 : rb_shapes[257]? = some (.inl (1, [.inl (rb_st 11), .inr (13, 2, 0)])) := rb_atS_eq (by decide +kernel)
theorem rb_sh_mo : rb_shapes[281]? = some (.inl (5, [.inl (rb_aa 12 1), .inl (rb_aa 12 2), .inr (12, 0, 0), .inl (rb_aa 12 3), .inr (12, 0, 1), .inl (rb_aa 12 4), .inl (rb_aa 12 5), .inl (rb_aa 12 6)])) := rb_atS_eq (by decide +kernel)
theorem rb_W_at {V : rb_V} {i : Nat} {s : rb_Sh} (h : rb_shapes[i]? = some s) : (rb_W V)[i]? = some (rb_bd V s) := by unfold rb_W; rw [List.getElem?_map, h]; rfl
/-- one state's numbers, or one row's, made other -/
def rb_sg (V : rb_V) (g : Nat) (c : Nat → Nat → Int32) : rb_V := fun g' => if g' = g then c else V g'
def rb_u1 (c : Nat → Nat → Int32) (r : Nat) (f : Nat → Int32) : Nat → Nat → Int32 := fun r' => if r' = r then f else c r'
def rb_u2 (c : Nat → Nat → Int32) (r j : Nat) (v : Int32) : Nat → Nat → Int32 := rb_u1 c r (upd (c r) j v)
theorem rb_sg_self (V : rb_V) (g : Nat) (c : Nat → Nat → Int32) : rb_sg V g c g = c := if_pos rfl
theorem rb_sg_ne (V : rb_V) {g g' : Nat} (c : Nat → Nat → Int32) (h : g' ≠ g) : rb_sg V g c g' = V g' := if_neg h
theorem rb_sg_sg (V : rb_V) (g : Nat) (c c' : Nat → Nat → Int32) : rb_sg (rb_sg V g c) g c' = rb_sg V g c' := by
  funext g'
  unfold rb_sg
  by_cases h : g' = g
  · rw [if_pos h, if_pos h]
  · rw [if_neg h, if_neg h, if_neg h]
theorem rb_sg_id (V : rb_V) (g : Nat) : rb_sg V g (V g) = V := by
  funext g'
  unfold rb_sg
  by_cases h : g' = g
  · rw [if_pos h, h]
  · rw [if_neg h]
theorem rb_sg_comm (V : rb_V) {g g' : Nat} (c c' : Nat → Nat → Int32) (h : g ≠ g') : rb_sg (rb_sg V g c) g' c' = rb_sg (rb_sg V g' c') g c := by
  funext x
  unfold rb_sg
  by_cases h1 : x = g'
  · by_cases h2 : x = g
    · exact absurd (h2.symm.trans h1) h
    · rw [if_pos h1, if_neg h2, if_pos h1]
  · by_cases h2 : x = g
    · rw [if_neg h1, if_pos h2, if_pos h2]
    · rw [if_neg h1, if_neg h2, if_neg h2, if_neg h1]
theorem rb_u1_self (c : Nat → Nat → Int32) (r : Nat) (f : Nat → Int32) : rb_u1 c r f r = f := if_pos rfl
theorem rb_u1_ne (c : Nat → Nat → Int32) {r r' : Nat} (f : Nat → Int32) (h : r' ≠ r) : rb_u1 c r f r' = c r' := if_neg h
theorem rb_u1_u1 (c : Nat → Nat → Int32) (r : Nat) (f f' : Nat → Int32) : rb_u1 (rb_u1 c r f) r f' = rb_u1 c r f' := by
  funext r'
  unfold rb_u1
  by_cases h : r' = r
  · rw [if_pos h, if_pos h]
  · rw [if_neg h, if_neg h, if_neg h]
def rb_men (s : rb_Sh) : List (Nat × Nat) := match s with
  | .inl (_, fs) => fs.flatMap fun f => match f with
    | .inl _ => []
    | .inr (g, r, _) => [(g, r)]
  | .inr (.inl (g, r, _)) => [(g, r)]
  | .inr (.inr _) => []
def rb_own (g r : Nat) : Nat := if g < 12 then (if r = 11 then rb_st g else rb_aa g r) else if g = 12 then (if r = 0 then 281 else rb_aa 12 r) else (match r with
  | 0 => 47
  | 1 => 233
  | _ => 257)
theorem rb_own_ok : (List.range 288).all (fun i => match rb_shapes[i]? with
  | some s => (rb_men s).all fun q => rb_own q.1 q.2 == i
  | none => true) = true := by decide +kernel
theorem rb_own_at {i : Nat} {s : rb_Sh} {q : Nat × Nat} (h : rb_shapes[i]? = some s) (hq : q ∈ rb_men s) : rb_own q.1 q.2 = i := by
  have hi : i < 288 := by rw [← rb_shapes_len]; exact (List.getElem?_eq_some_iff.mp h).1
  have h1 := List.all_eq_true.mp rb_own_ok i (List.mem_range.mpr hi)
  rw [h] at h1
  exact beq_iff_eq.mp (List.all_eq_true.mp h1 q hq)
theorem rb_bd_congr {V V' : rb_V} {s : rb_Sh} (h : ∀ q ∈ rb_men s, V' q.1 q.2 = V q.1 q.2) : rb_bd V' s = rb_bd V s := by
  rcases s with ⟨ci, fs⟩ | ⟨g, r, n⟩ | l
  · show Sum.inl (ci, fs.map (rb_bv V')) = Sum.inl (ci, fs.map (rb_bv V))
    congr 2
    refine List.map_congr_left fun f hf => ?_
    rcases f with i | ⟨g, r, j⟩
    · rfl
    · have := h (g, r) (List.mem_flatMap.mpr ⟨_, hf, List.mem_singleton.mpr rfl⟩)
      show Value.int (V' g r j) = .int (V g r j)
      rw [this]
  · have := h (g, r) (List.mem_singleton.mpr rfl)
    show Sum.inr (Sum.inl ((List.range n).map (V' g r))) = _
    rw [this]; rfl
  · rfl
theorem rb_W_set {V : rb_V} {i g r : Nat} {f : Nat → Int32} {s : rb_Sh} {o : rb_O} (h : rb_shapes[i]? = some s) (ho : rb_own g r = i) (hb : rb_bd (rb_sg V g (rb_u1 (V g) r f)) s = o) : (rb_W V).set i o = rb_W (rb_sg V g (rb_u1 (V g) r f)) := by
  subst hb
  apply List.ext_getElem?
  intro j
  by_cases hj : i = j
  · subst hj
    rw [List.getElem?_set_self', rb_W_at h, rb_W_at h]
    rfl
  · rw [List.getElem?_set_ne hj]
    unfold rb_W
    rw [List.getElem?_map, List.getElem?_map]
    cases hs : rb_shapes[j]? with
    | none => rfl
    | some s' =>
      show some (rb_bd V s') = some (rb_bd _ s')
      refine congrArg some (rb_bd_congr (fun q hq => ?_)).symm
      have h1 := rb_own_at hs hq
      show (if q.1 = g then rb_u1 (V g) r f else V q.1) q.2 = V q.1 q.2
      by_cases h2 : q.1 = g
      · rw [if_pos h2]
        show (if q.2 = r then f else V g q.2) = V q.1 q.2
        by_cases h3 : q.2 = r
        · exact absurd (by rw [← ho, ← h1, h2, h3]) hj
        · rw [if_neg h3, h2]
      · rw [if_neg h2]
section RBW
variable {sc : Option (List Int32)} {k pc : Nat} {ls : rb_L} {st : List Value} {V : rb_V} {P : Option Value → rb_M → Prop}
theorem g_getf {ix ci sl i : Nat} {fs : List rb_F} {f : rb_F} (hd : decode (rb_by k) pc = .ok (.getfield ix, 3)) (hf : rb_find rb_fl (rb_ow k) ix = some (ci, sl)) (hi : rb_shapes[i]? = some (.inl (ci, fs))) (hs : fs[sl]? = some f) : rb_G sc k pc ls (.ref i :: st) (rb_W V) P ↔ rb_G sc k (pc + 3) ls (rb_bv V f :: st) (rb_W V) P := by
  have h1 : (rb_W V)[i]? = some (.inl (ci, fs.map (rb_bv V))) := rb_W_at hi
  have h2 : (fs.map (rb_bv V))[sl]? = some (rb_bv V f) := by rw [List.getElem?_map, hs]; rfl
  exact rb_G_mem hd rfl (by simp only [rb_mem, hf, h1, h2, if_true]) (Or.inl rfl)
theorem g_putf {ix ci sl i g r j : Nat} {fs : List rb_F} {v : Int32} (hd : decode (rb_by k) pc = .ok (.putfield ix, 3)) (hf : rb_find rb_fl (rb_ow k) ix = some (ci, sl)) (hi : rb_shapes[i]? = some (.inl (ci, fs))) (hs : fs[sl]? = some (.inr (g, r, j))) (hu : ∀ q, fs[q]? = some (.inr (g, r, j)) → q = sl) (ho : rb_own g r = i) (hok : rb_okv (rb_ty ci sl) (.int v) = true) (hfn : rb_fn ci sl = false) : rb_G sc k pc ls (.int v :: .ref i :: st) (rb_W V) P ↔ rb_G sc k (pc + 3) ls st (rb_W (rb_sg V g (rb_u2 (V g) r j v))) P := by
  have h1 : (rb_W V)[i]? = some (.inl (ci, fs.map (rb_bv V))) := rb_W_at hi
  have hl : sl < (fs.map (rb_bv V)).length := by rw [List.length_map]; exact (List.getElem?_eq_some_iff.mp hs).1
  have h3 : (rb_W V).set i (.inl (ci, (fs.map (rb_bv V)).set sl (.int v))) = rb_W (rb_sg V g (rb_u2 (V g) r j v)) := by
    refine rb_W_set hi ho ?_
    show Sum.inl (ci, fs.map (rb_bv _)) = _
    congr 2
    apply List.ext_getElem?
    intro q
    by_cases hq : sl = q
    · subst hq
      rw [List.getElem?_set_self hl, List.getElem?_map, hs]
      show some (Value.int (rb_sg V g (rb_u1 (V g) r (upd (V g r) j v)) g r j)) = _
      rw [rb_sg_self, rb_u1_self]
      unfold upd
      rw [if_pos rfl]
    · rw [List.getElem?_set_ne hq, List.getElem?_map, List.getElem?_map]
      cases hfq : fs[q]? with
      | none => rfl
      | some f =>
        rcases f with a | ⟨g1, r1, j1⟩
        · rfl
        · show some (Value.int (rb_sg V g (rb_u1 (V g) r (upd (V g r) j v)) g1 r1 j1)) = some (Value.int (V g1 r1 j1))
          have hne : ¬ (g1 = g ∧ r1 = r ∧ j1 = j) := by
            rintro ⟨rfl, rfl, rfl⟩
            exact hq (hu q hfq).symm
          by_cases e1 : g1 = g
          · subst e1
            rw [rb_sg_self]
            by_cases e2 : r1 = r
            · subst e2
              rw [rb_u1_self]
              unfold upd
              rw [if_neg (fun e3 => hne ⟨rfl, rfl, e3⟩)]
            · rw [rb_u1_ne _ _ e2]
          · rw [rb_sg_ne _ _ e1]
  exact rb_G_mem hd rfl (by simp only [rb_mem, hf, h1, if_true, h3, hl, hok, hfn, true_and, Bool.false_eq_true, false_implies]) (Or.inl (by rw [rb_W_len, rb_W_len]))
theorem rb_rowD {n j : Nat} {f : Nat → Int32} (h : j < n) : ((List.range n).map f).getD j 0 = f j := by
  rw [List.getD_eq_getElem?_getD, List.getElem?_map, List.getElem?_range h]
  rfl
theorem g_iald {i g r n : Nat} {j : Int32} (hd : decode (rb_by k) pc = .ok (.iaload, 1)) (hi : rb_shapes[i]? = some (.inr (.inl (g, r, n)))) (hj : rb_inb j n = true) : rb_G sc k pc ls (.int j :: .ref i :: st) (rb_W V) P ↔ rb_G sc k (pc + 1) ls (.int (V g r j.toNatClampNeg) :: st) (rb_W V) P := by
  have h1 : (rb_W V)[i]? = some (.inr (.inl ((List.range n).map (V g r)))) := rb_W_at hi
  have h2 : ((List.range n).map (V g r)).length = n := by rw [List.length_map, List.length_range]
  exact rb_G_mem hd rfl (by simp only [rb_mem, h1, if_true, h2, hj, rb_rowD (rb_inb_lt hj)]) (Or.inl rfl)
theorem g_iast {i g r n : Nat} {j x : Int32} (hd : decode (rb_by k) pc = .ok (.iastore, 1)) (hi : rb_shapes[i]? = some (.inr (.inl (g, r, n)))) (ho : rb_own g r = i) (hj : rb_inb j n = true) : rb_G sc k pc ls (.int x :: .int j :: .ref i :: st) (rb_W V) P ↔ rb_G sc k (pc + 1) ls st (rb_W (rb_sg V g (rb_u2 (V g) r j.toNatClampNeg x))) P := by
  have h1 : (rb_W V)[i]? = some (.inr (.inl ((List.range n).map (V g r)))) := rb_W_at hi
  have h2 : ((List.range n).map (V g r)).length = n := by rw [List.length_map, List.length_range]
  have h3 : (rb_W V).set i (.inr (.inl (((List.range n).map (V g r)).set j.toNatClampNeg x))) = rb_W (rb_sg V g (rb_u2 (V g) r j.toNatClampNeg x)) := by
    refine rb_W_set hi ho ?_
    show Sum.inr (Sum.inl ((List.range n).map (rb_sg V g (rb_u1 (V g) r (upd (V g r) j.toNatClampNeg x)) g r))) = _
    rw [rb_sg_self, rb_u1_self]
    congr 2
    apply List.ext_getElem?
    intro q
    by_cases hq : j.toNatClampNeg = q
    · subst hq
      rw [List.getElem?_set_self (by rw [h2]; exact rb_inb_lt hj), List.getElem?_map, List.getElem?_range (rb_inb_lt hj)]
      show some (upd _ _ x _) = _
      unfold upd
      rw [if_pos rfl]
    · rw [List.getElem?_set_ne hq, List.getElem?_map, List.getElem?_map]
      cases hr : (List.range n)[q]? with
      | none => rfl
      | some z =>
        have hz : z = q := by
          have := List.getElem?_eq_some_iff.mp hr
          obtain ⟨h4, h5⟩ := this
          rw [List.getElem_range] at h5
          exact h5.symm
        subst hz
        show some (upd _ _ x z) = _
        unfold upd
        rw [if_neg (fun e => hq e.symm)]
        rfl
  exact rb_G_mem hd rfl (by simp only [rb_mem, h1, if_true, h2, hj, h3]) (Or.inl (by rw [rb_W_len, rb_W_len]))
theorem g_alen {i g r n : Nat} {v : Int32} (hd : decode (rb_by k) pc = .ok (.arraylength, 1)) (hi : rb_shapes[i]? = some (.inr (.inl (g, r, n)))) (hv : Int32.ofNat n = v) : rb_G sc k pc ls (.ref i :: st) (rb_W V) P ↔ rb_G sc k (pc + 1) ls (.int v :: st) (rb_W V) P := by
  have h1 : (rb_W V)[i]? = some (.inr (.inl ((List.range n).map (V g r)))) := rb_W_at hi
  have h2 : ((List.range n).map (V g r)).length = n := by rw [List.length_map, List.length_range]
  exact rb_G_mem hd rfl (by simp only [rb_mem, h1, if_true, h2, hv]) (Or.inl rfl)
theorem g_alenH (hd : decode (rb_by k) pc = .ok (.arraylength, 1)) : rb_G sc k pc ls (.ref 48 :: st) (rb_W V) P ↔ rb_G sc k (pc + 1) ls (.int 8 :: st) (rb_W V) P := by
  have h1 : (rb_W V)[48]? = some (.inr (.inr (((List.range 8).map fun i => rb_st (2 + i)).map some))) := rb_W_at rb_sh_ha
  exact rb_G_mem hd rfl (by simp only [rb_mem, h1, if_true]; rfl) (Or.inl rfl)
theorem g_aald {j : Int32} (hd : decode (rb_by k) pc = .ok (.aaload, 1)) (hj : rb_inb j 8 = true) : rb_G sc k pc ls (.int j :: .ref 48 :: st) (rb_W V) P ↔ rb_G sc k (pc + 1) ls (.ref (rb_st (2 + j.toNatClampNeg)) :: st) (rb_W V) P := by
  have h1 : (rb_W V)[48]? = some (.inr (.inr (((List.range 8).map fun i => rb_st (2 + i)).map some))) := rb_W_at rb_sh_ha
  have h2 : (((List.range 8).map fun i => rb_st (2 + i)).map some).length = 8 := by rw [List.length_map, List.length_map, List.length_range]
  have h3 : (((List.range 8).map fun i => rb_st (2 + i)).map some).getD j.toNatClampNeg none = some (rb_st (2 + j.toNatClampNeg)) := by
    rw [List.getD_eq_getElem?_getD, List.getElem?_map, List.getElem?_map, List.getElem?_range (rb_inb_lt hj)]
    rfl
  exact rb_G_mem hd rfl (by simp only [rb_mem, h1, if_true, h2, hj, h3, rb_rf]) (Or.inl rfl)
theorem g_copy {ix i i' g r g' r' n : Nat} {m : Int32} (hd : decode (rb_by k) pc = .ok (.invokestatic ix, 3)) (hf : rb_find rb_il (rb_ow k) ix = some (0, 6)) (hh : 1 ≤ rb_h k) (hi : rb_shapes[i]? = some (.inr (.inl (g, r, n)))) (hi' : rb_shapes[i']? = some (.inr (.inl (g', r', n)))) (ho : rb_own g r = i) (hm : m = Int32.ofNat n) (hn : n < 2000) (hst : st.length ≤ 4) : rb_G sc k pc ls (.int m :: .int 0 :: .ref i :: .int 0 :: .ref i' :: st) (rb_W V) P ↔ rb_G sc k (pc + 3) ls st (rb_W (rb_sg V g (rb_u1 (V g) r (V g' r')))) P := by
  subst hm
  have h1 : (rb_W V)[i]? = some (.inr (.inl ((List.range n).map (V g r)))) := rb_W_at hi
  have h1' : (rb_W V)[i']? = some (.inr (.inl ((List.range n).map (V g' r')))) := rb_W_at hi'
  have h2 : ((List.range n).map (V g r)).length = n := by rw [List.length_map, List.length_range]
  have h2' : ((List.range n).map (V g' r')).length = n := by rw [List.length_map, List.length_range]
  have e1 : (Int32.ofNat n).toNatClampNeg = n := by
    exact nI_clamp (n := n) (by omega)
  have e2 : ¬ Int32.ofNat n < 0 := by
    exact nI_pos (n := n) (by omega)
  have h3 : (rb_W V).set i (.inr (.inl (((List.range n).map (V g' r')).take n ++ ((List.range n).map (V g r)).drop n))) = rb_W (rb_sg V g (rb_u1 (V g) r (V g' r'))) := by
    refine rb_W_set hi ho ?_
    show Sum.inr (Sum.inl ((List.range n).map (rb_sg V g (rb_u1 (V g) r (V g' r')) g r))) = _
    rw [rb_sg_self, rb_u1_self, List.take_of_length_le (by rw [h2']; exact Nat.le_refl _), List.drop_of_length_le (by rw [h2]; exact Nat.le_refl _), List.append_nil]
  exact rb_G_mem hd (by simp only [rb_ki, hf, if_true]) (by simp only [rb_mem, hf, hh, h1, h1', if_true, h2, h2', e1, e2, h3, hst, and_self, not_false_eq_true, Nat.le_refl]) (Or.inl (by rw [rb_W_len, rb_W_len]))
theorem rb_W_scr : (rb_W V)[rb_scr]? = none := by rw [List.getElem?_eq_none_iff, rb_W_len]; decide
theorem g_sald {xs : List Int32} {j : Int32} (hd : decode (rb_by k) pc = .ok (.iaload, 1)) (hj : rb_inb j xs.length = true) : rb_G (some xs) k pc ls (.int j :: .ref rb_scr :: st) (rb_W V) P ↔ rb_G (some xs) k (pc + 1) ls (.int (xs.getD j.toNatClampNeg 0) :: st) (rb_W V) P :=
  rb_G_mem hd rfl (by simp only [rb_mem, rb_W_scr, if_true, hj]) (Or.inl rfl)
theorem g_slen {xs : List Int32} (hd : decode (rb_by k) pc = .ok (.arraylength, 1)) : rb_G (some xs) k pc ls (.ref rb_scr :: st) (rb_W V) P ↔ rb_G (some xs) k (pc + 1) ls (.int (Int32.ofNat xs.length) :: st) (rb_W V) P :=
  rb_G_mem hd rfl (by simp only [rb_mem, rb_W_scr, if_true]) (Or.inl rfl)
theorem g_callS {ix k' kd : Nat} {as rest st0 : List Value} {M : rb_M} (hd : decode (rb_by k) pc = .ok (.invokestatic ix, 3)) (hf : rb_find rb_il (rb_ow k) ix = some (k', kd)) (hkd : kd = 1 ∨ kd = 3) (hh : rb_h k' < rb_h k) (hn : as.length = rb_na k') (ha : as.length ≤ rb_ml k' ∧ as.all (fun v => v.category == 1) = true) (hal : rb_al k' = false) (hs : st0 = as.reverse ++ rest) (hr : rest.length ≤ 4) {lk : rb_L} (he : rb_ent k' as = lk) : rb_G sc k pc ls st0 M P ↔ rb_G none k' 0 lk [] M (fun r1 M1 => rb_G sc k (pc + 3) ls (r1.toList ++ rest) M1 P) := by
  subst he
  have hlr : as.reverse.length = rb_na k' := by rw [List.length_reverse, hn]
  refine rb_G_call hd (by
    have : ¬ (k', kd) = (0, 6) := fun q => by cases q; omega
    simp only [rb_ki, hf, Option.some.injEq, if_neg this]) ?_ ha hal
  rw [hs]
  simp only [rb_call, hf, if_true, ← hlr, List.drop_left, List.take_left, List.reverse_reverse]
  rw [if_pos ⟨hkd, hh, hr, by rw [List.length_append]; omega⟩]
theorem g_callV {ix k' a ci : Nat} {fs as0 rest st0 : List Value} {M : rb_M} (hd : decode (rb_by k) pc = .ok (.invokevirtual ix, 3)) (hf : rb_find rb_il (rb_ow k) ix = some (k', 0)) (hh : rb_h k' < rb_h k) (hM : M[a]? = some (.inl (ci, fs))) (hci : ci = rb_ow k' ∧ ci < 6) (hn : as0.length + 1 = rb_na k') (ha : as0.length + 1 ≤ rb_ml k' ∧ as0.all (fun v => v.category == 1) = true) (hal : rb_al k' = false) (hs : st0 = as0.reverse ++ .ref a :: rest) (hr : rest.length ≤ 4) {lk : rb_L} (he : rb_ent k' (.ref a :: as0) = lk) : rb_G sc k pc ls st0 M P ↔ rb_G none k' 0 lk [] M (fun r1 M1 => rb_G sc k (pc + 3) ls (r1.toList ++ rest) M1 P) := by
  subst he
  have hs' : st0 = (Value.ref a :: as0).reverse ++ rest := by rw [hs, List.reverse_cons, List.append_assoc]; rfl
  have hlr : (Value.ref a :: as0).reverse.length = rb_na k' := by rw [List.length_reverse, ← hn]; rfl
  refine rb_G_call hd rfl ?_ ⟨ha.1, by rw [List.all_cons, ha.2]; rfl⟩ hal
  rw [hs']
  simp only [rb_call, hf, if_true, ← hlr, List.drop_left, List.take_left, List.reverse_reverse, hM]
  rw [if_pos ⟨trivial, hh, hr, by rw [List.length_append]; omega⟩, if_pos hci]
end RBW
end
