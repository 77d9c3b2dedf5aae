def Cw (o i rc k np : Nat) (md : Md) : Prop :=
  (plainName md.2.1.cls = true ∧ on md.1 = md.2.1.cls ∧ md.2.2.2.1 ≤ 40) ∧ (Cond.code md.2.1 md.2.2.1 md.2.2.2.1 md.2.2.2.2.1 ∈ tbg ∧ Cond.initialized md.2.1.cls ∈ tbg ∧ (md.2.1.cls ≠ "java/lang/invoke/MethodHandle" ∧ md.2.1.cls ≠ "java/lang/invoke/VarHandle") ∧ (parseMethodDescriptor md.2.1.desc).map (fun d => d.parameters.length) = some np) ∧
  ((k = 0 ∧ Cond.methodLink (on o) i md.2.1 ∈ tbg ∧ Cond.instanceMethod md.2.1 ∈ tbg ∧ Cond.selects (on rc) md.2.1 md.2.1 ∈ tbg) ∨
   ((k = 1 ∨ k = 2) ∧ ∃ (x : MethodName) (ow : String) (b0 : ByteArray) (m0 : Nat) (r0 : Option FieldType), Cond.methodLink (on o) i x ∈ tbg ∧ Cond.sameMethod x.cls ow x.name x.desc ∈ tbg ∧ Cond.instanceMethod ⟨ow, x.name, x.desc⟩ ∈ tbg ∧ Cond.code ⟨ow, x.name, x.desc⟩ b0 m0 r0 ∈ tbg ∧ Cond.selects (on rc) x md.2.1 ∈ tbg ∧ Cond.instanceMethod md.2.1 ∈ tbg ∧ (ow ≠ "java/lang/invoke/MethodHandle" ∧ ow ≠ "java/lang/invoke/VarHandle") ∧ (parseMethodDescriptor x.desc).map (fun d => d.parameters.length) = some np) ∨
   (k = 3 ∧ Cond.methodLink (on o) i md.2.1 ∈ tbg ∧ Cond.static md.2.1 ∈ tbg) ∨
   (k = 4 ∧ Cond.methodLink (on o) i md.2.1 ∈ tbg ∧ Cond.instanceMethod md.2.1 ∈ tbg ∧ md.2.1.name = "<init>") ∨
   (k = 5 ∧ Cond.methodLinkNest (on o) i md.2.1 RX11 ∈ nwl ∧ Cond.instanceMethod md.2.1 ∈ tbg ∧ md.2.1.name = "<init>") ∨
   (k = 6 ∧ ∃ x : MethodName, Cond.methodLink (on o) i x ∈ tbg ∧ Cond.sameMethod x.cls md.2.1.cls x.name x.desc ∈ tbg ∧ Cond.superclass (on o) x.cls ∈ tbg ∧ md.2.1 = ⟨md.2.1.cls, x.name, x.desc⟩ ∧ Cond.instanceMethod md.2.1 ∈ tbg ∧ md.2.1.name ≠ "<init>" ∧ (x.cls = md.2.1.cls ∨ Cond.superclass x.cls md.2.1.cls ∈ tbg)))
def MdW (md : Md) : Prop := (plainName md.2.1.cls = true ∧ on md.1 = md.2.1.cls ∧ md.2.2.2.1 ≤ 40) ∧ (Cond.code md.2.1 md.2.2.1 md.2.2.2.1 md.2.2.2.2.1 ∈ tbg ∧ Cond.initialized md.2.1.cls ∈ tbg ∧ (md.2.1.cls ≠ "java/lang/invoke/MethodHandle" ∧ md.2.1.cls ≠ "java/lang/invoke/VarHandle") ∧ (parseMethodDescriptor md.2.1.desc).map (fun d => d.parameters.length) = some md.2.2.2.2.2.2)
set_option maxRecDepth 100000 in
theorem mdw_J0_charAt_5068e : MdW mJ0_charAt_5068e := ⟨⟨by decide +kernel, rfl, by decide⟩, tb_in (i := 562) rfl rfl, tb_in (i := 96) (by decide +kernel) rfl, ⟨by decide +kernel, by decide +kernel⟩, by decide +kernel⟩
set_option maxRecDepth 100000 in
theorem mdw_J0_checkIndex_df160 : MdW mJ0_checkIndex_df160 := ⟨⟨by decide +kernel, rfl, by decide⟩, tb_in (i := 572) rfl rfl, tb_in (i := 96) (by decide +kernel) rfl, ⟨by decide +kernel, by decide +kernel⟩, by decide +kernel⟩
set_option maxRecDepth 100000 in
theorem mdw_J0_coder_7d493 : MdW mJ0_coder_7d493 := ⟨⟨by decide +kernel, rfl, by decide⟩, tb_in (i := 556) rfl rfl, tb_in (i := 96) (by decide +kernel) rfl, ⟨by decide +kernel, by decide +kernel⟩, by decide +kernel⟩
set_option maxRecDepth 100000 in
theorem mdw_J0_indexOf_0f7a4 : MdW mJ0_indexOf_0f7a4 := ⟨⟨by decide +kernel, rfl, by decide⟩, tb_in (i := 627) rfl rfl, tb_in (i := 96) (by decide +kernel) rfl, ⟨by decide +kernel, by decide +kernel⟩, by decide +kernel⟩
set_option maxRecDepth 100000 in
theorem mdw_J0_indexOf_7cf53 : MdW mJ0_indexOf_7cf53 := ⟨⟨by decide +kernel, rfl, by decide⟩, tb_in (i := 631) rfl rfl, tb_in (i := 96) (by decide +kernel) rfl, ⟨by decide +kernel, by decide +kernel⟩, by decide +kernel⟩
set_option maxRecDepth 100000 in
theorem mdw_J0_isLatin1_aae02 : MdW mJ0_isLatin1_aae02 := ⟨⟨by decide +kernel, rfl, by decide⟩, tb_in (i := 566) rfl rfl, tb_in (i := 96) (by decide +kernel) rfl, ⟨by decide +kernel, by decide +kernel⟩, by decide +kernel⟩
set_option maxRecDepth 100000 in
theorem mdw_J0_length_8abf5 : MdW mJ0_length_8abf5 := ⟨⟨by decide +kernel, rfl, by decide⟩, tb_in (i := 552) rfl rfl, tb_in (i := 96) (by decide +kernel) rfl, ⟨by decide +kernel, by decide +kernel⟩, by decide +kernel⟩
set_option maxRecDepth 100000 in
theorem mdw_J1_canEncode_9a6ad : MdW mJ1_canEncode_9a6ad := ⟨⟨by decide +kernel, rfl, by decide⟩, tb_in (i := 638) rfl rfl, tb_in (i := 97) (by decide +kernel) rfl, ⟨by decide +kernel, by decide +kernel⟩, by decide +kernel⟩
set_option maxRecDepth 100000 in
theorem mdw_J1_charAt_3b067 : MdW mJ1_charAt_3b067 := ⟨⟨by decide +kernel, rfl, by decide⟩, tb_in (i := 569) rfl rfl, tb_in (i := 97) (by decide +kernel) rfl, ⟨by decide +kernel, by decide +kernel⟩, by decide +kernel⟩
set_option maxRecDepth 100000 in
theorem mdw_J1_indexOfChar_4cfef : MdW mJ1_indexOfChar_4cfef := ⟨⟨by decide +kernel, rfl, by decide⟩, tb_in (i := 643) rfl rfl, tb_in (i := 97) (by decide +kernel) rfl, ⟨by decide +kernel, by decide +kernel⟩, by decide +kernel⟩
set_option maxRecDepth 100000 in
theorem mdw_J1_indexOf_4cfef : MdW mJ1_indexOf_4cfef := ⟨⟨by decide +kernel, rfl, by decide⟩, tb_in (i := 635) rfl rfl, tb_in (i := 97) (by decide +kernel) rfl, ⟨by decide +kernel, by decide +kernel⟩, by decide +kernel⟩
set_option maxRecDepth 100000 in
theorem mdw_J3_checkIndex_8e157 : MdW mJ3_checkIndex_8e157 := ⟨⟨by decide +kernel, rfl, by decide⟩, tb_in (i := 577) rfl rfl, tb_in (i := 98) (by decide +kernel) rfl, ⟨by decide +kernel, by decide +kernel⟩, by decide +kernel⟩
set_option maxRecDepth 100000 in
theorem mdw_J6_bitCount_0f7a4 : MdW mJ6_bitCount_0f7a4 := ⟨⟨by decide +kernel, rfl, by decide⟩, tb_in (i := 453) rfl rfl, tb_in (i := 95) (by decide +kernel) rfl, ⟨by decide +kernel, by decide +kernel⟩, by decide +kernel⟩
set_option maxRecDepth 100000 in
theorem mdw_J7_copyOf_9075b : MdW mJ7_copyOf_9075b := ⟨⟨by decide +kernel, rfl, by decide⟩, tb_in (i := 487) rfl rfl, tb_in (i := 90) (by decide +kernel) rfl, ⟨by decide +kernel, by decide +kernel⟩, by decide +kernel⟩
set_option maxRecDepth 100000 in
theorem mdw_J7_fill_53178 : MdW mJ7_fill_53178 := ⟨⟨by decide +kernel, rfl, by decide⟩, tb_in (i := 287) rfl rfl, tb_in (i := 90) (by decide +kernel) rfl, ⟨by decide +kernel, by decide +kernel⟩, by decide +kernel⟩
set_option maxRecDepth 100000 in
theorem mdw_J7_fill_d0a16 : MdW mJ7_fill_d0a16 := ⟨⟨by decide +kernel, rfl, by decide⟩, tb_in (i := 948) rfl rfl, tb_in (i := 90) (by decide +kernel) rfl, ⟨by decide +kernel, by decide +kernel⟩, by decide +kernel⟩
set_option maxRecDepth 100000 in
theorem mdw_X0_init : MdW mX0_init := ⟨⟨by decide +kernel, rfl, by decide⟩, tb_in (i := 135) rfl rfl, tb_in (i := 83) (by decide +kernel) rfl, ⟨by decide +kernel, by decide +kernel⟩, by decide +kernel⟩
set_option maxRecDepth 100000 in
theorem mdw_X0_pulls : MdW mX0_pulls := ⟨⟨by decide +kernel, rfl, by decide⟩, tb_in (i := 376) rfl rfl, tb_in (i := 83) (by decide +kernel) rfl, ⟨by decide +kernel, by decide +kernel⟩, by decide +kernel⟩
set_option maxRecDepth 100000 in
theorem mdw_X0_tells : MdW mX0_tells := ⟨⟨by decide +kernel, rfl, by decide⟩, tb_in (i := 908) rfl rfl, tb_in (i := 83) (by decide +kernel) rfl, ⟨by decide +kernel, by decide +kernel⟩, by decide +kernel⟩
set_option maxRecDepth 100000 in
theorem mdw_X10_addAt : MdW mX10_addAt := ⟨⟨by decide +kernel, rfl, by decide⟩, tb_in (i := 353) rfl rfl, tb_in (i := 92) (by decide +kernel) rfl, ⟨by decide +kernel, by decide +kernel⟩, by decide +kernel⟩
set_option maxRecDepth 100000 in
theorem mdw_X10_addStep : MdW mX10_addStep := ⟨⟨by decide +kernel, rfl, by decide⟩, tb_in (i := 685) rfl rfl, tb_in (i := 92) (by decide +kernel) rfl, ⟨by decide +kernel, by decide +kernel⟩, by decide +kernel⟩
set_option maxRecDepth 100000 in
theorem mdw_X10_holds : MdW mX10_holds := ⟨⟨by decide +kernel, rfl, by decide⟩, tb_in (i := 365) rfl rfl, tb_in (i := 92) (by decide +kernel) rfl, ⟨by decide +kernel, by decide +kernel⟩, by decide +kernel⟩
set_option maxRecDepth 100000 in
theorem mdw_X10_hoursThat : MdW mX10_hoursThat := ⟨⟨by decide +kernel, rfl, by decide⟩, tb_in (i := 681) rfl rfl, tb_in (i := 92) (by decide +kernel) rfl, ⟨by decide +kernel, by decide +kernel⟩, by decide +kernel⟩
set_option maxRecDepth 100000 in
theorem mdw_X10_init : MdW mX10_init := ⟨⟨by decide +kernel, rfl, by decide⟩, tb_in (i := 499) rfl rfl, tb_in (i := 92) (by decide +kernel) rfl, ⟨by decide +kernel, by decide +kernel⟩, by decide +kernel⟩
set_option maxRecDepth 100000 in
theorem mdw_X10_readAll : MdW mX10_readAll := ⟨⟨by decide +kernel, rfl, by decide⟩, tb_in (i := 535) rfl rfl, tb_in (i := 92) (by decide +kernel) rfl, ⟨by decide +kernel, by decide +kernel⟩, by decide +kernel⟩
set_option maxRecDepth 100000 in
theorem mdw_X10_readBoth : MdW mX10_readBoth := ⟨⟨by decide +kernel, rfl, by decide⟩, tb_in (i := 614) rfl rfl, tb_in (i := 92) (by decide +kernel) rfl, ⟨by decide +kernel, by decide +kernel⟩, by decide +kernel⟩
set_option maxRecDepth 100000 in
theorem mdw_X10_readClause : MdW mX10_readClause := ⟨⟨by decide +kernel, rfl, by decide⟩, tb_in (i := 539) rfl rfl, tb_in (i := 92) (by decide +kernel) rfl, ⟨by decide +kernel, by decide +kernel⟩, by decide +kernel⟩
set_option maxRecDepth 100000 in
theorem mdw_X10_readEither : MdW mX10_readEither := ⟨⟨by decide +kernel, rfl, by decide⟩, tb_in (i := 610) rfl rfl, tb_in (i := 92) (by decide +kernel) rfl, ⟨by decide +kernel, by decide +kernel⟩, by decide +kernel⟩
set_option maxRecDepth 100000 in
theorem mdw_X10_readNumber : MdW mX10_readNumber := ⟨⟨by decide +kernel, rfl, by decide⟩, tb_in (i := 604) rfl rfl, tb_in (i := 92) (by decide +kernel) rfl, ⟨by decide +kernel, by decide +kernel⟩, by decide +kernel⟩
set_option maxRecDepth 100000 in
theorem mdw_X10_readOne : MdW mX10_readOne := ⟨⟨by decide +kernel, rfl, by decide⟩, tb_in (i := 618) rfl rfl, tb_in (i := 92) (by decide +kernel) rfl, ⟨by decide +kernel, by decide +kernel⟩, by decide +kernel⟩
set_option maxRecDepth 100000 in
theorem mdw_X10_readSign : MdW mX10_readSign := ⟨⟨by decide +kernel, rfl, by decide⟩, tb_in (i := 600) rfl rfl, tb_in (i := 92) (by decide +kernel) rfl, ⟨by decide +kernel, by decide +kernel⟩, by decide +kernel⟩
set_option maxRecDepth 100000 in
theorem mdw_X10_readTest : MdW mX10_readTest := ⟨⟨by decide +kernel, rfl, by decide⟩, tb_in (i := 622) rfl rfl, tb_in (i := 92) (by decide +kernel) rfl, ⟨by decide +kernel, by decide +kernel⟩, by decide +kernel⟩
set_option maxRecDepth 100000 in
theorem mdw_X10_readWord : MdW mX10_readWord := ⟨⟨by decide +kernel, rfl, by decide⟩, tb_in (i := 548) rfl rfl, tb_in (i := 92) (by decide +kernel) rfl, ⟨by decide +kernel, by decide +kernel⟩, by decide +kernel⟩
set_option maxRecDepth 100000 in
theorem mdw_X10_shine : MdW mX10_shine := ⟨⟨by decide +kernel, rfl, by decide⟩, tb_in (i := 350) rfl rfl, tb_in (i := 92) (by decide +kernel) rfl, ⟨by decide +kernel, by decide +kernel⟩, by decide +kernel⟩
set_option maxRecDepth 100000 in
theorem mdw_X10_sign : MdW mX10_sign := ⟨⟨by decide +kernel, rfl, by decide⟩, tb_in (i := 543) rfl rfl, tb_in (i := 92) (by decide +kernel) rfl, ⟨by decide +kernel, by decide +kernel⟩, by decide +kernel⟩
set_option maxRecDepth 100000 in
theorem mdw_X10_testedHours : MdW mX10_testedHours := ⟨⟨by decide +kernel, rfl, by decide⟩, tb_in (i := 358) rfl rfl, tb_in (i := 92) (by decide +kernel) rfl, ⟨by decide +kernel, by decide +kernel⟩, by decide +kernel⟩
set_option maxRecDepth 100000 in
theorem mdw_X11_act : MdW mX11_act := ⟨⟨by decide +kernel, rfl, by decide⟩, tb_in (i := 843) rfl rfl, tb_in (i := 79) (by decide +kernel) rfl, ⟨by decide +kernel, by decide +kernel⟩, by decide +kernel⟩
set_option maxRecDepth 100000 in
theorem mdw_X11_areHours : MdW mX11_areHours := ⟨⟨by decide +kernel, rfl, by decide⟩, tb_in (i := 714) rfl rfl, tb_in (i := 79) (by decide +kernel) rfl, ⟨by decide +kernel, by decide +kernel⟩, by decide +kernel⟩
set_option maxRecDepth 100000 in
theorem mdw_X11_asItem : MdW mX11_asItem := ⟨⟨by decide +kernel, rfl, by decide⟩, tb_in (i := 955) rfl rfl, tb_in (i := 79) (by decide +kernel) rfl, ⟨by decide +kernel, by decide +kernel⟩, by decide +kernel⟩
set_option maxRecDepth 100000 in
theorem mdw_X11_book : MdW mX11_book := ⟨⟨by decide +kernel, rfl, by decide⟩, tb_in (i := 811) rfl rfl, tb_in (i := 79) (by decide +kernel) rfl, ⟨by decide +kernel, by decide +kernel⟩, by decide +kernel⟩
set_option maxRecDepth 100000 in
theorem mdw_X11_can : MdW mX11_can := ⟨⟨by decide +kernel, rfl, by decide⟩, tb_in (i := 768) rfl rfl, tb_in (i := 79) (by decide +kernel) rfl, ⟨by decide +kernel, by decide +kernel⟩, by decide +kernel⟩
set_option maxRecDepth 100000 in
theorem mdw_X11_canBeSent : MdW mX11_canBeSent := ⟨⟨by decide +kernel, rfl, by decide⟩, tb_in (i := 747) rfl rfl, tb_in (i := 79) (by decide +kernel) rfl, ⟨by decide +kernel, by decide +kernel⟩, by decide +kernel⟩
set_option maxRecDepth 100000 in
theorem mdw_X11_clear : MdW mX11_clear := ⟨⟨by decide +kernel, rfl, by decide⟩, tb_in (i := 711) rfl rfl, tb_in (i := 79) (by decide +kernel) rfl, ⟨by decide +kernel, by decide +kernel⟩, by decide +kernel⟩
set_option maxRecDepth 100000 in
theorem mdw_X11_count : MdW mX11_count := ⟨⟨by decide +kernel, rfl, by decide⟩, tb_in (i := 941) rfl rfl, tb_in (i := 79) (by decide +kernel) rfl, ⟨by decide +kernel, by decide +kernel⟩, by decide +kernel⟩
set_option maxRecDepth 100000 in
theorem mdw_X11_countGives : MdW mX11_countGives := ⟨⟨by decide +kernel, rfl, by decide⟩, tb_in (i := 743) rfl rfl, tb_in (i := 79) (by decide +kernel) rfl, ⟨by decide +kernel, by decide +kernel⟩, by decide +kernel⟩
set_option maxRecDepth 100000 in
theorem mdw_X11_cut : MdW mX11_cut := ⟨⟨by decide +kernel, rfl, by decide⟩, tb_in (i := 463) rfl rfl, tb_in (i := 79) (by decide +kernel) rfl, ⟨by decide +kernel, by decide +kernel⟩, by decide +kernel⟩
set_option maxRecDepth 100000 in
theorem mdw_X11_ends : MdW mX11_ends := ⟨⟨by decide +kernel, rfl, by decide⟩, tb_in (i := 800) rfl rfl, tb_in (i := 79) (by decide +kernel) rfl, ⟨by decide +kernel, by decide +kernel⟩, by decide +kernel⟩
set_option maxRecDepth 100000 in
theorem mdw_X11_feed : MdW mX11_feed := ⟨⟨by decide +kernel, rfl, by decide⟩, tb_in (i := 479) rfl rfl, tb_in (i := 79) (by decide +kernel) rfl, ⟨by decide +kernel, by decide +kernel⟩, by decide +kernel⟩
set_option maxRecDepth 100000 in
theorem mdw_X11_firstGiven : MdW mX11_firstGiven := ⟨⟨by decide +kernel, rfl, by decide⟩, tb_in (i := 756) rfl rfl, tb_in (i := 79) (by decide +kernel) rfl, ⟨by decide +kernel, by decide +kernel⟩, by decide +kernel⟩
set_option maxRecDepth 100000 in
theorem mdw_X11_fractionPart : MdW mX11_fractionPart := ⟨⟨by decide +kernel, rfl, by decide⟩, tb_in (i := 788) rfl rfl, tb_in (i := 79) (by decide +kernel) rfl, ⟨by decide +kernel, by decide +kernel⟩, by decide +kernel⟩
set_option maxRecDepth 100000 in
theorem mdw_X11_fruit : MdW mX11_fruit := ⟨⟨by decide +kernel, rfl, by decide⟩, tb_in (i := 329) rfl rfl, tb_in (i := 79) (by decide +kernel) rfl, ⟨by decide +kernel, by decide +kernel⟩, by decide +kernel⟩
set_option maxRecDepth 100000 in
theorem mdw_X11_help : MdW mX11_help := ⟨⟨by decide +kernel, rfl, by decide⟩, tb_in (i := 723) rfl rfl, tb_in (i := 79) (by decide +kernel) rfl, ⟨by decide +kernel, by decide +kernel⟩, by decide +kernel⟩
set_option maxRecDepth 100000 in
theorem mdw_X11_image : MdW mX11_image := ⟨⟨by decide +kernel, rfl, by decide⟩, tb_in (i := 826) rfl rfl, tb_in (i := 79) (by decide +kernel) rfl, ⟨by decide +kernel, by decide +kernel⟩, by decide +kernel⟩
set_option maxRecDepth 100000 in
theorem mdw_X11_init : MdW mX11_init := ⟨⟨by decide +kernel, rfl, by decide⟩, tb_in (i := 105) rfl rfl, tb_in (i := 79) (by decide +kernel) rfl, ⟨by decide +kernel, by decide +kernel⟩, by decide +kernel⟩
set_option maxRecDepth 100000 in
theorem mdw_X11_isSeenSo : MdW mX11_isSeenSo := ⟨⟨by decide +kernel, rfl, by decide⟩, tb_in (i := 772) rfl rfl, tb_in (i := 79) (by decide +kernel) rfl, ⟨by decide +kernel, by decide +kernel⟩, by decide +kernel⟩
set_option maxRecDepth 100000 in
theorem mdw_X11_isTape : MdW mX11_isTape := ⟨⟨by decide +kernel, rfl, by decide⟩, tb_in (i := 822) rfl rfl, tb_in (i := 79) (by decide +kernel) rfl, ⟨by decide +kernel, by decide +kernel⟩, by decide +kernel⟩
set_option maxRecDepth 100000 in
theorem mdw_X11_item : MdW mX11_item := ⟨⟨by decide +kernel, rfl, by decide⟩, tb_in (i := 952) rfl rfl, tb_in (i := 79) (by decide +kernel) rfl, ⟨by decide +kernel, by decide +kernel⟩, by decide +kernel⟩
set_option maxRecDepth 100000 in
theorem mdw_X11_judge : MdW mX11_judge := ⟨⟨by decide +kernel, rfl, by decide⟩, tb_in (i := 819) rfl rfl, tb_in (i := 79) (by decide +kernel) rfl, ⟨by decide +kernel, by decide +kernel⟩, by decide +kernel⟩
set_option maxRecDepth 100000 in
theorem mdw_X11_leastCuts : MdW mX11_leastCuts := ⟨⟨by decide +kernel, rfl, by decide⟩, tb_in (i := 718) rfl rfl, tb_in (i := 79) (by decide +kernel) rfl, ⟨by decide +kernel, by decide +kernel⟩, by decide +kernel⟩
set_option maxRecDepth 100000 in
theorem mdw_X11_looked : MdW mX11_looked := ⟨⟨by decide +kernel, rfl, by decide⟩, tb_in (i := 815) rfl rfl, tb_in (i := 79) (by decide +kernel) rfl, ⟨by decide +kernel, by decide +kernel⟩, by decide +kernel⟩
set_option maxRecDepth 100000 in
theorem mdw_X11_mean : MdW mX11_mean := ⟨⟨by decide +kernel, rfl, by decide⟩, tb_in (i := 792) rfl rfl, tb_in (i := 79) (by decide +kernel) rfl, ⟨by decide +kernel, by decide +kernel⟩, by decide +kernel⟩
set_option maxRecDepth 100000 in
theorem mdw_X11_odds : MdW mX11_odds := ⟨⟨by decide +kernel, rfl, by decide⟩, tb_in (i := 784) rfl rfl, tb_in (i := 79) (by decide +kernel) rfl, ⟨by decide +kernel, by decide +kernel⟩, by decide +kernel⟩
set_option maxRecDepth 100000 in
theorem mdw_X11_of : MdW mX11_of := ⟨⟨by decide +kernel, rfl, by decide⟩, tb_in (i := 338) rfl rfl, tb_in (i := 79) (by decide +kernel) rfl, ⟨by decide +kernel, by decide +kernel⟩, by decide +kernel⟩
set_option maxRecDepth 100000 in
theorem mdw_X11_on : MdW mX11_on := ⟨⟨by decide +kernel, rfl, by decide⟩, tb_in (i := 707) rfl rfl, tb_in (i := 79) (by decide +kernel) rfl, ⟨by decide +kernel, by decide +kernel⟩, by decide +kernel⟩
set_option maxRecDepth 100000 in
theorem mdw_X11_ownHours : MdW mX11_ownHours := ⟨⟨by decide +kernel, rfl, by decide⟩, tb_in (i := 411) rfl rfl, tb_in (i := 79) (by decide +kernel) rfl, ⟨by decide +kernel, by decide +kernel⟩, by decide +kernel⟩
set_option maxRecDepth 100000 in
theorem mdw_X11_pass : MdW mX11_pass := ⟨⟨by decide +kernel, rfl, by decide⟩, tb_in (i := 703) rfl rfl, tb_in (i := 79) (by decide +kernel) rfl, ⟨by decide +kernel, by decide +kernel⟩, by decide +kernel⟩
set_option maxRecDepth 100000 in
theorem mdw_X11_plan : MdW mX11_plan := ⟨⟨by decide +kernel, rfl, by decide⟩, tb_in (i := 796) rfl rfl, tb_in (i := 79) (by decide +kernel) rfl, ⟨by decide +kernel, by decide +kernel⟩, by decide +kernel⟩
set_option maxRecDepth 100000 in
theorem mdw_X11_read : MdW mX11_read := ⟨⟨by decide +kernel, rfl, by decide⟩, tb_in (i := 959) rfl rfl, tb_in (i := 79) (by decide +kernel) rfl, ⟨by decide +kernel, by decide +kernel⟩, by decide +kernel⟩
set_option maxRecDepth 100000 in
theorem mdw_X11_row : MdW mX11_row := ⟨⟨by decide +kernel, rfl, by decide⟩, tb_in (i := 475) rfl rfl, tb_in (i := 79) (by decide +kernel) rfl, ⟨by decide +kernel, by decide +kernel⟩, by decide +kernel⟩
set_option maxRecDepth 100000 in
theorem mdw_X11_see : MdW mX11_see := ⟨⟨by decide +kernel, rfl, by decide⟩, tb_in (i := 760) rfl rfl, tb_in (i := 79) (by decide +kernel) rfl, ⟨by decide +kernel, by decide +kernel⟩, by decide +kernel⟩
set_option maxRecDepth 100000 in
theorem mdw_X11_sent : MdW mX11_sent := ⟨⟨by decide +kernel, rfl, by decide⟩, tb_in (i := 739) rfl rfl, tb_in (i := 79) (by decide +kernel) rfl, ⟨by decide +kernel, by decide +kernel⟩, by decide +kernel⟩
set_option maxRecDepth 100000 in
theorem mdw_X11_sentFor : MdW mX11_sentFor := ⟨⟨by decide +kernel, rfl, by decide⟩, tb_in (i := 752) rfl rfl, tb_in (i := 79) (by decide +kernel) rfl, ⟨by decide +kernel, by decide +kernel⟩, by decide +kernel⟩
set_option maxRecDepth 100000 in
theorem mdw_X11_set : MdW mX11_set := ⟨⟨by decide +kernel, rfl, by decide⟩, tb_in (i := 471) rfl rfl, tb_in (i := 79) (by decide +kernel) rfl, ⟨by decide +kernel, by decide +kernel⟩, by decide +kernel⟩
set_option maxRecDepth 100000 in
theorem mdw_X11_shift : MdW mX11_shift := ⟨⟨by decide +kernel, rfl, by decide⟩, tb_in (i := 963) rfl rfl, tb_in (i := 79) (by decide +kernel) rfl, ⟨by decide +kernel, by decide +kernel⟩, by decide +kernel⟩
set_option maxRecDepth 100000 in
theorem mdw_X11_soleHours : MdW mX11_soleHours := ⟨⟨by decide +kernel, rfl, by decide⟩, tb_in (i := 424) rfl rfl, tb_in (i := 79) (by decide +kernel) rfl, ⟨by decide +kernel, by decide +kernel⟩, by decide +kernel⟩
set_option maxRecDepth 100000 in
theorem mdw_X11_taken : MdW mX11_taken := ⟨⟨by decide +kernel, rfl, by decide⟩, tb_in (i := 935) rfl rfl, tb_in (i := 79) (by decide +kernel) rfl, ⟨by decide +kernel, by decide +kernel⟩, by decide +kernel⟩
set_option maxRecDepth 100000 in
theorem mdw_X11_tape : MdW mX11_tape := ⟨⟨by decide +kernel, rfl, by decide⟩, tb_in (i := 945) rfl rfl, tb_in (i := 79) (by decide +kernel) rfl, ⟨by decide +kernel, by decide +kernel⟩, by decide +kernel⟩
set_option maxRecDepth 100000 in
theorem mdw_X11_tellRow : MdW mX11_tellRow := ⟨⟨by decide +kernel, rfl, by decide⟩, tb_in (i := 764) rfl rfl, tb_in (i := 79) (by decide +kernel) rfl, ⟨by decide +kernel, by decide +kernel⟩, by decide +kernel⟩
set_option maxRecDepth 100000 in
theorem mdw_X11_told : MdW mX11_told := ⟨⟨by decide +kernel, rfl, by decide⟩, tb_in (i := 689) rfl rfl, tb_in (i := 79) (by decide +kernel) rfl, ⟨by decide +kernel, by decide +kernel⟩, by decide +kernel⟩
set_option maxRecDepth 100000 in
theorem mdw_X11_trace : MdW mX11_trace := ⟨⟨by decide +kernel, rfl, by decide⟩, tb_in (i := 930) rfl rfl, tb_in (i := 79) (by decide +kernel) rfl, ⟨by decide +kernel, by decide +kernel⟩, by decide +kernel⟩
set_option maxRecDepth 100000 in
theorem mdw_X11_undo : MdW mX11_undo := ⟨⟨by decide +kernel, rfl, by decide⟩, tb_in (i := 839) rfl rfl, tb_in (i := 79) (by decide +kernel) rfl, ⟨by decide +kernel, by decide +kernel⟩, by decide +kernel⟩
set_option maxRecDepth 100000 in
theorem mdw_X11_wall : MdW mX11_wall := ⟨⟨by decide +kernel, rfl, by decide⟩, tb_in (i := 483) rfl rfl, tb_in (i := 79) (by decide +kernel) rfl, ⟨by decide +kernel, by decide +kernel⟩, by decide +kernel⟩
set_option maxRecDepth 100000 in
theorem mdw_X11_want : MdW mX11_want := ⟨⟨by decide +kernel, rfl, by decide⟩, tb_in (i := 727) rfl rfl, tb_in (i := 79) (by decide +kernel) rfl, ⟨by decide +kernel, by decide +kernel⟩, by decide +kernel⟩
set_option maxRecDepth 100000 in
theorem mdw_X11_whenRipe : MdW mX11_whenRipe := ⟨⟨by decide +kernel, rfl, by decide⟩, tb_in (i := 439) rfl rfl, tb_in (i := 79) (by decide +kernel) rfl, ⟨by decide +kernel, by decide +kernel⟩, by decide +kernel⟩
set_option maxRecDepth 100000 in
theorem mdw_X11_which : MdW mX11_which := ⟨⟨by decide +kernel, rfl, by decide⟩, tb_in (i := 780) rfl rfl, tb_in (i := 79) (by decide +kernel) rfl, ⟨by decide +kernel, by decide +kernel⟩, by decide +kernel⟩
set_option maxRecDepth 100000 in
theorem mdw_X12_act : MdW mX12_act := ⟨⟨by decide +kernel, rfl, by decide⟩, tb_in (i := 1490) rfl rfl, tb_in (i := 91) (by decide +kernel) rfl, ⟨by decide +kernel, by decide +kernel⟩, by decide +kernel⟩
set_option maxRecDepth 100000 in
theorem mdw_X12_allRipe : MdW mX12_allRipe := ⟨⟨by decide +kernel, rfl, by decide⟩, tb_in (i := 1389) rfl rfl, tb_in (i := 91) (by decide +kernel) rfl, ⟨by decide +kernel, by decide +kernel⟩, by decide +kernel⟩
set_option maxRecDepth 100000 in
theorem mdw_X12_begin : MdW mX12_begin := ⟨⟨by decide +kernel, rfl, by decide⟩, tb_in (i := 1328) rfl rfl, tb_in (i := 91) (by decide +kernel) rfl, ⟨by decide +kernel, by decide +kernel⟩, by decide +kernel⟩
set_option maxRecDepth 100000 in
theorem mdw_X12_behind : MdW mX12_behind := ⟨⟨by decide +kernel, rfl, by decide⟩, tb_in (i := 1332) rfl rfl, tb_in (i := 91) (by decide +kernel) rfl, ⟨by decide +kernel, by decide +kernel⟩, by decide +kernel⟩
set_option maxRecDepth 100000 in
theorem mdw_X12_bits : MdW mX12_bits := ⟨⟨by decide +kernel, rfl, by decide⟩, tb_in (i := 1344) rfl rfl, tb_in (i := 91) (by decide +kernel) rfl, ⟨by decide +kernel, by decide +kernel⟩, by decide +kernel⟩
set_option maxRecDepth 100000 in
theorem mdw_X12_body : MdW mX12_body := ⟨⟨by decide +kernel, rfl, by decide⟩, tb_in (i := 1498) rfl rfl, tb_in (i := 91) (by decide +kernel) rfl, ⟨by decide +kernel, by decide +kernel⟩, by decide +kernel⟩
set_option maxRecDepth 100000 in
theorem mdw_X12_book : MdW mX12_book := ⟨⟨by decide +kernel, rfl, by decide⟩, tb_in (i := 1466) rfl rfl, tb_in (i := 91) (by decide +kernel) rfl, ⟨by decide +kernel, by decide +kernel⟩, by decide +kernel⟩
set_option maxRecDepth 100000 in
theorem mdw_X12_can : MdW mX12_can := ⟨⟨by decide +kernel, rfl, by decide⟩, tb_in (i := 1425) rfl rfl, tb_in (i := 91) (by decide +kernel) rfl, ⟨by decide +kernel, by decide +kernel⟩, by decide +kernel⟩
set_option maxRecDepth 100000 in
theorem mdw_X12_clear : MdW mX12_clear := ⟨⟨by decide +kernel, rfl, by decide⟩, tb_in (i := 1401) rfl rfl, tb_in (i := 91) (by decide +kernel) rfl, ⟨by decide +kernel, by decide +kernel⟩, by decide +kernel⟩
set_option maxRecDepth 100000 in
theorem mdw_X12_count : MdW mX12_count := ⟨⟨by decide +kernel, rfl, by decide⟩, tb_in (i := 1534) rfl rfl, tb_in (i := 91) (by decide +kernel) rfl, ⟨by decide +kernel, by decide +kernel⟩, by decide +kernel⟩
set_option maxRecDepth 100000 in
theorem mdw_X12_cut : MdW mX12_cut := ⟨⟨by decide +kernel, rfl, by decide⟩, tb_in (i := 1200) rfl rfl, tb_in (i := 91) (by decide +kernel) rfl, ⟨by decide +kernel, by decide +kernel⟩, by decide +kernel⟩
set_option maxRecDepth 100000 in
theorem mdw_X12_cutting : MdW mX12_cutting := ⟨⟨by decide +kernel, rfl, by decide⟩, tb_in (i := 1212) rfl rfl, tb_in (i := 91) (by decide +kernel) rfl, ⟨by decide +kernel, by decide +kernel⟩, by decide +kernel⟩
set_option maxRecDepth 100000 in
theorem mdw_X12_divisor : MdW mX12_divisor := ⟨⟨by decide +kernel, rfl, by decide⟩, tb_in (i := 1446) rfl rfl, tb_in (i := 91) (by decide +kernel) rfl, ⟨by decide +kernel, by decide +kernel⟩, by decide +kernel⟩
set_option maxRecDepth 100000 in
theorem mdw_X12_earlySwells : MdW mX12_earlySwells := ⟨⟨by decide +kernel, rfl, by decide⟩, tb_in (i := 1510) rfl rfl, tb_in (i := 91) (by decide +kernel) rfl, ⟨by decide +kernel, by decide +kernel⟩, by decide +kernel⟩
set_option maxRecDepth 100000 in
theorem mdw_X12_emits : MdW mX12_emits := ⟨⟨by decide +kernel, rfl, by decide⟩, tb_in (i := 1288) rfl rfl, tb_in (i := 91) (by decide +kernel) rfl, ⟨by decide +kernel, by decide +kernel⟩, by decide +kernel⟩
set_option maxRecDepth 100000 in
theorem mdw_X12_ends : MdW mX12_ends := ⟨⟨by decide +kernel, rfl, by decide⟩, tb_in (i := 1458) rfl rfl, tb_in (i := 91) (by decide +kernel) rfl, ⟨by decide +kernel, by decide +kernel⟩, by decide +kernel⟩
set_option maxRecDepth 100000 in
theorem mdw_X12_enough : MdW mX12_enough := ⟨⟨by decide +kernel, rfl, by decide⟩, tb_in (i := 1377) rfl rfl, tb_in (i := 91) (by decide +kernel) rfl, ⟨by decide +kernel, by decide +kernel⟩, by decide +kernel⟩
set_option maxRecDepth 100000 in
theorem mdw_X12_factOf : MdW mX12_factOf := ⟨⟨by decide +kernel, rfl, by decide⟩, tb_in (i := 1340) rfl rfl, tb_in (i := 91) (by decide +kernel) rfl, ⟨by decide +kernel, by decide +kernel⟩, by decide +kernel⟩
set_option maxRecDepth 100000 in
theorem mdw_X12_feed : MdW mX12_feed := ⟨⟨by decide +kernel, rfl, by decide⟩, tb_in (i := 1232) rfl rfl, tb_in (i := 91) (by decide +kernel) rfl, ⟨by decide +kernel, by decide +kernel⟩, by decide +kernel⟩
set_option maxRecDepth 100000 in
theorem mdw_X12_fruit : MdW mX12_fruit := ⟨⟨by decide +kernel, rfl, by decide⟩, tb_in (i := 1192) rfl rfl, tb_in (i := 91) (by decide +kernel) rfl, ⟨by decide +kernel, by decide +kernel⟩, by decide +kernel⟩
set_option maxRecDepth 100000 in
theorem mdw_X12_givenBy : MdW mX12_givenBy := ⟨⟨by decide +kernel, rfl, by decide⟩, tb_in (i := 1417) rfl rfl, tb_in (i := 91) (by decide +kernel) rfl, ⟨by decide +kernel, by decide +kernel⟩, by decide +kernel⟩
set_option maxRecDepth 100000 in
theorem mdw_X12_goDay : MdW mX12_goDay := ⟨⟨by decide +kernel, rfl, by decide⟩, tb_in (i := 1308) rfl rfl, tb_in (i := 91) (by decide +kernel) rfl, ⟨by decide +kernel, by decide +kernel⟩, by decide +kernel⟩
set_option maxRecDepth 100000 in
theorem mdw_X12_goDays : MdW mX12_goDays := ⟨⟨by decide +kernel, rfl, by decide⟩, tb_in (i := 1304) rfl rfl, tb_in (i := 91) (by decide +kernel) rfl, ⟨by decide +kernel, by decide +kernel⟩, by decide +kernel⟩
set_option maxRecDepth 100000 in
theorem mdw_X12_goPlan : MdW mX12_goPlan := ⟨⟨by decide +kernel, rfl, by decide⟩, tb_in (i := 1462) rfl rfl, tb_in (i := 91) (by decide +kernel) rfl, ⟨by decide +kernel, by decide +kernel⟩, by decide +kernel⟩
set_option maxRecDepth 100000 in
theorem mdw_X12_goesText : MdW mX12_goesText := ⟨⟨by decide +kernel, rfl, by decide⟩, tb_in (i := 1240) rfl rfl, tb_in (i := 91) (by decide +kernel) rfl, ⟨by decide +kernel, by decide +kernel⟩, by decide +kernel⟩
set_option maxRecDepth 100000 in
theorem mdw_X12_has : MdW mX12_has := ⟨⟨by decide +kernel, rfl, by decide⟩, tb_in (i := 1208) rfl rfl, tb_in (i := 91) (by decide +kernel) rfl, ⟨by decide +kernel, by decide +kernel⟩, by decide +kernel⟩
set_option maxRecDepth 100000 in
theorem mdw_X12_help : MdW mX12_help := ⟨⟨by decide +kernel, rfl, by decide⟩, tb_in (i := 1405) rfl rfl, tb_in (i := 91) (by decide +kernel) rfl, ⟨by decide +kernel, by decide +kernel⟩, by decide +kernel⟩
set_option maxRecDepth 100000 in
theorem mdw_X12_holds : MdW mX12_holds := ⟨⟨by decide +kernel, rfl, by decide⟩, tb_in (i := 1336) rfl rfl, tb_in (i := 91) (by decide +kernel) rfl, ⟨by decide +kernel, by decide +kernel⟩, by decide +kernel⟩
set_option maxRecDepth 100000 in
theorem mdw_X12_hoursIf : MdW mX12_hoursIf := ⟨⟨by decide +kernel, rfl, by decide⟩, tb_in (i := 1364) rfl rfl, tb_in (i := 91) (by decide +kernel) rfl, ⟨by decide +kernel, by decide +kernel⟩, by decide +kernel⟩
set_option maxRecDepth 100000 in
theorem mdw_X12_hoursOf : MdW mX12_hoursOf := ⟨⟨by decide +kernel, rfl, by decide⟩, tb_in (i := 1356) rfl rfl, tb_in (i := 91) (by decide +kernel) rfl, ⟨by decide +kernel, by decide +kernel⟩, by decide +kernel⟩
set_option maxRecDepth 100000 in
theorem mdw_X12_image : MdW mX12_image := ⟨⟨by decide +kernel, rfl, by decide⟩, tb_in (i := 1482) rfl rfl, tb_in (i := 91) (by decide +kernel) rfl, ⟨by decide +kernel, by decide +kernel⟩, by decide +kernel⟩
set_option maxRecDepth 100000 in
theorem mdw_X12_in : MdW mX12_in := ⟨⟨by decide +kernel, rfl, by decide⟩, tb_in (i := 1196) rfl rfl, tb_in (i := 91) (by decide +kernel) rfl, ⟨by decide +kernel, by decide +kernel⟩, by decide +kernel⟩
set_option maxRecDepth 100000 in
theorem mdw_X12_init : MdW mX12_init := ⟨⟨by decide +kernel, rfl, by decide⟩, tb_in (i := 969) rfl rfl, tb_in (i := 91) (by decide +kernel) rfl, ⟨by decide +kernel, by decide +kernel⟩, by decide +kernel⟩
set_option maxRecDepth 100000 in
theorem mdw_X12_isDigit : MdW mX12_isDigit := ⟨⟨by decide +kernel, rfl, by decide⟩, tb_in (i := 1272) rfl rfl, tb_in (i := 91) (by decide +kernel) rfl, ⟨by decide +kernel, by decide +kernel⟩, by decide +kernel⟩
set_option maxRecDepth 100000 in
theorem mdw_X12_isFruit : MdW mX12_isFruit := ⟨⟨by decide +kernel, rfl, by decide⟩, tb_in (i := 1204) rfl rfl, tb_in (i := 91) (by decide +kernel) rfl, ⟨by decide +kernel, by decide +kernel⟩, by decide +kernel⟩
set_option maxRecDepth 100000 in
theorem mdw_X12_isHours : MdW mX12_isHours := ⟨⟨by decide +kernel, rfl, by decide⟩, tb_in (i := 1220) rfl rfl, tb_in (i := 91) (by decide +kernel) rfl, ⟨by decide +kernel, by decide +kernel⟩, by decide +kernel⟩
set_option maxRecDepth 100000 in
theorem mdw_X12_isRipe : MdW mX12_isRipe := ⟨⟨by decide +kernel, rfl, by decide⟩, tb_in (i := 1224) rfl rfl, tb_in (i := 91) (by decide +kernel) rfl, ⟨by decide +kernel, by decide +kernel⟩, by decide +kernel⟩
set_option maxRecDepth 100000 in
theorem mdw_X12_isSeen : MdW mX12_isSeen := ⟨⟨by decide +kernel, rfl, by decide⟩, tb_in (i := 1429) rfl rfl, tb_in (i := 91) (by decide +kernel) rfl, ⟨by decide +kernel, by decide +kernel⟩, by decide +kernel⟩
set_option maxRecDepth 100000 in
theorem mdw_X12_isTape : MdW mX12_isTape := ⟨⟨by decide +kernel, rfl, by decide⟩, tb_in (i := 1478) rfl rfl, tb_in (i := 91) (by decide +kernel) rfl, ⟨by decide +kernel, by decide +kernel⟩, by decide +kernel⟩
set_option maxRecDepth 100000 in
theorem mdw_X12_item : MdW mX12_item := ⟨⟨by decide +kernel, rfl, by decide⟩, tb_in (i := 1542) rfl rfl, tb_in (i := 91) (by decide +kernel) rfl, ⟨by decide +kernel, by decide +kernel⟩, by decide +kernel⟩
set_option maxRecDepth 100000 in
theorem mdw_X12_judge : MdW mX12_judge := ⟨⟨by decide +kernel, rfl, by decide⟩, tb_in (i := 1474) rfl rfl, tb_in (i := 91) (by decide +kernel) rfl, ⟨by decide +kernel, by decide +kernel⟩, by decide +kernel⟩
set_option maxRecDepth 100000 in
theorem mdw_X12_layHours : MdW mX12_layHours := ⟨⟨by decide +kernel, rfl, by decide⟩, tb_in (i := 1312) rfl rfl, tb_in (i := 91) (by decide +kernel) rfl, ⟨by decide +kernel, by decide +kernel⟩, by decide +kernel⟩
set_option maxRecDepth 100000 in
theorem mdw_X12_least : MdW mX12_least := ⟨⟨by decide +kernel, rfl, by decide⟩, tb_in (i := 1348) rfl rfl, tb_in (i := 91) (by decide +kernel) rfl, ⟨by decide +kernel, by decide +kernel⟩, by decide +kernel⟩
set_option maxRecDepth 100000 in
theorem mdw_X12_looked : MdW mX12_looked := ⟨⟨by decide +kernel, rfl, by decide⟩, tb_in (i := 1470) rfl rfl, tb_in (i := 91) (by decide +kernel) rfl, ⟨by decide +kernel, by decide +kernel⟩, by decide +kernel⟩
set_option maxRecDepth 100000 in
theorem mdw_X12_lowest : MdW mX12_lowest := ⟨⟨by decide +kernel, rfl, by decide⟩, tb_in (i := 1442) rfl rfl, tb_in (i := 91) (by decide +kernel) rfl, ⟨by decide +kernel, by decide +kernel⟩, by decide +kernel⟩
set_option maxRecDepth 100000 in
theorem mdw_X12_mean : MdW mX12_mean := ⟨⟨by decide +kernel, rfl, by decide⟩, tb_in (i := 1450) rfl rfl, tb_in (i := 91) (by decide +kernel) rfl, ⟨by decide +kernel, by decide +kernel⟩, by decide +kernel⟩
set_option maxRecDepth 100000 in
theorem mdw_X12_narrow : MdW mX12_narrow := ⟨⟨by decide +kernel, rfl, by decide⟩, tb_in (i := 1546) rfl rfl, tb_in (i := 91) (by decide +kernel) rfl, ⟨by decide +kernel, by decide +kernel⟩, by decide +kernel⟩
set_option maxRecDepth 100000 in
theorem mdw_X12_next : MdW mX12_next := ⟨⟨by decide +kernel, rfl, by decide⟩, tb_in (i := 1252) rfl rfl, tb_in (i := 91) (by decide +kernel) rfl, ⟨by decide +kernel, by decide +kernel⟩, by decide +kernel⟩
set_option maxRecDepth 100000 in
theorem mdw_X12_odds : MdW mX12_odds := ⟨⟨by decide +kernel, rfl, by decide⟩, tb_in (i := 1437) rfl rfl, tb_in (i := 91) (by decide +kernel) rfl, ⟨by decide +kernel, by decide +kernel⟩, by decide +kernel⟩
set_option maxRecDepth 100000 in
theorem mdw_X12_of : MdW mX12_of := ⟨⟨by decide +kernel, rfl, by decide⟩, tb_in (i := 1352) rfl rfl, tb_in (i := 91) (by decide +kernel) rfl, ⟨by decide +kernel, by decide +kernel⟩, by decide +kernel⟩
set_option maxRecDepth 100000 in
theorem mdw_X12_on : MdW mX12_on := ⟨⟨by decide +kernel, rfl, by decide⟩, tb_in (i := 1397) rfl rfl, tb_in (i := 91) (by decide +kernel) rfl, ⟨by decide +kernel, by decide +kernel⟩, by decide +kernel⟩
set_option maxRecDepth 100000 in
theorem mdw_X12_owner : MdW mX12_owner := ⟨⟨by decide +kernel, rfl, by decide⟩, tb_in (i := 1316) rfl rfl, tb_in (i := 91) (by decide +kernel) rfl, ⟨by decide +kernel, by decide +kernel⟩, by decide +kernel⟩
set_option maxRecDepth 100000 in
theorem mdw_X12_pass : MdW mX12_pass := ⟨⟨by decide +kernel, rfl, by decide⟩, tb_in (i := 1300) rfl rfl, tb_in (i := 91) (by decide +kernel) rfl, ⟨by decide +kernel, by decide +kernel⟩, by decide +kernel⟩
set_option maxRecDepth 100000 in
theorem mdw_X12_pearSwells : MdW mX12_pearSwells := ⟨⟨by decide +kernel, rfl, by decide⟩, tb_in (i := 1514) rfl rfl, tb_in (i := 91) (by decide +kernel) rfl, ⟨by decide +kernel, by decide +kernel⟩, by decide +kernel⟩
set_option maxRecDepth 100000 in
theorem mdw_X12_pearTells : MdW mX12_pearTells := ⟨⟨by decide +kernel, rfl, by decide⟩, tb_in (i := 1522) rfl rfl, tb_in (i := 91) (by decide +kernel) rfl, ⟨by decide +kernel, by decide +kernel⟩, by decide +kernel⟩
set_option maxRecDepth 100000 in
theorem mdw_X12_pearWarms : MdW mX12_pearWarms := ⟨⟨by decide +kernel, rfl, by decide⟩, tb_in (i := 1502) rfl rfl, tb_in (i := 91) (by decide +kernel) rfl, ⟨by decide +kernel, by decide +kernel⟩, by decide +kernel⟩
set_option maxRecDepth 100000 in
theorem mdw_X12_place : MdW mX12_place := ⟨⟨by decide +kernel, rfl, by decide⟩, tb_in (i := 1284) rfl rfl, tb_in (i := 91) (by decide +kernel) rfl, ⟨by decide +kernel, by decide +kernel⟩, by decide +kernel⟩
set_option maxRecDepth 100000 in
theorem mdw_X12_plan : MdW mX12_plan := ⟨⟨by decide +kernel, rfl, by decide⟩, tb_in (i := 1454) rfl rfl, tb_in (i := 91) (by decide +kernel) rfl, ⟨by decide +kernel, by decide +kernel⟩, by decide +kernel⟩
set_option maxRecDepth 100000 in
theorem mdw_X12_pull : MdW mX12_pull := ⟨⟨by decide +kernel, rfl, by decide⟩, tb_in (i := 1320) rfl rfl, tb_in (i := 91) (by decide +kernel) rfl, ⟨by decide +kernel, by decide +kernel⟩, by decide +kernel⟩
set_option maxRecDepth 100000 in
theorem mdw_X12_putBack : MdW mX12_putBack := ⟨⟨by decide +kernel, rfl, by decide⟩, tb_in (i := 1381) rfl rfl, tb_in (i := 91) (by decide +kernel) rfl, ⟨by decide +kernel, by decide +kernel⟩, by decide +kernel⟩
set_option maxRecDepth 100000 in
theorem mdw_X12_read : MdW mX12_read := ⟨⟨by decide +kernel, rfl, by decide⟩, tb_in (i := 1550) rfl rfl, tb_in (i := 91) (by decide +kernel) rfl, ⟨by decide +kernel, by decide +kernel⟩, by decide +kernel⟩
set_option maxRecDepth 100000 in
theorem mdw_X12_ripeMany : MdW mX12_ripeMany := ⟨⟨by decide +kernel, rfl, by decide⟩, tb_in (i := 1393) rfl rfl, tb_in (i := 91) (by decide +kernel) rfl, ⟨by decide +kernel, by decide +kernel⟩, by decide +kernel⟩
set_option maxRecDepth 100000 in
theorem mdw_X12_row : MdW mX12_row := ⟨⟨by decide +kernel, rfl, by decide⟩, tb_in (i := 1228) rfl rfl, tb_in (i := 91) (by decide +kernel) rfl, ⟨by decide +kernel, by decide +kernel⟩, by decide +kernel⟩
set_option maxRecDepth 100000 in
theorem mdw_X12_save : MdW mX12_save := ⟨⟨by decide +kernel, rfl, by decide⟩, tb_in (i := 1372) rfl rfl, tb_in (i := 91) (by decide +kernel) rfl, ⟨by decide +kernel, by decide +kernel⟩, by decide +kernel⟩
set_option maxRecDepth 100000 in
theorem mdw_X12_second : MdW mX12_second := ⟨⟨by decide +kernel, rfl, by decide⟩, tb_in (i := 1264) rfl rfl, tb_in (i := 91) (by decide +kernel) rfl, ⟨by decide +kernel, by decide +kernel⟩, by decide +kernel⟩
set_option maxRecDepth 100000 in
theorem mdw_X12_see : MdW mX12_see := ⟨⟨by decide +kernel, rfl, by decide⟩, tb_in (i := 1421) rfl rfl, tb_in (i := 91) (by decide +kernel) rfl, ⟨by decide +kernel, by decide +kernel⟩, by decide +kernel⟩
set_option maxRecDepth 100000 in
theorem mdw_X12_sent : MdW mX12_sent := ⟨⟨by decide +kernel, rfl, by decide⟩, tb_in (i := 1413) rfl rfl, tb_in (i := 91) (by decide +kernel) rfl, ⟨by decide +kernel, by decide +kernel⟩, by decide +kernel⟩
set_option maxRecDepth 100000 in
theorem mdw_X12_set : MdW mX12_set := ⟨⟨by decide +kernel, rfl, by decide⟩, tb_in (i := 1216) rfl rfl, tb_in (i := 91) (by decide +kernel) rfl, ⟨by decide +kernel, by decide +kernel⟩, by decide +kernel⟩
set_option maxRecDepth 100000 in
theorem mdw_X12_settle : MdW mX12_settle := ⟨⟨by decide +kernel, rfl, by decide⟩, tb_in (i := 1296) rfl rfl, tb_in (i := 91) (by decide +kernel) rfl, ⟨by decide +kernel, by decide +kernel⟩, by decide +kernel⟩
set_option maxRecDepth 100000 in
theorem mdw_X12_shift : MdW mX12_shift := ⟨⟨by decide +kernel, rfl, by decide⟩, tb_in (i := 1554) rfl rfl, tb_in (i := 91) (by decide +kernel) rfl, ⟨by decide +kernel, by decide +kernel⟩, by decide +kernel⟩
set_option maxRecDepth 100000 in
theorem mdw_X12_sole : MdW mX12_sole := ⟨⟨by decide +kernel, rfl, by decide⟩, tb_in (i := 1360) rfl rfl, tb_in (i := 91) (by decide +kernel) rfl, ⟨by decide +kernel, by decide +kernel⟩, by decide +kernel⟩
set_option maxRecDepth 100000 in
theorem mdw_X12_sum : MdW mX12_sum := ⟨⟨by decide +kernel, rfl, by decide⟩, tb_in (i := 1324) rfl rfl, tb_in (i := 91) (by decide +kernel) rfl, ⟨by decide +kernel, by decide +kernel⟩, by decide +kernel⟩
set_option maxRecDepth 100000 in
theorem mdw_X12_swellsAct : MdW mX12_swellsAct := ⟨⟨by decide +kernel, rfl, by decide⟩, tb_in (i := 1506) rfl rfl, tb_in (i := 91) (by decide +kernel) rfl, ⟨by decide +kernel, by decide +kernel⟩, by decide +kernel⟩
set_option maxRecDepth 100000 in
theorem mdw_X12_taken : MdW mX12_taken := ⟨⟨by decide +kernel, rfl, by decide⟩, tb_in (i := 1530) rfl rfl, tb_in (i := 91) (by decide +kernel) rfl, ⟨by decide +kernel, by decide +kernel⟩, by decide +kernel⟩
set_option maxRecDepth 100000 in
theorem mdw_X12_takes : MdW mX12_takes := ⟨⟨by decide +kernel, rfl, by decide⟩, tb_in (i := 1260) rfl rfl, tb_in (i := 91) (by decide +kernel) rfl, ⟨by decide +kernel, by decide +kernel⟩, by decide +kernel⟩
set_option maxRecDepth 100000 in
theorem mdw_X12_takesClause : MdW mX12_takesClause := ⟨⟨by decide +kernel, rfl, by decide⟩, tb_in (i := 1244) rfl rfl, tb_in (i := 91) (by decide +kernel) rfl, ⟨by decide +kernel, by decide +kernel⟩, by decide +kernel⟩
set_option maxRecDepth 100000 in
theorem mdw_X12_takesE : MdW mX12_takesE := ⟨⟨by decide +kernel, rfl, by decide⟩, tb_in (i := 1276) rfl rfl, tb_in (i := 91) (by decide +kernel) rfl, ⟨by decide +kernel, by decide +kernel⟩, by decide +kernel⟩
set_option maxRecDepth 100000 in
theorem mdw_X12_takesHead : MdW mX12_takesHead := ⟨⟨by decide +kernel, rfl, by decide⟩, tb_in (i := 1248) rfl rfl, tb_in (i := 91) (by decide +kernel) rfl, ⟨by decide +kernel, by decide +kernel⟩, by decide +kernel⟩
set_option maxRecDepth 100000 in
theorem mdw_X12_takesNumber : MdW mX12_takesNumber := ⟨⟨by decide +kernel, rfl, by decide⟩, tb_in (i := 1268) rfl rfl, tb_in (i := 91) (by decide +kernel) rfl, ⟨by decide +kernel, by decide +kernel⟩, by decide +kernel⟩
set_option maxRecDepth 100000 in
theorem mdw_X12_takesTest : MdW mX12_takesTest := ⟨⟨by decide +kernel, rfl, by decide⟩, tb_in (i := 1280) rfl rfl, tb_in (i := 91) (by decide +kernel) rfl, ⟨by decide +kernel, by decide +kernel⟩, by decide +kernel⟩
set_option maxRecDepth 100000 in
theorem mdw_X12_takesWord : MdW mX12_takesWord := ⟨⟨by decide +kernel, rfl, by decide⟩, tb_in (i := 1256) rfl rfl, tb_in (i := 91) (by decide +kernel) rfl, ⟨by decide +kernel, by decide +kernel⟩, by decide +kernel⟩
set_option maxRecDepth 100000 in
theorem mdw_X12_tape : MdW mX12_tape := ⟨⟨by decide +kernel, rfl, by decide⟩, tb_in (i := 1538) rfl rfl, tb_in (i := 91) (by decide +kernel) rfl, ⟨by decide +kernel, by decide +kernel⟩, by decide +kernel⟩
set_option maxRecDepth 100000 in
theorem mdw_X12_tellsAct : MdW mX12_tellsAct := ⟨⟨by decide +kernel, rfl, by decide⟩, tb_in (i := 1518) rfl rfl, tb_in (i := 91) (by decide +kernel) rfl, ⟨by decide +kernel, by decide +kernel⟩, by decide +kernel⟩
set_option maxRecDepth 100000 in
theorem mdw_X12_told : MdW mX12_told := ⟨⟨by decide +kernel, rfl, by decide⟩, tb_in (i := 1385) rfl rfl, tb_in (i := 91) (by decide +kernel) rfl, ⟨by decide +kernel, by decide +kernel⟩, by decide +kernel⟩
set_option maxRecDepth 100000 in
theorem mdw_X12_trace : MdW mX12_trace := ⟨⟨by decide +kernel, rfl, by decide⟩, tb_in (i := 1526) rfl rfl, tb_in (i := 91) (by decide +kernel) rfl, ⟨by decide +kernel, by decide +kernel⟩, by decide +kernel⟩
set_option maxRecDepth 100000 in
theorem mdw_X12_undo : MdW mX12_undo := ⟨⟨by decide +kernel, rfl, by decide⟩, tb_in (i := 1486) rfl rfl, tb_in (i := 91) (by decide +kernel) rfl, ⟨by decide +kernel, by decide +kernel⟩, by decide +kernel⟩
set_option maxRecDepth 100000 in
theorem mdw_X12_wall : MdW mX12_wall := ⟨⟨by decide +kernel, rfl, by decide⟩, tb_in (i := 1236) rfl rfl, tb_in (i := 91) (by decide +kernel) rfl, ⟨by decide +kernel, by decide +kernel⟩, by decide +kernel⟩
set_option maxRecDepth 100000 in
theorem mdw_X12_want : MdW mX12_want := ⟨⟨by decide +kernel, rfl, by decide⟩, tb_in (i := 1409) rfl rfl, tb_in (i := 91) (by decide +kernel) rfl, ⟨by decide +kernel, by decide +kernel⟩, by decide +kernel⟩
set_option maxRecDepth 100000 in
theorem mdw_X12_warmsAct : MdW mX12_warmsAct := ⟨⟨by decide +kernel, rfl, by decide⟩, tb_in (i := 1494) rfl rfl, tb_in (i := 91) (by decide +kernel) rfl, ⟨by decide +kernel, by decide +kernel⟩, by decide +kernel⟩
set_option maxRecDepth 100000 in
theorem mdw_X12_when : MdW mX12_when := ⟨⟨by decide +kernel, rfl, by decide⟩, tb_in (i := 1368) rfl rfl, tb_in (i := 91) (by decide +kernel) rfl, ⟨by decide +kernel, by decide +kernel⟩, by decide +kernel⟩
set_option maxRecDepth 100000 in
theorem mdw_X12_which : MdW mX12_which := ⟨⟨by decide +kernel, rfl, by decide⟩, tb_in (i := 1433) rfl rfl, tb_in (i := 91) (by decide +kernel) rfl, ⟨by decide +kernel, by decide +kernel⟩, by decide +kernel⟩
set_option maxRecDepth 100000 in
theorem mdw_X12_whole : MdW mX12_whole := ⟨⟨by decide +kernel, rfl, by decide⟩, tb_in (i := 1292) rfl rfl, tb_in (i := 91) (by decide +kernel) rfl, ⟨by decide +kernel, by decide +kernel⟩, by decide +kernel⟩
set_option maxRecDepth 100000 in
theorem mdw_X1_begin : MdW mX1_begin := ⟨⟨by decide +kernel, rfl, by decide⟩, tb_in (i := 847) rfl rfl, tb_in (i := 89) (by decide +kernel) rfl, ⟨by decide +kernel, by decide +kernel⟩, by decide +kernel⟩
set_option maxRecDepth 100000 in
theorem mdw_X1_init : MdW mX1_init := ⟨⟨by decide +kernel, rfl, by decide⟩, tb_in (i := 260) rfl rfl, tb_in (i := 89) (by decide +kernel) rfl, ⟨by decide +kernel, by decide +kernel⟩, by decide +kernel⟩
set_option maxRecDepth 100000 in
theorem mdw_X1_runs : MdW mX1_runs := ⟨⟨by decide +kernel, rfl, by decide⟩, tb_in (i := 860) rfl rfl, tb_in (i := 89) (by decide +kernel) rfl, ⟨by decide +kernel, by decide +kernel⟩, by decide +kernel⟩
set_option maxRecDepth 100000 in
theorem mdw_X2_init : MdW mX2_init := ⟨⟨by decide +kernel, rfl, by decide⟩, tb_in (i := 121) rfl rfl, tb_in (i := 81) (by decide +kernel) rfl, ⟨by decide +kernel, by decide +kernel⟩, by decide +kernel⟩
set_option maxRecDepth 100000 in
theorem mdw_X2_pulls : MdW mX2_pulls := ⟨⟨by decide +kernel, rfl, by decide⟩, tb_in (i := 380) rfl rfl, tb_in (i := 81) (by decide +kernel) rfl, ⟨by decide +kernel, by decide +kernel⟩, by decide +kernel⟩
set_option maxRecDepth 100000 in
theorem mdw_X2_swells : MdW mX2_swells := ⟨⟨by decide +kernel, rfl, by decide⟩, tb_in (i := 885) rfl rfl, tb_in (i := 81) (by decide +kernel) rfl, ⟨by decide +kernel, by decide +kernel⟩, by decide +kernel⟩
set_option maxRecDepth 100000 in
theorem mdw_X3_init : MdW mX3_init := ⟨⟨by decide +kernel, rfl, by decide⟩, tb_in (i := 149) rfl rfl, tb_in (i := 85) (by decide +kernel) rfl, ⟨by decide +kernel, by decide +kernel⟩, by decide +kernel⟩
set_option maxRecDepth 100000 in
theorem mdw_X3_pulls : MdW mX3_pulls := ⟨⟨by decide +kernel, rfl, by decide⟩, tb_in (i := 387) rfl rfl, tb_in (i := 85) (by decide +kernel) rfl, ⟨by decide +kernel, by decide +kernel⟩, by decide +kernel⟩
set_option maxRecDepth 100000 in
theorem mdw_X3_tells : MdW mX3_tells := ⟨⟨by decide +kernel, rfl, by decide⟩, tb_in (i := 917) rfl rfl, tb_in (i := 85) (by decide +kernel) rfl, ⟨by decide +kernel, by decide +kernel⟩, by decide +kernel⟩
set_option maxRecDepth 100000 in
theorem mdw_X4_init : MdW mX4_init := ⟨⟨by decide +kernel, rfl, by decide⟩, tb_in (i := 128) rfl rfl, tb_in (i := 82) (by decide +kernel) rfl, ⟨by decide +kernel, by decide +kernel⟩, by decide +kernel⟩
set_option maxRecDepth 100000 in
theorem mdw_X4_pulls : MdW mX4_pulls := ⟨⟨by decide +kernel, rfl, by decide⟩, tb_in (i := 390) rfl rfl, tb_in (i := 82) (by decide +kernel) rfl, ⟨by decide +kernel, by decide +kernel⟩, by decide +kernel⟩
set_option maxRecDepth 100000 in
theorem mdw_X4_warms : MdW mX4_warms := ⟨⟨by decide +kernel, rfl, by decide⟩, tb_in (i := 856) rfl rfl, tb_in (i := 82) (by decide +kernel) rfl, ⟨by decide +kernel, by decide +kernel⟩, by decide +kernel⟩
set_option maxRecDepth 100000 in
theorem mdw_X5_init : MdW mX5_init := ⟨⟨by decide +kernel, rfl, by decide⟩, tb_in (i := 114) rfl rfl, tb_in (i := 80) (by decide +kernel) rfl, ⟨by decide +kernel, by decide +kernel⟩, by decide +kernel⟩
set_option maxRecDepth 100000 in
theorem mdw_X5_pulls : MdW mX5_pulls := ⟨⟨by decide +kernel, rfl, by decide⟩, tb_in (i := 406) rfl rfl, tb_in (i := 80) (by decide +kernel) rfl, ⟨by decide +kernel, by decide +kernel⟩, by decide +kernel⟩
set_option maxRecDepth 100000 in
theorem mdw_X5_swells : MdW mX5_swells := ⟨⟨by decide +kernel, rfl, by decide⟩, tb_in (i := 900) rfl rfl, tb_in (i := 80) (by decide +kernel) rfl, ⟨by decide +kernel, by decide +kernel⟩, by decide +kernel⟩
set_option maxRecDepth 100000 in
theorem mdw_X5_tells : MdW mX5_tells := ⟨⟨by decide +kernel, rfl, by decide⟩, tb_in (i := 925) rfl rfl, tb_in (i := 80) (by decide +kernel) rfl, ⟨by decide +kernel, by decide +kernel⟩, by decide +kernel⟩
set_option maxRecDepth 100000 in
theorem mdw_X5_warms : MdW mX5_warms := ⟨⟨by decide +kernel, rfl, by decide⟩, tb_in (i := 876) rfl rfl, tb_in (i := 80) (by decide +kernel) rfl, ⟨by decide +kernel, by decide +kernel⟩, by decide +kernel⟩
set_option maxRecDepth 100000 in
theorem mdw_X6_add : MdW mX6_add := ⟨⟨by decide +kernel, rfl, by decide⟩, tb_in (i := 735) rfl rfl, tb_in (i := 88) (by decide +kernel) rfl, ⟨by decide +kernel, by decide +kernel⟩, by decide +kernel⟩
set_option maxRecDepth 100000 in
theorem mdw_X6_empty : MdW mX6_empty := ⟨⟨by decide +kernel, rfl, by decide⟩, tb_in (i := 731) rfl rfl, tb_in (i := 88) (by decide +kernel) rfl, ⟨by decide +kernel, by decide +kernel⟩, by decide +kernel⟩
set_option maxRecDepth 100000 in
theorem mdw_X6_firstOther : MdW mX6_firstOther := ⟨⟨by decide +kernel, rfl, by decide⟩, tb_in (i := 776) rfl rfl, tb_in (i := 88) (by decide +kernel) rfl, ⟨by decide +kernel, by decide +kernel⟩, by decide +kernel⟩
set_option maxRecDepth 100000 in
theorem mdw_X6_init : MdW mX6_init := ⟨⟨by decide +kernel, rfl, by decide⟩, tb_in (i := 171) rfl rfl, tb_in (i := 88) (by decide +kernel) rfl, ⟨by decide +kernel, by decide +kernel⟩, by decide +kernel⟩
set_option maxRecDepth 100000 in
theorem mdw_X6_takeAll : MdW mX6_takeAll := ⟨⟨by decide +kernel, rfl, by decide⟩, tb_in (i := 834) rfl rfl, tb_in (i := 88) (by decide +kernel) rfl, ⟨by decide +kernel, by decide +kernel⟩, by decide +kernel⟩
set_option maxRecDepth 100000 in
theorem mdw_X7_init : MdW mX7_init := ⟨⟨by decide +kernel, rfl, by decide⟩, tb_in (i := 156) rfl rfl, tb_in (i := 86) (by decide +kernel) rfl, ⟨by decide +kernel, by decide +kernel⟩, by decide +kernel⟩
set_option maxRecDepth 100000 in
theorem mdw_X7_pulls : MdW mX7_pulls := ⟨⟨by decide +kernel, rfl, by decide⟩, tb_in (i := 396) rfl rfl, tb_in (i := 86) (by decide +kernel) rfl, ⟨by decide +kernel, by decide +kernel⟩, by decide +kernel⟩
set_option maxRecDepth 100000 in
theorem mdw_X7_swells : MdW mX7_swells := ⟨⟨by decide +kernel, rfl, by decide⟩, tb_in (i := 892) rfl rfl, tb_in (i := 86) (by decide +kernel) rfl, ⟨by decide +kernel, by decide +kernel⟩, by decide +kernel⟩
set_option maxRecDepth 100000 in
theorem mdw_X7_warms : MdW mX7_warms := ⟨⟨by decide +kernel, rfl, by decide⟩, tb_in (i := 865) rfl rfl, tb_in (i := 86) (by decide +kernel) rfl, ⟨by decide +kernel, by decide +kernel⟩, by decide +kernel⟩
set_option maxRecDepth 100000 in
theorem mdw_X8_allFruit : MdW mX8_allFruit := ⟨⟨by decide +kernel, rfl, by decide⟩, tb_in (i := 435) rfl rfl, tb_in (i := 87) (by decide +kernel) rfl, ⟨by decide +kernel, by decide +kernel⟩, by decide +kernel⟩
set_option maxRecDepth 100000 in
theorem mdw_X8_daysGo : MdW mX8_daysGo := ⟨⟨by decide +kernel, rfl, by decide⟩, tb_in (i := 448) rfl rfl, tb_in (i := 87) (by decide +kernel) rfl, ⟨by decide +kernel, by decide +kernel⟩, by decide +kernel⟩
set_option maxRecDepth 100000 in
theorem mdw_X8_follow : MdW mX8_follow := ⟨⟨by decide +kernel, rfl, by decide⟩, tb_in (i := 804) rfl rfl, tb_in (i := 87) (by decide +kernel) rfl, ⟨by decide +kernel, by decide +kernel⟩, by decide +kernel⟩
set_option maxRecDepth 100000 in
theorem mdw_X8_grow : MdW mX8_grow := ⟨⟨by decide +kernel, rfl, by decide⟩, tb_in (i := 333) rfl rfl, tb_in (i := 87) (by decide +kernel) rfl, ⟨by decide +kernel, by decide +kernel⟩, by decide +kernel⟩
set_option maxRecDepth 100000 in
theorem mdw_X8_has : MdW mX8_has := ⟨⟨by decide +kernel, rfl, by decide⟩, tb_in (i := 342) rfl rfl, tb_in (i := 87) (by decide +kernel) rfl, ⟨by decide +kernel, by decide +kernel⟩, by decide +kernel⟩
set_option maxRecDepth 100000 in
theorem mdw_X8_howManyRipe : MdW mX8_howManyRipe := ⟨⟨by decide +kernel, rfl, by decide⟩, tb_in (i := 698) rfl rfl, tb_in (i := 87) (by decide +kernel) rfl, ⟨by decide +kernel, by decide +kernel⟩, by decide +kernel⟩
set_option maxRecDepth 100000 in
theorem mdw_X8_init : MdW mX8_init := ⟨⟨by decide +kernel, rfl, by decide⟩, tb_in (i := 163) rfl rfl, tb_in (i := 87) (by decide +kernel) rfl, ⟨by decide +kernel, by decide +kernel⟩, by decide +kernel⟩
set_option maxRecDepth 100000 in
theorem mdw_X8_isCut : MdW mX8_isCut := ⟨⟨by decide +kernel, rfl, by decide⟩, tb_in (i := 404) rfl rfl, tb_in (i := 87) (by decide +kernel) rfl, ⟨by decide +kernel, by decide +kernel⟩, by decide +kernel⟩
set_option maxRecDepth 100000 in
theorem mdw_X8_light : MdW mX8_light := ⟨⟨by decide +kernel, rfl, by decide⟩, tb_in (i := 346) rfl rfl, tb_in (i := 87) (by decide +kernel) rfl, ⟨by decide +kernel, by decide +kernel⟩, by decide +kernel⟩
set_option maxRecDepth 100000 in
theorem mdw_X8_numberBehind : MdW mX8_numberBehind := ⟨⟨by decide +kernel, rfl, by decide⟩, tb_in (i := 362) rfl rfl, tb_in (i := 87) (by decide +kernel) rfl, ⟨by decide +kernel, by decide +kernel⟩, by decide +kernel⟩
set_option maxRecDepth 100000 in
theorem mdw_X8_pullAt : MdW mX8_pullAt := ⟨⟨by decide +kernel, rfl, by decide⟩, tb_in (i := 369) rfl rfl, tb_in (i := 87) (by decide +kernel) rfl, ⟨by decide +kernel, by decide +kernel⟩, by decide +kernel⟩
set_option maxRecDepth 100000 in
theorem mdw_X8_ripeEnough : MdW mX8_ripeEnough := ⟨⟨by decide +kernel, rfl, by decide⟩, tb_in (i := 443) rfl rfl, tb_in (i := 87) (by decide +kernel) rfl, ⟨by decide +kernel, by decide +kernel⟩, by decide +kernel⟩
set_option maxRecDepth 100000 in
theorem mdw_X8_ripeTogether : MdW mX8_ripeTogether := ⟨⟨by decide +kernel, rfl, by decide⟩, tb_in (i := 694) rfl rfl, tb_in (i := 87) (by decide +kernel) rfl, ⟨by decide +kernel, by decide +kernel⟩, by decide +kernel⟩
set_option maxRecDepth 100000 in
theorem mdw_X8_setCut : MdW mX8_setCut := ⟨⟨by decide +kernel, rfl, by decide⟩, tb_in (i := 467) rfl rfl, tb_in (i := 87) (by decide +kernel) rfl, ⟨by decide +kernel, by decide +kernel⟩, by decide +kernel⟩
set_option maxRecDepth 100000 in
theorem mdw_X8_share : MdW mX8_share := ⟨⟨by decide +kernel, rfl, by decide⟩, tb_in (i := 415) rfl rfl, tb_in (i := 87) (by decide +kernel) rfl, ⟨by decide +kernel, by decide +kernel⟩, by decide +kernel⟩
set_option maxRecDepth 100000 in
theorem mdw_X8_takeFruit : MdW mX8_takeFruit := ⟨⟨by decide +kernel, rfl, by decide⟩, tb_in (i := 428) rfl rfl, tb_in (i := 87) (by decide +kernel) rfl, ⟨by decide +kernel, by decide +kernel⟩, by decide +kernel⟩
set_option maxRecDepth 100000 in
theorem mdw_X8_takeRows : MdW mX8_takeRows := ⟨⟨by decide +kernel, rfl, by decide⟩, tb_in (i := 830) rfl rfl, tb_in (i := 87) (by decide +kernel) rfl, ⟨by decide +kernel, by decide +kernel⟩, by decide +kernel⟩
set_option maxRecDepth 100000 in
theorem mdw_X8_whoseHour : MdW mX8_whoseHour := ⟨⟨by decide +kernel, rfl, by decide⟩, tb_in (i := 419) rfl rfl, tb_in (i := 87) (by decide +kernel) rfl, ⟨by decide +kernel, by decide +kernel⟩, by decide +kernel⟩
set_option maxRecDepth 100000 in
theorem mdw_X9_init : MdW mX9_init := ⟨⟨by decide +kernel, rfl, by decide⟩, tb_in (i := 142) rfl rfl, tb_in (i := 84) (by decide +kernel) rfl, ⟨by decide +kernel, by decide +kernel⟩, by decide +kernel⟩
set_option maxRecDepth 100000 in
theorem mdw_X9_pulls : MdW mX9_pulls := ⟨⟨by decide +kernel, rfl, by decide⟩, tb_in (i := 400) rfl rfl, tb_in (i := 84) (by decide +kernel) rfl, ⟨by decide +kernel, by decide +kernel⟩, by decide +kernel⟩
set_option maxRecDepth 100000 in
theorem mdw_X9_swells : MdW mX9_swells := ⟨⟨by decide +kernel, rfl, by decide⟩, tb_in (i := 898) rfl rfl, tb_in (i := 84) (by decide +kernel) rfl, ⟨by decide +kernel, by decide +kernel⟩, by decide +kernel⟩
set_option maxRecDepth 100000 in
theorem mdw_X9_warms : MdW mX9_warms := ⟨⟨by decide +kernel, rfl, by decide⟩, tb_in (i := 872) rfl rfl, tb_in (i := 84) (by decide +kernel) rfl, ⟨by decide +kernel, by decide +kernel⟩, by decide +kernel⟩
set_option maxRecDepth 100000 in
theorem cw_0 : Cw 0 1 0 5 0 mX5_init := ⟨mdw_X5_init.1, mdw_X5_init.2, Or.inr (Or.inr (Or.inr (Or.inr (Or.inl ⟨rfl, by decide +kernel, tb_in (i := 113) (by decide +kernel) rfl, rfl⟩))))⟩
set_option maxRecDepth 100000 in
theorem cw_1 : Cw 0 7 0 6 3 mX5_pulls := ⟨mdw_X5_pulls.1, mdw_X5_pulls.2, Or.inr (Or.inr (Or.inr (Or.inr (Or.inr ⟨rfl, ⟨"PearSummer$Pear", "pulls", "(LPearSummer$Tree;II)I"⟩, tb_in (i := 377) (by decide +kernel) rfl, tb_in (i := 373) (by decide +kernel) rfl, tb_in (i := 137) (by decide +kernel) rfl, rfl, tb_in (i := 371) (by decide +kernel) rfl, by decide +kernel, Or.inl rfl⟩))))⟩
set_option maxRecDepth 100000 in
theorem cw_2 : Cw 0 17 1 0 1 mX1_runs := ⟨mdw_X1_runs.1, mdw_X1_runs.2, Or.inl ⟨rfl, tb_in (i := 909) (by decide +kernel) rfl, tb_in (i := 858) (by decide +kernel) rfl, tb_in (i := 859) (by decide +kernel) rfl⟩⟩
set_option maxRecDepth 100000 in
theorem cw_3 : Cw 0 23 0 6 2 mX5_tells := ⟨mdw_X5_tells.1, mdw_X5_tells.2, Or.inr (Or.inr (Or.inr (Or.inr (Or.inr ⟨rfl, ⟨"PearSummer$Pear", "tells", "(LPearSummer$Deed;I)I"⟩, tb_in (i := 910) (by decide +kernel) rfl, tb_in (i := 905) (by decide +kernel) rfl, tb_in (i := 137) (by decide +kernel) rfl, rfl, tb_in (i := 903) (by decide +kernel) rfl, by decide +kernel, Or.inl rfl⟩))))⟩
set_option maxRecDepth 100000 in
theorem cw_4 : Cw 0 27 0 1 2 mX5_swells := ⟨mdw_X5_swells.1, mdw_X5_swells.2, Or.inr (Or.inl ⟨Or.inl rfl, ⟨"PearSummer$Bell", "swells", "(LPearSummer$Deed;I)I"⟩, RX5, cX5_swells, 3, some .int, tb_in (i := 911) (by decide +kernel) rfl, tb_in (i := 894) (by decide +kernel) rfl, tb_in (i := 879) (by decide +kernel) rfl, tb_in (i := 900) rfl rfl, tb_in (i := 912) (by decide +kernel) rfl, tb_in (i := 879) (by decide +kernel) rfl, ⟨by decide +kernel, by decide +kernel⟩, by decide +kernel⟩)⟩
set_option maxRecDepth 100000 in
theorem cw_5 : Cw 0 27 7 2 2 mX7_swells := ⟨mdw_X7_swells.1, mdw_X7_swells.2, Or.inr (Or.inl ⟨Or.inr rfl, ⟨"PearSummer$Bell", "swells", "(LPearSummer$Deed;I)I"⟩, RX5, cX5_swells, 3, some .int, tb_in (i := 911) (by decide +kernel) rfl, tb_in (i := 894) (by decide +kernel) rfl, tb_in (i := 879) (by decide +kernel) rfl, tb_in (i := 900) rfl rfl, tb_in (i := 913) (by decide +kernel) rfl, tb_in (i := 891) (by decide +kernel) rfl, ⟨by decide +kernel, by decide +kernel⟩, by decide +kernel⟩)⟩
set_option maxRecDepth 100000 in
theorem cw_6 : Cw 2 1 0 5 0 mX5_init := ⟨mdw_X5_init.1, mdw_X5_init.2, Or.inr (Or.inr (Or.inr (Or.inr (Or.inl ⟨rfl, by decide +kernel, tb_in (i := 113) (by decide +kernel) rfl, rfl⟩))))⟩
set_option maxRecDepth 100000 in
theorem cw_7 : Cw 2 7 0 6 3 mX5_pulls := ⟨mdw_X5_pulls.1, mdw_X5_pulls.2, Or.inr (Or.inr (Or.inr (Or.inr (Or.inr ⟨rfl, ⟨"PearSummer$Pear", "pulls", "(LPearSummer$Tree;II)I"⟩, tb_in (i := 381) (by decide +kernel) rfl, tb_in (i := 373) (by decide +kernel) rfl, tb_in (i := 123) (by decide +kernel) rfl, rfl, tb_in (i := 371) (by decide +kernel) rfl, by decide +kernel, Or.inl rfl⟩))))⟩
set_option maxRecDepth 100000 in
theorem cw_8 : Cw 2 17 1 0 1 mX1_runs := ⟨mdw_X1_runs.1, mdw_X1_runs.2, Or.inl ⟨rfl, tb_in (i := 886) (by decide +kernel) rfl, tb_in (i := 858) (by decide +kernel) rfl, tb_in (i := 859) (by decide +kernel) rfl⟩⟩
set_option maxRecDepth 100000 in
theorem cw_9 : Cw 2 23 0 6 2 mX5_swells := ⟨mdw_X5_swells.1, mdw_X5_swells.2, Or.inr (Or.inr (Or.inr (Or.inr (Or.inr ⟨rfl, ⟨"PearSummer$Pear", "swells", "(LPearSummer$Deed;I)I"⟩, tb_in (i := 887) (by decide +kernel) rfl, tb_in (i := 881) (by decide +kernel) rfl, tb_in (i := 123) (by decide +kernel) rfl, rfl, tb_in (i := 879) (by decide +kernel) rfl, by decide +kernel, Or.inl rfl⟩))))⟩
set_option maxRecDepth 100000 in
theorem cw_10 : Cw 3 1 0 5 0 mX4_init := ⟨mdw_X4_init.1, mdw_X4_init.2, Or.inr (Or.inr (Or.inr (Or.inr (Or.inl ⟨rfl, by decide +kernel, tb_in (i := 127) (by decide +kernel) rfl, rfl⟩))))⟩
set_option maxRecDepth 100000 in
theorem cw_11 : Cw 3 13 0 6 3 mX4_pulls := ⟨mdw_X4_pulls.1, mdw_X4_pulls.2, Or.inr (Or.inr (Or.inr (Or.inr (Or.inr ⟨rfl, ⟨"PearSummer$Late", "pulls", "(LPearSummer$Tree;II)I"⟩, tb_in (i := 388) (by decide +kernel) rfl, tb_in (i := 1556) (by decide +kernel) rfl, tb_in (i := 151) (by decide +kernel) rfl, rfl, tb_in (i := 389) (by decide +kernel) rfl, by decide +kernel, Or.inl rfl⟩))))⟩
set_option maxRecDepth 100000 in
theorem cw_12 : Cw 3 17 1 0 1 mX1_runs := ⟨mdw_X1_runs.1, mdw_X1_runs.2, Or.inl ⟨rfl, tb_in (i := 918) (by decide +kernel) rfl, tb_in (i := 858) (by decide +kernel) rfl, tb_in (i := 859) (by decide +kernel) rfl⟩⟩
set_option maxRecDepth 100000 in
theorem cw_13 : Cw 3 26 0 6 2 mX5_tells := ⟨mdw_X5_tells.1, mdw_X5_tells.2, Or.inr (Or.inr (Or.inr (Or.inr (Or.inr ⟨rfl, ⟨"PearSummer$Late", "tells", "(LPearSummer$Deed;I)I"⟩, tb_in (i := 919) (by decide +kernel) rfl, tb_in (i := 920) (by decide +kernel) rfl, tb_in (i := 151) (by decide +kernel) rfl, rfl, tb_in (i := 903) (by decide +kernel) rfl, by decide +kernel, Or.inr (tb_in (i := 130) (by decide +kernel) rfl)⟩))))⟩
set_option maxRecDepth 100000 in
theorem cw_14 : Cw 4 1 0 5 0 mX5_init := ⟨mdw_X5_init.1, mdw_X5_init.2, Or.inr (Or.inr (Or.inr (Or.inr (Or.inl ⟨rfl, by decide +kernel, tb_in (i := 113) (by decide +kernel) rfl, rfl⟩))))⟩
set_option maxRecDepth 100000 in
theorem cw_15 : Cw 4 7 0 6 3 mX5_pulls := ⟨mdw_X5_pulls.1, mdw_X5_pulls.2, Or.inr (Or.inr (Or.inr (Or.inr (Or.inr ⟨rfl, ⟨"PearSummer$Pear", "pulls", "(LPearSummer$Tree;II)I"⟩, tb_in (i := 391) (by decide +kernel) rfl, tb_in (i := 373) (by decide +kernel) rfl, tb_in (i := 130) (by decide +kernel) rfl, rfl, tb_in (i := 371) (by decide +kernel) rfl, by decide +kernel, Or.inl rfl⟩))))⟩
set_option maxRecDepth 100000 in
theorem cw_16 : Cw 4 17 1 0 1 mX1_runs := ⟨mdw_X1_runs.1, mdw_X1_runs.2, Or.inl ⟨rfl, tb_in (i := 857) (by decide +kernel) rfl, tb_in (i := 858) (by decide +kernel) rfl, tb_in (i := 859) (by decide +kernel) rfl⟩⟩
set_option maxRecDepth 100000 in
theorem cw_17 : Cw 4 23 0 6 2 mX5_warms := ⟨mdw_X5_warms.1, mdw_X5_warms.2, Or.inr (Or.inr (Or.inr (Or.inr (Or.inr ⟨rfl, ⟨"PearSummer$Pear", "warms", "(LPearSummer$Deed;I)I"⟩, tb_in (i := 861) (by decide +kernel) rfl, tb_in (i := 851) (by decide +kernel) rfl, tb_in (i := 130) (by decide +kernel) rfl, rfl, tb_in (i := 849) (by decide +kernel) rfl, by decide +kernel, Or.inl rfl⟩))))⟩
set_option maxRecDepth 100000 in
theorem cw_18 : Cw 5 13 1 0 1 mX1_runs := ⟨mdw_X1_runs.1, mdw_X1_runs.2, Or.inl ⟨rfl, tb_in (i := 877) (by decide +kernel) rfl, tb_in (i := 858) (by decide +kernel) rfl, tb_in (i := 859) (by decide +kernel) rfl⟩⟩
set_option maxRecDepth 100000 in
theorem cw_19 : Cw 5 23 0 0 2 mX5_warms := ⟨mdw_X5_warms.1, mdw_X5_warms.2, Or.inl ⟨rfl, tb_in (i := 901) (by decide +kernel) rfl, tb_in (i := 849) (by decide +kernel) rfl, tb_in (i := 852) (by decide +kernel) rfl⟩⟩
set_option maxRecDepth 100000 in
theorem cw_20 : Cw 5 23 2 0 2 mX5_warms := ⟨mdw_X5_warms.1, mdw_X5_warms.2, Or.inl ⟨rfl, tb_in (i := 901) (by decide +kernel) rfl, tb_in (i := 849) (by decide +kernel) rfl, tb_in (i := 853) (by decide +kernel) rfl⟩⟩
set_option maxRecDepth 100000 in
theorem cw_21 : Cw 5 23 3 2 2 mX4_warms := ⟨mdw_X4_warms.1, mdw_X4_warms.2, Or.inr (Or.inl ⟨Or.inr rfl, ⟨"PearSummer$Pear", "warms", "(LPearSummer$Deed;I)I"⟩, RX5, cX5_warms, 3, some .int, tb_in (i := 901) (by decide +kernel) rfl, tb_in (i := 851) (by decide +kernel) rfl, tb_in (i := 849) (by decide +kernel) rfl, tb_in (i := 876) rfl rfl, tb_in (i := 854) (by decide +kernel) rfl, tb_in (i := 855) (by decide +kernel) rfl, ⟨by decide +kernel, by decide +kernel⟩, by decide +kernel⟩)⟩
set_option maxRecDepth 100000 in
theorem cw_22 : Cw 5 23 4 2 2 mX4_warms := ⟨mdw_X4_warms.1, mdw_X4_warms.2, Or.inr (Or.inl ⟨Or.inr rfl, ⟨"PearSummer$Pear", "warms", "(LPearSummer$Deed;I)I"⟩, RX5, cX5_warms, 3, some .int, tb_in (i := 901) (by decide +kernel) rfl, tb_in (i := 851) (by decide +kernel) rfl, tb_in (i := 849) (by decide +kernel) rfl, tb_in (i := 876) rfl rfl, tb_in (i := 862) (by decide +kernel) rfl, tb_in (i := 855) (by decide +kernel) rfl, ⟨by decide +kernel, by decide +kernel⟩, by decide +kernel⟩)⟩
set_option maxRecDepth 100000 in
theorem cw_23 : Cw 5 23 5 0 2 mX5_warms := ⟨mdw_X5_warms.1, mdw_X5_warms.2, Or.inl ⟨rfl, tb_in (i := 901) (by decide +kernel) rfl, tb_in (i := 849) (by decide +kernel) rfl, tb_in (i := 850) (by decide +kernel) rfl⟩⟩
set_option maxRecDepth 100000 in
theorem cw_24 : Cw 5 23 7 2 2 mX7_warms := ⟨mdw_X7_warms.1, mdw_X7_warms.2, Or.inr (Or.inl ⟨Or.inr rfl, ⟨"PearSummer$Pear", "warms", "(LPearSummer$Deed;I)I"⟩, RX5, cX5_warms, 3, some .int, tb_in (i := 901) (by decide +kernel) rfl, tb_in (i := 851) (by decide +kernel) rfl, tb_in (i := 849) (by decide +kernel) rfl, tb_in (i := 876) rfl rfl, tb_in (i := 863) (by decide +kernel) rfl, tb_in (i := 864) (by decide +kernel) rfl, ⟨by decide +kernel, by decide +kernel⟩, by decide +kernel⟩)⟩
set_option maxRecDepth 100000 in
theorem cw_25 : Cw 5 23 9 2 2 mX9_warms := ⟨mdw_X9_warms.1, mdw_X9_warms.2, Or.inr (Or.inl ⟨Or.inr rfl, ⟨"PearSummer$Pear", "warms", "(LPearSummer$Deed;I)I"⟩, RX5, cX5_warms, 3, some .int, tb_in (i := 901) (by decide +kernel) rfl, tb_in (i := 851) (by decide +kernel) rfl, tb_in (i := 849) (by decide +kernel) rfl, tb_in (i := 876) rfl rfl, tb_in (i := 870) (by decide +kernel) rfl, tb_in (i := 871) (by decide +kernel) rfl, ⟨by decide +kernel, by decide +kernel⟩, by decide +kernel⟩)⟩
set_option maxRecDepth 100000 in
theorem cw_26 : Cw 5 32 0 0 2 mX5_swells := ⟨mdw_X5_swells.1, mdw_X5_swells.2, Or.inl ⟨rfl, tb_in (i := 926) (by decide +kernel) rfl, tb_in (i := 879) (by decide +kernel) rfl, tb_in (i := 882) (by decide +kernel) rfl⟩⟩
set_option maxRecDepth 100000 in
theorem cw_27 : Cw 5 32 2 2 2 mX2_swells := ⟨mdw_X2_swells.1, mdw_X2_swells.2, Or.inr (Or.inl ⟨Or.inr rfl, ⟨"PearSummer$Pear", "swells", "(LPearSummer$Deed;I)I"⟩, RX5, cX5_swells, 3, some .int, tb_in (i := 926) (by decide +kernel) rfl, tb_in (i := 881) (by decide +kernel) rfl, tb_in (i := 879) (by decide +kernel) rfl, tb_in (i := 900) rfl rfl, tb_in (i := 883) (by decide +kernel) rfl, tb_in (i := 884) (by decide +kernel) rfl, ⟨by decide +kernel, by decide +kernel⟩, by decide +kernel⟩)⟩
set_option maxRecDepth 100000 in
theorem cw_28 : Cw 5 32 3 0 2 mX5_swells := ⟨mdw_X5_swells.1, mdw_X5_swells.2, Or.inl ⟨rfl, tb_in (i := 926) (by decide +kernel) rfl, tb_in (i := 879) (by decide +kernel) rfl, tb_in (i := 888) (by decide +kernel) rfl⟩⟩
set_option maxRecDepth 100000 in
theorem cw_29 : Cw 5 32 4 0 2 mX5_swells := ⟨mdw_X5_swells.1, mdw_X5_swells.2, Or.inl ⟨rfl, tb_in (i := 926) (by decide +kernel) rfl, tb_in (i := 879) (by decide +kernel) rfl, tb_in (i := 889) (by decide +kernel) rfl⟩⟩
set_option maxRecDepth 100000 in
theorem cw_30 : Cw 5 32 5 0 2 mX5_swells := ⟨mdw_X5_swells.1, mdw_X5_swells.2, Or.inl ⟨rfl, tb_in (i := 926) (by decide +kernel) rfl, tb_in (i := 879) (by decide +kernel) rfl, tb_in (i := 880) (by decide +kernel) rfl⟩⟩
set_option maxRecDepth 100000 in
theorem cw_31 : Cw 5 32 7 2 2 mX7_swells := ⟨mdw_X7_swells.1, mdw_X7_swells.2, Or.inr (Or.inl ⟨Or.inr rfl, ⟨"PearSummer$Pear", "swells", "(LPearSummer$Deed;I)I"⟩, RX5, cX5_swells, 3, some .int, tb_in (i := 926) (by decide +kernel) rfl, tb_in (i := 881) (by decide +kernel) rfl, tb_in (i := 879) (by decide +kernel) rfl, tb_in (i := 900) rfl rfl, tb_in (i := 890) (by decide +kernel) rfl, tb_in (i := 891) (by decide +kernel) rfl, ⟨by decide +kernel, by decide +kernel⟩, by decide +kernel⟩)⟩
set_option maxRecDepth 100000 in
theorem cw_32 : Cw 5 32 9 2 2 mX9_swells := ⟨mdw_X9_swells.1, mdw_X9_swells.2, Or.inr (Or.inl ⟨Or.inr rfl, ⟨"PearSummer$Pear", "swells", "(LPearSummer$Deed;I)I"⟩, RX5, cX5_swells, 3, some .int, tb_in (i := 926) (by decide +kernel) rfl, tb_in (i := 881) (by decide +kernel) rfl, tb_in (i := 879) (by decide +kernel) rfl, tb_in (i := 900) rfl rfl, tb_in (i := 896) (by decide +kernel) rfl, tb_in (i := 897) (by decide +kernel) rfl, ⟨by decide +kernel, by decide +kernel⟩, by decide +kernel⟩)⟩
set_option maxRecDepth 100000 in
theorem cw_33 : Cw 7 1 0 5 0 mX0_init := ⟨mdw_X0_init.1, mdw_X0_init.2, Or.inr (Or.inr (Or.inr (Or.inr (Or.inl ⟨rfl, by decide +kernel, tb_in (i := 134) (by decide +kernel) rfl, rfl⟩))))⟩
set_option maxRecDepth 100000 in
theorem cw_34 : Cw 7 7 0 6 3 mX0_pulls := ⟨mdw_X0_pulls.1, mdw_X0_pulls.2, Or.inr (Or.inr (Or.inr (Or.inr (Or.inr ⟨rfl, ⟨"PearSummer$Bell", "pulls", "(LPearSummer$Tree;II)I"⟩, tb_in (i := 397) (by decide +kernel) rfl, tb_in (i := 1557) (by decide +kernel) rfl, tb_in (i := 158) (by decide +kernel) rfl, rfl, tb_in (i := 375) (by decide +kernel) rfl, by decide +kernel, Or.inl rfl⟩))))⟩
set_option maxRecDepth 100000 in
theorem cw_35 : Cw 7 17 1 0 1 mX1_runs := ⟨mdw_X1_runs.1, mdw_X1_runs.2, Or.inl ⟨rfl, tb_in (i := 866) (by decide +kernel) rfl, tb_in (i := 858) (by decide +kernel) rfl, tb_in (i := 859) (by decide +kernel) rfl⟩⟩
set_option maxRecDepth 100000 in
theorem cw_36 : Cw 7 23 0 6 2 mX5_swells := ⟨mdw_X5_swells.1, mdw_X5_swells.2, Or.inr (Or.inr (Or.inr (Or.inr (Or.inr ⟨rfl, ⟨"PearSummer$Bell", "swells", "(LPearSummer$Deed;I)I"⟩, tb_in (i := 893) (by decide +kernel) rfl, tb_in (i := 894) (by decide +kernel) rfl, tb_in (i := 158) (by decide +kernel) rfl, rfl, tb_in (i := 879) (by decide +kernel) rfl, by decide +kernel, Or.inr (tb_in (i := 137) (by decide +kernel) rfl)⟩))))⟩
set_option maxRecDepth 100000 in
theorem cw_37 : Cw 7 27 0 6 2 mX5_warms := ⟨mdw_X5_warms.1, mdw_X5_warms.2, Or.inr (Or.inr (Or.inr (Or.inr (Or.inr ⟨rfl, ⟨"PearSummer$Bell", "warms", "(LPearSummer$Deed;I)I"⟩, tb_in (i := 867) (by decide +kernel) rfl, tb_in (i := 868) (by decide +kernel) rfl, tb_in (i := 158) (by decide +kernel) rfl, rfl, tb_in (i := 849) (by decide +kernel) rfl, by decide +kernel, Or.inr (tb_in (i := 137) (by decide +kernel) rfl)⟩))))⟩
set_option maxRecDepth 100000 in
theorem cw_38 : Cw 8 31 0 4 1 mX6_init := ⟨mdw_X6_init.1, mdw_X6_init.2, Or.inr (Or.inr (Or.inr (Or.inl ⟨rfl, tb_in (i := 169) (by decide +kernel) rfl, tb_in (i := 170) (by decide +kernel) rfl, rfl⟩)))⟩
set_option maxRecDepth 100000 in
theorem cw_39 : Cw 8 64 0 3 2 mJ7_fill_53178 := ⟨mdw_J7_fill_53178.1, mdw_J7_fill_53178.2, Or.inr (Or.inr (Or.inl ⟨rfl, tb_in (i := 334) (by decide +kernel) rfl, tb_in (i := 286) (by decide +kernel) rfl⟩))⟩
set_option maxRecDepth 100000 in
theorem cw_40 : Cw 8 83 6 0 1 mX6_takeAll := ⟨mdw_X6_takeAll.1, mdw_X6_takeAll.2, Or.inl ⟨rfl, tb_in (i := 831) (by decide +kernel) rfl, tb_in (i := 832) (by decide +kernel) rfl, tb_in (i := 833) (by decide +kernel) rfl⟩⟩
set_option maxRecDepth 100000 in
theorem cw_41 : Cw 8 92 8 0 0 mX8_ripeEnough := ⟨mdw_X8_ripeEnough.1, mdw_X8_ripeEnough.2, Or.inl ⟨rfl, tb_in (i := 699) (by decide +kernel) rfl, tb_in (i := 441) (by decide +kernel) rfl, tb_in (i := 442) (by decide +kernel) rfl⟩⟩
set_option maxRecDepth 100000 in
theorem cw_42 : Cw 8 96 8 0 1 mX8_isCut := ⟨mdw_X8_isCut.1, mdw_X8_isCut.2, Or.inl ⟨rfl, tb_in (i := 420) (by decide +kernel) rfl, tb_in (i := 402) (by decide +kernel) rfl, tb_in (i := 403) (by decide +kernel) rfl⟩⟩
set_option maxRecDepth 100000 in
theorem cw_43 : Cw 8 100 10 0 2 mX10_shine := ⟨mdw_X10_shine.1, mdw_X10_shine.2, Or.inl ⟨rfl, tb_in (i := 347) (by decide +kernel) rfl, tb_in (i := 348) (by decide +kernel) rfl, tb_in (i := 349) (by decide +kernel) rfl⟩⟩
set_option maxRecDepth 100000 in
theorem cw_44 : Cw 8 104 0 2 3 mX0_pulls := ⟨mdw_X0_pulls.1, mdw_X0_pulls.2, Or.inr (Or.inl ⟨Or.inr rfl, ⟨"PearSummer$Pear", "pulls", "(LPearSummer$Tree;II)I"⟩, RX5, cX5_pulls, 4, some .int, tb_in (i := 370) (by decide +kernel) rfl, tb_in (i := 373) (by decide +kernel) rfl, tb_in (i := 371) (by decide +kernel) rfl, tb_in (i := 406) rfl rfl, tb_in (i := 374) (by decide +kernel) rfl, tb_in (i := 375) (by decide +kernel) rfl, ⟨by decide +kernel, by decide +kernel⟩, by decide +kernel⟩)⟩
set_option maxRecDepth 100000 in
theorem cw_45 : Cw 8 104 2 2 3 mX2_pulls := ⟨mdw_X2_pulls.1, mdw_X2_pulls.2, Or.inr (Or.inl ⟨Or.inr rfl, ⟨"PearSummer$Pear", "pulls", "(LPearSummer$Tree;II)I"⟩, RX5, cX5_pulls, 4, some .int, tb_in (i := 370) (by decide +kernel) rfl, tb_in (i := 373) (by decide +kernel) rfl, tb_in (i := 371) (by decide +kernel) rfl, tb_in (i := 406) rfl rfl, tb_in (i := 378) (by decide +kernel) rfl, tb_in (i := 379) (by decide +kernel) rfl, ⟨by decide +kernel, by decide +kernel⟩, by decide +kernel⟩)⟩
set_option maxRecDepth 100000 in
theorem cw_46 : Cw 8 104 3 2 3 mX3_pulls := ⟨mdw_X3_pulls.1, mdw_X3_pulls.2, Or.inr (Or.inl ⟨Or.inr rfl, ⟨"PearSummer$Pear", "pulls", "(LPearSummer$Tree;II)I"⟩, RX5, cX5_pulls, 4, some .int, tb_in (i := 370) (by decide +kernel) rfl, tb_in (i := 373) (by decide +kernel) rfl, tb_in (i := 371) (by decide +kernel) rfl, tb_in (i := 406) rfl rfl, tb_in (i := 385) (by decide +kernel) rfl, tb_in (i := 386) (by decide +kernel) rfl, ⟨by decide +kernel, by decide +kernel⟩, by decide +kernel⟩)⟩
set_option maxRecDepth 100000 in
theorem cw_47 : Cw 8 104 4 2 3 mX4_pulls := ⟨mdw_X4_pulls.1, mdw_X4_pulls.2, Or.inr (Or.inl ⟨Or.inr rfl, ⟨"PearSummer$Pear", "pulls", "(LPearSummer$Tree;II)I"⟩, RX5, cX5_pulls, 4, some .int, tb_in (i := 370) (by decide +kernel) rfl, tb_in (i := 373) (by decide +kernel) rfl, tb_in (i := 371) (by decide +kernel) rfl, tb_in (i := 406) rfl rfl, tb_in (i := 393) (by decide +kernel) rfl, tb_in (i := 389) (by decide +kernel) rfl, ⟨by decide +kernel, by decide +kernel⟩, by decide +kernel⟩)⟩
set_option maxRecDepth 100000 in
theorem cw_48 : Cw 8 104 5 0 3 mX5_pulls := ⟨mdw_X5_pulls.1, mdw_X5_pulls.2, Or.inl ⟨rfl, tb_in (i := 370) (by decide +kernel) rfl, tb_in (i := 371) (by decide +kernel) rfl, tb_in (i := 372) (by decide +kernel) rfl⟩⟩
set_option maxRecDepth 100000 in
theorem cw_49 : Cw 8 104 7 2 3 mX7_pulls := ⟨mdw_X7_pulls.1, mdw_X7_pulls.2, Or.inr (Or.inl ⟨Or.inr rfl, ⟨"PearSummer$Pear", "pulls", "(LPearSummer$Tree;II)I"⟩, RX5, cX5_pulls, 4, some .int, tb_in (i := 370) (by decide +kernel) rfl, tb_in (i := 373) (by decide +kernel) rfl, tb_in (i := 371) (by decide +kernel) rfl, tb_in (i := 406) rfl rfl, tb_in (i := 394) (by decide +kernel) rfl, tb_in (i := 395) (by decide +kernel) rfl, ⟨by decide +kernel, by decide +kernel⟩, by decide +kernel⟩)⟩
set_option maxRecDepth 100000 in
theorem cw_50 : Cw 8 104 9 2 3 mX9_pulls := ⟨mdw_X9_pulls.1, mdw_X9_pulls.2, Or.inr (Or.inl ⟨Or.inr rfl, ⟨"PearSummer$Pear", "pulls", "(LPearSummer$Tree;II)I"⟩, RX5, cX5_pulls, 4, some .int, tb_in (i := 370) (by decide +kernel) rfl, tb_in (i := 373) (by decide +kernel) rfl, tb_in (i := 371) (by decide +kernel) rfl, tb_in (i := 406) rfl rfl, tb_in (i := 398) (by decide +kernel) rfl, tb_in (i := 399) (by decide +kernel) rfl, ⟨by decide +kernel, by decide +kernel⟩, by decide +kernel⟩)⟩
set_option maxRecDepth 100000 in
theorem cw_51 : Cw 8 110 8 0 1 mX8_whoseHour := ⟨mdw_X8_whoseHour.1, mdw_X8_whoseHour.2, Or.inl ⟨rfl, tb_in (i := 416) (by decide +kernel) rfl, tb_in (i := 417) (by decide +kernel) rfl, tb_in (i := 418) (by decide +kernel) rfl⟩⟩
set_option maxRecDepth 100000 in
theorem cw_52 : Cw 8 114 8 0 0 mX8_light := ⟨mdw_X8_light.1, mdw_X8_light.2, Or.inl ⟨rfl, tb_in (i := 449) (by decide +kernel) rfl, tb_in (i := 344) (by decide +kernel) rfl, tb_in (i := 345) (by decide +kernel) rfl⟩⟩
set_option maxRecDepth 100000 in
theorem cw_53 : Cw 8 117 8 0 0 mX8_share := ⟨mdw_X8_share.1, mdw_X8_share.2, Or.inl ⟨rfl, tb_in (i := 450) (by decide +kernel) rfl, tb_in (i := 413) (by decide +kernel) rfl, tb_in (i := 414) (by decide +kernel) rfl⟩⟩
set_option maxRecDepth 100000 in
theorem cw_54 : Cw 8 120 0 3 1 mJ6_bitCount_0f7a4 := ⟨mdw_J6_bitCount_0f7a4.1, mdw_J6_bitCount_0f7a4.2, Or.inr (Or.inr (Or.inl ⟨rfl, tb_in (i := 451) (by decide +kernel) rfl, tb_in (i := 452) (by decide +kernel) rfl⟩))⟩
set_option maxRecDepth 100000 in
theorem cw_55 : Cw 8 132 8 0 2 mX8_daysGo := ⟨mdw_X8_daysGo.1, mdw_X8_daysGo.2, Or.inl ⟨rfl, tb_in (i := 806) (by decide +kernel) rfl, tb_in (i := 446) (by decide +kernel) rfl, tb_in (i := 447) (by decide +kernel) rfl⟩⟩
set_option maxRecDepth 100000 in
theorem cw_56 : Cw 8 136 8 0 2 mX8_setCut := ⟨mdw_X8_setCut.1, mdw_X8_setCut.2, Or.inl ⟨rfl, tb_in (i := 807) (by decide +kernel) rfl, tb_in (i := 465) (by decide +kernel) rfl, tb_in (i := 466) (by decide +kernel) rfl⟩⟩
set_option maxRecDepth 100000 in
theorem cw_57 : Cw 9 1 0 5 0 mX2_init := ⟨mdw_X2_init.1, mdw_X2_init.2, Or.inr (Or.inr (Or.inr (Or.inr (Or.inl ⟨rfl, by decide +kernel, tb_in (i := 120) (by decide +kernel) rfl, rfl⟩))))⟩
set_option maxRecDepth 100000 in
theorem cw_58 : Cw 9 7 8 0 1 mX8_isCut := ⟨mdw_X8_isCut.1, mdw_X8_isCut.2, Or.inl ⟨rfl, tb_in (i := 401) (by decide +kernel) rfl, tb_in (i := 402) (by decide +kernel) rfl, tb_in (i := 403) (by decide +kernel) rfl⟩⟩
set_option maxRecDepth 100000 in
theorem cw_59 : Cw 9 13 0 6 3 mX2_pulls := ⟨mdw_X2_pulls.1, mdw_X2_pulls.2, Or.inr (Or.inr (Or.inr (Or.inr (Or.inr ⟨rfl, ⟨"PearSummer$Early", "pulls", "(LPearSummer$Tree;II)I"⟩, tb_in (i := 405) (by decide +kernel) rfl, tb_in (i := 1558) (by decide +kernel) rfl, tb_in (i := 144) (by decide +kernel) rfl, rfl, tb_in (i := 379) (by decide +kernel) rfl, by decide +kernel, Or.inl rfl⟩))))⟩
set_option maxRecDepth 100000 in
theorem cw_60 : Cw 9 17 1 0 1 mX1_runs := ⟨mdw_X1_runs.1, mdw_X1_runs.2, Or.inl ⟨rfl, tb_in (i := 873) (by decide +kernel) rfl, tb_in (i := 858) (by decide +kernel) rfl, tb_in (i := 859) (by decide +kernel) rfl⟩⟩
set_option maxRecDepth 100000 in
theorem cw_61 : Cw 9 23 0 6 2 mX5_warms := ⟨mdw_X5_warms.1, mdw_X5_warms.2, Or.inr (Or.inr (Or.inr (Or.inr (Or.inr ⟨rfl, ⟨"PearSummer$Early", "warms", "(LPearSummer$Deed;I)I"⟩, tb_in (i := 874) (by decide +kernel) rfl, tb_in (i := 875) (by decide +kernel) rfl, tb_in (i := 144) (by decide +kernel) rfl, rfl, tb_in (i := 849) (by decide +kernel) rfl, by decide +kernel, Or.inr (tb_in (i := 123) (by decide +kernel) rfl)⟩))))⟩
set_option maxRecDepth 100000 in
theorem cw_62 : Cw 9 27 0 6 2 mX2_swells := ⟨mdw_X2_swells.1, mdw_X2_swells.2, Or.inr (Or.inr (Or.inr (Or.inr (Or.inr ⟨rfl, ⟨"PearSummer$Early", "swells", "(LPearSummer$Deed;I)I"⟩, tb_in (i := 899) (by decide +kernel) rfl, tb_in (i := 1559) (by decide +kernel) rfl, tb_in (i := 144) (by decide +kernel) rfl, rfl, tb_in (i := 884) (by decide +kernel) rfl, by decide +kernel, Or.inl rfl⟩))))⟩
set_option maxRecDepth 100000 in
theorem cw_63 : Cw 10 35 10 0 0 mX10_readClause := ⟨mdw_X10_readClause.1, mdw_X10_readClause.2, Or.inl ⟨rfl, tb_in (i := 536) (by decide +kernel) rfl, tb_in (i := 538) (by decide +kernel) rfl, tb_in (i := 4) (by decide +kernel) rfl⟩⟩
set_option maxRecDepth 100000 in
theorem cw_64 : Cw 10 42 10 0 1 mX10_readSign := ⟨mdw_X10_readSign.1, mdw_X10_readSign.2, Or.inl ⟨rfl, tb_in (i := 597) (by decide +kernel) rfl, tb_in (i := 599) (by decide +kernel) rfl, tb_in (i := 7) (by decide +kernel) rfl⟩⟩
set_option maxRecDepth 100000 in
theorem cw_65 : Cw 10 46 10 0 0 mX10_sign := ⟨mdw_X10_sign.1, mdw_X10_sign.2, Or.inl ⟨rfl, tb_in (i := 540) (by decide +kernel) rfl, tb_in (i := 542) (by decide +kernel) rfl, tb_in (i := 5) (by decide +kernel) rfl⟩⟩
set_option maxRecDepth 100000 in
theorem cw_66 : Cw 10 50 20 0 0 mJ0_length_8abf5 := ⟨mdw_J0_length_8abf5.1, mdw_J0_length_8abf5.2, Or.inl ⟨rfl, tb_in (i := 549) (by decide +kernel) rfl, tb_in (i := 550) (by decide +kernel) rfl, tb_in (i := 551) (by decide +kernel) rfl⟩⟩
set_option maxRecDepth 100000 in
theorem cw_67 : Cw 10 55 20 0 1 mJ0_charAt_5068e := ⟨mdw_J0_charAt_5068e.1, mdw_J0_charAt_5068e.2, Or.inl ⟨rfl, tb_in (i := 559) (by decide +kernel) rfl, tb_in (i := 560) (by decide +kernel) rfl, tb_in (i := 561) (by decide +kernel) rfl⟩⟩
set_option maxRecDepth 100000 in
theorem cw_68 : Cw 10 64 10 0 1 mX10_readWord := ⟨mdw_X10_readWord.1, mdw_X10_readWord.2, Or.inl ⟨rfl, tb_in (i := 545) (by decide +kernel) rfl, tb_in (i := 547) (by decide +kernel) rfl, tb_in (i := 6) (by decide +kernel) rfl⟩⟩
set_option maxRecDepth 100000 in
theorem cw_69 : Cw 10 68 10 0 0 mX10_readNumber := ⟨mdw_X10_readNumber.1, mdw_X10_readNumber.2, Or.inl ⟨rfl, tb_in (i := 601) (by decide +kernel) rfl, tb_in (i := 603) (by decide +kernel) rfl, tb_in (i := 8) (by decide +kernel) rfl⟩⟩
set_option maxRecDepth 100000 in
theorem cw_70 : Cw 10 75 10 0 1 mX10_readEither := ⟨mdw_X10_readEither.1, mdw_X10_readEither.2, Or.inl ⟨rfl, tb_in (i := 607) (by decide +kernel) rfl, tb_in (i := 609) (by decide +kernel) rfl, tb_in (i := 9) (by decide +kernel) rfl⟩⟩
set_option maxRecDepth 100000 in
theorem cw_71 : Cw 10 79 10 0 3 mX10_addStep := ⟨mdw_X10_addStep.1, mdw_X10_addStep.2, Or.inl ⟨rfl, tb_in (i := 682) (by decide +kernel) rfl, tb_in (i := 684) (by decide +kernel) rfl, tb_in (i := 13) (by decide +kernel) rfl⟩⟩
set_option maxRecDepth 100000 in
theorem cw_72 : Cw 10 83 10 0 1 mX10_readBoth := ⟨mdw_X10_readBoth.1, mdw_X10_readBoth.2, Or.inl ⟨rfl, tb_in (i := 611) (by decide +kernel) rfl, tb_in (i := 613) (by decide +kernel) rfl, tb_in (i := 10) (by decide +kernel) rfl⟩⟩
set_option maxRecDepth 100000 in
theorem cw_73 : Cw 10 86 10 0 1 mX10_readOne := ⟨mdw_X10_readOne.1, mdw_X10_readOne.2, Or.inl ⟨rfl, tb_in (i := 615) (by decide +kernel) rfl, tb_in (i := 617) (by decide +kernel) rfl, tb_in (i := 11) (by decide +kernel) rfl⟩⟩
set_option maxRecDepth 100000 in
theorem cw_74 : Cw 10 89 10 0 0 mX10_readTest := ⟨mdw_X10_readTest.1, mdw_X10_readTest.2, Or.inl ⟨rfl, tb_in (i := 619) (by decide +kernel) rfl, tb_in (i := 621) (by decide +kernel) rfl, tb_in (i := 12) (by decide +kernel) rfl⟩⟩
set_option maxRecDepth 100000 in
theorem cw_75 : Cw 10 94 20 0 1 mJ0_indexOf_0f7a4 := ⟨mdw_J0_indexOf_0f7a4.1, mdw_J0_indexOf_0f7a4.2, Or.inl ⟨rfl, tb_in (i := 624) (by decide +kernel) rfl, tb_in (i := 625) (by decide +kernel) rfl, tb_in (i := 626) (by decide +kernel) rfl⟩⟩
set_option maxRecDepth 100000 in
theorem cw_76 : Cw 10 98 0 3 2 mX10_hoursThat := ⟨mdw_X10_hoursThat.1, mdw_X10_hoursThat.2, Or.inr (Or.inr (Or.inl ⟨rfl, tb_in (i := 679) (by decide +kernel) rfl, tb_in (i := 680) (by decide +kernel) rfl⟩))⟩
set_option maxRecDepth 100000 in
theorem cw_77 : Cw 10 109 0 3 3 mX10_addAt := ⟨mdw_X10_addAt.1, mdw_X10_addAt.2, Or.inr (Or.inr (Or.inl ⟨rfl, tb_in (i := 351) (by decide +kernel) rfl, tb_in (i := 352) (by decide +kernel) rfl⟩))⟩
set_option maxRecDepth 100000 in
theorem cw_78 : Cw 10 113 10 0 3 mX10_testedHours := ⟨mdw_X10_testedHours.1, mdw_X10_testedHours.2, Or.inl ⟨rfl, tb_in (i := 354) (by decide +kernel) rfl, tb_in (i := 356) (by decide +kernel) rfl, tb_in (i := 0) (by decide +kernel) rfl⟩⟩
set_option maxRecDepth 100000 in
theorem cw_79 : Cw 10 117 8 0 2 mX8_numberBehind := ⟨mdw_X8_numberBehind.1, mdw_X8_numberBehind.2, Or.inl ⟨rfl, tb_in (i := 359) (by decide +kernel) rfl, tb_in (i := 360) (by decide +kernel) rfl, tb_in (i := 361) (by decide +kernel) rfl⟩⟩
set_option maxRecDepth 100000 in
theorem cw_80 : Cw 10 120 0 3 3 mX10_holds := ⟨mdw_X10_holds.1, mdw_X10_holds.2, Or.inr (Or.inr (Or.inl ⟨rfl, tb_in (i := 363) (by decide +kernel) rfl, tb_in (i := 364) (by decide +kernel) rfl⟩))⟩
set_option maxRecDepth 100000 in
theorem cw_81 : Cw 11 13 0 5 0 mX5_init := ⟨mdw_X5_init.1, mdw_X5_init.2, Or.inr (Or.inr (Or.inr (Or.inr (Or.inl ⟨rfl, by decide +kernel, tb_in (i := 113) (by decide +kernel) rfl, rfl⟩))))⟩
set_option maxRecDepth 100000 in
theorem cw_82 : Cw 11 16 0 5 0 mX2_init := ⟨mdw_X2_init.1, mdw_X2_init.2, Or.inr (Or.inr (Or.inr (Or.inr (Or.inl ⟨rfl, by decide +kernel, tb_in (i := 120) (by decide +kernel) rfl, rfl⟩))))⟩
set_option maxRecDepth 100000 in
theorem cw_83 : Cw 11 19 0 5 0 mX4_init := ⟨mdw_X4_init.1, mdw_X4_init.2, Or.inr (Or.inr (Or.inr (Or.inr (Or.inl ⟨rfl, by decide +kernel, tb_in (i := 127) (by decide +kernel) rfl, rfl⟩))))⟩
set_option maxRecDepth 100000 in
theorem cw_84 : Cw 11 22 0 5 0 mX0_init := ⟨mdw_X0_init.1, mdw_X0_init.2, Or.inr (Or.inr (Or.inr (Or.inr (Or.inl ⟨rfl, by decide +kernel, tb_in (i := 134) (by decide +kernel) rfl, rfl⟩))))⟩
set_option maxRecDepth 100000 in
theorem cw_85 : Cw 11 25 0 5 0 mX9_init := ⟨mdw_X9_init.1, mdw_X9_init.2, Or.inr (Or.inr (Or.inr (Or.inr (Or.inl ⟨rfl, by decide +kernel, tb_in (i := 141) (by decide +kernel) rfl, rfl⟩))))⟩
set_option maxRecDepth 100000 in
theorem cw_86 : Cw 11 28 0 5 0 mX3_init := ⟨mdw_X3_init.1, mdw_X3_init.2, Or.inr (Or.inr (Or.inr (Or.inr (Or.inl ⟨rfl, by decide +kernel, tb_in (i := 148) (by decide +kernel) rfl, rfl⟩))))⟩
set_option maxRecDepth 100000 in
theorem cw_87 : Cw 11 31 0 5 0 mX7_init := ⟨mdw_X7_init.1, mdw_X7_init.2, Or.inr (Or.inr (Or.inr (Or.inr (Or.inl ⟨rfl, by decide +kernel, tb_in (i := 155) (by decide +kernel) rfl, rfl⟩))))⟩
set_option maxRecDepth 100000 in
theorem cw_88 : Cw 11 34 0 4 1 mX8_init := ⟨mdw_X8_init.1, mdw_X8_init.2, Or.inr (Or.inr (Or.inr (Or.inl ⟨rfl, tb_in (i := 161) (by decide +kernel) rfl, tb_in (i := 162) (by decide +kernel) rfl, rfl⟩)))⟩
set_option maxRecDepth 100000 in
theorem cw_89 : Cw 11 55 0 5 0 mX1_init := ⟨mdw_X1_init.1, mdw_X1_init.2, Or.inr (Or.inr (Or.inr (Or.inr (Or.inl ⟨rfl, by decide +kernel, tb_in (i := 259) (by decide +kernel) rfl, rfl⟩))))⟩
set_option maxRecDepth 100000 in
theorem cw_90 : Cw 11 74 0 3 2 mJ7_fill_53178 := ⟨mdw_J7_fill_53178.1, mdw_J7_fill_53178.2, Or.inr (Or.inr (Or.inl ⟨rfl, tb_in (i := 285) (by decide +kernel) rfl, tb_in (i := 286) (by decide +kernel) rfl⟩))⟩
set_option maxRecDepth 100000 in
theorem cw_91 : Cw 11 87 8 0 2 mX8_grow := ⟨mdw_X8_grow.1, mdw_X8_grow.2, Or.inl ⟨rfl, tb_in (i := 330) (by decide +kernel) rfl, tb_in (i := 331) (by decide +kernel) rfl, tb_in (i := 332) (by decide +kernel) rfl⟩⟩
set_option maxRecDepth 100000 in
theorem cw_92 : Cw 11 91 8 0 1 mX8_has := ⟨mdw_X8_has.1, mdw_X8_has.2, Or.inl ⟨rfl, tb_in (i := 339) (by decide +kernel) rfl, tb_in (i := 340) (by decide +kernel) rfl, tb_in (i := 341) (by decide +kernel) rfl⟩⟩
set_option maxRecDepth 100000 in
theorem cw_93 : Cw 11 95 8 0 0 mX8_light := ⟨mdw_X8_light.1, mdw_X8_light.2, Or.inl ⟨rfl, tb_in (i := 343) (by decide +kernel) rfl, tb_in (i := 344) (by decide +kernel) rfl, tb_in (i := 345) (by decide +kernel) rfl⟩⟩
set_option maxRecDepth 100000 in
theorem cw_94 : Cw 11 98 8 0 2 mX8_pullAt := ⟨mdw_X8_pullAt.1, mdw_X8_pullAt.2, Or.inl ⟨rfl, tb_in (i := 366) (by decide +kernel) rfl, tb_in (i := 367) (by decide +kernel) rfl, tb_in (i := 368) (by decide +kernel) rfl⟩⟩
set_option maxRecDepth 100000 in
theorem cw_95 : Cw 11 107 8 0 1 mX8_isCut := ⟨mdw_X8_isCut.1, mdw_X8_isCut.2, Or.inl ⟨rfl, tb_in (i := 407) (by decide +kernel) rfl, tb_in (i := 402) (by decide +kernel) rfl, tb_in (i := 403) (by decide +kernel) rfl⟩⟩
set_option maxRecDepth 100000 in
theorem cw_96 : Cw 11 116 11 0 1 mX11_ownHours := ⟨mdw_X11_ownHours.1, mdw_X11_ownHours.2, Or.inl ⟨rfl, tb_in (i := 408) (by decide +kernel) rfl, tb_in (i := 410) (by decide +kernel) rfl, tb_in (i := 1) (by decide +kernel) rfl⟩⟩
set_option maxRecDepth 100000 in
theorem cw_97 : Cw 11 120 11 0 1 mX11_soleHours := ⟨mdw_X11_soleHours.1, mdw_X11_soleHours.2, Or.inl ⟨rfl, tb_in (i := 421) (by decide +kernel) rfl, tb_in (i := 423) (by decide +kernel) rfl, tb_in (i := 2) (by decide +kernel) rfl⟩⟩
set_option maxRecDepth 100000 in
theorem cw_98 : Cw 11 123 11 0 1 mX11_whenRipe := ⟨mdw_X11_whenRipe.1, mdw_X11_whenRipe.2, Or.inl ⟨rfl, tb_in (i := 436) (by decide +kernel) rfl, tb_in (i := 438) (by decide +kernel) rfl, tb_in (i := 3) (by decide +kernel) rfl⟩⟩
set_option maxRecDepth 100000 in
theorem cw_99 : Cw 11 126 8 0 2 mX8_setCut := ⟨mdw_X8_setCut.1, mdw_X8_setCut.2, Or.inl ⟨rfl, tb_in (i := 464) (by decide +kernel) rfl, tb_in (i := 465) (by decide +kernel) rfl, tb_in (i := 466) (by decide +kernel) rfl⟩⟩
set_option maxRecDepth 100000 in
theorem cw_100 : Cw 11 141 0 3 2 mJ7_copyOf_9075b := ⟨mdw_J7_copyOf_9075b.1, mdw_J7_copyOf_9075b.2, Or.inr (Or.inr (Or.inl ⟨rfl, tb_in (i := 485) (by decide +kernel) rfl, tb_in (i := 486) (by decide +kernel) rfl⟩))⟩
set_option maxRecDepth 100000 in
theorem cw_101 : Cw 11 145 0 4 1 mX10_init := ⟨mdw_X10_init.1, mdw_X10_init.2, Or.inr (Or.inr (Or.inr (Or.inl ⟨rfl, tb_in (i := 497) (by decide +kernel) rfl, tb_in (i := 498) (by decide +kernel) rfl, rfl⟩)))⟩
set_option maxRecDepth 100000 in
theorem cw_102 : Cw 11 148 10 0 0 mX10_readAll := ⟨mdw_X10_readAll.1, mdw_X10_readAll.2, Or.inl ⟨rfl, tb_in (i := 532) (by decide +kernel) rfl, tb_in (i := 533) (by decide +kernel) rfl, tb_in (i := 534) (by decide +kernel) rfl⟩⟩
set_option maxRecDepth 100000 in
theorem cw_103 : Cw 11 159 8 0 1 mX8_whoseHour := ⟨mdw_X8_whoseHour.1, mdw_X8_whoseHour.2, Or.inl ⟨rfl, tb_in (i := 690) (by decide +kernel) rfl, tb_in (i := 417) (by decide +kernel) rfl, tb_in (i := 418) (by decide +kernel) rfl⟩⟩
set_option maxRecDepth 100000 in
theorem cw_104 : Cw 11 165 8 0 0 mX8_ripeEnough := ⟨mdw_X8_ripeEnough.1, mdw_X8_ripeEnough.2, Or.inl ⟨rfl, tb_in (i := 440) (by decide +kernel) rfl, tb_in (i := 441) (by decide +kernel) rfl, tb_in (i := 442) (by decide +kernel) rfl⟩⟩
set_option maxRecDepth 100000 in
theorem cw_105 : Cw 11 172 8 0 0 mX8_ripeTogether := ⟨mdw_X8_ripeTogether.1, mdw_X8_ripeTogether.2, Or.inl ⟨rfl, tb_in (i := 691) (by decide +kernel) rfl, tb_in (i := 692) (by decide +kernel) rfl, tb_in (i := 693) (by decide +kernel) rfl⟩⟩
set_option maxRecDepth 100000 in
theorem cw_106 : Cw 11 175 8 0 0 mX8_howManyRipe := ⟨mdw_X8_howManyRipe.1, mdw_X8_howManyRipe.2, Or.inl ⟨rfl, tb_in (i := 695) (by decide +kernel) rfl, tb_in (i := 696) (by decide +kernel) rfl, tb_in (i := 697) (by decide +kernel) rfl⟩⟩
set_option maxRecDepth 100000 in
theorem cw_107 : Cw 11 178 8 0 0 mX8_share := ⟨mdw_X8_share.1, mdw_X8_share.2, Or.inl ⟨rfl, tb_in (i := 412) (by decide +kernel) rfl, tb_in (i := 413) (by decide +kernel) rfl, tb_in (i := 414) (by decide +kernel) rfl⟩⟩
set_option maxRecDepth 100000 in
theorem cw_108 : Cw 11 184 8 0 1 mX8_takeFruit := ⟨mdw_X8_takeFruit.1, mdw_X8_takeFruit.2, Or.inl ⟨rfl, tb_in (i := 425) (by decide +kernel) rfl, tb_in (i := 426) (by decide +kernel) rfl, tb_in (i := 427) (by decide +kernel) rfl⟩⟩
set_option maxRecDepth 100000 in
theorem cw_109 : Cw 11 188 8 0 0 mX8_allFruit := ⟨mdw_X8_allFruit.1, mdw_X8_allFruit.2, Or.inl ⟨rfl, tb_in (i := 432) (by decide +kernel) rfl, tb_in (i := 433) (by decide +kernel) rfl, tb_in (i := 434) (by decide +kernel) rfl⟩⟩
set_option maxRecDepth 100000 in
theorem cw_110 : Cw 11 192 8 0 2 mX8_daysGo := ⟨mdw_X8_daysGo.1, mdw_X8_daysGo.2, Or.inl ⟨rfl, tb_in (i := 445) (by decide +kernel) rfl, tb_in (i := 446) (by decide +kernel) rfl, tb_in (i := 447) (by decide +kernel) rfl⟩⟩
set_option maxRecDepth 100000 in
theorem cw_111 : Cw 11 196 0 3 1 mX11_areHours := ⟨mdw_X11_areHours.1, mdw_X11_areHours.2, Or.inr (Or.inr (Or.inl ⟨rfl, tb_in (i := 712) (by decide +kernel) rfl, tb_in (i := 713) (by decide +kernel) rfl⟩))⟩
set_option maxRecDepth 100000 in
theorem cw_112 : Cw 11 199 11 0 2 mX11_leastCuts := ⟨mdw_X11_leastCuts.1, mdw_X11_leastCuts.2, Or.inl ⟨rfl, tb_in (i := 715) (by decide +kernel) rfl, tb_in (i := 717) (by decide +kernel) rfl, tb_in (i := 14) (by decide +kernel) rfl⟩⟩
set_option maxRecDepth 100000 in
theorem cw_113 : Cw 11 202 0 3 1 mJ6_bitCount_0f7a4 := ⟨mdw_J6_bitCount_0f7a4.1, mdw_J6_bitCount_0f7a4.2, Or.inr (Or.inr (Or.inl ⟨rfl, tb_in (i := 719) (by decide +kernel) rfl, tb_in (i := 452) (by decide +kernel) rfl⟩))⟩
set_option maxRecDepth 100000 in
theorem cw_114 : Cw 11 209 6 0 0 mX6_empty := ⟨mdw_X6_empty.1, mdw_X6_empty.2, Or.inl ⟨rfl, tb_in (i := 728) (by decide +kernel) rfl, tb_in (i := 729) (by decide +kernel) rfl, tb_in (i := 730) (by decide +kernel) rfl⟩⟩
set_option maxRecDepth 100000 in
theorem cw_115 : Cw 11 214 6 0 2 mX6_add := ⟨mdw_X6_add.1, mdw_X6_add.2, Or.inl ⟨rfl, tb_in (i := 732) (by decide +kernel) rfl, tb_in (i := 733) (by decide +kernel) rfl, tb_in (i := 734) (by decide +kernel) rfl⟩⟩
set_option maxRecDepth 100000 in
theorem cw_116 : Cw 11 220 11 0 0 mX11_countGives := ⟨mdw_X11_countGives.1, mdw_X11_countGives.2, Or.inl ⟨rfl, tb_in (i := 740) (by decide +kernel) rfl, tb_in (i := 742) (by decide +kernel) rfl, tb_in (i := 15) (by decide +kernel) rfl⟩⟩
set_option maxRecDepth 100000 in
theorem cw_117 : Cw 11 223 11 0 1 mX11_sentFor := ⟨mdw_X11_sentFor.1, mdw_X11_sentFor.2, Or.inl ⟨rfl, tb_in (i := 749) (by decide +kernel) rfl, tb_in (i := 751) (by decide +kernel) rfl, tb_in (i := 17) (by decide +kernel) rfl⟩⟩
set_option maxRecDepth 100000 in
theorem cw_118 : Cw 11 226 11 0 3 mX11_canBeSent := ⟨mdw_X11_canBeSent.1, mdw_X11_canBeSent.2, Or.inl ⟨rfl, tb_in (i := 744) (by decide +kernel) rfl, tb_in (i := 746) (by decide +kernel) rfl, tb_in (i := 16) (by decide +kernel) rfl⟩⟩
set_option maxRecDepth 100000 in
theorem cw_119 : Cw 11 238 11 0 2 mX11_firstGiven := ⟨mdw_X11_firstGiven.1, mdw_X11_firstGiven.2, Or.inl ⟨rfl, tb_in (i := 753) (by decide +kernel) rfl, tb_in (i := 755) (by decide +kernel) rfl, tb_in (i := 18) (by decide +kernel) rfl⟩⟩
set_option maxRecDepth 100000 in
theorem cw_120 : Cw 11 244 11 0 3 mX11_tellRow := ⟨mdw_X11_tellRow.1, mdw_X11_tellRow.2, Or.inl ⟨rfl, tb_in (i := 761) (by decide +kernel) rfl, tb_in (i := 763) (by decide +kernel) rfl, tb_in (i := 19) (by decide +kernel) rfl⟩⟩
set_option maxRecDepth 100000 in
theorem cw_121 : Cw 11 248 11 0 0 mX11_isSeenSo := ⟨mdw_X11_isSeenSo.1, mdw_X11_isSeenSo.2, Or.inl ⟨rfl, tb_in (i := 769) (by decide +kernel) rfl, tb_in (i := 771) (by decide +kernel) rfl, tb_in (i := 20) (by decide +kernel) rfl⟩⟩
set_option maxRecDepth 100000 in
theorem cw_122 : Cw 11 251 6 0 1 mX6_firstOther := ⟨mdw_X6_firstOther.1, mdw_X6_firstOther.2, Or.inl ⟨rfl, tb_in (i := 773) (by decide +kernel) rfl, tb_in (i := 774) (by decide +kernel) rfl, tb_in (i := 775) (by decide +kernel) rfl⟩⟩
set_option maxRecDepth 100000 in
theorem cw_123 : Cw 11 257 0 3 3 mX11_fractionPart := ⟨mdw_X11_fractionPart.1, mdw_X11_fractionPart.2, Or.inr (Or.inr (Or.inl ⟨rfl, tb_in (i := 786) (by decide +kernel) rfl, tb_in (i := 787) (by decide +kernel) rfl⟩))⟩
set_option maxRecDepth 100000 in
theorem cw_124 : Cw 11 267 8 0 2 mX8_follow := ⟨mdw_X8_follow.1, mdw_X8_follow.2, Or.inl ⟨rfl, tb_in (i := 801) (by decide +kernel) rfl, tb_in (i := 802) (by decide +kernel) rfl, tb_in (i := 803) (by decide +kernel) rfl⟩⟩
set_option maxRecDepth 100000 in
theorem cw_125 : Cw 11 273 0 3 1 mX11_isTape := ⟨mdw_X11_isTape.1, mdw_X11_isTape.2, Or.inr (Or.inr (Or.inl ⟨rfl, tb_in (i := 820) (by decide +kernel) rfl, tb_in (i := 821) (by decide +kernel) rfl⟩))⟩
set_option maxRecDepth 100000 in
theorem cw_126 : Cw 11 276 8 0 1 mX8_takeRows := ⟨mdw_X8_takeRows.1, mdw_X8_takeRows.2, Or.inl ⟨rfl, tb_in (i := 827) (by decide +kernel) rfl, tb_in (i := 828) (by decide +kernel) rfl, tb_in (i := 829) (by decide +kernel) rfl⟩⟩
set_option maxRecDepth 100000 in
theorem cw_127 : Cw 11 283 1 0 0 mX1_begin := ⟨mdw_X1_begin.1, mdw_X1_begin.2, Or.inl ⟨rfl, tb_in (i := 844) (by decide +kernel) rfl, tb_in (i := 845) (by decide +kernel) rfl, tb_in (i := 846) (by decide +kernel) rfl⟩⟩
set_option maxRecDepth 100000 in
theorem cw_128 : Cw 11 295 0 0 2 mX5_warms := ⟨mdw_X5_warms.1, mdw_X5_warms.2, Or.inl ⟨rfl, tb_in (i := 848) (by decide +kernel) rfl, tb_in (i := 849) (by decide +kernel) rfl, tb_in (i := 852) (by decide +kernel) rfl⟩⟩
set_option maxRecDepth 100000 in
theorem cw_129 : Cw 11 295 2 0 2 mX5_warms := ⟨mdw_X5_warms.1, mdw_X5_warms.2, Or.inl ⟨rfl, tb_in (i := 848) (by decide +kernel) rfl, tb_in (i := 849) (by decide +kernel) rfl, tb_in (i := 853) (by decide +kernel) rfl⟩⟩
set_option maxRecDepth 100000 in
theorem cw_130 : Cw 11 295 3 2 2 mX4_warms := ⟨mdw_X4_warms.1, mdw_X4_warms.2, Or.inr (Or.inl ⟨Or.inr rfl, ⟨"PearSummer$Pear", "warms", "(LPearSummer$Deed;I)I"⟩, RX5, cX5_warms, 3, some .int, tb_in (i := 848) (by decide +kernel) rfl, tb_in (i := 851) (by decide +kernel) rfl, tb_in (i := 849) (by decide +kernel) rfl, tb_in (i := 876) rfl rfl, tb_in (i := 854) (by decide +kernel) rfl, tb_in (i := 855) (by decide +kernel) rfl, ⟨by decide +kernel, by decide +kernel⟩, by decide +kernel⟩)⟩
set_option maxRecDepth 100000 in
theorem cw_131 : Cw 11 295 4 2 2 mX4_warms := ⟨mdw_X4_warms.1, mdw_X4_warms.2, Or.inr (Or.inl ⟨Or.inr rfl, ⟨"PearSummer$Pear", "warms", "(LPearSummer$Deed;I)I"⟩, RX5, cX5_warms, 3, some .int, tb_in (i := 848) (by decide +kernel) rfl, tb_in (i := 851) (by decide +kernel) rfl, tb_in (i := 849) (by decide +kernel) rfl, tb_in (i := 876) rfl rfl, tb_in (i := 862) (by decide +kernel) rfl, tb_in (i := 855) (by decide +kernel) rfl, ⟨by decide +kernel, by decide +kernel⟩, by decide +kernel⟩)⟩
set_option maxRecDepth 100000 in
theorem cw_132 : Cw 11 295 5 0 2 mX5_warms := ⟨mdw_X5_warms.1, mdw_X5_warms.2, Or.inl ⟨rfl, tb_in (i := 848) (by decide +kernel) rfl, tb_in (i := 849) (by decide +kernel) rfl, tb_in (i := 850) (by decide +kernel) rfl⟩⟩
set_option maxRecDepth 100000 in
theorem cw_133 : Cw 11 295 7 2 2 mX7_warms := ⟨mdw_X7_warms.1, mdw_X7_warms.2, Or.inr (Or.inl ⟨Or.inr rfl, ⟨"PearSummer$Pear", "warms", "(LPearSummer$Deed;I)I"⟩, RX5, cX5_warms, 3, some .int, tb_in (i := 848) (by decide +kernel) rfl, tb_in (i := 851) (by decide +kernel) rfl, tb_in (i := 849) (by decide +kernel) rfl, tb_in (i := 876) rfl rfl, tb_in (i := 863) (by decide +kernel) rfl, tb_in (i := 864) (by decide +kernel) rfl, ⟨by decide +kernel, by decide +kernel⟩, by decide +kernel⟩)⟩
set_option maxRecDepth 100000 in
theorem cw_134 : Cw 11 295 9 2 2 mX9_warms := ⟨mdw_X9_warms.1, mdw_X9_warms.2, Or.inr (Or.inl ⟨Or.inr rfl, ⟨"PearSummer$Pear", "warms", "(LPearSummer$Deed;I)I"⟩, RX5, cX5_warms, 3, some .int, tb_in (i := 848) (by decide +kernel) rfl, tb_in (i := 851) (by decide +kernel) rfl, tb_in (i := 849) (by decide +kernel) rfl, tb_in (i := 876) rfl rfl, tb_in (i := 870) (by decide +kernel) rfl, tb_in (i := 871) (by decide +kernel) rfl, ⟨by decide +kernel, by decide +kernel⟩, by decide +kernel⟩)⟩
set_option maxRecDepth 100000 in
theorem cw_135 : Cw 11 299 0 0 2 mX5_swells := ⟨mdw_X5_swells.1, mdw_X5_swells.2, Or.inl ⟨rfl, tb_in (i := 878) (by decide +kernel) rfl, tb_in (i := 879) (by decide +kernel) rfl, tb_in (i := 882) (by decide +kernel) rfl⟩⟩
set_option maxRecDepth 100000 in
theorem cw_136 : Cw 11 299 2 2 2 mX2_swells := ⟨mdw_X2_swells.1, mdw_X2_swells.2, Or.inr (Or.inl ⟨Or.inr rfl, ⟨"PearSummer$Pear", "swells", "(LPearSummer$Deed;I)I"⟩, RX5, cX5_swells, 3, some .int, tb_in (i := 878) (by decide +kernel) rfl, tb_in (i := 881) (by decide +kernel) rfl, tb_in (i := 879) (by decide +kernel) rfl, tb_in (i := 900) rfl rfl, tb_in (i := 883) (by decide +kernel) rfl, tb_in (i := 884) (by decide +kernel) rfl, ⟨by decide +kernel, by decide +kernel⟩, by decide +kernel⟩)⟩
set_option maxRecDepth 100000 in
theorem cw_137 : Cw 11 299 3 0 2 mX5_swells := ⟨mdw_X5_swells.1, mdw_X5_swells.2, Or.inl ⟨rfl, tb_in (i := 878) (by decide +kernel) rfl, tb_in (i := 879) (by decide +kernel) rfl, tb_in (i := 888) (by decide +kernel) rfl⟩⟩
set_option maxRecDepth 100000 in
theorem cw_138 : Cw 11 299 4 0 2 mX5_swells := ⟨mdw_X5_swells.1, mdw_X5_swells.2, Or.inl ⟨rfl, tb_in (i := 878) (by decide +kernel) rfl, tb_in (i := 879) (by decide +kernel) rfl, tb_in (i := 889) (by decide +kernel) rfl⟩⟩
set_option maxRecDepth 100000 in
theorem cw_139 : Cw 11 299 5 0 2 mX5_swells := ⟨mdw_X5_swells.1, mdw_X5_swells.2, Or.inl ⟨rfl, tb_in (i := 878) (by decide +kernel) rfl, tb_in (i := 879) (by decide +kernel) rfl, tb_in (i := 880) (by decide +kernel) rfl⟩⟩
set_option maxRecDepth 100000 in
theorem cw_140 : Cw 11 299 7 2 2 mX7_swells := ⟨mdw_X7_swells.1, mdw_X7_swells.2, Or.inr (Or.inl ⟨Or.inr rfl, ⟨"PearSummer$Pear", "swells", "(LPearSummer$Deed;I)I"⟩, RX5, cX5_swells, 3, some .int, tb_in (i := 878) (by decide +kernel) rfl, tb_in (i := 881) (by decide +kernel) rfl, tb_in (i := 879) (by decide +kernel) rfl, tb_in (i := 900) rfl rfl, tb_in (i := 890) (by decide +kernel) rfl, tb_in (i := 891) (by decide +kernel) rfl, ⟨by decide +kernel, by decide +kernel⟩, by decide +kernel⟩)⟩
set_option maxRecDepth 100000 in
theorem cw_141 : Cw 11 299 9 2 2 mX9_swells := ⟨mdw_X9_swells.1, mdw_X9_swells.2, Or.inr (Or.inl ⟨Or.inr rfl, ⟨"PearSummer$Pear", "swells", "(LPearSummer$Deed;I)I"⟩, RX5, cX5_swells, 3, some .int, tb_in (i := 878) (by decide +kernel) rfl, tb_in (i := 881) (by decide +kernel) rfl, tb_in (i := 879) (by decide +kernel) rfl, tb_in (i := 900) rfl rfl, tb_in (i := 896) (by decide +kernel) rfl, tb_in (i := 897) (by decide +kernel) rfl, ⟨by decide +kernel, by decide +kernel⟩, by decide +kernel⟩)⟩
set_option maxRecDepth 100000 in
theorem cw_142 : Cw 11 302 0 2 2 mX0_tells := ⟨mdw_X0_tells.1, mdw_X0_tells.2, Or.inr (Or.inl ⟨Or.inr rfl, ⟨"PearSummer$Pear", "tells", "(LPearSummer$Deed;I)I"⟩, RX5, cX5_tells, 3, some .int, tb_in (i := 902) (by decide +kernel) rfl, tb_in (i := 905) (by decide +kernel) rfl, tb_in (i := 903) (by decide +kernel) rfl, tb_in (i := 925) rfl rfl, tb_in (i := 906) (by decide +kernel) rfl, tb_in (i := 907) (by decide +kernel) rfl, ⟨by decide +kernel, by decide +kernel⟩, by decide +kernel⟩)⟩
set_option maxRecDepth 100000 in
theorem cw_143 : Cw 11 302 2 0 2 mX5_tells := ⟨mdw_X5_tells.1, mdw_X5_tells.2, Or.inl ⟨rfl, tb_in (i := 902) (by decide +kernel) rfl, tb_in (i := 903) (by decide +kernel) rfl, tb_in (i := 914) (by decide +kernel) rfl⟩⟩
set_option maxRecDepth 100000 in
theorem cw_144 : Cw 11 302 3 2 2 mX3_tells := ⟨mdw_X3_tells.1, mdw_X3_tells.2, Or.inr (Or.inl ⟨Or.inr rfl, ⟨"PearSummer$Pear", "tells", "(LPearSummer$Deed;I)I"⟩, RX5, cX5_tells, 3, some .int, tb_in (i := 902) (by decide +kernel) rfl, tb_in (i := 905) (by decide +kernel) rfl, tb_in (i := 903) (by decide +kernel) rfl, tb_in (i := 925) rfl rfl, tb_in (i := 915) (by decide +kernel) rfl, tb_in (i := 916) (by decide +kernel) rfl, ⟨by decide +kernel, by decide +kernel⟩, by decide +kernel⟩)⟩
set_option maxRecDepth 100000 in
theorem cw_145 : Cw 11 302 4 0 2 mX5_tells := ⟨mdw_X5_tells.1, mdw_X5_tells.2, Or.inl ⟨rfl, tb_in (i := 902) (by decide +kernel) rfl, tb_in (i := 903) (by decide +kernel) rfl, tb_in (i := 922) (by decide +kernel) rfl⟩⟩
set_option maxRecDepth 100000 in
theorem cw_146 : Cw 11 302 5 0 2 mX5_tells := ⟨mdw_X5_tells.1, mdw_X5_tells.2, Or.inl ⟨rfl, tb_in (i := 902) (by decide +kernel) rfl, tb_in (i := 903) (by decide +kernel) rfl, tb_in (i := 904) (by decide +kernel) rfl⟩⟩
set_option maxRecDepth 100000 in
theorem cw_147 : Cw 11 302 7 2 2 mX0_tells := ⟨mdw_X0_tells.1, mdw_X0_tells.2, Or.inr (Or.inl ⟨Or.inr rfl, ⟨"PearSummer$Pear", "tells", "(LPearSummer$Deed;I)I"⟩, RX5, cX5_tells, 3, some .int, tb_in (i := 902) (by decide +kernel) rfl, tb_in (i := 905) (by decide +kernel) rfl, tb_in (i := 903) (by decide +kernel) rfl, tb_in (i := 925) rfl rfl, tb_in (i := 923) (by decide +kernel) rfl, tb_in (i := 907) (by decide +kernel) rfl, ⟨by decide +kernel, by decide +kernel⟩, by decide +kernel⟩)⟩
set_option maxRecDepth 100000 in
theorem cw_148 : Cw 11 302 9 0 2 mX5_tells := ⟨mdw_X5_tells.1, mdw_X5_tells.2, Or.inl ⟨rfl, tb_in (i := 902) (by decide +kernel) rfl, tb_in (i := 903) (by decide +kernel) rfl, tb_in (i := 924) (by decide +kernel) rfl⟩⟩
set_option maxRecDepth 100000 in
theorem cw_149 : Cw 11 317 0 3 2 mJ7_fill_d0a16 := ⟨mdw_J7_fill_d0a16.1, mdw_J7_fill_d0a16.2, Or.inr (Or.inr (Or.inl ⟨rfl, tb_in (i := 946) (by decide +kernel) rfl, tb_in (i := 947) (by decide +kernel) rfl⟩))⟩
set_option maxRecDepth 100000 in
theorem cw_150 : Cw 11 320 0 3 2 mX11_asItem := ⟨mdw_X11_asItem.1, mdw_X11_asItem.2, Or.inr (Or.inr (Or.inl ⟨rfl, tb_in (i := 953) (by decide +kernel) rfl, tb_in (i := 954) (by decide +kernel) rfl⟩))⟩
set_option maxRecDepth 100000 in
theorem cw_151 : Cw 12 230 12 0 2 mX12_has := ⟨mdw_X12_has.1, mdw_X12_has.2, Or.inl ⟨rfl, tb_in (i := 1205) (by decide +kernel) rfl, tb_in (i := 1207) (by decide +kernel) rfl, tb_in (i := 23) (by decide +kernel) rfl⟩⟩
set_option maxRecDepth 100000 in
theorem cw_152 : Cw 12 234 12 0 3 mX12_in := ⟨mdw_X12_in.1, mdw_X12_in.2, Or.inl ⟨rfl, tb_in (i := 1193) (by decide +kernel) rfl, tb_in (i := 1195) (by decide +kernel) rfl, tb_in (i := 21) (by decide +kernel) rfl⟩⟩
set_option maxRecDepth 100000 in
theorem cw_153 : Cw 12 238 12 0 1 mX12_isFruit := ⟨mdw_X12_isFruit.1, mdw_X12_isFruit.2, Or.inl ⟨rfl, tb_in (i := 1201) (by decide +kernel) rfl, tb_in (i := 1203) (by decide +kernel) rfl, tb_in (i := 22) (by decide +kernel) rfl⟩⟩
set_option maxRecDepth 100000 in
theorem cw_154 : Cw 12 242 12 0 2 mX12_cutting := ⟨mdw_X12_cutting.1, mdw_X12_cutting.2, Or.inl ⟨rfl, tb_in (i := 1209) (by decide +kernel) rfl, tb_in (i := 1211) (by decide +kernel) rfl, tb_in (i := 24) (by decide +kernel) rfl⟩⟩
set_option maxRecDepth 100000 in
theorem cw_155 : Cw 12 246 12 0 1 mX12_isHours := ⟨mdw_X12_isHours.1, mdw_X12_isHours.2, Or.inl ⟨rfl, tb_in (i := 1217) (by decide +kernel) rfl, tb_in (i := 1219) (by decide +kernel) rfl, tb_in (i := 25) (by decide +kernel) rfl⟩⟩
set_option maxRecDepth 100000 in
theorem cw_156 : Cw 12 249 12 0 1 mX12_isRipe := ⟨mdw_X12_isRipe.1, mdw_X12_isRipe.2, Or.inl ⟨rfl, tb_in (i := 1221) (by decide +kernel) rfl, tb_in (i := 1223) (by decide +kernel) rfl, tb_in (i := 26) (by decide +kernel) rfl⟩⟩
set_option maxRecDepth 100000 in
theorem cw_157 : Cw 12 252 12 0 0 mX12_next := ⟨mdw_X12_next.1, mdw_X12_next.2, Or.inl ⟨rfl, tb_in (i := 1249) (by decide +kernel) rfl, tb_in (i := 1251) (by decide +kernel) rfl, tb_in (i := 30) (by decide +kernel) rfl⟩⟩
set_option maxRecDepth 100000 in
theorem cw_158 : Cw 12 256 12 0 1 mX12_takes := ⟨mdw_X12_takes.1, mdw_X12_takes.2, Or.inl ⟨rfl, tb_in (i := 1257) (by decide +kernel) rfl, tb_in (i := 1259) (by decide +kernel) rfl, tb_in (i := 32) (by decide +kernel) rfl⟩⟩
set_option maxRecDepth 100000 in
theorem cw_159 : Cw 12 259 12 0 0 mX12_isDigit := ⟨mdw_X12_isDigit.1, mdw_X12_isDigit.2, Or.inl ⟨rfl, tb_in (i := 1269) (by decide +kernel) rfl, tb_in (i := 1271) (by decide +kernel) rfl, tb_in (i := 35) (by decide +kernel) rfl⟩⟩
set_option maxRecDepth 100000 in
theorem cw_160 : Cw 12 263 12 0 1 mX12_emits := ⟨mdw_X12_emits.1, mdw_X12_emits.2, Or.inl ⟨rfl, tb_in (i := 1285) (by decide +kernel) rfl, tb_in (i := 1287) (by decide +kernel) rfl, tb_in (i := 39) (by decide +kernel) rfl⟩⟩
set_option maxRecDepth 100000 in
theorem cw_161 : Cw 12 267 12 0 1 mX12_place := ⟨mdw_X12_place.1, mdw_X12_place.2, Or.inl ⟨rfl, tb_in (i := 1281) (by decide +kernel) rfl, tb_in (i := 1283) (by decide +kernel) rfl, tb_in (i := 38) (by decide +kernel) rfl⟩⟩
set_option maxRecDepth 100000 in
theorem cw_162 : Cw 12 271 12 0 0 mX12_takesNumber := ⟨mdw_X12_takesNumber.1, mdw_X12_takesNumber.2, Or.inl ⟨rfl, tb_in (i := 1265) (by decide +kernel) rfl, tb_in (i := 1267) (by decide +kernel) rfl, tb_in (i := 34) (by decide +kernel) rfl⟩⟩
set_option maxRecDepth 100000 in
theorem cw_163 : Cw 12 274 12 0 0 mX12_whole := ⟨mdw_X12_whole.1, mdw_X12_whole.2, Or.inl ⟨rfl, tb_in (i := 1289) (by decide +kernel) rfl, tb_in (i := 1291) (by decide +kernel) rfl, tb_in (i := 40) (by decide +kernel) rfl⟩⟩
set_option maxRecDepth 100000 in
theorem cw_164 : Cw 12 277 12 0 0 mX12_takesTest := ⟨mdw_X12_takesTest.1, mdw_X12_takesTest.2, Or.inl ⟨rfl, tb_in (i := 1277) (by decide +kernel) rfl, tb_in (i := 1279) (by decide +kernel) rfl, tb_in (i := 37) (by decide +kernel) rfl⟩⟩
set_option maxRecDepth 100000 in
theorem cw_165 : Cw 12 280 12 0 1 mX12_settle := ⟨mdw_X12_settle.1, mdw_X12_settle.2, Or.inl ⟨rfl, tb_in (i := 1293) (by decide +kernel) rfl, tb_in (i := 1295) (by decide +kernel) rfl, tb_in (i := 41) (by decide +kernel) rfl⟩⟩
set_option maxRecDepth 100000 in
theorem cw_166 : Cw 12 283 12 0 2 mX12_takesWord := ⟨mdw_X12_takesWord.1, mdw_X12_takesWord.2, Or.inl ⟨rfl, tb_in (i := 1253) (by decide +kernel) rfl, tb_in (i := 1255) (by decide +kernel) rfl, tb_in (i := 31) (by decide +kernel) rfl⟩⟩
set_option maxRecDepth 100000 in
theorem cw_167 : Cw 12 286 12 0 0 mX12_second := ⟨mdw_X12_second.1, mdw_X12_second.2, Or.inl ⟨rfl, tb_in (i := 1261) (by decide +kernel) rfl, tb_in (i := 1263) (by decide +kernel) rfl, tb_in (i := 33) (by decide +kernel) rfl⟩⟩
set_option maxRecDepth 100000 in
theorem cw_168 : Cw 12 289 12 0 1 mX12_takesHead := ⟨mdw_X12_takesHead.1, mdw_X12_takesHead.2, Or.inl ⟨rfl, tb_in (i := 1245) (by decide +kernel) rfl, tb_in (i := 1247) (by decide +kernel) rfl, tb_in (i := 29) (by decide +kernel) rfl⟩⟩
set_option maxRecDepth 100000 in
theorem cw_169 : Cw 12 292 12 0 1 mX12_takesE := ⟨mdw_X12_takesE.1, mdw_X12_takesE.2, Or.inl ⟨rfl, tb_in (i := 1273) (by decide +kernel) rfl, tb_in (i := 1275) (by decide +kernel) rfl, tb_in (i := 36) (by decide +kernel) rfl⟩⟩
set_option maxRecDepth 100000 in
theorem cw_170 : Cw 12 295 12 0 1 mX12_takesClause := ⟨mdw_X12_takesClause.1, mdw_X12_takesClause.2, Or.inl ⟨rfl, tb_in (i := 1241) (by decide +kernel) rfl, tb_in (i := 1243) (by decide +kernel) rfl, tb_in (i := 28) (by decide +kernel) rfl⟩⟩
set_option maxRecDepth 100000 in
theorem cw_171 : Cw 12 298 12 0 1 mX12_goesText := ⟨mdw_X12_goesText.1, mdw_X12_goesText.2, Or.inl ⟨rfl, tb_in (i := 1237) (by decide +kernel) rfl, tb_in (i := 1239) (by decide +kernel) rfl, tb_in (i := 27) (by decide +kernel) rfl⟩⟩
set_option maxRecDepth 100000 in
theorem cw_172 : Cw 12 301 12 0 0 mX12_begin := ⟨mdw_X12_begin.1, mdw_X12_begin.2, Or.inl ⟨rfl, tb_in (i := 1325) (by decide +kernel) rfl, tb_in (i := 1327) (by decide +kernel) rfl, tb_in (i := 48) (by decide +kernel) rfl⟩⟩
set_option maxRecDepth 100000 in
theorem cw_173 : Cw 12 304 12 0 0 mX12_behind := ⟨mdw_X12_behind.1, mdw_X12_behind.2, Or.inl ⟨rfl, tb_in (i := 1329) (by decide +kernel) rfl, tb_in (i := 1331) (by decide +kernel) rfl, tb_in (i := 49) (by decide +kernel) rfl⟩⟩
set_option maxRecDepth 100000 in
theorem cw_174 : Cw 12 307 12 0 3 mX12_factOf := ⟨mdw_X12_factOf.1, mdw_X12_factOf.2, Or.inl ⟨rfl, tb_in (i := 1337) (by decide +kernel) rfl, tb_in (i := 1339) (by decide +kernel) rfl, tb_in (i := 51) (by decide +kernel) rfl⟩⟩
set_option maxRecDepth 100000 in
theorem cw_175 : Cw 12 311 12 0 3 mX12_holds := ⟨mdw_X12_holds.1, mdw_X12_holds.2, Or.inl ⟨rfl, tb_in (i := 1333) (by decide +kernel) rfl, tb_in (i := 1335) (by decide +kernel) rfl, tb_in (i := 50) (by decide +kernel) rfl⟩⟩
set_option maxRecDepth 100000 in
theorem cw_176 : Cw 12 314 12 0 2 mX12_sum := ⟨mdw_X12_sum.1, mdw_X12_sum.2, Or.inl ⟨rfl, tb_in (i := 1321) (by decide +kernel) rfl, tb_in (i := 1323) (by decide +kernel) rfl, tb_in (i := 47) (by decide +kernel) rfl⟩⟩
set_option maxRecDepth 100000 in
theorem cw_177 : Cw 12 318 12 0 2 mX12_pull := ⟨mdw_X12_pull.1, mdw_X12_pull.2, Or.inl ⟨rfl, tb_in (i := 1317) (by decide +kernel) rfl, tb_in (i := 1319) (by decide +kernel) rfl, tb_in (i := 46) (by decide +kernel) rfl⟩⟩
set_option maxRecDepth 100000 in
theorem cw_178 : Cw 12 321 12 0 1 mX12_owner := ⟨mdw_X12_owner.1, mdw_X12_owner.2, Or.inl ⟨rfl, tb_in (i := 1313) (by decide +kernel) rfl, tb_in (i := 1315) (by decide +kernel) rfl, tb_in (i := 45) (by decide +kernel) rfl⟩⟩
set_option maxRecDepth 100000 in
theorem cw_179 : Cw 12 324 12 0 0 mX12_layHours := ⟨mdw_X12_layHours.1, mdw_X12_layHours.2, Or.inl ⟨rfl, tb_in (i := 1309) (by decide +kernel) rfl, tb_in (i := 1311) (by decide +kernel) rfl, tb_in (i := 44) (by decide +kernel) rfl⟩⟩
set_option maxRecDepth 100000 in
theorem cw_180 : Cw 12 327 12 0 1 mX12_hoursOf := ⟨mdw_X12_hoursOf.1, mdw_X12_hoursOf.2, Or.inl ⟨rfl, tb_in (i := 1353) (by decide +kernel) rfl, tb_in (i := 1355) (by decide +kernel) rfl, tb_in (i := 54) (by decide +kernel) rfl⟩⟩
set_option maxRecDepth 100000 in
theorem cw_181 : Cw 12 330 12 0 2 mX12_hoursIf := ⟨mdw_X12_hoursIf.1, mdw_X12_hoursIf.2, Or.inl ⟨rfl, tb_in (i := 1361) (by decide +kernel) rfl, tb_in (i := 1363) (by decide +kernel) rfl, tb_in (i := 56) (by decide +kernel) rfl⟩⟩
set_option maxRecDepth 100000 in
theorem cw_182 : Cw 12 333 12 0 1 mX12_bits := ⟨mdw_X12_bits.1, mdw_X12_bits.2, Or.inl ⟨rfl, tb_in (i := 1341) (by decide +kernel) rfl, tb_in (i := 1343) (by decide +kernel) rfl, tb_in (i := 52) (by decide +kernel) rfl⟩⟩
set_option maxRecDepth 100000 in
theorem cw_183 : Cw 12 336 12 0 2 mX12_least := ⟨mdw_X12_least.1, mdw_X12_least.2, Or.inl ⟨rfl, tb_in (i := 1345) (by decide +kernel) rfl, tb_in (i := 1347) (by decide +kernel) rfl, tb_in (i := 53) (by decide +kernel) rfl⟩⟩
set_option maxRecDepth 100000 in
theorem cw_184 : Cw 12 339 12 0 0 mX12_goDay := ⟨mdw_X12_goDay.1, mdw_X12_goDay.2, Or.inl ⟨rfl, tb_in (i := 1305) (by decide +kernel) rfl, tb_in (i := 1307) (by decide +kernel) rfl, tb_in (i := 43) (by decide +kernel) rfl⟩⟩
set_option maxRecDepth 100000 in
theorem cw_185 : Cw 12 342 12 0 1 mX12_goDays := ⟨mdw_X12_goDays.1, mdw_X12_goDays.2, Or.inl ⟨rfl, tb_in (i := 1301) (by decide +kernel) rfl, tb_in (i := 1303) (by decide +kernel) rfl, tb_in (i := 42) (by decide +kernel) rfl⟩⟩
set_option maxRecDepth 100000 in
theorem cw_186 : Cw 12 346 12 0 0 mX12_save := ⟨mdw_X12_save.1, mdw_X12_save.2, Or.inl ⟨rfl, tb_in (i := 1369) (by decide +kernel) rfl, tb_in (i := 1371) (by decide +kernel) rfl, tb_in (i := 58) (by decide +kernel) rfl⟩⟩
set_option maxRecDepth 100000 in
theorem cw_187 : Cw 12 349 12 0 0 mX12_enough := ⟨mdw_X12_enough.1, mdw_X12_enough.2, Or.inl ⟨rfl, tb_in (i := 1374) (by decide +kernel) rfl, tb_in (i := 1376) (by decide +kernel) rfl, tb_in (i := 59) (by decide +kernel) rfl⟩⟩
set_option maxRecDepth 100000 in
theorem cw_188 : Cw 12 352 12 0 0 mX12_putBack := ⟨mdw_X12_putBack.1, mdw_X12_putBack.2, Or.inl ⟨rfl, tb_in (i := 1378) (by decide +kernel) rfl, tb_in (i := 1380) (by decide +kernel) rfl, tb_in (i := 60) (by decide +kernel) rfl⟩⟩
set_option maxRecDepth 100000 in
theorem cw_189 : Cw 12 355 12 0 1 mX12_sole := ⟨mdw_X12_sole.1, mdw_X12_sole.2, Or.inl ⟨rfl, tb_in (i := 1357) (by decide +kernel) rfl, tb_in (i := 1359) (by decide +kernel) rfl, tb_in (i := 55) (by decide +kernel) rfl⟩⟩
set_option maxRecDepth 100000 in
theorem cw_190 : Cw 12 358 12 0 1 mX12_when := ⟨mdw_X12_when.1, mdw_X12_when.2, Or.inl ⟨rfl, tb_in (i := 1365) (by decide +kernel) rfl, tb_in (i := 1367) (by decide +kernel) rfl, tb_in (i := 57) (by decide +kernel) rfl⟩⟩
set_option maxRecDepth 100000 in
theorem cw_191 : Cw 12 361 12 0 0 mX12_allRipe := ⟨mdw_X12_allRipe.1, mdw_X12_allRipe.2, Or.inl ⟨rfl, tb_in (i := 1386) (by decide +kernel) rfl, tb_in (i := 1388) (by decide +kernel) rfl, tb_in (i := 61) (by decide +kernel) rfl⟩⟩
set_option maxRecDepth 100000 in
theorem cw_192 : Cw 12 364 12 0 0 mX12_ripeMany := ⟨mdw_X12_ripeMany.1, mdw_X12_ripeMany.2, Or.inl ⟨rfl, tb_in (i := 1390) (by decide +kernel) rfl, tb_in (i := 1392) (by decide +kernel) rfl, tb_in (i := 62) (by decide +kernel) rfl⟩⟩
set_option maxRecDepth 100000 in
theorem cw_193 : Cw 12 367 12 0 1 mX12_givenBy := ⟨mdw_X12_givenBy.1, mdw_X12_givenBy.2, Or.inl ⟨rfl, tb_in (i := 1414) (by decide +kernel) rfl, tb_in (i := 1416) (by decide +kernel) rfl, tb_in (i := 63) (by decide +kernel) rfl⟩⟩
set_option maxRecDepth 100000 in
theorem cw_194 : Cw 12 370 12 0 0 mX12_isSeen := ⟨mdw_X12_isSeen.1, mdw_X12_isSeen.2, Or.inl ⟨rfl, tb_in (i := 1426) (by decide +kernel) rfl, tb_in (i := 1428) (by decide +kernel) rfl, tb_in (i := 64) (by decide +kernel) rfl⟩⟩
set_option maxRecDepth 100000 in
theorem cw_195 : Cw 12 373 12 0 2 mX12_divisor := ⟨mdw_X12_divisor.1, mdw_X12_divisor.2, Or.inl ⟨rfl, tb_in (i := 1443) (by decide +kernel) rfl, tb_in (i := 1445) (by decide +kernel) rfl, tb_in (i := 66) (by decide +kernel) rfl⟩⟩
set_option maxRecDepth 100000 in
theorem cw_196 : Cw 12 378 12 0 3 mX12_lowest := ⟨mdw_X12_lowest.1, mdw_X12_lowest.2, Or.inl ⟨rfl, tb_in (i := 1439) (by decide +kernel) rfl, tb_in (i := 1441) (by decide +kernel) rfl, tb_in (i := 65) (by decide +kernel) rfl⟩⟩
set_option maxRecDepth 100000 in
theorem cw_197 : Cw 12 382 12 0 2 mX12_goPlan := ⟨mdw_X12_goPlan.1, mdw_X12_goPlan.2, Or.inl ⟨rfl, tb_in (i := 1459) (by decide +kernel) rfl, tb_in (i := 1461) (by decide +kernel) rfl, tb_in (i := 67) (by decide +kernel) rfl⟩⟩
set_option maxRecDepth 100000 in
theorem cw_198 : Cw 12 386 12 0 1 mX12_isTape := ⟨mdw_X12_isTape.1, mdw_X12_isTape.2, Or.inl ⟨rfl, tb_in (i := 1475) (by decide +kernel) rfl, tb_in (i := 1477) (by decide +kernel) rfl, tb_in (i := 68) (by decide +kernel) rfl⟩⟩
set_option maxRecDepth 100000 in
theorem cw_199 : Cw 12 389 12 0 1 mX12_body := ⟨mdw_X12_body.1, mdw_X12_body.2, Or.inl ⟨rfl, tb_in (i := 1495) (by decide +kernel) rfl, tb_in (i := 1497) (by decide +kernel) rfl, tb_in (i := 70) (by decide +kernel) rfl⟩⟩
set_option maxRecDepth 100000 in
theorem cw_200 : Cw 12 392 12 0 2 mX12_pearWarms := ⟨mdw_X12_pearWarms.1, mdw_X12_pearWarms.2, Or.inl ⟨rfl, tb_in (i := 1499) (by decide +kernel) rfl, tb_in (i := 1501) (by decide +kernel) rfl, tb_in (i := 71) (by decide +kernel) rfl⟩⟩
set_option maxRecDepth 100000 in
theorem cw_201 : Cw 12 395 12 0 2 mX12_warmsAct := ⟨mdw_X12_warmsAct.1, mdw_X12_warmsAct.2, Or.inl ⟨rfl, tb_in (i := 1491) (by decide +kernel) rfl, tb_in (i := 1493) (by decide +kernel) rfl, tb_in (i := 69) (by decide +kernel) rfl⟩⟩
set_option maxRecDepth 100000 in
theorem cw_202 : Cw 12 398 12 0 2 mX12_pearSwells := ⟨mdw_X12_pearSwells.1, mdw_X12_pearSwells.2, Or.inl ⟨rfl, tb_in (i := 1511) (by decide +kernel) rfl, tb_in (i := 1513) (by decide +kernel) rfl, tb_in (i := 74) (by decide +kernel) rfl⟩⟩
set_option maxRecDepth 100000 in
theorem cw_203 : Cw 12 401 12 0 2 mX12_earlySwells := ⟨mdw_X12_earlySwells.1, mdw_X12_earlySwells.2, Or.inl ⟨rfl, tb_in (i := 1507) (by decide +kernel) rfl, tb_in (i := 1509) (by decide +kernel) rfl, tb_in (i := 73) (by decide +kernel) rfl⟩⟩
set_option maxRecDepth 100000 in
theorem cw_204 : Cw 12 404 12 0 2 mX12_swellsAct := ⟨mdw_X12_swellsAct.1, mdw_X12_swellsAct.2, Or.inl ⟨rfl, tb_in (i := 1503) (by decide +kernel) rfl, tb_in (i := 1505) (by decide +kernel) rfl, tb_in (i := 72) (by decide +kernel) rfl⟩⟩
set_option maxRecDepth 100000 in
theorem cw_205 : Cw 12 407 12 0 2 mX12_pearTells := ⟨mdw_X12_pearTells.1, mdw_X12_pearTells.2, Or.inl ⟨rfl, tb_in (i := 1519) (by decide +kernel) rfl, tb_in (i := 1521) (by decide +kernel) rfl, tb_in (i := 76) (by decide +kernel) rfl⟩⟩
set_option maxRecDepth 100000 in
theorem cw_206 : Cw 12 410 12 0 2 mX12_tellsAct := ⟨mdw_X12_tellsAct.1, mdw_X12_tellsAct.2, Or.inl ⟨rfl, tb_in (i := 1515) (by decide +kernel) rfl, tb_in (i := 1517) (by decide +kernel) rfl, tb_in (i := 75) (by decide +kernel) rfl⟩⟩
set_option maxRecDepth 100000 in
theorem cw_207 : Cw 12 413 12 0 2 mX12_narrow := ⟨mdw_X12_narrow.1, mdw_X12_narrow.2, Or.inl ⟨rfl, tb_in (i := 1543) (by decide +kernel) rfl, tb_in (i := 1545) (by decide +kernel) rfl, tb_in (i := 77) (by decide +kernel) rfl⟩⟩
set_option maxRecDepth 100000 in
theorem cw_208 : Cw 13 9 0 4 0 mX11_init := ⟨mdw_X11_init.1, mdw_X11_init.2, Or.inr (Or.inr (Or.inr (Or.inl ⟨rfl, tb_in (i := 103) (by decide +kernel) rfl, tb_in (i := 104) (by decide +kernel) rfl, rfl⟩)))⟩
set_option maxRecDepth 100000 in
theorem cw_209 : Cw 13 12 0 4 0 mX12_init := ⟨mdw_X12_init.1, mdw_X12_init.2, Or.inr (Or.inr (Or.inr (Or.inl ⟨rfl, tb_in (i := 967) (by decide +kernel) rfl, tb_in (i := 968) (by decide +kernel) rfl, rfl⟩)))⟩
set_option maxRecDepth 100000 in
theorem cw_210 : Cw 13 13 11 0 2 mX11_fruit := ⟨mdw_X11_fruit.1, mdw_X11_fruit.2, Or.inl ⟨rfl, tb_in (i := 326) (by decide +kernel) rfl, tb_in (i := 327) (by decide +kernel) rfl, tb_in (i := 328) (by decide +kernel) rfl⟩⟩
set_option maxRecDepth 100000 in
theorem cw_211 : Cw 13 17 12 0 2 mX12_fruit := ⟨mdw_X12_fruit.1, mdw_X12_fruit.2, Or.inl ⟨rfl, tb_in (i := 1189) (by decide +kernel) rfl, tb_in (i := 1190) (by decide +kernel) rfl, tb_in (i := 1191) (by decide +kernel) rfl⟩⟩
set_option maxRecDepth 100000 in
theorem cw_212 : Cw 13 18 11 0 2 mX11_of := ⟨mdw_X11_of.1, mdw_X11_of.2, Or.inl ⟨rfl, tb_in (i := 335) (by decide +kernel) rfl, tb_in (i := 336) (by decide +kernel) rfl, tb_in (i := 337) (by decide +kernel) rfl⟩⟩
set_option maxRecDepth 100000 in
theorem cw_213 : Cw 13 21 12 0 2 mX12_of := ⟨mdw_X12_of.1, mdw_X12_of.2, Or.inl ⟨rfl, tb_in (i := 1349) (by decide +kernel) rfl, tb_in (i := 1350) (by decide +kernel) rfl, tb_in (i := 1351) (by decide +kernel) rfl⟩⟩
set_option maxRecDepth 100000 in
theorem cw_214 : Cw 13 22 11 0 2 mX11_cut := ⟨mdw_X11_cut.1, mdw_X11_cut.2, Or.inl ⟨rfl, tb_in (i := 460) (by decide +kernel) rfl, tb_in (i := 461) (by decide +kernel) rfl, tb_in (i := 462) (by decide +kernel) rfl⟩⟩
set_option maxRecDepth 100000 in
theorem cw_215 : Cw 13 26 12 0 2 mX12_cut := ⟨mdw_X12_cut.1, mdw_X12_cut.2, Or.inl ⟨rfl, tb_in (i := 1197) (by decide +kernel) rfl, tb_in (i := 1198) (by decide +kernel) rfl, tb_in (i := 1199) (by decide +kernel) rfl⟩⟩
set_option maxRecDepth 100000 in
theorem cw_216 : Cw 13 27 11 0 3 mX11_set := ⟨mdw_X11_set.1, mdw_X11_set.2, Or.inl ⟨rfl, tb_in (i := 468) (by decide +kernel) rfl, tb_in (i := 469) (by decide +kernel) rfl, tb_in (i := 470) (by decide +kernel) rfl⟩⟩
set_option maxRecDepth 100000 in
theorem cw_217 : Cw 13 31 12 0 3 mX12_set := ⟨mdw_X12_set.1, mdw_X12_set.2, Or.inl ⟨rfl, tb_in (i := 1213) (by decide +kernel) rfl, tb_in (i := 1214) (by decide +kernel) rfl, tb_in (i := 1215) (by decide +kernel) rfl⟩⟩
set_option maxRecDepth 100000 in
theorem cw_218 : Cw 13 32 11 0 3 mX11_row := ⟨mdw_X11_row.1, mdw_X11_row.2, Or.inl ⟨rfl, tb_in (i := 472) (by decide +kernel) rfl, tb_in (i := 473) (by decide +kernel) rfl, tb_in (i := 474) (by decide +kernel) rfl⟩⟩
set_option maxRecDepth 100000 in
theorem cw_219 : Cw 13 35 12 0 3 mX12_row := ⟨mdw_X12_row.1, mdw_X12_row.2, Or.inl ⟨rfl, tb_in (i := 1225) (by decide +kernel) rfl, tb_in (i := 1226) (by decide +kernel) rfl, tb_in (i := 1227) (by decide +kernel) rfl⟩⟩
set_option maxRecDepth 100000 in
theorem cw_220 : Cw 13 36 11 0 1 mX11_feed := ⟨mdw_X11_feed.1, mdw_X11_feed.2, Or.inl ⟨rfl, tb_in (i := 476) (by decide +kernel) rfl, tb_in (i := 477) (by decide +kernel) rfl, tb_in (i := 478) (by decide +kernel) rfl⟩⟩
set_option maxRecDepth 100000 in
theorem cw_221 : Cw 13 40 12 0 1 mX12_feed := ⟨mdw_X12_feed.1, mdw_X12_feed.2, Or.inl ⟨rfl, tb_in (i := 1229) (by decide +kernel) rfl, tb_in (i := 1230) (by decide +kernel) rfl, tb_in (i := 1231) (by decide +kernel) rfl⟩⟩
set_option maxRecDepth 100000 in
theorem cw_222 : Cw 13 41 11 0 0 mX11_wall := ⟨mdw_X11_wall.1, mdw_X11_wall.2, Or.inl ⟨rfl, tb_in (i := 480) (by decide +kernel) rfl, tb_in (i := 481) (by decide +kernel) rfl, tb_in (i := 482) (by decide +kernel) rfl⟩⟩
set_option maxRecDepth 100000 in
theorem cw_223 : Cw 13 45 12 0 0 mX12_wall := ⟨mdw_X12_wall.1, mdw_X12_wall.2, Or.inl ⟨rfl, tb_in (i := 1233) (by decide +kernel) rfl, tb_in (i := 1234) (by decide +kernel) rfl, tb_in (i := 1235) (by decide +kernel) rfl⟩⟩
set_option maxRecDepth 100000 in
theorem cw_224 : Cw 13 46 11 0 1 mX11_told := ⟨mdw_X11_told.1, mdw_X11_told.2, Or.inl ⟨rfl, tb_in (i := 686) (by decide +kernel) rfl, tb_in (i := 687) (by decide +kernel) rfl, tb_in (i := 688) (by decide +kernel) rfl⟩⟩
set_option maxRecDepth 100000 in
theorem cw_225 : Cw 13 49 12 0 1 mX12_told := ⟨mdw_X12_told.1, mdw_X12_told.2, Or.inl ⟨rfl, tb_in (i := 1382) (by decide +kernel) rfl, tb_in (i := 1383) (by decide +kernel) rfl, tb_in (i := 1384) (by decide +kernel) rfl⟩⟩
set_option maxRecDepth 100000 in
theorem cw_226 : Cw 13 50 11 0 1 mX11_pass := ⟨mdw_X11_pass.1, mdw_X11_pass.2, Or.inl ⟨rfl, tb_in (i := 700) (by decide +kernel) rfl, tb_in (i := 701) (by decide +kernel) rfl, tb_in (i := 702) (by decide +kernel) rfl⟩⟩
set_option maxRecDepth 100000 in
theorem cw_227 : Cw 13 53 12 0 1 mX12_pass := ⟨mdw_X12_pass.1, mdw_X12_pass.2, Or.inl ⟨rfl, tb_in (i := 1297) (by decide +kernel) rfl, tb_in (i := 1298) (by decide +kernel) rfl, tb_in (i := 1299) (by decide +kernel) rfl⟩⟩
set_option maxRecDepth 100000 in
theorem cw_228 : Cw 13 54 11 0 2 mX11_on := ⟨mdw_X11_on.1, mdw_X11_on.2, Or.inl ⟨rfl, tb_in (i := 704) (by decide +kernel) rfl, tb_in (i := 705) (by decide +kernel) rfl, tb_in (i := 706) (by decide +kernel) rfl⟩⟩
set_option maxRecDepth 100000 in
theorem cw_229 : Cw 13 57 12 0 2 mX12_on := ⟨mdw_X12_on.1, mdw_X12_on.2, Or.inl ⟨rfl, tb_in (i := 1394) (by decide +kernel) rfl, tb_in (i := 1395) (by decide +kernel) rfl, tb_in (i := 1396) (by decide +kernel) rfl⟩⟩
set_option maxRecDepth 100000 in
theorem cw_230 : Cw 13 58 11 0 2 mX11_clear := ⟨mdw_X11_clear.1, mdw_X11_clear.2, Or.inl ⟨rfl, tb_in (i := 708) (by decide +kernel) rfl, tb_in (i := 709) (by decide +kernel) rfl, tb_in (i := 710) (by decide +kernel) rfl⟩⟩
set_option maxRecDepth 100000 in
theorem cw_231 : Cw 13 61 12 0 2 mX12_clear := ⟨mdw_X12_clear.1, mdw_X12_clear.2, Or.inl ⟨rfl, tb_in (i := 1398) (by decide +kernel) rfl, tb_in (i := 1399) (by decide +kernel) rfl, tb_in (i := 1400) (by decide +kernel) rfl⟩⟩
set_option maxRecDepth 100000 in
theorem cw_232 : Cw 13 62 11 0 2 mX11_help := ⟨mdw_X11_help.1, mdw_X11_help.2, Or.inl ⟨rfl, tb_in (i := 720) (by decide +kernel) rfl, tb_in (i := 721) (by decide +kernel) rfl, tb_in (i := 722) (by decide +kernel) rfl⟩⟩
set_option maxRecDepth 100000 in
theorem cw_233 : Cw 13 65 12 0 2 mX12_help := ⟨mdw_X12_help.1, mdw_X12_help.2, Or.inl ⟨rfl, tb_in (i := 1402) (by decide +kernel) rfl, tb_in (i := 1403) (by decide +kernel) rfl, tb_in (i := 1404) (by decide +kernel) rfl⟩⟩
set_option maxRecDepth 100000 in
theorem cw_234 : Cw 13 66 11 0 1 mX11_want := ⟨mdw_X11_want.1, mdw_X11_want.2, Or.inl ⟨rfl, tb_in (i := 724) (by decide +kernel) rfl, tb_in (i := 725) (by decide +kernel) rfl, tb_in (i := 726) (by decide +kernel) rfl⟩⟩
set_option maxRecDepth 100000 in
theorem cw_235 : Cw 13 69 12 0 1 mX12_want := ⟨mdw_X12_want.1, mdw_X12_want.2, Or.inl ⟨rfl, tb_in (i := 1406) (by decide +kernel) rfl, tb_in (i := 1407) (by decide +kernel) rfl, tb_in (i := 1408) (by decide +kernel) rfl⟩⟩
set_option maxRecDepth 100000 in
theorem cw_236 : Cw 13 70 11 0 1 mX11_sent := ⟨mdw_X11_sent.1, mdw_X11_sent.2, Or.inl ⟨rfl, tb_in (i := 736) (by decide +kernel) rfl, tb_in (i := 737) (by decide +kernel) rfl, tb_in (i := 738) (by decide +kernel) rfl⟩⟩
set_option maxRecDepth 100000 in
theorem cw_237 : Cw 13 73 12 0 1 mX12_sent := ⟨mdw_X12_sent.1, mdw_X12_sent.2, Or.inl ⟨rfl, tb_in (i := 1410) (by decide +kernel) rfl, tb_in (i := 1411) (by decide +kernel) rfl, tb_in (i := 1412) (by decide +kernel) rfl⟩⟩
set_option maxRecDepth 100000 in
theorem cw_238 : Cw 13 74 11 0 2 mX11_see := ⟨mdw_X11_see.1, mdw_X11_see.2, Or.inl ⟨rfl, tb_in (i := 757) (by decide +kernel) rfl, tb_in (i := 758) (by decide +kernel) rfl, tb_in (i := 759) (by decide +kernel) rfl⟩⟩
set_option maxRecDepth 100000 in
theorem cw_239 : Cw 13 77 12 0 2 mX12_see := ⟨mdw_X12_see.1, mdw_X12_see.2, Or.inl ⟨rfl, tb_in (i := 1418) (by decide +kernel) rfl, tb_in (i := 1419) (by decide +kernel) rfl, tb_in (i := 1420) (by decide +kernel) rfl⟩⟩
set_option maxRecDepth 100000 in
theorem cw_240 : Cw 13 78 11 0 2 mX11_can := ⟨mdw_X11_can.1, mdw_X11_can.2, Or.inl ⟨rfl, tb_in (i := 765) (by decide +kernel) rfl, tb_in (i := 766) (by decide +kernel) rfl, tb_in (i := 767) (by decide +kernel) rfl⟩⟩
set_option maxRecDepth 100000 in
theorem cw_241 : Cw 13 81 12 0 2 mX12_can := ⟨mdw_X12_can.1, mdw_X12_can.2, Or.inl ⟨rfl, tb_in (i := 1422) (by decide +kernel) rfl, tb_in (i := 1423) (by decide +kernel) rfl, tb_in (i := 1424) (by decide +kernel) rfl⟩⟩
set_option maxRecDepth 100000 in
theorem cw_242 : Cw 13 82 11 0 1 mX11_which := ⟨mdw_X11_which.1, mdw_X11_which.2, Or.inl ⟨rfl, tb_in (i := 777) (by decide +kernel) rfl, tb_in (i := 778) (by decide +kernel) rfl, tb_in (i := 779) (by decide +kernel) rfl⟩⟩
set_option maxRecDepth 100000 in
theorem cw_243 : Cw 13 85 12 0 1 mX12_which := ⟨mdw_X12_which.1, mdw_X12_which.2, Or.inl ⟨rfl, tb_in (i := 1430) (by decide +kernel) rfl, tb_in (i := 1431) (by decide +kernel) rfl, tb_in (i := 1432) (by decide +kernel) rfl⟩⟩
set_option maxRecDepth 100000 in
theorem cw_244 : Cw 13 86 11 0 3 mX11_odds := ⟨mdw_X11_odds.1, mdw_X11_odds.2, Or.inl ⟨rfl, tb_in (i := 781) (by decide +kernel) rfl, tb_in (i := 782) (by decide +kernel) rfl, tb_in (i := 783) (by decide +kernel) rfl⟩⟩
set_option maxRecDepth 100000 in
theorem cw_245 : Cw 13 90 12 0 3 mX12_odds := ⟨mdw_X12_odds.1, mdw_X12_odds.2, Or.inl ⟨rfl, tb_in (i := 1434) (by decide +kernel) rfl, tb_in (i := 1435) (by decide +kernel) rfl, tb_in (i := 1436) (by decide +kernel) rfl⟩⟩
set_option maxRecDepth 100000 in
theorem cw_246 : Cw 13 91 11 0 1 mX11_mean := ⟨mdw_X11_mean.1, mdw_X11_mean.2, Or.inl ⟨rfl, tb_in (i := 789) (by decide +kernel) rfl, tb_in (i := 790) (by decide +kernel) rfl, tb_in (i := 791) (by decide +kernel) rfl⟩⟩
set_option maxRecDepth 100000 in
theorem cw_247 : Cw 13 95 12 0 1 mX12_mean := ⟨mdw_X12_mean.1, mdw_X12_mean.2, Or.inl ⟨rfl, tb_in (i := 1447) (by decide +kernel) rfl, tb_in (i := 1448) (by decide +kernel) rfl, tb_in (i := 1449) (by decide +kernel) rfl⟩⟩
set_option maxRecDepth 100000 in
theorem cw_248 : Cw 13 96 11 0 2 mX11_plan := ⟨mdw_X11_plan.1, mdw_X11_plan.2, Or.inl ⟨rfl, tb_in (i := 793) (by decide +kernel) rfl, tb_in (i := 794) (by decide +kernel) rfl, tb_in (i := 795) (by decide +kernel) rfl⟩⟩
set_option maxRecDepth 100000 in
theorem cw_249 : Cw 13 99 12 0 2 mX12_plan := ⟨mdw_X12_plan.1, mdw_X12_plan.2, Or.inl ⟨rfl, tb_in (i := 1451) (by decide +kernel) rfl, tb_in (i := 1452) (by decide +kernel) rfl, tb_in (i := 1453) (by decide +kernel) rfl⟩⟩
set_option maxRecDepth 100000 in
theorem cw_250 : Cw 13 100 11 0 1 mX11_ends := ⟨mdw_X11_ends.1, mdw_X11_ends.2, Or.inl ⟨rfl, tb_in (i := 797) (by decide +kernel) rfl, tb_in (i := 798) (by decide +kernel) rfl, tb_in (i := 799) (by decide +kernel) rfl⟩⟩
set_option maxRecDepth 100000 in
theorem cw_251 : Cw 13 103 12 0 1 mX12_ends := ⟨mdw_X12_ends.1, mdw_X12_ends.2, Or.inl ⟨rfl, tb_in (i := 1455) (by decide +kernel) rfl, tb_in (i := 1456) (by decide +kernel) rfl, tb_in (i := 1457) (by decide +kernel) rfl⟩⟩
set_option maxRecDepth 100000 in
theorem cw_252 : Cw 13 104 11 0 2 mX11_book := ⟨mdw_X11_book.1, mdw_X11_book.2, Or.inl ⟨rfl, tb_in (i := 808) (by decide +kernel) rfl, tb_in (i := 809) (by decide +kernel) rfl, tb_in (i := 810) (by decide +kernel) rfl⟩⟩
set_option maxRecDepth 100000 in
theorem cw_253 : Cw 13 107 12 0 2 mX12_book := ⟨mdw_X12_book.1, mdw_X12_book.2, Or.inl ⟨rfl, tb_in (i := 1463) (by decide +kernel) rfl, tb_in (i := 1464) (by decide +kernel) rfl, tb_in (i := 1465) (by decide +kernel) rfl⟩⟩
set_option maxRecDepth 100000 in
theorem cw_254 : Cw 13 108 11 0 0 mX11_looked := ⟨mdw_X11_looked.1, mdw_X11_looked.2, Or.inl ⟨rfl, tb_in (i := 812) (by decide +kernel) rfl, tb_in (i := 813) (by decide +kernel) rfl, tb_in (i := 814) (by decide +kernel) rfl⟩⟩
set_option maxRecDepth 100000 in
theorem cw_255 : Cw 13 111 12 0 0 mX12_looked := ⟨mdw_X12_looked.1, mdw_X12_looked.2, Or.inl ⟨rfl, tb_in (i := 1467) (by decide +kernel) rfl, tb_in (i := 1468) (by decide +kernel) rfl, tb_in (i := 1469) (by decide +kernel) rfl⟩⟩
set_option maxRecDepth 100000 in
theorem cw_256 : Cw 13 112 11 0 2 mX11_judge := ⟨mdw_X11_judge.1, mdw_X11_judge.2, Or.inl ⟨rfl, tb_in (i := 816) (by decide +kernel) rfl, tb_in (i := 817) (by decide +kernel) rfl, tb_in (i := 818) (by decide +kernel) rfl⟩⟩
set_option maxRecDepth 100000 in
theorem cw_257 : Cw 13 115 12 0 2 mX12_judge := ⟨mdw_X12_judge.1, mdw_X12_judge.2, Or.inl ⟨rfl, tb_in (i := 1471) (by decide +kernel) rfl, tb_in (i := 1472) (by decide +kernel) rfl, tb_in (i := 1473) (by decide +kernel) rfl⟩⟩
set_option maxRecDepth 100000 in
theorem cw_258 : Cw 13 116 11 0 0 mX11_image := ⟨mdw_X11_image.1, mdw_X11_image.2, Or.inl ⟨rfl, tb_in (i := 823) (by decide +kernel) rfl, tb_in (i := 824) (by decide +kernel) rfl, tb_in (i := 825) (by decide +kernel) rfl⟩⟩
set_option maxRecDepth 100000 in
theorem cw_259 : Cw 13 119 12 0 0 mX12_image := ⟨mdw_X12_image.1, mdw_X12_image.2, Or.inl ⟨rfl, tb_in (i := 1479) (by decide +kernel) rfl, tb_in (i := 1480) (by decide +kernel) rfl, tb_in (i := 1481) (by decide +kernel) rfl⟩⟩
set_option maxRecDepth 100000 in
theorem cw_260 : Cw 13 120 11 0 0 mX11_undo := ⟨mdw_X11_undo.1, mdw_X11_undo.2, Or.inl ⟨rfl, tb_in (i := 836) (by decide +kernel) rfl, tb_in (i := 837) (by decide +kernel) rfl, tb_in (i := 838) (by decide +kernel) rfl⟩⟩
set_option maxRecDepth 100000 in
theorem cw_261 : Cw 13 123 12 0 0 mX12_undo := ⟨mdw_X12_undo.1, mdw_X12_undo.2, Or.inl ⟨rfl, tb_in (i := 1483) (by decide +kernel) rfl, tb_in (i := 1484) (by decide +kernel) rfl, tb_in (i := 1485) (by decide +kernel) rfl⟩⟩
set_option maxRecDepth 100000 in
theorem cw_262 : Cw 13 124 11 0 3 mX11_act := ⟨mdw_X11_act.1, mdw_X11_act.2, Or.inl ⟨rfl, tb_in (i := 840) (by decide +kernel) rfl, tb_in (i := 841) (by decide +kernel) rfl, tb_in (i := 842) (by decide +kernel) rfl⟩⟩
set_option maxRecDepth 100000 in
theorem cw_263 : Cw 13 127 12 0 3 mX12_act := ⟨mdw_X12_act.1, mdw_X12_act.2, Or.inl ⟨rfl, tb_in (i := 1487) (by decide +kernel) rfl, tb_in (i := 1488) (by decide +kernel) rfl, tb_in (i := 1489) (by decide +kernel) rfl⟩⟩
set_option maxRecDepth 100000 in
theorem cw_264 : Cw 13 128 11 0 1 mX11_trace := ⟨mdw_X11_trace.1, mdw_X11_trace.2, Or.inl ⟨rfl, tb_in (i := 927) (by decide +kernel) rfl, tb_in (i := 928) (by decide +kernel) rfl, tb_in (i := 929) (by decide +kernel) rfl⟩⟩
set_option maxRecDepth 100000 in
theorem cw_265 : Cw 13 131 12 0 1 mX12_trace := ⟨mdw_X12_trace.1, mdw_X12_trace.2, Or.inl ⟨rfl, tb_in (i := 1523) (by decide +kernel) rfl, tb_in (i := 1524) (by decide +kernel) rfl, tb_in (i := 1525) (by decide +kernel) rfl⟩⟩
set_option maxRecDepth 100000 in
theorem cw_266 : Cw 13 132 11 0 2 mX11_taken := ⟨mdw_X11_taken.1, mdw_X11_taken.2, Or.inl ⟨rfl, tb_in (i := 932) (by decide +kernel) rfl, tb_in (i := 933) (by decide +kernel) rfl, tb_in (i := 934) (by decide +kernel) rfl⟩⟩
set_option maxRecDepth 100000 in
theorem cw_267 : Cw 13 135 12 0 2 mX12_taken := ⟨mdw_X12_taken.1, mdw_X12_taken.2, Or.inl ⟨rfl, tb_in (i := 1527) (by decide +kernel) rfl, tb_in (i := 1528) (by decide +kernel) rfl, tb_in (i := 1529) (by decide +kernel) rfl⟩⟩
set_option maxRecDepth 100000 in
theorem cw_268 : Cw 13 136 11 0 1 mX11_count := ⟨mdw_X11_count.1, mdw_X11_count.2, Or.inl ⟨rfl, tb_in (i := 938) (by decide +kernel) rfl, tb_in (i := 939) (by decide +kernel) rfl, tb_in (i := 940) (by decide +kernel) rfl⟩⟩
set_option maxRecDepth 100000 in
theorem cw_269 : Cw 13 139 12 0 1 mX12_count := ⟨mdw_X12_count.1, mdw_X12_count.2, Or.inl ⟨rfl, tb_in (i := 1531) (by decide +kernel) rfl, tb_in (i := 1532) (by decide +kernel) rfl, tb_in (i := 1533) (by decide +kernel) rfl⟩⟩
set_option maxRecDepth 100000 in
theorem cw_270 : Cw 13 140 11 0 3 mX11_tape := ⟨mdw_X11_tape.1, mdw_X11_tape.2, Or.inl ⟨rfl, tb_in (i := 942) (by decide +kernel) rfl, tb_in (i := 943) (by decide +kernel) rfl, tb_in (i := 944) (by decide +kernel) rfl⟩⟩
set_option maxRecDepth 100000 in
theorem cw_271 : Cw 13 143 12 0 3 mX12_tape := ⟨mdw_X12_tape.1, mdw_X12_tape.2, Or.inl ⟨rfl, tb_in (i := 1535) (by decide +kernel) rfl, tb_in (i := 1536) (by decide +kernel) rfl, tb_in (i := 1537) (by decide +kernel) rfl⟩⟩
set_option maxRecDepth 100000 in
theorem cw_272 : Cw 13 146 11 0 3 mX11_item := ⟨mdw_X11_item.1, mdw_X11_item.2, Or.inl ⟨rfl, tb_in (i := 949) (by decide +kernel) rfl, tb_in (i := 950) (by decide +kernel) rfl, tb_in (i := 951) (by decide +kernel) rfl⟩⟩
set_option maxRecDepth 100000 in
theorem cw_273 : Cw 13 150 12 0 3 mX12_item := ⟨mdw_X12_item.1, mdw_X12_item.2, Or.inl ⟨rfl, tb_in (i := 1539) (by decide +kernel) rfl, tb_in (i := 1540) (by decide +kernel) rfl, tb_in (i := 1541) (by decide +kernel) rfl⟩⟩
set_option maxRecDepth 100000 in
theorem cw_274 : Cw 13 151 11 0 2 mX11_read := ⟨mdw_X11_read.1, mdw_X11_read.2, Or.inl ⟨rfl, tb_in (i := 956) (by decide +kernel) rfl, tb_in (i := 957) (by decide +kernel) rfl, tb_in (i := 958) (by decide +kernel) rfl⟩⟩
set_option maxRecDepth 100000 in
theorem cw_275 : Cw 13 155 12 0 2 mX12_read := ⟨mdw_X12_read.1, mdw_X12_read.2, Or.inl ⟨rfl, tb_in (i := 1547) (by decide +kernel) rfl, tb_in (i := 1548) (by decide +kernel) rfl, tb_in (i := 1549) (by decide +kernel) rfl⟩⟩
set_option maxRecDepth 100000 in
theorem cw_276 : Cw 13 156 11 0 5 mX11_shift := ⟨mdw_X11_shift.1, mdw_X11_shift.2, Or.inl ⟨rfl, tb_in (i := 960) (by decide +kernel) rfl, tb_in (i := 961) (by decide +kernel) rfl, tb_in (i := 962) (by decide +kernel) rfl⟩⟩
set_option maxRecDepth 100000 in
theorem cw_277 : Cw 13 160 12 0 5 mX12_shift := ⟨mdw_X12_shift.1, mdw_X12_shift.2, Or.inl ⟨rfl, tb_in (i := 1551) (by decide +kernel) rfl, tb_in (i := 1552) (by decide +kernel) rfl, tb_in (i := 1553) (by decide +kernel) rfl⟩⟩
set_option maxRecDepth 100000 in
theorem cw_278 : Cw 20 335 20 0 0 mJ0_coder_7d493 := ⟨mdw_J0_coder_7d493.1, mdw_J0_coder_7d493.2, Or.inl ⟨rfl, tb_in (i := 553) (by decide +kernel) rfl, tb_in (i := 554) (by decide +kernel) rfl, tb_in (i := 555) (by decide +kernel) rfl⟩⟩
set_option maxRecDepth 100000 in
theorem cw_279 : Cw 20 492 20 0 0 mJ0_isLatin1_aae02 := ⟨mdw_J0_isLatin1_aae02.1, mdw_J0_isLatin1_aae02.2, Or.inl ⟨rfl, tb_in (i := 563) (by decide +kernel) rfl, tb_in (i := 564) (by decide +kernel) rfl, tb_in (i := 565) (by decide +kernel) rfl⟩⟩
set_option maxRecDepth 100000 in
theorem cw_280 : Cw 20 495 0 3 2 mJ1_charAt_3b067 := ⟨mdw_J1_charAt_3b067.1, mdw_J1_charAt_3b067.2, Or.inr (Or.inr (Or.inl ⟨rfl, tb_in (i := 567) (by decide +kernel) rfl, tb_in (i := 568) (by decide +kernel) rfl⟩))⟩
set_option maxRecDepth 100000 in
theorem cw_281 : Cw 20 505 20 0 0 mJ0_length_8abf5 := ⟨mdw_J0_length_8abf5.1, mdw_J0_length_8abf5.2, Or.inl ⟨rfl, tb_in (i := 632) (by decide +kernel) rfl, tb_in (i := 550) (by decide +kernel) rfl, tb_in (i := 551) (by decide +kernel) rfl⟩⟩
set_option maxRecDepth 100000 in
theorem cw_282 : Cw 20 633 20 0 2 mJ0_indexOf_7cf53 := ⟨mdw_J0_indexOf_7cf53.1, mdw_J0_indexOf_7cf53.2, Or.inl ⟨rfl, tb_in (i := 628) (by decide +kernel) rfl, tb_in (i := 629) (by decide +kernel) rfl, tb_in (i := 630) (by decide +kernel) rfl⟩⟩
set_option maxRecDepth 100000 in
theorem cw_283 : Cw 20 637 0 3 4 mJ1_indexOf_4cfef := ⟨mdw_J1_indexOf_4cfef.1, mdw_J1_indexOf_4cfef.2, Or.inr (Or.inr (Or.inl ⟨rfl, tb_in (i := 633) (by decide +kernel) rfl, tb_in (i := 634) (by decide +kernel) rfl⟩))⟩
set_option maxRecDepth 100000 in
theorem cw_284 : Cw 20 1059 0 3 3 mJ3_checkIndex_8e157 := ⟨mdw_J3_checkIndex_8e157.1, mdw_J3_checkIndex_8e157.2, Or.inr (Or.inr (Or.inl ⟨rfl, tb_in (i := 575) (by decide +kernel) rfl, tb_in (i := 576) (by decide +kernel) rfl⟩))⟩
set_option maxRecDepth 100000 in
theorem cw_285 : Cw 21 9 0 3 2 mJ0_checkIndex_df160 := ⟨mdw_J0_checkIndex_df160.1, mdw_J0_checkIndex_df160.2, Or.inr (Or.inr (Or.inl ⟨rfl, tb_in (i := 570) (by decide +kernel) rfl, tb_in (i := 571) (by decide +kernel) rfl⟩))⟩
set_option maxRecDepth 100000 in
theorem cw_286 : Cw 21 88 0 3 1 mJ1_canEncode_9a6ad := ⟨mdw_J1_canEncode_9a6ad.1, mdw_J1_canEncode_9a6ad.2, Or.inr (Or.inr (Or.inl ⟨rfl, tb_in (i := 636) (by decide +kernel) rfl, tb_in (i := 637) (by decide +kernel) rfl⟩))⟩
set_option maxRecDepth 100000 in
theorem cw_287 : Cw 21 95 0 3 4 mJ1_indexOfChar_4cfef := ⟨mdw_J1_indexOfChar_4cfef.1, mdw_J1_indexOfChar_4cfef.2, Or.inr (Or.inr (Or.inl ⟨rfl, tb_in (i := 641) (by decide +kernel) rfl, tb_in (i := 642) (by decide +kernel) rfl⟩))⟩
set_option maxRecDepth 100000 in
theorem cwl0 : ∀ e ∈ ctl0, Cw e.1 e.2.1 e.2.2.1 e.2.2.2.1 e.2.2.2.2.2.1 e.2.2.2.2.2.2 := List.forall_mem_cons.mpr ⟨cw_0, List.forall_mem_cons.mpr ⟨cw_1, List.forall_mem_cons.mpr ⟨cw_2, List.forall_mem_cons.mpr ⟨cw_3, List.forall_mem_cons.mpr ⟨cw_4, List.forall_mem_cons.mpr ⟨cw_5, List.forall_mem_cons.mpr ⟨cw_6, List.forall_mem_cons.mpr ⟨cw_7, List.forall_mem_cons.mpr ⟨cw_8, List.forall_mem_cons.mpr ⟨cw_9, List.forall_mem_cons.mpr ⟨cw_10, List.forall_mem_cons.mpr ⟨cw_11, List.forall_mem_cons.mpr ⟨cw_12, List.forall_mem_cons.mpr ⟨cw_13, List.forall_mem_cons.mpr ⟨cw_14, List.forall_mem_cons.mpr ⟨cw_15, List.forall_mem_cons.mpr ⟨cw_16, List.forall_mem_cons.mpr ⟨cw_17, List.forall_mem_cons.mpr ⟨cw_18, List.forall_mem_cons.mpr ⟨cw_19, List.forall_mem_cons.mpr ⟨cw_20, List.forall_mem_cons.mpr ⟨cw_21, List.forall_mem_cons.mpr ⟨cw_22, List.forall_mem_cons.mpr ⟨cw_23, List.forall_mem_cons.mpr ⟨cw_24, List.forall_mem_cons.mpr ⟨cw_25, List.forall_mem_cons.mpr ⟨cw_26, List.forall_mem_cons.mpr ⟨cw_27, List.forall_mem_cons.mpr ⟨cw_28, List.forall_mem_cons.mpr ⟨cw_29, List.forall_mem_cons.mpr ⟨cw_30, List.forall_mem_cons.mpr ⟨cw_31, List.forall_mem_cons.mpr ⟨cw_32, List.forall_mem_cons.mpr ⟨cw_33, List.forall_mem_cons.mpr ⟨cw_34, List.forall_mem_cons.mpr ⟨cw_35, List.forall_mem_cons.mpr ⟨cw_36, List.forall_mem_cons.mpr ⟨cw_37, List.forall_mem_cons.mpr ⟨cw_38, List.forall_mem_cons.mpr ⟨cw_39, List.forall_mem_cons.mpr ⟨cw_40, List.forall_mem_cons.mpr ⟨cw_41, List.forall_mem_cons.mpr ⟨cw_42, List.forall_mem_cons.mpr ⟨cw_43, List.forall_mem_cons.mpr ⟨cw_44, List.forall_mem_cons.mpr ⟨cw_45, List.forall_mem_cons.mpr ⟨cw_46, List.forall_mem_cons.mpr ⟨cw_47, List.forall_mem_cons.mpr ⟨cw_48, List.forall_mem_cons.mpr ⟨cw_49, List.forall_mem_cons.mpr ⟨cw_50, List.forall_mem_cons.mpr ⟨cw_51, List.forall_mem_cons.mpr ⟨cw_52, List.forall_mem_cons.mpr ⟨cw_53, List.forall_mem_cons.mpr ⟨cw_54, List.forall_mem_cons.mpr ⟨cw_55, List.forall_mem_cons.mpr ⟨cw_56, List.forall_mem_cons.mpr ⟨cw_57, List.forall_mem_cons.mpr ⟨cw_58, List.forall_mem_cons.mpr ⟨cw_59, fun _ h => absurd h List.not_mem_nil⟩⟩⟩⟩⟩⟩⟩⟩⟩⟩⟩⟩⟩⟩⟩⟩⟩⟩⟩⟩⟩⟩⟩⟩⟩⟩⟩⟩⟩⟩⟩⟩⟩⟩⟩⟩⟩⟩⟩⟩⟩⟩⟩⟩⟩⟩⟩⟩⟩⟩⟩⟩⟩⟩⟩⟩⟩⟩⟩⟩
set_option maxRecDepth 100000 in
theorem cwl1 : ∀ e ∈ ctl1, Cw e.1 e.2.1 e.2.2.1 e.2.2.2.1 e.2.2.2.2.2.1 e.2.2.2.2.2.2 := List.forall_mem_cons.mpr ⟨cw_60, List.forall_mem_cons.mpr ⟨cw_61, List.forall_mem_cons.mpr ⟨cw_62, List.forall_mem_cons.mpr ⟨cw_63, List.forall_mem_cons.mpr ⟨cw_64, List.forall_mem_cons.mpr ⟨cw_65, List.forall_mem_cons.mpr ⟨cw_66, List.forall_mem_cons.mpr ⟨cw_67, List.forall_mem_cons.mpr ⟨cw_68, List.forall_mem_cons.mpr ⟨cw_69, List.forall_mem_cons.mpr ⟨cw_70, List.forall_mem_cons.mpr ⟨cw_71, List.forall_mem_cons.mpr ⟨cw_72, List.forall_mem_cons.mpr ⟨cw_73, List.forall_mem_cons.mpr ⟨cw_74, List.forall_mem_cons.mpr ⟨cw_75, List.forall_mem_cons.mpr ⟨cw_76, List.forall_mem_cons.mpr ⟨cw_77, List.forall_mem_cons.mpr ⟨cw_78, List.forall_mem_cons.mpr ⟨cw_79, List.forall_mem_cons.mpr ⟨cw_80, List.forall_mem_cons.mpr ⟨cw_81, List.forall_mem_cons.mpr ⟨cw_82, List.forall_mem_cons.mpr ⟨cw_83, List.forall_mem_cons.mpr ⟨cw_84, List.forall_mem_cons.mpr ⟨cw_85, List.forall_mem_cons.mpr ⟨cw_86, List.forall_mem_cons.mpr ⟨cw_87, List.forall_mem_cons.mpr ⟨cw_88, List.forall_mem_cons.mpr ⟨cw_89, List.forall_mem_cons.mpr ⟨cw_90, List.forall_mem_cons.mpr ⟨cw_91, List.forall_mem_cons.mpr ⟨cw_92, List.forall_mem_cons.mpr ⟨cw_93, List.forall_mem_cons.mpr ⟨cw_94, List.forall_mem_cons.mpr ⟨cw_95, List.forall_mem_cons.mpr ⟨cw_96, List.forall_mem_cons.mpr ⟨cw_97, List.forall_mem_cons.mpr ⟨cw_98, List.forall_mem_cons.mpr ⟨cw_99, List.forall_mem_cons.mpr ⟨cw_100, List.forall_mem_cons.mpr ⟨cw_101, List.forall_mem_cons.mpr ⟨cw_102, List.forall_mem_cons.mpr ⟨cw_103, List.forall_mem_cons.mpr ⟨cw_104, List.forall_mem_cons.mpr ⟨cw_105, List.forall_mem_cons.mpr ⟨cw_106, List.forall_mem_cons.mpr ⟨cw_107, List.forall_mem_cons.mpr ⟨cw_108, List.forall_mem_cons.mpr ⟨cw_109, List.forall_mem_cons.mpr ⟨cw_110, List.forall_mem_cons.mpr ⟨cw_111, List.forall_mem_cons.mpr ⟨cw_112, List.forall_mem_cons.mpr ⟨cw_113, List.forall_mem_cons.mpr ⟨cw_114, List.forall_mem_cons.mpr ⟨cw_115, List.forall_mem_cons.mpr ⟨cw_116, List.forall_mem_cons.mpr ⟨cw_117, List.forall_mem_cons.mpr ⟨cw_118, List.forall_mem_cons.mpr ⟨cw_119, fun _ h => absurd h List.not_mem_nil⟩⟩⟩⟩⟩⟩⟩⟩⟩⟩⟩⟩⟩⟩⟩⟩⟩⟩⟩⟩⟩⟩⟩⟩⟩⟩⟩⟩⟩⟩⟩⟩⟩⟩⟩⟩⟩⟩⟩⟩⟩⟩⟩⟩⟩⟩⟩⟩⟩⟩⟩⟩⟩⟩⟩⟩⟩⟩⟩⟩
set_option maxRecDepth 100000 in
theorem cwl2 : ∀ e ∈ ctl2, Cw e.1 e.2.1 e.2.2.1 e.2.2.2.1 e.2.2.2.2.2.1 e.2.2.2.2.2.2 := List.forall_mem_cons.mpr ⟨cw_120, List.forall_mem_cons.mpr ⟨cw_121, List.forall_mem_cons.mpr ⟨cw_122, List.forall_mem_cons.mpr ⟨cw_123, List.forall_mem_cons.mpr ⟨cw_124, List.forall_mem_cons.mpr ⟨cw_125, List.forall_mem_cons.mpr ⟨cw_126, List.forall_mem_cons.mpr ⟨cw_127, List.forall_mem_cons.mpr ⟨cw_128, List.forall_mem_cons.mpr ⟨cw_129, List.forall_mem_cons.mpr ⟨cw_130, List.forall_mem_cons.mpr ⟨cw_131, List.forall_mem_cons.mpr ⟨cw_132, List.forall_mem_cons.mpr ⟨cw_133, List.forall_mem_cons.mpr ⟨cw_134, List.forall_mem_cons.mpr ⟨cw_135, List.forall_mem_cons.mpr ⟨cw_136, List.forall_mem_cons.mpr ⟨cw_137, List.forall_mem_cons.mpr ⟨cw_138, List.forall_mem_cons.mpr ⟨cw_139, List.forall_mem_cons.mpr ⟨cw_140, List.forall_mem_cons.mpr ⟨cw_141, List.forall_mem_cons.mpr ⟨cw_142, List.forall_mem_cons.mpr ⟨cw_143, List.forall_mem_cons.mpr ⟨cw_144, List.forall_mem_cons.mpr ⟨cw_145, List.forall_mem_cons.mpr ⟨cw_146, List.forall_mem_cons.mpr ⟨cw_147, List.forall_mem_cons.mpr ⟨cw_148, List.forall_mem_cons.mpr ⟨cw_149, List.forall_mem_cons.mpr ⟨cw_150, List.forall_mem_cons.mpr ⟨cw_151, List.forall_mem_cons.mpr ⟨cw_152, List.forall_mem_cons.mpr ⟨cw_153, List.forall_mem_cons.mpr ⟨cw_154, List.forall_mem_cons.mpr ⟨cw_155, List.forall_mem_cons.mpr ⟨cw_156, List.forall_mem_cons.mpr ⟨cw_157, List.forall_mem_cons.mpr ⟨cw_158, List.forall_mem_cons.mpr ⟨cw_159, List.forall_mem_cons.mpr ⟨cw_160, List.forall_mem_cons.mpr ⟨cw_161, List.forall_mem_cons.mpr ⟨cw_162, List.forall_mem_cons.mpr ⟨cw_163, List.forall_mem_cons.mpr ⟨cw_164, List.forall_mem_cons.mpr ⟨cw_165, List.forall_mem_cons.mpr ⟨cw_166, List.forall_mem_cons.mpr ⟨cw_167, List.forall_mem_cons.mpr ⟨cw_168, List.forall_mem_cons.mpr ⟨cw_169, List.forall_mem_cons.mpr ⟨cw_170, List.forall_mem_cons.mpr ⟨cw_171, List.forall_mem_cons.mpr ⟨cw_172, List.forall_mem_cons.mpr ⟨cw_173, List.forall_mem_cons.mpr ⟨cw_174, List.forall_mem_cons.mpr ⟨cw_175, List.forall_mem_cons.mpr ⟨cw_176, List.forall_mem_cons.mpr ⟨cw_177, List.forall_mem_cons.mpr ⟨cw_178, List.forall_mem_cons.mpr ⟨cw_179, fun _ h => absurd h List.not_mem_nil⟩⟩⟩⟩⟩⟩⟩⟩⟩⟩⟩⟩⟩⟩⟩⟩⟩⟩⟩⟩⟩⟩⟩⟩⟩⟩⟩⟩⟩⟩⟩⟩⟩⟩⟩⟩⟩⟩⟩⟩⟩⟩⟩⟩⟩⟩⟩⟩⟩⟩⟩⟩⟩⟩⟩⟩⟩⟩⟩⟩
set_option maxRecDepth 100000 in
theorem cwl3 : ∀ e ∈ ctl3, Cw e.1 e.2.1 e.2.2.1 e.2.2.2.1 e.2.2.2.2.2.1 e.2.2.2.2.2.2 := List.forall_mem_cons.mpr ⟨cw_180, List.forall_mem_cons.mpr ⟨cw_181, List.forall_mem_cons.mpr ⟨cw_182, List.forall_mem_cons.mpr ⟨cw_183, List.forall_mem_cons.mpr ⟨cw_184, List.forall_mem_cons.mpr ⟨cw_185, List.forall_mem_cons.mpr ⟨cw_186, List.forall_mem_cons.mpr ⟨cw_187, List.forall_mem_cons.mpr ⟨cw_188, List.forall_mem_cons.mpr ⟨cw_189, List.forall_mem_cons.mpr ⟨cw_190, List.forall_mem_cons.mpr ⟨cw_191, List.forall_mem_cons.mpr ⟨cw_192, List.forall_mem_cons.mpr ⟨cw_193, List.forall_mem_cons.mpr ⟨cw_194, List.forall_mem_cons.mpr ⟨cw_195, List.forall_mem_cons.mpr ⟨cw_196, List.forall_mem_cons.mpr ⟨cw_197, List.forall_mem_cons.mpr ⟨cw_198, List.forall_mem_cons.mpr ⟨cw_199, List.forall_mem_cons.mpr ⟨cw_200, List.forall_mem_cons.mpr ⟨cw_201, List.forall_mem_cons.mpr ⟨cw_202, List.forall_mem_cons.mpr ⟨cw_203, List.forall_mem_cons.mpr ⟨cw_204, List.forall_mem_cons.mpr ⟨cw_205, List.forall_mem_cons.mpr ⟨cw_206, List.forall_mem_cons.mpr ⟨cw_207, List.forall_mem_cons.mpr ⟨cw_208, List.forall_mem_cons.mpr ⟨cw_209, List.forall_mem_cons.mpr ⟨cw_210, List.forall_mem_cons.mpr ⟨cw_211, List.forall_mem_cons.mpr ⟨cw_212, List.forall_mem_cons.mpr ⟨cw_213, List.forall_mem_cons.mpr ⟨cw_214, List.forall_mem_cons.mpr ⟨cw_215, List.forall_mem_cons.mpr ⟨cw_216, List.forall_mem_cons.mpr ⟨cw_217, List.forall_mem_cons.mpr ⟨cw_218, List.forall_mem_cons.mpr ⟨cw_219, List.forall_mem_cons.mpr ⟨cw_220, List.forall_mem_cons.mpr ⟨cw_221, List.forall_mem_cons.mpr ⟨cw_222, List.forall_mem_cons.mpr ⟨cw_223, List.forall_mem_cons.mpr ⟨cw_224, List.forall_mem_cons.mpr ⟨cw_225, List.forall_mem_cons.mpr ⟨cw_226, List.forall_mem_cons.mpr ⟨cw_227, List.forall_mem_cons.mpr ⟨cw_228, List.forall_mem_cons.mpr ⟨cw_229, List.forall_mem_cons.mpr ⟨cw_230, List.forall_mem_cons.mpr ⟨cw_231, List.forall_mem_cons.mpr ⟨cw_232, List.forall_mem_cons.mpr ⟨cw_233, List.forall_mem_cons.mpr ⟨cw_234, List.forall_mem_cons.mpr ⟨cw_235, List.forall_mem_cons.mpr ⟨cw_236, List.forall_mem_cons.mpr ⟨cw_237, List.forall_mem_cons.mpr ⟨cw_238, List.forall_mem_cons.mpr ⟨cw_239, fun _ h => absurd h List.not_mem_nil⟩⟩⟩⟩⟩⟩⟩⟩⟩⟩⟩⟩⟩⟩⟩⟩⟩⟩⟩⟩⟩⟩⟩⟩⟩⟩⟩⟩⟩⟩⟩⟩⟩⟩⟩⟩⟩⟩⟩⟩⟩⟩⟩⟩⟩⟩⟩⟩⟩⟩⟩⟩⟩⟩⟩⟩⟩⟩⟩⟩
set_option maxRecDepth 100000 in
theorem cwl4 : ∀ e ∈ ctl4, Cw e.1 e.2.1 e.2.2.1 e.2.2.2.1 e.2.2.2.2.2.1 e.2.2.2.2.2.2 := List.forall_mem_cons.mpr ⟨cw_240, List.forall_mem_cons.mpr ⟨cw_241, List.forall_mem_cons.mpr ⟨cw_242, List.forall_mem_cons.mpr ⟨cw_243, List.forall_mem_cons.mpr ⟨cw_244, List.forall_mem_cons.mpr ⟨cw_245, List.forall_mem_cons.mpr ⟨cw_246, List.forall_mem_cons.mpr ⟨cw_247, List.forall_mem_cons.mpr ⟨cw_248, List.forall_mem_cons.mpr ⟨cw_249, List.forall_mem_cons.mpr ⟨cw_250, List.forall_mem_cons.mpr ⟨cw_251, List.forall_mem_cons.mpr ⟨cw_252, List.forall_mem_cons.mpr ⟨cw_253, List.forall_mem_cons.mpr ⟨cw_254, List.forall_mem_cons.mpr ⟨cw_255, List.forall_mem_cons.mpr ⟨cw_256, List.forall_mem_cons.mpr ⟨cw_257, List.forall_mem_cons.mpr ⟨cw_258, List.forall_mem_cons.mpr ⟨cw_259, List.forall_mem_cons.mpr ⟨cw_260, List.forall_mem_cons.mpr ⟨cw_261, List.forall_mem_cons.mpr ⟨cw_262, List.forall_mem_cons.mpr ⟨cw_263, List.forall_mem_cons.mpr ⟨cw_264, List.forall_mem_cons.mpr ⟨cw_265, List.forall_mem_cons.mpr ⟨cw_266, List.forall_mem_cons.mpr ⟨cw_267, List.forall_mem_cons.mpr ⟨cw_268, List.forall_mem_cons.mpr ⟨cw_269, List.forall_mem_cons.mpr ⟨cw_270, List.forall_mem_cons.mpr ⟨cw_271, List.forall_mem_cons.mpr ⟨cw_272, List.forall_mem_cons.mpr ⟨cw_273, List.forall_mem_cons.mpr ⟨cw_274, List.forall_mem_cons.mpr ⟨cw_275, List.forall_mem_cons.mpr ⟨cw_276, List.forall_mem_cons.mpr ⟨cw_277, List.forall_mem_cons.mpr ⟨cw_278, List.forall_mem_cons.mpr ⟨cw_279, List.forall_mem_cons.mpr ⟨cw_280, List.forall_mem_cons.mpr ⟨cw_281, List.forall_mem_cons.mpr ⟨cw_282, List.forall_mem_cons.mpr ⟨cw_283, List.forall_mem_cons.mpr ⟨cw_284, List.forall_mem_cons.mpr ⟨cw_285, List.forall_mem_cons.mpr ⟨cw_286, List.forall_mem_cons.mpr ⟨cw_287, fun _ h => absurd h List.not_mem_nil⟩⟩⟩⟩⟩⟩⟩⟩⟩⟩⟩⟩⟩⟩⟩⟩⟩⟩⟩⟩⟩⟩⟩⟩⟩⟩⟩⟩⟩⟩⟩⟩⟩⟩⟩⟩⟩⟩⟩⟩⟩⟩⟩⟩⟩⟩⟩⟩
set_option maxRecDepth 100000 in
theorem cwl : ∀ e ∈ ctl, Cw e.1 e.2.1 e.2.2.1 e.2.2.2.1 e.2.2.2.2.2.1 e.2.2.2.2.2.2 := by
  intro e h
  simp only [ctl, List.mem_append] at h
  rcases h with (((h | h) | h) | h) | h
  · exact cwl0 e h
  · exact cwl1 e h
  · exact cwl2 e h
  · exact cwl3 e h
  · exact cwl4 e h
theorem cres_ok {o i rc : Nat} {q : Nat × Nat × Nat × Md} (h : cres o i rc = some q) : Cw o i rc q.1 q.2.2.1 q.2.2.2 := by
  unfold cres at h
  cases hf : ctl.find? (fun e => e.1 == o && e.2.1 == i && e.2.2.1 == rc) with
  | none => rw [hf] at h; cases h
  | some e =>
    rw [hf] at h
    have h1 := List.find?_some hf
    have h2 := cwl e (List.mem_of_find?_eq_some hf)
    simp only [Bool.and_eq_true, beq_iff_eq] at h1
    obtain ⟨a, b, d, f⟩ := e
    simp only [Option.map_some, Option.some.injEq] at h
    simp only at h1
    obtain ⟨⟨rfl, rfl⟩, rfl⟩ := h1
    subst h
    exact h2
