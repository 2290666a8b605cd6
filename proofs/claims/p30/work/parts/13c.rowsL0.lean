theorem uL_wsL_law_r1 : ∀ w ∈ wsL_law_r1, w ∈ wsL_law := fun _ h => (fw_l (fw_l (fw_l (fw_l (fw_l (fw_l (fw_l (fw_l (fw_l (fw_l (fw_l (fw_l (fw_l (fw_l (fw_l h)))))))))))))))
theorem mL_0 : Cond.classLink RL 7 RX11 ∈ wsL_law := uL_wsL_law_r1 _ (fw_h)
theorem mL_1 : Cond.instantiable RX11 13 ∈ wsL_law := uL_wsL_law_r1 _ (fw_t fw_h)
theorem mL_2 : Cond.initialized RX11 ∈ wsL_law := uL_wsL_law_r1 _ (fw_t (fw_t fw_h))
theorem mL_3 : Cond.classLink RL 10 RX12 ∈ wsL_law := uL_wsL_law_r1 _ (fw_t (fw_t (fw_t fw_h)))
theorem mL_4 : Cond.instantiable RX12 24 ∈ wsL_law := uL_wsL_law_r1 _ (fw_t (fw_t (fw_t (fw_t fw_h))))
theorem mL_5 : Cond.initialized RX12 ∈ wsL_law := uL_wsL_law_r1 _ (fw_t (fw_t (fw_t (fw_t (fw_t fw_h)))))
theorem mL_6 : Cond.methodLink RL 9 yX11_init ∈ wsL_law := uL_wsL_law_r1 _ (fw_t (fw_t (fw_t (fw_t (fw_t (fw_t fw_h))))))
theorem mL_7 : Cond.instanceMethod yX11_init ∈ wsL_law := uL_wsL_law_r1 _ (fw_t (fw_t (fw_t (fw_t (fw_t (fw_t (fw_t fw_h)))))))
theorem mL_8 : Cond.code yX11_init cX11_init 2 none ∈ wsL_law := uL_wsL_law_r1 _ (fw_t (fw_t (fw_t (fw_t (fw_t (fw_t (fw_t (fw_t fw_h))))))))
theorem mL_9 : Cond.methodLink RX11 3 objectInit ∈ wsL_law := uL_wsL_law_r1 _ (fw_t (fw_t (fw_t (fw_t (fw_t (fw_t (fw_t (fw_t (fw_t fw_h)))))))))
theorem mL_10 : Cond.instanceMethod objectInit ∈ wsL_law := uL_wsL_law_r1 _ (fw_t (fw_t (fw_t (fw_t (fw_t (fw_t (fw_t (fw_t (fw_t (fw_t fw_h))))))))))
theorem mL_11 : Cond.code objectInit ⟨#[0xb1]⟩ 1 none ∈ wsL_law := uL_wsL_law_r1 _ (fw_t (fw_t (fw_t (fw_t (fw_t (fw_t (fw_t (fw_t (fw_t (fw_t (fw_t fw_h)))))))))))
theorem mL_12 : Cond.classLink RX11 9 RX7 ∈ wsL_law := uL_wsL_law_r1 _ (fw_t (fw_t (fw_t (fw_t (fw_t (fw_t (fw_t (fw_t (fw_t (fw_t (fw_t (fw_t fw_h))))))))))))
theorem mL_13 : Cond.fieldLink RX11 11 "CornDesk" "pictures" "[LCornDesk$Picture;" ∈ wsL_law := uL_wsL_law_r1 _ (fw_t (fw_t (fw_t (fw_t (fw_t (fw_t (fw_t (fw_t (fw_t (fw_t (fw_t (fw_t (fw_t fw_h)))))))))))))
theorem mL_14 : Cond.classLink RX11 15 RX5 ∈ wsL_law := uL_wsL_law_r1 _ (fw_t (fw_t (fw_t (fw_t (fw_t (fw_t (fw_t (fw_t (fw_t (fw_t (fw_t (fw_t (fw_t (fw_t fw_h))))))))))))))
theorem mL_15 : Cond.fieldLink RX11 17 "CornDesk" "marks" "[LCornDesk$Mark;" ∈ wsL_law := uL_wsL_law_r1 _ (fw_t (fw_t (fw_t (fw_t (fw_t (fw_t (fw_t (fw_t (fw_t (fw_t (fw_t (fw_t (fw_t (fw_t (fw_t fw_h)))))))))))))))
theorem mL_16 : Cond.classLink RX11 21 RX3 ∈ wsL_law := uL_wsL_law_r1 _ (fw_t (fw_t (fw_t (fw_t (fw_t (fw_t (fw_t (fw_t (fw_t (fw_t (fw_t (fw_t (fw_t (fw_t (fw_t (fw_t fw_h))))))))))))))))
theorem mL_17 : Cond.instantiable RX3 5 ∈ wsL_law := uL_wsL_law_r1 _ (fw_t (fw_t (fw_t (fw_t (fw_t (fw_t (fw_t (fw_t (fw_t (fw_t (fw_t (fw_t (fw_t (fw_t (fw_t (fw_t (fw_t fw_h)))))))))))))))))
theorem mL_18 : Cond.initialized RX3 ∈ wsL_law := uL_wsL_law_r1 _ (fw_t (fw_t (fw_t (fw_t (fw_t (fw_t (fw_t (fw_t (fw_t (fw_t (fw_t (fw_t (fw_t (fw_t (fw_t (fw_t (fw_t (fw_t fw_h))))))))))))))))))
theorem mL_19 : Cond.fieldLink RX11 24 "CornDesk" "sorted" "LCornDesk$Groups;" ∈ wsL_law := uL_wsL_law_r1 _ (fw_t (fw_t (fw_t (fw_t (fw_t (fw_t (fw_t (fw_t (fw_t (fw_t (fw_t (fw_t (fw_t (fw_t (fw_t (fw_t (fw_t (fw_t (fw_t fw_h)))))))))))))))))))
theorem mL_20 : Cond.classLink RX11 28 RX2 ∈ wsL_law := uL_wsL_law_r1 _ (fw_t (fw_t (fw_t (fw_t (fw_t (fw_t (fw_t (fw_t (fw_t (fw_t (fw_t (fw_t (fw_t (fw_t (fw_t (fw_t (fw_t (fw_t (fw_t (fw_t fw_h))))))))))))))))))))
theorem mL_21 : Cond.instantiable RX2 3 ∈ wsL_law := uL_wsL_law_r1 _ (fw_t (fw_t (fw_t (fw_t (fw_t (fw_t (fw_t (fw_t (fw_t (fw_t (fw_t (fw_t (fw_t (fw_t (fw_t (fw_t (fw_t (fw_t (fw_t (fw_t (fw_t fw_h)))))))))))))))))))))
theorem mL_22 : Cond.initialized RX2 ∈ wsL_law := uL_wsL_law_r1 _ (fw_t (fw_t (fw_t (fw_t (fw_t (fw_t (fw_t (fw_t (fw_t (fw_t (fw_t (fw_t (fw_t (fw_t (fw_t (fw_t (fw_t (fw_t (fw_t (fw_t (fw_t (fw_t fw_h))))))))))))))))))))))
theorem mL_23 : Cond.fieldLink RX11 31 "CornDesk" "form" "LCornDesk$Form;" ∈ wsL_law := uL_wsL_law_r1 _ (fw_t (fw_t (fw_t (fw_t (fw_t (fw_t (fw_t (fw_t (fw_t (fw_t (fw_t (fw_t (fw_t (fw_t (fw_t (fw_t (fw_t (fw_t (fw_t (fw_t (fw_t (fw_t (fw_t fw_h)))))))))))))))))))))))
theorem uL_wsL_law_r2 : ∀ w ∈ wsL_law_r2, w ∈ wsL_law := fun _ h => (fw_l (fw_l (fw_l (fw_l (fw_l (fw_l (fw_l (fw_l (fw_l (fw_l (fw_l (fw_l (fw_l (fw_l (fw_r (fw_l h))))))))))))))))
theorem mL_24 : Cond.classLink RX11 35 RX0 ∈ wsL_law := uL_wsL_law_r2 _ (fw_h)
theorem mL_25 : Cond.fieldLink RX11 37 "CornDesk" "fields" "[LCornDesk$Field;" ∈ wsL_law := uL_wsL_law_r2 _ (fw_t fw_h)
theorem mL_26 : Cond.classLink RX11 41 RX10 ∈ wsL_law := uL_wsL_law_r2 _ (fw_t (fw_t fw_h))
theorem mL_27 : Cond.instantiable RX10 2 ∈ wsL_law := uL_wsL_law_r2 _ (fw_t (fw_t (fw_t fw_h)))
theorem mL_28 : Cond.initialized RX10 ∈ wsL_law := uL_wsL_law_r2 _ (fw_t (fw_t (fw_t (fw_t fw_h))))
theorem mL_29 : Cond.fieldLink RX11 44 "CornDesk" "table" "LCornDesk$Table;" ∈ wsL_law := uL_wsL_law_r2 _ (fw_t (fw_t (fw_t (fw_t (fw_t fw_h)))))
theorem mL_30 : Cond.classLink RX11 48 RX1 ∈ wsL_law := uL_wsL_law_r2 _ (fw_t (fw_t (fw_t (fw_t (fw_t (fw_t fw_h))))))
theorem mL_31 : Cond.instantiable RX1 5 ∈ wsL_law := uL_wsL_law_r2 _ (fw_t (fw_t (fw_t (fw_t (fw_t (fw_t (fw_t fw_h)))))))
theorem mL_32 : Cond.initialized RX1 ∈ wsL_law := uL_wsL_law_r2 _ (fw_t (fw_t (fw_t (fw_t (fw_t (fw_t (fw_t (fw_t fw_h))))))))
theorem mL_33 : Cond.fieldLink RX11 51 "CornDesk" "flight" "LCornDesk$Flight;" ∈ wsL_law := uL_wsL_law_r2 _ (fw_t (fw_t (fw_t (fw_t (fw_t (fw_t (fw_t (fw_t (fw_t fw_h)))))))))
theorem mL_34 : Cond.classLink RX11 55 RX8 ∈ wsL_law := uL_wsL_law_r2 _ (fw_t (fw_t (fw_t (fw_t (fw_t (fw_t (fw_t (fw_t (fw_t (fw_t fw_h))))))))))
theorem mL_35 : Cond.fieldLink RX11 57 "CornDesk" "sheets" "[LCornDesk$Sheet;" ∈ wsL_law := uL_wsL_law_r2 _ (fw_t (fw_t (fw_t (fw_t (fw_t (fw_t (fw_t (fw_t (fw_t (fw_t (fw_t fw_h)))))))))))
theorem mL_36 : Cond.classLink RX11 61 RX6 ∈ wsL_law := uL_wsL_law_r2 _ (fw_t (fw_t (fw_t (fw_t (fw_t (fw_t (fw_t (fw_t (fw_t (fw_t (fw_t (fw_t fw_h))))))))))))
theorem mL_37 : Cond.instantiable RX6 3 ∈ wsL_law := uL_wsL_law_r2 _ (fw_t (fw_t (fw_t (fw_t (fw_t (fw_t (fw_t (fw_t (fw_t (fw_t (fw_t (fw_t (fw_t fw_h)))))))))))))
theorem mL_38 : Cond.initialized RX6 ∈ wsL_law := uL_wsL_law_r2 _ (fw_t (fw_t (fw_t (fw_t (fw_t (fw_t (fw_t (fw_t (fw_t (fw_t (fw_t (fw_t (fw_t (fw_t fw_h))))))))))))))
theorem mL_39 : Cond.fieldLink RX11 64 "CornDesk" "past" "LCornDesk$Past;" ∈ wsL_law := uL_wsL_law_r2 _ (fw_t (fw_t (fw_t (fw_t (fw_t (fw_t (fw_t (fw_t (fw_t (fw_t (fw_t (fw_t (fw_t (fw_t (fw_t fw_h)))))))))))))))
theorem mL_40 : Cond.instantiable RX8 3 ∈ wsL_law := uL_wsL_law_r2 _ (fw_t (fw_t (fw_t (fw_t (fw_t (fw_t (fw_t (fw_t (fw_t (fw_t (fw_t (fw_t (fw_t (fw_t (fw_t (fw_t fw_h))))))))))))))))
theorem mL_41 : Cond.initialized RX8 ∈ wsL_law := uL_wsL_law_r2 _ (fw_t (fw_t (fw_t (fw_t (fw_t (fw_t (fw_t (fw_t (fw_t (fw_t (fw_t (fw_t (fw_t (fw_t (fw_t (fw_t (fw_t fw_h)))))))))))))))))
theorem mL_42 : Cond.instanceMethod yX3_init ∈ wsL_law := uL_wsL_law_r2 _ (fw_t (fw_t (fw_t (fw_t (fw_t (fw_t (fw_t (fw_t (fw_t (fw_t (fw_t (fw_t (fw_t (fw_t (fw_t (fw_t (fw_t (fw_t fw_h))))))))))))))))))
theorem mL_43 : Cond.code yX3_init cX3_init 1 none ∈ wsL_law := uL_wsL_law_r2 _ (fw_t (fw_t (fw_t (fw_t (fw_t (fw_t (fw_t (fw_t (fw_t (fw_t (fw_t (fw_t (fw_t (fw_t (fw_t (fw_t (fw_t (fw_t (fw_t fw_h)))))))))))))))))))
theorem mL_44 : Cond.methodLink RX3 3 objectInit ∈ wsL_law := uL_wsL_law_r2 _ (fw_t (fw_t (fw_t (fw_t (fw_t (fw_t (fw_t (fw_t (fw_t (fw_t (fw_t (fw_t (fw_t (fw_t (fw_t (fw_t (fw_t (fw_t (fw_t (fw_t fw_h))))))))))))))))))))
theorem mL_45 : Cond.arrayClass .int ∈ wsL_law := uL_wsL_law_r2 _ (fw_t (fw_t (fw_t (fw_t (fw_t (fw_t (fw_t (fw_t (fw_t (fw_t (fw_t (fw_t (fw_t (fw_t (fw_t (fw_t (fw_t (fw_t (fw_t (fw_t (fw_t fw_h)))))))))))))))))))))
theorem mL_46 : Cond.fieldLink RX3 9 "CornDesk$Groups" "groupOf" "[I" ∈ wsL_law := uL_wsL_law_r2 _ (fw_t (fw_t (fw_t (fw_t (fw_t (fw_t (fw_t (fw_t (fw_t (fw_t (fw_t (fw_t (fw_t (fw_t (fw_t (fw_t (fw_t (fw_t (fw_t (fw_t (fw_t (fw_t fw_h))))))))))))))))))))))
theorem mL_47 : Cond.fieldLink RX3 15 "CornDesk$Groups" "members" "[I" ∈ wsL_law := uL_wsL_law_r2 _ (fw_t (fw_t (fw_t (fw_t (fw_t (fw_t (fw_t (fw_t (fw_t (fw_t (fw_t (fw_t (fw_t (fw_t (fw_t (fw_t (fw_t (fw_t (fw_t (fw_t (fw_t (fw_t (fw_t fw_h)))))))))))))))))))))))
theorem uL_wsL_law_r3 : ∀ w ∈ wsL_law_r3, w ∈ wsL_law := fun _ h => (fw_l (fw_l (fw_l (fw_l (fw_l (fw_l (fw_l (fw_l (fw_l (fw_l (fw_l (fw_l (fw_l (fw_l (fw_r (fw_r (fw_l h)))))))))))))))))
theorem mL_48 : Cond.fieldLink RX3 18 "CornDesk$Groups" "facts" "[I" ∈ wsL_law := uL_wsL_law_r3 _ (fw_h)
theorem mL_49 : Cond.instanceMethod yX2_init ∈ wsL_law := uL_wsL_law_r3 _ (fw_t fw_h)
theorem mL_50 : Cond.code yX2_init cX2_init 1 none ∈ wsL_law := uL_wsL_law_r3 _ (fw_t (fw_t fw_h))
theorem mL_51 : Cond.methodLink RX2 3 objectInit ∈ wsL_law := uL_wsL_law_r3 _ (fw_t (fw_t (fw_t fw_h)))
theorem mL_52 : Cond.fieldLink RX2 9 "CornDesk$Form" "signs" "[I" ∈ wsL_law := uL_wsL_law_r3 _ (fw_t (fw_t (fw_t (fw_t fw_h))))
theorem mL_53 : Cond.fieldLink RX2 15 "CornDesk$Form" "row" "[I" ∈ wsL_law := uL_wsL_law_r3 _ (fw_t (fw_t (fw_t (fw_t (fw_t fw_h)))))
theorem mL_54 : Cond.methodLink RX11 43 yX10_init ∈ wsL_law := uL_wsL_law_r3 _ (fw_t (fw_t (fw_t (fw_t (fw_t (fw_t fw_h))))))
theorem mL_55 : Cond.instanceMethod yX10_init ∈ wsL_law := uL_wsL_law_r3 _ (fw_t (fw_t (fw_t (fw_t (fw_t (fw_t (fw_t fw_h)))))))
theorem mL_56 : Cond.code yX10_init cX10_init 1 none ∈ wsL_law := uL_wsL_law_r3 _ (fw_t (fw_t (fw_t (fw_t (fw_t (fw_t (fw_t (fw_t fw_h))))))))
theorem mL_57 : Cond.methodLink RX10 3 objectInit ∈ wsL_law := uL_wsL_law_r3 _ (fw_t (fw_t (fw_t (fw_t (fw_t (fw_t (fw_t (fw_t (fw_t fw_h)))))))))
theorem mL_58 : Cond.fieldLink RX10 11 "CornDesk$Table" "upper" "[I" ∈ wsL_law := uL_wsL_law_r3 _ (fw_t (fw_t (fw_t (fw_t (fw_t (fw_t (fw_t (fw_t (fw_t (fw_t fw_h))))))))))
theorem mL_59 : Cond.fieldLink RX10 15 "CornDesk$Table" "lower" "[I" ∈ wsL_law := uL_wsL_law_r3 _ (fw_t (fw_t (fw_t (fw_t (fw_t (fw_t (fw_t (fw_t (fw_t (fw_t (fw_t fw_h)))))))))))
theorem mL_60 : Cond.methodLink RX10 18 yJ7_fill_53178 ∈ wsL_law := uL_wsL_law_r3 _ (fw_t (fw_t (fw_t (fw_t (fw_t (fw_t (fw_t (fw_t (fw_t (fw_t (fw_t (fw_t fw_h))))))))))))
theorem mL_61 : Cond.static yJ7_fill_53178 ∈ wsL_law := uL_wsL_law_r3 _ (fw_t (fw_t (fw_t (fw_t (fw_t (fw_t (fw_t (fw_t (fw_t (fw_t (fw_t (fw_t (fw_t fw_h)))))))))))))
theorem mL_62 : Cond.initialized RJ7 ∈ wsL_law := uL_wsL_law_r3 _ (fw_t (fw_t (fw_t (fw_t (fw_t (fw_t (fw_t (fw_t (fw_t (fw_t (fw_t (fw_t (fw_t (fw_t fw_h))))))))))))))
theorem mL_63 : Cond.code yJ7_fill_53178 cJ7_fill_53178 4 none ∈ wsL_law := uL_wsL_law_r3 _ (fw_t (fw_t (fw_t (fw_t (fw_t (fw_t (fw_t (fw_t (fw_t (fw_t (fw_t (fw_t (fw_t (fw_t (fw_t fw_h)))))))))))))))
theorem mL_64 : Cond.instanceMethod yX1_init ∈ wsL_law := uL_wsL_law_r3 _ (fw_t (fw_t (fw_t (fw_t (fw_t (fw_t (fw_t (fw_t (fw_t (fw_t (fw_t (fw_t (fw_t (fw_t (fw_t (fw_t fw_h))))))))))))))))
theorem mL_65 : Cond.code yX1_init cX1_init 1 none ∈ wsL_law := uL_wsL_law_r3 _ (fw_t (fw_t (fw_t (fw_t (fw_t (fw_t (fw_t (fw_t (fw_t (fw_t (fw_t (fw_t (fw_t (fw_t (fw_t (fw_t (fw_t fw_h)))))))))))))))))
theorem mL_66 : Cond.methodLink RX1 3 objectInit ∈ wsL_law := uL_wsL_law_r3 _ (fw_t (fw_t (fw_t (fw_t (fw_t (fw_t (fw_t (fw_t (fw_t (fw_t (fw_t (fw_t (fw_t (fw_t (fw_t (fw_t (fw_t (fw_t fw_h))))))))))))))))))
theorem mL_67 : Cond.arrayClass .long ∈ wsL_law := uL_wsL_law_r3 _ (fw_t (fw_t (fw_t (fw_t (fw_t (fw_t (fw_t (fw_t (fw_t (fw_t (fw_t (fw_t (fw_t (fw_t (fw_t (fw_t (fw_t (fw_t (fw_t fw_h)))))))))))))))))))
theorem mL_68 : Cond.fieldLink RX1 9 "CornDesk$Flight" "gains" "[J" ∈ wsL_law := uL_wsL_law_r3 _ (fw_t (fw_t (fw_t (fw_t (fw_t (fw_t (fw_t (fw_t (fw_t (fw_t (fw_t (fw_t (fw_t (fw_t (fw_t (fw_t (fw_t (fw_t (fw_t (fw_t fw_h))))))))))))))))))))
theorem mL_69 : Cond.fieldLink RX1 15 "CornDesk$Flight" "hours" "[I" ∈ wsL_law := uL_wsL_law_r3 _ (fw_t (fw_t (fw_t (fw_t (fw_t (fw_t (fw_t (fw_t (fw_t (fw_t (fw_t (fw_t (fw_t (fw_t (fw_t (fw_t (fw_t (fw_t (fw_t (fw_t (fw_t fw_h)))))))))))))))))))))
theorem mL_70 : Cond.methodLink RX11 63 yX6_init ∈ wsL_law := uL_wsL_law_r3 _ (fw_t (fw_t (fw_t (fw_t (fw_t (fw_t (fw_t (fw_t (fw_t (fw_t (fw_t (fw_t (fw_t (fw_t (fw_t (fw_t (fw_t (fw_t (fw_t (fw_t (fw_t (fw_t fw_h))))))))))))))))))))))
theorem mL_71 : Cond.instanceMethod yX6_init ∈ wsL_law := uL_wsL_law_r3 _ (fw_t (fw_t (fw_t (fw_t (fw_t (fw_t (fw_t (fw_t (fw_t (fw_t (fw_t (fw_t (fw_t (fw_t (fw_t (fw_t (fw_t (fw_t (fw_t (fw_t (fw_t (fw_t (fw_t fw_h)))))))))))))))))))))))
theorem uL_wsL_law_r4 : ∀ w ∈ wsL_law_r4, w ∈ wsL_law := fun _ h => (fw_l (fw_l (fw_l (fw_l (fw_l (fw_l (fw_l (fw_l (fw_l (fw_l (fw_l (fw_l (fw_l (fw_l (fw_r (fw_r (fw_r (fw_l h))))))))))))))))))
theorem mL_72 : Cond.code yX6_init cX6_init 2 none ∈ wsL_law := uL_wsL_law_r4 _ (fw_h)
theorem mL_73 : Cond.methodLink RX6 3 objectInit ∈ wsL_law := uL_wsL_law_r4 _ (fw_t fw_h)
theorem mL_74 : Cond.classLink RX6 9 RX9 ∈ wsL_law := uL_wsL_law_r4 _ (fw_t (fw_t fw_h))
theorem mL_75 : Cond.fieldLink RX6 11 "CornDesk$Past" "steps" "[LCornDesk$Step;" ∈ wsL_law := uL_wsL_law_r4 _ (fw_t (fw_t (fw_t fw_h)))
theorem mL_76 : Cond.instantiable RX9 3 ∈ wsL_law := uL_wsL_law_r4 _ (fw_t (fw_t (fw_t (fw_t fw_h))))
theorem mL_77 : Cond.initialized RX9 ∈ wsL_law := uL_wsL_law_r4 _ (fw_t (fw_t (fw_t (fw_t (fw_t fw_h)))))
theorem mL_78 : Cond.instanceMethod yX9_init ∈ wsL_law := uL_wsL_law_r4 _ (fw_t (fw_t (fw_t (fw_t (fw_t (fw_t fw_h))))))
theorem mL_79 : Cond.code yX9_init cX9_init 1 none ∈ wsL_law := uL_wsL_law_r4 _ (fw_t (fw_t (fw_t (fw_t (fw_t (fw_t (fw_t fw_h)))))))
theorem mL_80 : Cond.methodLink RX9 3 objectInit ∈ wsL_law := uL_wsL_law_r4 _ (fw_t (fw_t (fw_t (fw_t (fw_t (fw_t (fw_t (fw_t fw_h))))))))
theorem mL_81 : Cond.fieldLink RX9 9 "CornDesk$Step" "row" "[I" ∈ wsL_law := uL_wsL_law_r4 _ (fw_t (fw_t (fw_t (fw_t (fw_t (fw_t (fw_t (fw_t (fw_t fw_h)))))))))
theorem mL_82 : Cond.instanceMethod yX8_init ∈ wsL_law := uL_wsL_law_r4 _ (fw_t (fw_t (fw_t (fw_t (fw_t (fw_t (fw_t (fw_t (fw_t (fw_t fw_h))))))))))
theorem mL_83 : Cond.code yX8_init cX8_init 1 none ∈ wsL_law := uL_wsL_law_r4 _ (fw_t (fw_t (fw_t (fw_t (fw_t (fw_t (fw_t (fw_t (fw_t (fw_t (fw_t fw_h)))))))))))
theorem mL_84 : Cond.methodLink RX8 3 objectInit ∈ wsL_law := uL_wsL_law_r4 _ (fw_t (fw_t (fw_t (fw_t (fw_t (fw_t (fw_t (fw_t (fw_t (fw_t (fw_t (fw_t fw_h))))))))))))
theorem mL_85 : Cond.fieldLink RX8 9 "CornDesk$Sheet" "numbers" "[I" ∈ wsL_law := uL_wsL_law_r4 _ (fw_t (fw_t (fw_t (fw_t (fw_t (fw_t (fw_t (fw_t (fw_t (fw_t (fw_t (fw_t (fw_t fw_h)))))))))))))
theorem mL_86 : Cond.methodLink RL 12 yX12_init ∈ wsL_law := uL_wsL_law_r4 _ (fw_t (fw_t (fw_t (fw_t (fw_t (fw_t (fw_t (fw_t (fw_t (fw_t (fw_t (fw_t (fw_t (fw_t fw_h))))))))))))))
theorem mL_87 : Cond.instanceMethod yX12_init ∈ wsL_law := uL_wsL_law_r4 _ (fw_t (fw_t (fw_t (fw_t (fw_t (fw_t (fw_t (fw_t (fw_t (fw_t (fw_t (fw_t (fw_t (fw_t (fw_t fw_h)))))))))))))))
theorem mL_88 : Cond.code yX12_init cX12_init 2 none ∈ wsL_law := uL_wsL_law_r4 _ (fw_t (fw_t (fw_t (fw_t (fw_t (fw_t (fw_t (fw_t (fw_t (fw_t (fw_t (fw_t (fw_t (fw_t (fw_t (fw_t fw_h))))))))))))))))
theorem mL_89 : Cond.methodLink RX12 3 objectInit ∈ wsL_law := uL_wsL_law_r4 _ (fw_t (fw_t (fw_t (fw_t (fw_t (fw_t (fw_t (fw_t (fw_t (fw_t (fw_t (fw_t (fw_t (fw_t (fw_t (fw_t (fw_t fw_h)))))))))))))))))
theorem mL_90 : Cond.fieldLink RX12 9 "CornDeskModel" "now" "[I" ∈ wsL_law := uL_wsL_law_r4 _ (fw_t (fw_t (fw_t (fw_t (fw_t (fw_t (fw_t (fw_t (fw_t (fw_t (fw_t (fw_t (fw_t (fw_t (fw_t (fw_t (fw_t (fw_t fw_h))))))))))))))))))
theorem mL_91 : Cond.fieldLink RX12 13 "CornDeskModel" "kept" "[I" ∈ wsL_law := uL_wsL_law_r4 _ (fw_t (fw_t (fw_t (fw_t (fw_t (fw_t (fw_t (fw_t (fw_t (fw_t (fw_t (fw_t (fw_t (fw_t (fw_t (fw_t (fw_t (fw_t (fw_t fw_h)))))))))))))))))))
theorem mL_92 : Cond.fieldLink RX12 16 "CornDeskModel" "sheetBits" "[I" ∈ wsL_law := uL_wsL_law_r4 _ (fw_t (fw_t (fw_t (fw_t (fw_t (fw_t (fw_t (fw_t (fw_t (fw_t (fw_t (fw_t (fw_t (fw_t (fw_t (fw_t (fw_t (fw_t (fw_t (fw_t fw_h))))))))))))))))))))
theorem mL_93 : Cond.fieldLink RX12 19 "CornDeskModel" "sheetSize" "[I" ∈ wsL_law := uL_wsL_law_r4 _ (fw_t (fw_t (fw_t (fw_t (fw_t (fw_t (fw_t (fw_t (fw_t (fw_t (fw_t (fw_t (fw_t (fw_t (fw_t (fw_t (fw_t (fw_t (fw_t (fw_t (fw_t fw_h)))))))))))))))))))))
theorem mL_94 : Cond.fieldLink RX12 22 "CornDeskModel" "sheets" "[I" ∈ wsL_law := uL_wsL_law_r4 _ (fw_t (fw_t (fw_t (fw_t (fw_t (fw_t (fw_t (fw_t (fw_t (fw_t (fw_t (fw_t (fw_t (fw_t (fw_t (fw_t (fw_t (fw_t (fw_t (fw_t (fw_t (fw_t fw_h))))))))))))))))))))))
theorem mL_95 : Cond.fieldLink RX12 25 "CornDeskModel" "placeX" "[J" ∈ wsL_law := uL_wsL_law_r4 _ (fw_t (fw_t (fw_t (fw_t (fw_t (fw_t (fw_t (fw_t (fw_t (fw_t (fw_t (fw_t (fw_t (fw_t (fw_t (fw_t (fw_t (fw_t (fw_t (fw_t (fw_t (fw_t (fw_t fw_h)))))))))))))))))))))))
theorem uL_wsL_law_r5 : ∀ w ∈ wsL_law_r5, w ∈ wsL_law := fun _ h => (fw_l (fw_l (fw_l (fw_l (fw_l (fw_l (fw_l (fw_l (fw_l (fw_l (fw_l (fw_l (fw_l (fw_l (fw_r (fw_r (fw_r (fw_r (fw_l h)))))))))))))))))))
theorem mL_96 : Cond.fieldLink RX12 29 "CornDeskModel" "placeY" "[J" ∈ wsL_law := uL_wsL_law_r5 _ (fw_h)
theorem mL_97 : Cond.fieldLink RX12 32 "CornDeskModel" "doubts" "[J" ∈ wsL_law := uL_wsL_law_r5 _ (fw_t fw_h)
theorem mL_98 : Cond.fieldLink RX12 35 "CornDeskModel" "groupOf" "[I" ∈ wsL_law := uL_wsL_law_r5 _ (fw_t (fw_t fw_h))
theorem mL_99 : Cond.fieldLink RX12 38 "CornDeskModel" "row" "[I" ∈ wsL_law := uL_wsL_law_r5 _ (fw_t (fw_t (fw_t fw_h)))
theorem mL_100 : Cond.fieldLink RX12 41 "CornDeskModel" "carried" "[I" ∈ wsL_law := uL_wsL_law_r5 _ (fw_t (fw_t (fw_t (fw_t fw_h))))
theorem mL_101 : Cond.methodLink RL 13 yX11_picture ∈ wsL_law := uL_wsL_law_r5 _ (fw_t (fw_t (fw_t (fw_t (fw_t fw_h)))))
theorem mL_102 : Cond.instanceMethod yX11_picture ∈ wsL_law := uL_wsL_law_r5 _ (fw_t (fw_t (fw_t (fw_t (fw_t (fw_t fw_h))))))
theorem mL_103 : Cond.selects RX11 yX11_picture yX11_picture ∈ wsL_law := uL_wsL_law_r5 _ (fw_t (fw_t (fw_t (fw_t (fw_t (fw_t (fw_t fw_h)))))))
theorem mL_104 : Cond.code yX11_picture cX11_picture 1 (some .long) ∈ wsL_law := uL_wsL_law_r5 _ (fw_t (fw_t (fw_t (fw_t (fw_t (fw_t (fw_t (fw_t fw_h))))))))
theorem mL_105 : Cond.fieldLink RX11 69 "CornDesk" "pictureCount" "I" ∈ wsL_law := uL_wsL_law_r5 _ (fw_t (fw_t (fw_t (fw_t (fw_t (fw_t (fw_t (fw_t (fw_t fw_h)))))))))
theorem mL_106 : Cond.constantLong RX11 73 (-1000000005) ∈ wsL_law := uL_wsL_law_r5 _ (fw_t (fw_t (fw_t (fw_t (fw_t (fw_t (fw_t (fw_t (fw_t (fw_t fw_h))))))))))
theorem mL_107 : Cond.instantiable RX7 3 ∈ wsL_law := uL_wsL_law_r5 _ (fw_t (fw_t (fw_t (fw_t (fw_t (fw_t (fw_t (fw_t (fw_t (fw_t (fw_t fw_h)))))))))))
theorem mL_108 : Cond.initialized RX7 ∈ wsL_law := uL_wsL_law_r5 _ (fw_t (fw_t (fw_t (fw_t (fw_t (fw_t (fw_t (fw_t (fw_t (fw_t (fw_t (fw_t fw_h))))))))))))
theorem mL_109 : Cond.methodLink RX11 75 yX11_told ∈ wsL_law := uL_wsL_law_r5 _ (fw_t (fw_t (fw_t (fw_t (fw_t (fw_t (fw_t (fw_t (fw_t (fw_t (fw_t (fw_t (fw_t fw_h)))))))))))))
theorem mL_110 : Cond.instanceMethod yX11_told ∈ wsL_law := uL_wsL_law_r5 _ (fw_t (fw_t (fw_t (fw_t (fw_t (fw_t (fw_t (fw_t (fw_t (fw_t (fw_t (fw_t (fw_t (fw_t fw_h))))))))))))))
theorem mL_111 : Cond.selects RX11 yX11_told yX11_told ∈ wsL_law := uL_wsL_law_r5 _ (fw_t (fw_t (fw_t (fw_t (fw_t (fw_t (fw_t (fw_t (fw_t (fw_t (fw_t (fw_t (fw_t (fw_t (fw_t fw_h)))))))))))))))
theorem mL_112 : Cond.code yX11_told cX11_told 3 (some .long) ∈ wsL_law := uL_wsL_law_r5 _ (fw_t (fw_t (fw_t (fw_t (fw_t (fw_t (fw_t (fw_t (fw_t (fw_t (fw_t (fw_t (fw_t (fw_t (fw_t (fw_t fw_h))))))))))))))))
theorem mL_113 : Cond.constantLong RX11 335 (-1000000000) ∈ wsL_law := uL_wsL_law_r5 _ (fw_t (fw_t (fw_t (fw_t (fw_t (fw_t (fw_t (fw_t (fw_t (fw_t (fw_t (fw_t (fw_t (fw_t (fw_t (fw_t (fw_t fw_h)))))))))))))))))
theorem mL_114 : Cond.fieldLink RX11 331 "CornDesk" "findings" "J" ∈ wsL_law := uL_wsL_law_r5 _ (fw_t (fw_t (fw_t (fw_t (fw_t (fw_t (fw_t (fw_t (fw_t (fw_t (fw_t (fw_t (fw_t (fw_t (fw_t (fw_t (fw_t (fw_t fw_h))))))))))))))))))
theorem mL_115 : Cond.methodLink RX11 79 yX6_keep ∈ wsL_law := uL_wsL_law_r5 _ (fw_t (fw_t (fw_t (fw_t (fw_t (fw_t (fw_t (fw_t (fw_t (fw_t (fw_t (fw_t (fw_t (fw_t (fw_t (fw_t (fw_t (fw_t (fw_t fw_h)))))))))))))))))))
theorem mL_116 : Cond.instanceMethod yX6_keep ∈ wsL_law := uL_wsL_law_r5 _ (fw_t (fw_t (fw_t (fw_t (fw_t (fw_t (fw_t (fw_t (fw_t (fw_t (fw_t (fw_t (fw_t (fw_t (fw_t (fw_t (fw_t (fw_t (fw_t (fw_t fw_h))))))))))))))))))))
theorem mL_117 : Cond.selects RX6 yX6_keep yX6_keep ∈ wsL_law := uL_wsL_law_r5 _ (fw_t (fw_t (fw_t (fw_t (fw_t (fw_t (fw_t (fw_t (fw_t (fw_t (fw_t (fw_t (fw_t (fw_t (fw_t (fw_t (fw_t (fw_t (fw_t (fw_t (fw_t fw_h)))))))))))))))))))))
theorem mL_118 : Cond.code yX6_keep cX6_keep 4 (some (.object "CornDesk$Step")) ∈ wsL_law := uL_wsL_law_r5 _ (fw_t (fw_t (fw_t (fw_t (fw_t (fw_t (fw_t (fw_t (fw_t (fw_t (fw_t (fw_t (fw_t (fw_t (fw_t (fw_t (fw_t (fw_t (fw_t (fw_t (fw_t (fw_t fw_h))))))))))))))))))))))
theorem mL_119 : Cond.fieldLink RX6 22 "CornDesk$Past" "next" "I" ∈ wsL_law := uL_wsL_law_r5 _ (fw_t (fw_t (fw_t (fw_t (fw_t (fw_t (fw_t (fw_t (fw_t (fw_t (fw_t (fw_t (fw_t (fw_t (fw_t (fw_t (fw_t (fw_t (fw_t (fw_t (fw_t (fw_t (fw_t fw_h)))))))))))))))))))))))
theorem uL_wsL_law_r6 : ∀ w ∈ wsL_law_r6, w ∈ wsL_law := fun _ h => (fw_l (fw_l (fw_l (fw_l (fw_l (fw_l (fw_l (fw_l (fw_l (fw_l (fw_l (fw_l (fw_l (fw_l (fw_r (fw_r (fw_r (fw_r (fw_r (fw_l h))))))))))))))))))))
theorem mL_120 : Cond.fieldLink RX6 18 "CornDesk$Past" "kept" "I" ∈ wsL_law := uL_wsL_law_r6 _ (fw_h)
theorem mL_121 : Cond.methodLink RX6 31 Lib.Math.min.name ∈ wsL_law := uL_wsL_law_r6 _ (fw_t fw_h)
theorem mL_122 : Cond.static Lib.Math.min.name ∈ wsL_law := uL_wsL_law_r6 _ (fw_t (fw_t fw_h))
theorem mL_123 : Cond.initialized "java/lang/Math" ∈ wsL_law := uL_wsL_law_r6 _ (fw_t (fw_t (fw_t fw_h)))
theorem mL_124 : Cond.code Lib.Math.min.name Lib.Math.min.code 2 (some .int) ∈ wsL_law := uL_wsL_law_r6 _ (fw_t (fw_t (fw_t (fw_t fw_h))))
theorem mL_125 : Cond.methodLink RX11 83 yX7_init ∈ wsL_law := uL_wsL_law_r6 _ (fw_t (fw_t (fw_t (fw_t (fw_t fw_h)))))
theorem mL_126 : Cond.instanceMethod yX7_init ∈ wsL_law := uL_wsL_law_r6 _ (fw_t (fw_t (fw_t (fw_t (fw_t (fw_t fw_h))))))
theorem mL_127 : Cond.code yX7_init cX7_init 2 none ∈ wsL_law := uL_wsL_law_r6 _ (fw_t (fw_t (fw_t (fw_t (fw_t (fw_t (fw_t fw_h)))))))
theorem mL_128 : Cond.methodLink RX7 1 objectInit ∈ wsL_law := uL_wsL_law_r6 _ (fw_t (fw_t (fw_t (fw_t (fw_t (fw_t (fw_t (fw_t fw_h))))))))
theorem mL_129 : Cond.classLink RX7 7 RX4 ∈ wsL_law := uL_wsL_law_r6 _ (fw_t (fw_t (fw_t (fw_t (fw_t (fw_t (fw_t (fw_t (fw_t fw_h)))))))))
theorem mL_130 : Cond.instantiable RX4 8 ∈ wsL_law := uL_wsL_law_r6 _ (fw_t (fw_t (fw_t (fw_t (fw_t (fw_t (fw_t (fw_t (fw_t (fw_t fw_h))))))))))
theorem mL_131 : Cond.initialized RX4 ∈ wsL_law := uL_wsL_law_r6 _ (fw_t (fw_t (fw_t (fw_t (fw_t (fw_t (fw_t (fw_t (fw_t (fw_t (fw_t fw_h)))))))))))
theorem mL_132 : Cond.fieldLink RX7 10 "CornDesk$Picture" "alongX" "LCornDesk$Line;" ∈ wsL_law := uL_wsL_law_r6 _ (fw_t (fw_t (fw_t (fw_t (fw_t (fw_t (fw_t (fw_t (fw_t (fw_t (fw_t (fw_t fw_h))))))))))))
theorem mL_133 : Cond.fieldLink RX7 16 "CornDesk$Picture" "alongY" "LCornDesk$Line;" ∈ wsL_law := uL_wsL_law_r6 _ (fw_t (fw_t (fw_t (fw_t (fw_t (fw_t (fw_t (fw_t (fw_t (fw_t (fw_t (fw_t (fw_t fw_h)))))))))))))
theorem mL_134 : Cond.fieldLink RX7 19 "CornDesk$Picture" "number" "I" ∈ wsL_law := uL_wsL_law_r6 _ (fw_t (fw_t (fw_t (fw_t (fw_t (fw_t (fw_t (fw_t (fw_t (fw_t (fw_t (fw_t (fw_t (fw_t fw_h))))))))))))))
theorem mL_135 : Cond.instanceMethod yX4_init ∈ wsL_law := uL_wsL_law_r6 _ (fw_t (fw_t (fw_t (fw_t (fw_t (fw_t (fw_t (fw_t (fw_t (fw_t (fw_t (fw_t (fw_t (fw_t (fw_t fw_h)))))))))))))))
theorem mL_136 : Cond.code yX4_init cX4_init 1 none ∈ wsL_law := uL_wsL_law_r6 _ (fw_t (fw_t (fw_t (fw_t (fw_t (fw_t (fw_t (fw_t (fw_t (fw_t (fw_t (fw_t (fw_t (fw_t (fw_t (fw_t fw_h))))))))))))))))
theorem mL_137 : Cond.methodLink RX4 3 objectInit ∈ wsL_law := uL_wsL_law_r6 _ (fw_t (fw_t (fw_t (fw_t (fw_t (fw_t (fw_t (fw_t (fw_t (fw_t (fw_t (fw_t (fw_t (fw_t (fw_t (fw_t (fw_t fw_h)))))))))))))))))
theorem mL_138 : Cond.fieldLink RX4 9 "CornDesk$Line" "from" "[I" ∈ wsL_law := uL_wsL_law_r6 _ (fw_t (fw_t (fw_t (fw_t (fw_t (fw_t (fw_t (fw_t (fw_t (fw_t (fw_t (fw_t (fw_t (fw_t (fw_t (fw_t (fw_t (fw_t fw_h))))))))))))))))))
theorem mL_139 : Cond.fieldLink RX4 15 "CornDesk$Line" "to" "[I" ∈ wsL_law := uL_wsL_law_r6 _ (fw_t (fw_t (fw_t (fw_t (fw_t (fw_t (fw_t (fw_t (fw_t (fw_t (fw_t (fw_t (fw_t (fw_t (fw_t (fw_t (fw_t (fw_t (fw_t fw_h)))))))))))))))))))
theorem mL_140 : Cond.methodLink RL 17 yX12_picture ∈ wsL_law := uL_wsL_law_r6 _ (fw_t (fw_t (fw_t (fw_t (fw_t (fw_t (fw_t (fw_t (fw_t (fw_t (fw_t (fw_t (fw_t (fw_t (fw_t (fw_t (fw_t (fw_t (fw_t (fw_t fw_h))))))))))))))))))))
theorem mL_141 : Cond.instanceMethod yX12_picture ∈ wsL_law := uL_wsL_law_r6 _ (fw_t (fw_t (fw_t (fw_t (fw_t (fw_t (fw_t (fw_t (fw_t (fw_t (fw_t (fw_t (fw_t (fw_t (fw_t (fw_t (fw_t (fw_t (fw_t (fw_t (fw_t fw_h)))))))))))))))))))))
theorem mL_142 : Cond.selects RX12 yX12_picture yX12_picture ∈ wsL_law := uL_wsL_law_r6 _ (fw_t (fw_t (fw_t (fw_t (fw_t (fw_t (fw_t (fw_t (fw_t (fw_t (fw_t (fw_t (fw_t (fw_t (fw_t (fw_t (fw_t (fw_t (fw_t (fw_t (fw_t (fw_t fw_h))))))))))))))))))))))
theorem mL_143 : Cond.code yX12_picture cX12_picture 1 (some .long) ∈ wsL_law := uL_wsL_law_r6 _ (fw_t (fw_t (fw_t (fw_t (fw_t (fw_t (fw_t (fw_t (fw_t (fw_t (fw_t (fw_t (fw_t (fw_t (fw_t (fw_t (fw_t (fw_t (fw_t (fw_t (fw_t (fw_t (fw_t fw_h)))))))))))))))))))))))
theorem uL_wsL_law_r7 : ∀ w ∈ wsL_law_r7, w ∈ wsL_law := fun _ h => (fw_l (fw_l (fw_l (fw_l (fw_l (fw_l (fw_l (fw_l (fw_l (fw_l (fw_l (fw_l (fw_l (fw_l (fw_r (fw_r (fw_r (fw_r (fw_r (fw_r (fw_l h)))))))))))))))))))))
theorem mL_144 : Cond.constantLong RX12 64 (-1000000005) ∈ wsL_law := uL_wsL_law_r7 _ (fw_h)
theorem mL_145 : Cond.methodLink RX12 56 yX12_finds ∈ wsL_law := uL_wsL_law_r7 _ (fw_t fw_h)
theorem mL_146 : Cond.instanceMethod yX12_finds ∈ wsL_law := uL_wsL_law_r7 _ (fw_t (fw_t fw_h))
theorem mL_147 : Cond.selects RX12 yX12_finds yX12_finds ∈ wsL_law := uL_wsL_law_r7 _ (fw_t (fw_t (fw_t fw_h)))
theorem mL_148 : Cond.code yX12_finds cX12_finds 3 (some .long) ∈ wsL_law := uL_wsL_law_r7 _ (fw_t (fw_t (fw_t (fw_t fw_h))))
theorem mL_149 : Cond.fieldLink RX12 44 "CornDeskModel" "findings" "I" ∈ wsL_law := uL_wsL_law_r7 _ (fw_t (fw_t (fw_t (fw_t (fw_t fw_h)))))
theorem mL_150 : Cond.methodLink RX12 66 yX12_keep ∈ wsL_law := uL_wsL_law_r7 _ (fw_t (fw_t (fw_t (fw_t (fw_t (fw_t fw_h))))))
theorem mL_151 : Cond.instanceMethod yX12_keep ∈ wsL_law := uL_wsL_law_r7 _ (fw_t (fw_t (fw_t (fw_t (fw_t (fw_t (fw_t fw_h)))))))
theorem mL_152 : Cond.selects RX12 yX12_keep yX12_keep ∈ wsL_law := uL_wsL_law_r7 _ (fw_t (fw_t (fw_t (fw_t (fw_t (fw_t (fw_t (fw_t fw_h))))))))
theorem mL_153 : Cond.code yX12_keep cX12_keep 2 none ∈ wsL_law := uL_wsL_law_r7 _ (fw_t (fw_t (fw_t (fw_t (fw_t (fw_t (fw_t (fw_t (fw_t fw_h)))))))))
theorem mL_154 : Cond.fieldLink RX12 48 "CornDeskModel" "keptEnd" "I" ∈ wsL_law := uL_wsL_law_r7 _ (fw_t (fw_t (fw_t (fw_t (fw_t (fw_t (fw_t (fw_t (fw_t (fw_t fw_h))))))))))
theorem mL_155 : Cond.fieldLink RX12 51 "CornDeskModel" "keptMany" "I" ∈ wsL_law := uL_wsL_law_r7 _ (fw_t (fw_t (fw_t (fw_t (fw_t (fw_t (fw_t (fw_t (fw_t (fw_t (fw_t fw_h)))))))))))
theorem mL_156 : Cond.methodLink RL 18 yX11_place ∈ wsL_law := uL_wsL_law_r7 _ (fw_t (fw_t (fw_t (fw_t (fw_t (fw_t (fw_t (fw_t (fw_t (fw_t (fw_t (fw_t fw_h))))))))))))
theorem mL_157 : Cond.instanceMethod yX11_place ∈ wsL_law := uL_wsL_law_r7 _ (fw_t (fw_t (fw_t (fw_t (fw_t (fw_t (fw_t (fw_t (fw_t (fw_t (fw_t (fw_t (fw_t fw_h)))))))))))))
theorem mL_158 : Cond.selects RX11 yX11_place yX11_place ∈ wsL_law := uL_wsL_law_r7 _ (fw_t (fw_t (fw_t (fw_t (fw_t (fw_t (fw_t (fw_t (fw_t (fw_t (fw_t (fw_t (fw_t (fw_t fw_h))))))))))))))
theorem mL_159 : Cond.code yX11_place cX11_place 7 (some .long) ∈ wsL_law := uL_wsL_law_r7 _ (fw_t (fw_t (fw_t (fw_t (fw_t (fw_t (fw_t (fw_t (fw_t (fw_t (fw_t (fw_t (fw_t (fw_t (fw_t fw_h)))))))))))))))
theorem mL_160 : Cond.constantLong RX11 94 (-1000000001) ∈ wsL_law := uL_wsL_law_r7 _ (fw_t (fw_t (fw_t (fw_t (fw_t (fw_t (fw_t (fw_t (fw_t (fw_t (fw_t (fw_t (fw_t (fw_t (fw_t (fw_t fw_h))))))))))))))))
theorem mL_161 : Cond.methodLink RX11 86 yX11_pictureAt ∈ wsL_law := uL_wsL_law_r7 _ (fw_t (fw_t (fw_t (fw_t (fw_t (fw_t (fw_t (fw_t (fw_t (fw_t (fw_t (fw_t (fw_t (fw_t (fw_t (fw_t (fw_t fw_h)))))))))))))))))
theorem mL_162 : Cond.instanceMethod yX11_pictureAt ∈ wsL_law := uL_wsL_law_r7 _ (fw_t (fw_t (fw_t (fw_t (fw_t (fw_t (fw_t (fw_t (fw_t (fw_t (fw_t (fw_t (fw_t (fw_t (fw_t (fw_t (fw_t (fw_t fw_h))))))))))))))))))
theorem mL_163 : Cond.selects RX11 yX11_pictureAt yX11_pictureAt ∈ wsL_law := uL_wsL_law_r7 _ (fw_t (fw_t (fw_t (fw_t (fw_t (fw_t (fw_t (fw_t (fw_t (fw_t (fw_t (fw_t (fw_t (fw_t (fw_t (fw_t (fw_t (fw_t (fw_t fw_h)))))))))))))))))))
theorem mL_164 : Cond.code yX11_pictureAt cX11_pictureAt 2 (some (.object "CornDesk$Picture")) ∈ wsL_law := uL_wsL_law_r7 _ (fw_t (fw_t (fw_t (fw_t (fw_t (fw_t (fw_t (fw_t (fw_t (fw_t (fw_t (fw_t (fw_t (fw_t (fw_t (fw_t (fw_t (fw_t (fw_t (fw_t fw_h))))))))))))))))))))
theorem mL_165 : Cond.methodLink RX11 90 yX11_isSpot ∈ wsL_law := uL_wsL_law_r7 _ (fw_t (fw_t (fw_t (fw_t (fw_t (fw_t (fw_t (fw_t (fw_t (fw_t (fw_t (fw_t (fw_t (fw_t (fw_t (fw_t (fw_t (fw_t (fw_t (fw_t (fw_t fw_h)))))))))))))))))))))
theorem mL_166 : Cond.static yX11_isSpot ∈ wsL_law := uL_wsL_law_r7 _ (fw_t (fw_t (fw_t (fw_t (fw_t (fw_t (fw_t (fw_t (fw_t (fw_t (fw_t (fw_t (fw_t (fw_t (fw_t (fw_t (fw_t (fw_t (fw_t (fw_t (fw_t (fw_t fw_h))))))))))))))))))))))
theorem mL_167 : Cond.code yX11_isSpot cX11_isSpot 1 (some .boolean) ∈ wsL_law := uL_wsL_law_r7 _ (fw_t (fw_t (fw_t (fw_t (fw_t (fw_t (fw_t (fw_t (fw_t (fw_t (fw_t (fw_t (fw_t (fw_t (fw_t (fw_t (fw_t (fw_t (fw_t (fw_t (fw_t (fw_t (fw_t fw_h)))))))))))))))))))))))
theorem uL_wsL_law_r8 : ∀ w ∈ wsL_law_r8, w ∈ wsL_law := fun _ h => (fw_l (fw_l (fw_l (fw_l (fw_l (fw_l (fw_l (fw_l (fw_l (fw_l (fw_l (fw_l (fw_l (fw_l (fw_r (fw_r (fw_r (fw_r (fw_r (fw_r (fw_r (fw_l h))))))))))))))))))))))
theorem mL_168 : Cond.methodLink RX11 230 yX11_isWithin ∈ wsL_law := uL_wsL_law_r8 _ (fw_h)
theorem mL_169 : Cond.static yX11_isWithin ∈ wsL_law := uL_wsL_law_r8 _ (fw_t fw_h)
theorem mL_170 : Cond.code yX11_isWithin cX11_isWithin 3 (some .boolean) ∈ wsL_law := uL_wsL_law_r8 _ (fw_t (fw_t fw_h))
theorem mL_171 : Cond.methodLink RX11 96 yX7_size ∈ wsL_law := uL_wsL_law_r8 _ (fw_t (fw_t (fw_t fw_h)))
theorem mL_172 : Cond.instanceMethod yX7_size ∈ wsL_law := uL_wsL_law_r8 _ (fw_t (fw_t (fw_t (fw_t fw_h))))
theorem mL_173 : Cond.selects RX7 yX7_size yX7_size ∈ wsL_law := uL_wsL_law_r8 _ (fw_t (fw_t (fw_t (fw_t (fw_t fw_h)))))
theorem mL_174 : Cond.code yX7_size cX7_size 1 (some .int) ∈ wsL_law := uL_wsL_law_r8 _ (fw_t (fw_t (fw_t (fw_t (fw_t (fw_t fw_h))))))
theorem mL_175 : Cond.methodLink RX7 23 yX4_size ∈ wsL_law := uL_wsL_law_r8 _ (fw_t (fw_t (fw_t (fw_t (fw_t (fw_t (fw_t fw_h)))))))
theorem mL_176 : Cond.instanceMethod yX4_size ∈ wsL_law := uL_wsL_law_r8 _ (fw_t (fw_t (fw_t (fw_t (fw_t (fw_t (fw_t (fw_t fw_h))))))))
theorem mL_177 : Cond.selects RX4 yX4_size yX4_size ∈ wsL_law := uL_wsL_law_r8 _ (fw_t (fw_t (fw_t (fw_t (fw_t (fw_t (fw_t (fw_t (fw_t fw_h)))))))))
theorem mL_178 : Cond.code yX4_size cX4_size 1 (some .int) ∈ wsL_law := uL_wsL_law_r8 _ (fw_t (fw_t (fw_t (fw_t (fw_t (fw_t (fw_t (fw_t (fw_t (fw_t fw_h))))))))))
theorem mL_179 : Cond.fieldLink RX4 18 "CornDesk$Line" "count" "I" ∈ wsL_law := uL_wsL_law_r8 _ (fw_t (fw_t (fw_t (fw_t (fw_t (fw_t (fw_t (fw_t (fw_t (fw_t (fw_t fw_h)))))))))))
theorem mL_180 : Cond.methodLink RX11 100 yX7_addPlace ∈ wsL_law := uL_wsL_law_r8 _ (fw_t (fw_t (fw_t (fw_t (fw_t (fw_t (fw_t (fw_t (fw_t (fw_t (fw_t (fw_t fw_h))))))))))))
theorem mL_181 : Cond.instanceMethod yX7_addPlace ∈ wsL_law := uL_wsL_law_r8 _ (fw_t (fw_t (fw_t (fw_t (fw_t (fw_t (fw_t (fw_t (fw_t (fw_t (fw_t (fw_t (fw_t fw_h)))))))))))))
theorem mL_182 : Cond.selects RX7 yX7_addPlace yX7_addPlace ∈ wsL_law := uL_wsL_law_r8 _ (fw_t (fw_t (fw_t (fw_t (fw_t (fw_t (fw_t (fw_t (fw_t (fw_t (fw_t (fw_t (fw_t (fw_t fw_h))))))))))))))
theorem mL_183 : Cond.code yX7_addPlace cX7_addPlace 5 none ∈ wsL_law := uL_wsL_law_r8 _ (fw_t (fw_t (fw_t (fw_t (fw_t (fw_t (fw_t (fw_t (fw_t (fw_t (fw_t (fw_t (fw_t (fw_t (fw_t fw_h)))))))))))))))
theorem mL_184 : Cond.methodLink RX7 27 yX4_add ∈ wsL_law := uL_wsL_law_r8 _ (fw_t (fw_t (fw_t (fw_t (fw_t (fw_t (fw_t (fw_t (fw_t (fw_t (fw_t (fw_t (fw_t (fw_t (fw_t (fw_t fw_h))))))))))))))))
theorem mL_185 : Cond.instanceMethod yX4_add ∈ wsL_law := uL_wsL_law_r8 _ (fw_t (fw_t (fw_t (fw_t (fw_t (fw_t (fw_t (fw_t (fw_t (fw_t (fw_t (fw_t (fw_t (fw_t (fw_t (fw_t (fw_t fw_h)))))))))))))))))
theorem mL_186 : Cond.selects RX4 yX4_add yX4_add ∈ wsL_law := uL_wsL_law_r8 _ (fw_t (fw_t (fw_t (fw_t (fw_t (fw_t (fw_t (fw_t (fw_t (fw_t (fw_t (fw_t (fw_t (fw_t (fw_t (fw_t (fw_t (fw_t fw_h))))))))))))))))))
theorem mL_187 : Cond.code yX4_add cX4_add 3 none ∈ wsL_law := uL_wsL_law_r8 _ (fw_t (fw_t (fw_t (fw_t (fw_t (fw_t (fw_t (fw_t (fw_t (fw_t (fw_t (fw_t (fw_t (fw_t (fw_t (fw_t (fw_t (fw_t (fw_t fw_h)))))))))))))))))))
theorem mL_188 : Cond.methodLink RX4 22 yX4_fit ∈ wsL_law := uL_wsL_law_r8 _ (fw_t (fw_t (fw_t (fw_t (fw_t (fw_t (fw_t (fw_t (fw_t (fw_t (fw_t (fw_t (fw_t (fw_t (fw_t (fw_t (fw_t (fw_t (fw_t (fw_t fw_h))))))))))))))))))))
theorem mL_189 : Cond.instanceMethod yX4_fit ∈ wsL_law := uL_wsL_law_r8 _ (fw_t (fw_t (fw_t (fw_t (fw_t (fw_t (fw_t (fw_t (fw_t (fw_t (fw_t (fw_t (fw_t (fw_t (fw_t (fw_t (fw_t (fw_t (fw_t (fw_t (fw_t fw_h)))))))))))))))))))))
theorem mL_190 : Cond.selects RX4 yX4_fit yX4_fit ∈ wsL_law := uL_wsL_law_r8 _ (fw_t (fw_t (fw_t (fw_t (fw_t (fw_t (fw_t (fw_t (fw_t (fw_t (fw_t (fw_t (fw_t (fw_t (fw_t (fw_t (fw_t (fw_t (fw_t (fw_t (fw_t (fw_t fw_h))))))))))))))))))))))
theorem mL_191 : Cond.code yX4_fit cX4_fit 12 none ∈ wsL_law := uL_wsL_law_r8 _ (fw_t (fw_t (fw_t (fw_t (fw_t (fw_t (fw_t (fw_t (fw_t (fw_t (fw_t (fw_t (fw_t (fw_t (fw_t (fw_t (fw_t (fw_t (fw_t (fw_t (fw_t (fw_t (fw_t fw_h)))))))))))))))))))))))
theorem uL_wsL_law_r9 : ∀ w ∈ wsL_law_r9, w ∈ wsL_law := fun _ h => (fw_l (fw_l (fw_l (fw_l (fw_l (fw_l (fw_l (fw_l (fw_l (fw_l (fw_l (fw_l (fw_l (fw_l (fw_r (fw_r (fw_r (fw_r (fw_r (fw_r (fw_r (fw_r (fw_l h)))))))))))))))))))))))
theorem mL_192 : Cond.fieldLink RX4 25 "CornDesk$Line" "spread" "J" ∈ wsL_law := uL_wsL_law_r9 _ (fw_h)
theorem mL_193 : Cond.fieldLink RX4 45 "CornDesk$Line" "spreadTo" "J" ∈ wsL_law := uL_wsL_law_r9 _ (fw_t fw_h)
theorem mL_194 : Cond.fieldLink RX4 32 "CornDesk$Line" "slope" "J" ∈ wsL_law := uL_wsL_law_r9 _ (fw_t (fw_t fw_h))
theorem mL_195 : Cond.fieldLink RX4 29 "CornDesk$Line" "base" "J" ∈ wsL_law := uL_wsL_law_r9 _ (fw_t (fw_t (fw_t fw_h)))
theorem mL_196 : Cond.methodLink RX4 51 yX4_measureWorst ∈ wsL_law := uL_wsL_law_r9 _ (fw_t (fw_t (fw_t (fw_t fw_h))))
theorem mL_197 : Cond.instanceMethod yX4_measureWorst ∈ wsL_law := uL_wsL_law_r9 _ (fw_t (fw_t (fw_t (fw_t (fw_t fw_h)))))
theorem mL_198 : Cond.selects RX4 yX4_measureWorst yX4_measureWorst ∈ wsL_law := uL_wsL_law_r9 _ (fw_t (fw_t (fw_t (fw_t (fw_t (fw_t fw_h))))))
theorem mL_199 : Cond.code yX4_measureWorst cX4_measureWorst 4 none ∈ wsL_law := uL_wsL_law_r9 _ (fw_t (fw_t (fw_t (fw_t (fw_t (fw_t (fw_t fw_h)))))))
theorem mL_200 : Cond.fieldLink RX4 48 "CornDesk$Line" "worst" "J" ∈ wsL_law := uL_wsL_law_r9 _ (fw_t (fw_t (fw_t (fw_t (fw_t (fw_t (fw_t (fw_t fw_h))))))))
theorem mL_201 : Cond.methodLink RX4 54 Lib.MathLoose.abs_long.x ∈ wsL_law := uL_wsL_law_r9 _ (fw_t (fw_t (fw_t (fw_t (fw_t (fw_t (fw_t (fw_t (fw_t fw_h)))))))))
theorem mL_202 : Cond.static Lib.MathLoose.abs_long.x ∈ wsL_law := uL_wsL_law_r9 _ (fw_t (fw_t (fw_t (fw_t (fw_t (fw_t (fw_t (fw_t (fw_t (fw_t fw_h))))))))))
theorem mL_203 : Cond.code Lib.MathLoose.abs_long.x Lib.MathLoose.abs_long.code 2 (some .long) ∈ wsL_law := uL_wsL_law_r9 _ (fw_t (fw_t (fw_t (fw_t (fw_t (fw_t (fw_t (fw_t (fw_t (fw_t (fw_t fw_h)))))))))))
theorem mL_204 : Cond.methodLink RX4 58 Lib.MathLoose.max_long.x ∈ wsL_law := uL_wsL_law_r9 _ (fw_t (fw_t (fw_t (fw_t (fw_t (fw_t (fw_t (fw_t (fw_t (fw_t (fw_t (fw_t fw_h))))))))))))
theorem mL_205 : Cond.static Lib.MathLoose.max_long.x ∈ wsL_law := uL_wsL_law_r9 _ (fw_t (fw_t (fw_t (fw_t (fw_t (fw_t (fw_t (fw_t (fw_t (fw_t (fw_t (fw_t (fw_t fw_h)))))))))))))
theorem mL_206 : Cond.code Lib.MathLoose.max_long.x Lib.MathLoose.max_long.code 4 (some .long) ∈ wsL_law := uL_wsL_law_r9 _ (fw_t (fw_t (fw_t (fw_t (fw_t (fw_t (fw_t (fw_t (fw_t (fw_t (fw_t (fw_t (fw_t (fw_t fw_h))))))))))))))
theorem mL_207 : Cond.methodLink RX4 35 yX4_upperAt ∈ wsL_law := uL_wsL_law_r9 _ (fw_t (fw_t (fw_t (fw_t (fw_t (fw_t (fw_t (fw_t (fw_t (fw_t (fw_t (fw_t (fw_t (fw_t (fw_t fw_h)))))))))))))))
theorem mL_208 : Cond.instanceMethod yX4_upperAt ∈ wsL_law := uL_wsL_law_r9 _ (fw_t (fw_t (fw_t (fw_t (fw_t (fw_t (fw_t (fw_t (fw_t (fw_t (fw_t (fw_t (fw_t (fw_t (fw_t (fw_t fw_h))))))))))))))))
theorem mL_209 : Cond.selects RX4 yX4_upperAt yX4_upperAt ∈ wsL_law := uL_wsL_law_r9 _ (fw_t (fw_t (fw_t (fw_t (fw_t (fw_t (fw_t (fw_t (fw_t (fw_t (fw_t (fw_t (fw_t (fw_t (fw_t (fw_t (fw_t fw_h)))))))))))))))))
theorem mL_210 : Cond.code yX4_upperAt cX4_upperAt 2 (some .long) ∈ wsL_law := uL_wsL_law_r9 _ (fw_t (fw_t (fw_t (fw_t (fw_t (fw_t (fw_t (fw_t (fw_t (fw_t (fw_t (fw_t (fw_t (fw_t (fw_t (fw_t (fw_t (fw_t fw_h))))))))))))))))))
theorem mL_211 : Cond.methodLink RL 22 yX12_place ∈ wsL_law := uL_wsL_law_r9 _ (fw_t (fw_t (fw_t (fw_t (fw_t (fw_t (fw_t (fw_t (fw_t (fw_t (fw_t (fw_t (fw_t (fw_t (fw_t (fw_t (fw_t (fw_t (fw_t fw_h)))))))))))))))))))
theorem mL_212 : Cond.instanceMethod yX12_place ∈ wsL_law := uL_wsL_law_r9 _ (fw_t (fw_t (fw_t (fw_t (fw_t (fw_t (fw_t (fw_t (fw_t (fw_t (fw_t (fw_t (fw_t (fw_t (fw_t (fw_t (fw_t (fw_t (fw_t (fw_t fw_h))))))))))))))))))))
theorem mL_213 : Cond.selects RX12 yX12_place yX12_place ∈ wsL_law := uL_wsL_law_r9 _ (fw_t (fw_t (fw_t (fw_t (fw_t (fw_t (fw_t (fw_t (fw_t (fw_t (fw_t (fw_t (fw_t (fw_t (fw_t (fw_t (fw_t (fw_t (fw_t (fw_t (fw_t fw_h)))))))))))))))))))))
theorem mL_214 : Cond.code yX12_place cX12_place 8 (some .long) ∈ wsL_law := uL_wsL_law_r9 _ (fw_t (fw_t (fw_t (fw_t (fw_t (fw_t (fw_t (fw_t (fw_t (fw_t (fw_t (fw_t (fw_t (fw_t (fw_t (fw_t (fw_t (fw_t (fw_t (fw_t (fw_t (fw_t fw_h))))))))))))))))))))))
theorem mL_215 : Cond.constantLong RX12 76 (-1000000001) ∈ wsL_law := uL_wsL_law_r9 _ (fw_t (fw_t (fw_t (fw_t (fw_t (fw_t (fw_t (fw_t (fw_t (fw_t (fw_t (fw_t (fw_t (fw_t (fw_t (fw_t (fw_t (fw_t (fw_t (fw_t (fw_t (fw_t (fw_t fw_h)))))))))))))))))))))))
theorem uL_wsL_law_r10 : ∀ w ∈ wsL_law_r10, w ∈ wsL_law := fun _ h => (fw_l (fw_l (fw_l (fw_l (fw_l (fw_l (fw_l (fw_l (fw_l (fw_l (fw_l (fw_l (fw_l (fw_l (fw_r (fw_r (fw_r (fw_r (fw_r (fw_r (fw_r (fw_r (fw_r (fw_l h))))))))))))))))))))))))
theorem mL_216 : Cond.methodLink RX12 69 yX12_isPicture ∈ wsL_law := uL_wsL_law_r10 _ (fw_h)
theorem mL_217 : Cond.instanceMethod yX12_isPicture ∈ wsL_law := uL_wsL_law_r10 _ (fw_t fw_h)
theorem mL_218 : Cond.selects RX12 yX12_isPicture yX12_isPicture ∈ wsL_law := uL_wsL_law_r10 _ (fw_t (fw_t fw_h))
theorem mL_219 : Cond.code yX12_isPicture cX12_isPicture 2 (some .boolean) ∈ wsL_law := uL_wsL_law_r10 _ (fw_t (fw_t (fw_t fw_h)))
theorem mL_220 : Cond.methodLink RX12 60 yX12_in ∈ wsL_law := uL_wsL_law_r10 _ (fw_t (fw_t (fw_t (fw_t fw_h))))
theorem mL_221 : Cond.static yX12_in ∈ wsL_law := uL_wsL_law_r10 _ (fw_t (fw_t (fw_t (fw_t (fw_t fw_h)))))
theorem mL_222 : Cond.code yX12_in cX12_in 3 (some .boolean) ∈ wsL_law := uL_wsL_law_r10 _ (fw_t (fw_t (fw_t (fw_t (fw_t (fw_t fw_h))))))
theorem mL_223 : Cond.methodLink RX12 73 yX12_isNumber ∈ wsL_law := uL_wsL_law_r10 _ (fw_t (fw_t (fw_t (fw_t (fw_t (fw_t (fw_t fw_h)))))))
theorem mL_224 : Cond.static yX12_isNumber ∈ wsL_law := uL_wsL_law_r10 _ (fw_t (fw_t (fw_t (fw_t (fw_t (fw_t (fw_t (fw_t fw_h))))))))
theorem mL_225 : Cond.code yX12_isNumber cX12_isNumber 1 (some .boolean) ∈ wsL_law := uL_wsL_law_r10 _ (fw_t (fw_t (fw_t (fw_t (fw_t (fw_t (fw_t (fw_t (fw_t fw_h)))))))))
theorem mL_226 : Cond.methodLink RL 23 yX11_unplace ∈ wsL_law := uL_wsL_law_r10 _ (fw_t (fw_t (fw_t (fw_t (fw_t (fw_t (fw_t (fw_t (fw_t (fw_t fw_h))))))))))
theorem mL_227 : Cond.instanceMethod yX11_unplace ∈ wsL_law := uL_wsL_law_r10 _ (fw_t (fw_t (fw_t (fw_t (fw_t (fw_t (fw_t (fw_t (fw_t (fw_t (fw_t fw_h)))))))))))
theorem mL_228 : Cond.selects RX11 yX11_unplace yX11_unplace ∈ wsL_law := uL_wsL_law_r10 _ (fw_t (fw_t (fw_t (fw_t (fw_t (fw_t (fw_t (fw_t (fw_t (fw_t (fw_t (fw_t fw_h))))))))))))
theorem mL_229 : Cond.code yX11_unplace cX11_unplace 3 (some .long) ∈ wsL_law := uL_wsL_law_r10 _ (fw_t (fw_t (fw_t (fw_t (fw_t (fw_t (fw_t (fw_t (fw_t (fw_t (fw_t (fw_t (fw_t fw_h)))))))))))))
theorem mL_230 : Cond.constantLong RX11 104 (-1000000006) ∈ wsL_law := uL_wsL_law_r10 _ (fw_t (fw_t (fw_t (fw_t (fw_t (fw_t (fw_t (fw_t (fw_t (fw_t (fw_t (fw_t (fw_t (fw_t fw_h))))))))))))))
theorem mL_231 : Cond.methodLink RX11 106 yX7_saveLatest ∈ wsL_law := uL_wsL_law_r10 _ (fw_t (fw_t (fw_t (fw_t (fw_t (fw_t (fw_t (fw_t (fw_t (fw_t (fw_t (fw_t (fw_t (fw_t (fw_t fw_h)))))))))))))))
theorem mL_232 : Cond.instanceMethod yX7_saveLatest ∈ wsL_law := uL_wsL_law_r10 _ (fw_t (fw_t (fw_t (fw_t (fw_t (fw_t (fw_t (fw_t (fw_t (fw_t (fw_t (fw_t (fw_t (fw_t (fw_t (fw_t fw_h))))))))))))))))
theorem mL_233 : Cond.selects RX7 yX7_saveLatest yX7_saveLatest ∈ wsL_law := uL_wsL_law_r10 _ (fw_t (fw_t (fw_t (fw_t (fw_t (fw_t (fw_t (fw_t (fw_t (fw_t (fw_t (fw_t (fw_t (fw_t (fw_t (fw_t (fw_t fw_h)))))))))))))))))
theorem mL_234 : Cond.code yX7_saveLatest cX7_saveLatest 2 none ∈ wsL_law := uL_wsL_law_r10 _ (fw_t (fw_t (fw_t (fw_t (fw_t (fw_t (fw_t (fw_t (fw_t (fw_t (fw_t (fw_t (fw_t (fw_t (fw_t (fw_t (fw_t (fw_t fw_h))))))))))))))))))
theorem mL_235 : Cond.methodLink RX7 40 yX4_latestFrom ∈ wsL_law := uL_wsL_law_r10 _ (fw_t (fw_t (fw_t (fw_t (fw_t (fw_t (fw_t (fw_t (fw_t (fw_t (fw_t (fw_t (fw_t (fw_t (fw_t (fw_t (fw_t (fw_t (fw_t fw_h)))))))))))))))))))
theorem mL_236 : Cond.instanceMethod yX4_latestFrom ∈ wsL_law := uL_wsL_law_r10 _ (fw_t (fw_t (fw_t (fw_t (fw_t (fw_t (fw_t (fw_t (fw_t (fw_t (fw_t (fw_t (fw_t (fw_t (fw_t (fw_t (fw_t (fw_t (fw_t (fw_t fw_h))))))))))))))))))))
theorem mL_237 : Cond.selects RX4 yX4_latestFrom yX4_latestFrom ∈ wsL_law := uL_wsL_law_r10 _ (fw_t (fw_t (fw_t (fw_t (fw_t (fw_t (fw_t (fw_t (fw_t (fw_t (fw_t (fw_t (fw_t (fw_t (fw_t (fw_t (fw_t (fw_t (fw_t (fw_t (fw_t fw_h)))))))))))))))))))))
theorem mL_238 : Cond.code yX4_latestFrom cX4_latestFrom 1 (some .int) ∈ wsL_law := uL_wsL_law_r10 _ (fw_t (fw_t (fw_t (fw_t (fw_t (fw_t (fw_t (fw_t (fw_t (fw_t (fw_t (fw_t (fw_t (fw_t (fw_t (fw_t (fw_t (fw_t (fw_t (fw_t (fw_t (fw_t fw_h))))))))))))))))))))))
theorem mL_239 : Cond.methodLink RX7 43 yX4_latestTo ∈ wsL_law := uL_wsL_law_r10 _ (fw_t (fw_t (fw_t (fw_t (fw_t (fw_t (fw_t (fw_t (fw_t (fw_t (fw_t (fw_t (fw_t (fw_t (fw_t (fw_t (fw_t (fw_t (fw_t (fw_t (fw_t (fw_t (fw_t fw_h)))))))))))))))))))))))
theorem uL_wsL_law_r11 : ∀ w ∈ wsL_law_r11, w ∈ wsL_law := fun _ h => (fw_l (fw_l (fw_l (fw_l (fw_l (fw_l (fw_l (fw_l (fw_l (fw_l (fw_l (fw_l (fw_l (fw_l (fw_r (fw_r (fw_r (fw_r (fw_r (fw_r (fw_r (fw_r (fw_r (fw_r (fw_l h)))))))))))))))))))))))))
theorem mL_240 : Cond.instanceMethod yX4_latestTo ∈ wsL_law := uL_wsL_law_r11 _ (fw_h)
theorem mL_241 : Cond.selects RX4 yX4_latestTo yX4_latestTo ∈ wsL_law := uL_wsL_law_r11 _ (fw_t fw_h)
theorem mL_242 : Cond.code yX4_latestTo cX4_latestTo 1 (some .int) ∈ wsL_law := uL_wsL_law_r11 _ (fw_t (fw_t fw_h))
theorem mL_243 : Cond.methodLink RX11 110 yX7_dropPlace ∈ wsL_law := uL_wsL_law_r11 _ (fw_t (fw_t (fw_t fw_h)))
theorem mL_244 : Cond.instanceMethod yX7_dropPlace ∈ wsL_law := uL_wsL_law_r11 _ (fw_t (fw_t (fw_t (fw_t fw_h))))
theorem mL_245 : Cond.selects RX7 yX7_dropPlace yX7_dropPlace ∈ wsL_law := uL_wsL_law_r11 _ (fw_t (fw_t (fw_t (fw_t (fw_t fw_h)))))
theorem mL_246 : Cond.code yX7_dropPlace cX7_dropPlace 1 none ∈ wsL_law := uL_wsL_law_r11 _ (fw_t (fw_t (fw_t (fw_t (fw_t (fw_t fw_h))))))
theorem mL_247 : Cond.methodLink RX7 31 yX4_drop ∈ wsL_law := uL_wsL_law_r11 _ (fw_t (fw_t (fw_t (fw_t (fw_t (fw_t (fw_t fw_h)))))))
theorem mL_248 : Cond.instanceMethod yX4_drop ∈ wsL_law := uL_wsL_law_r11 _ (fw_t (fw_t (fw_t (fw_t (fw_t (fw_t (fw_t (fw_t fw_h))))))))
theorem mL_249 : Cond.selects RX4 yX4_drop yX4_drop ∈ wsL_law := uL_wsL_law_r11 _ (fw_t (fw_t (fw_t (fw_t (fw_t (fw_t (fw_t (fw_t (fw_t fw_h)))))))))
theorem mL_250 : Cond.code yX4_drop cX4_drop 1 none ∈ wsL_law := uL_wsL_law_r11 _ (fw_t (fw_t (fw_t (fw_t (fw_t (fw_t (fw_t (fw_t (fw_t (fw_t fw_h))))))))))
theorem mL_251 : Cond.methodLink RL 27 yX12_unplace ∈ wsL_law := uL_wsL_law_r11 _ (fw_t (fw_t (fw_t (fw_t (fw_t (fw_t (fw_t (fw_t (fw_t (fw_t (fw_t fw_h)))))))))))
theorem mL_252 : Cond.instanceMethod yX12_unplace ∈ wsL_law := uL_wsL_law_r11 _ (fw_t (fw_t (fw_t (fw_t (fw_t (fw_t (fw_t (fw_t (fw_t (fw_t (fw_t (fw_t fw_h))))))))))))
theorem mL_253 : Cond.selects RX12 yX12_unplace yX12_unplace ∈ wsL_law := uL_wsL_law_r11 _ (fw_t (fw_t (fw_t (fw_t (fw_t (fw_t (fw_t (fw_t (fw_t (fw_t (fw_t (fw_t (fw_t fw_h)))))))))))))
theorem mL_254 : Cond.code yX12_unplace cX12_unplace 2 (some .long) ∈ wsL_law := uL_wsL_law_r11 _ (fw_t (fw_t (fw_t (fw_t (fw_t (fw_t (fw_t (fw_t (fw_t (fw_t (fw_t (fw_t (fw_t (fw_t fw_h))))))))))))))
theorem mL_255 : Cond.constantLong RX12 54 (-1000000006) ∈ wsL_law := uL_wsL_law_r11 _ (fw_t (fw_t (fw_t (fw_t (fw_t (fw_t (fw_t (fw_t (fw_t (fw_t (fw_t (fw_t (fw_t (fw_t (fw_t fw_h)))))))))))))))
theorem mL_256 : Cond.methodLink RL 28 yX11_led ∈ wsL_law := uL_wsL_law_r11 _ (fw_t (fw_t (fw_t (fw_t (fw_t (fw_t (fw_t (fw_t (fw_t (fw_t (fw_t (fw_t (fw_t (fw_t (fw_t (fw_t fw_h))))))))))))))))
theorem mL_257 : Cond.instanceMethod yX11_led ∈ wsL_law := uL_wsL_law_r11 _ (fw_t (fw_t (fw_t (fw_t (fw_t (fw_t (fw_t (fw_t (fw_t (fw_t (fw_t (fw_t (fw_t (fw_t (fw_t (fw_t (fw_t fw_h)))))))))))))))))
theorem mL_258 : Cond.selects RX11 yX11_led yX11_led ∈ wsL_law := uL_wsL_law_r11 _ (fw_t (fw_t (fw_t (fw_t (fw_t (fw_t (fw_t (fw_t (fw_t (fw_t (fw_t (fw_t (fw_t (fw_t (fw_t (fw_t (fw_t (fw_t fw_h))))))))))))))))))
theorem mL_259 : Cond.code yX11_led cX11_led 7 (some .long) ∈ wsL_law := uL_wsL_law_r11 _ (fw_t (fw_t (fw_t (fw_t (fw_t (fw_t (fw_t (fw_t (fw_t (fw_t (fw_t (fw_t (fw_t (fw_t (fw_t (fw_t (fw_t (fw_t (fw_t fw_h)))))))))))))))))))
theorem mL_260 : Cond.methodLink RX11 113 yX7_way ∈ wsL_law := uL_wsL_law_r11 _ (fw_t (fw_t (fw_t (fw_t (fw_t (fw_t (fw_t (fw_t (fw_t (fw_t (fw_t (fw_t (fw_t (fw_t (fw_t (fw_t (fw_t (fw_t (fw_t (fw_t fw_h))))))))))))))))))))
theorem mL_261 : Cond.instanceMethod yX7_way ∈ wsL_law := uL_wsL_law_r11 _ (fw_t (fw_t (fw_t (fw_t (fw_t (fw_t (fw_t (fw_t (fw_t (fw_t (fw_t (fw_t (fw_t (fw_t (fw_t (fw_t (fw_t (fw_t (fw_t (fw_t (fw_t fw_h)))))))))))))))))))))
theorem mL_262 : Cond.selects RX7 yX7_way yX7_way ∈ wsL_law := uL_wsL_law_r11 _ (fw_t (fw_t (fw_t (fw_t (fw_t (fw_t (fw_t (fw_t (fw_t (fw_t (fw_t (fw_t (fw_t (fw_t (fw_t (fw_t (fw_t (fw_t (fw_t (fw_t (fw_t (fw_t fw_h))))))))))))))))))))))
theorem mL_263 : Cond.code yX7_way cX7_way 2 (some (.object "CornDesk$Line")) ∈ wsL_law := uL_wsL_law_r11 _ (fw_t (fw_t (fw_t (fw_t (fw_t (fw_t (fw_t (fw_t (fw_t (fw_t (fw_t (fw_t (fw_t (fw_t (fw_t (fw_t (fw_t (fw_t (fw_t (fw_t (fw_t (fw_t (fw_t fw_h)))))))))))))))))))))))
theorem uL_wsL_law_r12 : ∀ w ∈ wsL_law_r12, w ∈ wsL_law := fun _ h => (fw_l (fw_l (fw_l (fw_l (fw_l (fw_l (fw_l (fw_l (fw_l (fw_l (fw_l (fw_l (fw_l (fw_l (fw_r (fw_r (fw_r (fw_r (fw_r (fw_r (fw_r (fw_r (fw_r (fw_r (fw_r (fw_l h))))))))))))))))))))))))))
theorem mL_264 : Cond.methodLink RX11 117 yX4_isThere ∈ wsL_law := uL_wsL_law_r12 _ (fw_h)
theorem mL_265 : Cond.instanceMethod yX4_isThere ∈ wsL_law := uL_wsL_law_r12 _ (fw_t fw_h)
theorem mL_266 : Cond.selects RX4 yX4_isThere yX4_isThere ∈ wsL_law := uL_wsL_law_r12 _ (fw_t (fw_t fw_h))
theorem mL_267 : Cond.code yX4_isThere cX4_isThere 1 (some .boolean) ∈ wsL_law := uL_wsL_law_r12 _ (fw_t (fw_t (fw_t fw_h)))
theorem mL_268 : Cond.methodLink RX11 123 yX4_upperAt ∈ wsL_law := uL_wsL_law_r12 _ (fw_t (fw_t (fw_t (fw_t fw_h))))
theorem mL_269 : Cond.methodLink RX11 127 yX4_lower ∈ wsL_law := uL_wsL_law_r12 _ (fw_t (fw_t (fw_t (fw_t (fw_t fw_h)))))
theorem mL_270 : Cond.instanceMethod yX4_lower ∈ wsL_law := uL_wsL_law_r12 _ (fw_t (fw_t (fw_t (fw_t (fw_t (fw_t fw_h))))))
theorem mL_271 : Cond.selects RX4 yX4_lower yX4_lower ∈ wsL_law := uL_wsL_law_r12 _ (fw_t (fw_t (fw_t (fw_t (fw_t (fw_t (fw_t fw_h)))))))
theorem mL_272 : Cond.code yX4_lower cX4_lower 1 (some .long) ∈ wsL_law := uL_wsL_law_r12 _ (fw_t (fw_t (fw_t (fw_t (fw_t (fw_t (fw_t (fw_t fw_h))))))))
theorem mL_273 : Cond.methodLink RX11 131 yX11_part ∈ wsL_law := uL_wsL_law_r12 _ (fw_t (fw_t (fw_t (fw_t (fw_t (fw_t (fw_t (fw_t (fw_t fw_h)))))))))
theorem mL_274 : Cond.static yX11_part ∈ wsL_law := uL_wsL_law_r12 _ (fw_t (fw_t (fw_t (fw_t (fw_t (fw_t (fw_t (fw_t (fw_t (fw_t fw_h))))))))))
theorem mL_275 : Cond.code yX11_part cX11_part 7 (some .long) ∈ wsL_law := uL_wsL_law_r12 _ (fw_t (fw_t (fw_t (fw_t (fw_t (fw_t (fw_t (fw_t (fw_t (fw_t (fw_t fw_h)))))))))))
theorem mL_276 : Cond.methodLink RX11 375 Lib.MathLoose.abs_long.x ∈ wsL_law := uL_wsL_law_r12 _ (fw_t (fw_t (fw_t (fw_t (fw_t (fw_t (fw_t (fw_t (fw_t (fw_t (fw_t (fw_t fw_h))))))))))))
theorem mL_277 : Cond.methodLink RX11 380 yX11_commonDivisor ∈ wsL_law := uL_wsL_law_r12 _ (fw_t (fw_t (fw_t (fw_t (fw_t (fw_t (fw_t (fw_t (fw_t (fw_t (fw_t (fw_t (fw_t fw_h)))))))))))))
theorem mL_278 : Cond.static yX11_commonDivisor ∈ wsL_law := uL_wsL_law_r12 _ (fw_t (fw_t (fw_t (fw_t (fw_t (fw_t (fw_t (fw_t (fw_t (fw_t (fw_t (fw_t (fw_t (fw_t fw_h))))))))))))))
theorem mL_279 : Cond.code yX11_commonDivisor cX11_commonDivisor 11 (some .long) ∈ wsL_law := uL_wsL_law_r12 _ (fw_t (fw_t (fw_t (fw_t (fw_t (fw_t (fw_t (fw_t (fw_t (fw_t (fw_t (fw_t (fw_t (fw_t (fw_t fw_h)))))))))))))))
theorem mL_280 : Cond.methodLink RL 32 yX12_led ∈ wsL_law := uL_wsL_law_r12 _ (fw_t (fw_t (fw_t (fw_t (fw_t (fw_t (fw_t (fw_t (fw_t (fw_t (fw_t (fw_t (fw_t (fw_t (fw_t (fw_t fw_h))))))))))))))))
theorem mL_281 : Cond.instanceMethod yX12_led ∈ wsL_law := uL_wsL_law_r12 _ (fw_t (fw_t (fw_t (fw_t (fw_t (fw_t (fw_t (fw_t (fw_t (fw_t (fw_t (fw_t (fw_t (fw_t (fw_t (fw_t (fw_t fw_h)))))))))))))))))
theorem mL_282 : Cond.selects RX12 yX12_led yX12_led ∈ wsL_law := uL_wsL_law_r12 _ (fw_t (fw_t (fw_t (fw_t (fw_t (fw_t (fw_t (fw_t (fw_t (fw_t (fw_t (fw_t (fw_t (fw_t (fw_t (fw_t (fw_t (fw_t fw_h))))))))))))))))))
theorem mL_283 : Cond.code yX12_led cX12_led 5 (some .long) ∈ wsL_law := uL_wsL_law_r12 _ (fw_t (fw_t (fw_t (fw_t (fw_t (fw_t (fw_t (fw_t (fw_t (fw_t (fw_t (fw_t (fw_t (fw_t (fw_t (fw_t (fw_t (fw_t (fw_t fw_h)))))))))))))))))))
theorem mL_284 : Cond.fieldLink RX12 78 "CornDeskModel" "n" "J" ∈ wsL_law := uL_wsL_law_r12 _ (fw_t (fw_t (fw_t (fw_t (fw_t (fw_t (fw_t (fw_t (fw_t (fw_t (fw_t (fw_t (fw_t (fw_t (fw_t (fw_t (fw_t (fw_t (fw_t (fw_t fw_h))))))))))))))))))))
theorem mL_285 : Cond.fieldLink RX12 97 "CornDeskModel" "spread" "J" ∈ wsL_law := uL_wsL_law_r12 _ (fw_t (fw_t (fw_t (fw_t (fw_t (fw_t (fw_t (fw_t (fw_t (fw_t (fw_t (fw_t (fw_t (fw_t (fw_t (fw_t (fw_t (fw_t (fw_t (fw_t (fw_t fw_h)))))))))))))))))))))
theorem mL_286 : Cond.methodLink RX12 104 yX12_leads ∈ wsL_law := uL_wsL_law_r12 _ (fw_t (fw_t (fw_t (fw_t (fw_t (fw_t (fw_t (fw_t (fw_t (fw_t (fw_t (fw_t (fw_t (fw_t (fw_t (fw_t (fw_t (fw_t (fw_t (fw_t (fw_t (fw_t fw_h))))))))))))))))))))))
theorem mL_287 : Cond.instanceMethod yX12_leads ∈ wsL_law := uL_wsL_law_r12 _ (fw_t (fw_t (fw_t (fw_t (fw_t (fw_t (fw_t (fw_t (fw_t (fw_t (fw_t (fw_t (fw_t (fw_t (fw_t (fw_t (fw_t (fw_t (fw_t (fw_t (fw_t (fw_t (fw_t fw_h)))))))))))))))))))))))
theorem uL_wsL_law_r13 : ∀ w ∈ wsL_law_r13, w ∈ wsL_law := fun _ h => (fw_l (fw_l (fw_l (fw_l (fw_l (fw_l (fw_l (fw_l (fw_l (fw_l (fw_l (fw_l (fw_l (fw_l (fw_r (fw_r (fw_r (fw_r (fw_r (fw_r (fw_r (fw_r (fw_r (fw_r (fw_r (fw_r (fw_l h)))))))))))))))))))))))))))
theorem mL_288 : Cond.selects RX12 yX12_leads yX12_leads ∈ wsL_law := uL_wsL_law_r13 _ (fw_h)
theorem mL_289 : Cond.code yX12_leads cX12_leads 8 (some .boolean) ∈ wsL_law := uL_wsL_law_r13 _ (fw_t fw_h)
theorem mL_290 : Cond.fieldLink RX12 82 "CornDeskModel" "sumU" "J" ∈ wsL_law := uL_wsL_law_r13 _ (fw_t (fw_t fw_h))
theorem mL_291 : Cond.fieldLink RX12 85 "CornDeskModel" "sumX" "J" ∈ wsL_law := uL_wsL_law_r13 _ (fw_t (fw_t (fw_t fw_h)))
theorem mL_292 : Cond.fieldLink RX12 88 "CornDeskModel" "sumUU" "J" ∈ wsL_law := uL_wsL_law_r13 _ (fw_t (fw_t (fw_t (fw_t fw_h))))
theorem mL_293 : Cond.fieldLink RX12 91 "CornDeskModel" "sumUX" "J" ∈ wsL_law := uL_wsL_law_r13 _ (fw_t (fw_t (fw_t (fw_t (fw_t fw_h)))))
theorem mL_294 : Cond.fieldLink RX12 94 "CornDeskModel" "sumXX" "J" ∈ wsL_law := uL_wsL_law_r13 _ (fw_t (fw_t (fw_t (fw_t (fw_t (fw_t fw_h))))))
theorem mL_295 : Cond.methodLink RX12 108 yX12_aboveAt ∈ wsL_law := uL_wsL_law_r13 _ (fw_t (fw_t (fw_t (fw_t (fw_t (fw_t (fw_t fw_h)))))))
theorem mL_296 : Cond.instanceMethod yX12_aboveAt ∈ wsL_law := uL_wsL_law_r13 _ (fw_t (fw_t (fw_t (fw_t (fw_t (fw_t (fw_t (fw_t fw_h))))))))
theorem mL_297 : Cond.selects RX12 yX12_aboveAt yX12_aboveAt ∈ wsL_law := uL_wsL_law_r13 _ (fw_t (fw_t (fw_t (fw_t (fw_t (fw_t (fw_t (fw_t (fw_t fw_h)))))))))
theorem mL_298 : Cond.code yX12_aboveAt cX12_aboveAt 3 (some .long) ∈ wsL_law := uL_wsL_law_r13 _ (fw_t (fw_t (fw_t (fw_t (fw_t (fw_t (fw_t (fw_t (fw_t (fw_t fw_h))))))))))
theorem mL_299 : Cond.methodLink RX12 111 yX12_part ∈ wsL_law := uL_wsL_law_r13 _ (fw_t (fw_t (fw_t (fw_t (fw_t (fw_t (fw_t (fw_t (fw_t (fw_t (fw_t fw_h)))))))))))
theorem mL_300 : Cond.static yX12_part ∈ wsL_law := uL_wsL_law_r13 _ (fw_t (fw_t (fw_t (fw_t (fw_t (fw_t (fw_t (fw_t (fw_t (fw_t (fw_t (fw_t fw_h))))))))))))
theorem mL_301 : Cond.code yX12_part cX12_part 7 (some .long) ∈ wsL_law := uL_wsL_law_r13 _ (fw_t (fw_t (fw_t (fw_t (fw_t (fw_t (fw_t (fw_t (fw_t (fw_t (fw_t (fw_t (fw_t fw_h)))))))))))))
theorem mL_302 : Cond.methodLink RX12 100 yX12_common ∈ wsL_law := uL_wsL_law_r13 _ (fw_t (fw_t (fw_t (fw_t (fw_t (fw_t (fw_t (fw_t (fw_t (fw_t (fw_t (fw_t (fw_t (fw_t fw_h))))))))))))))
theorem mL_303 : Cond.static yX12_common ∈ wsL_law := uL_wsL_law_r13 _ (fw_t (fw_t (fw_t (fw_t (fw_t (fw_t (fw_t (fw_t (fw_t (fw_t (fw_t (fw_t (fw_t (fw_t (fw_t fw_h)))))))))))))))
theorem mL_304 : Cond.code yX12_common cX12_common 10 (some .long) ∈ wsL_law := uL_wsL_law_r13 _ (fw_t (fw_t (fw_t (fw_t (fw_t (fw_t (fw_t (fw_t (fw_t (fw_t (fw_t (fw_t (fw_t (fw_t (fw_t (fw_t fw_h))))))))))))))))
theorem mL_305 : Cond.methodLink RL 33 yX11_miss ∈ wsL_law := uL_wsL_law_r13 _ (fw_t (fw_t (fw_t (fw_t (fw_t (fw_t (fw_t (fw_t (fw_t (fw_t (fw_t (fw_t (fw_t (fw_t (fw_t (fw_t (fw_t fw_h)))))))))))))))))
theorem mL_306 : Cond.instanceMethod yX11_miss ∈ wsL_law := uL_wsL_law_r13 _ (fw_t (fw_t (fw_t (fw_t (fw_t (fw_t (fw_t (fw_t (fw_t (fw_t (fw_t (fw_t (fw_t (fw_t (fw_t (fw_t (fw_t (fw_t fw_h))))))))))))))))))
theorem mL_307 : Cond.selects RX11 yX11_miss yX11_miss ∈ wsL_law := uL_wsL_law_r13 _ (fw_t (fw_t (fw_t (fw_t (fw_t (fw_t (fw_t (fw_t (fw_t (fw_t (fw_t (fw_t (fw_t (fw_t (fw_t (fw_t (fw_t (fw_t (fw_t fw_h)))))))))))))))))))
theorem mL_308 : Cond.code yX11_miss cX11_miss 6 (some .long) ∈ wsL_law := uL_wsL_law_r13 _ (fw_t (fw_t (fw_t (fw_t (fw_t (fw_t (fw_t (fw_t (fw_t (fw_t (fw_t (fw_t (fw_t (fw_t (fw_t (fw_t (fw_t (fw_t (fw_t (fw_t fw_h))))))))))))))))))))
theorem mL_309 : Cond.methodLink RX11 135 yX4_missUpper ∈ wsL_law := uL_wsL_law_r13 _ (fw_t (fw_t (fw_t (fw_t (fw_t (fw_t (fw_t (fw_t (fw_t (fw_t (fw_t (fw_t (fw_t (fw_t (fw_t (fw_t (fw_t (fw_t (fw_t (fw_t (fw_t fw_h)))))))))))))))))))))
theorem mL_310 : Cond.instanceMethod yX4_missUpper ∈ wsL_law := uL_wsL_law_r13 _ (fw_t (fw_t (fw_t (fw_t (fw_t (fw_t (fw_t (fw_t (fw_t (fw_t (fw_t (fw_t (fw_t (fw_t (fw_t (fw_t (fw_t (fw_t (fw_t (fw_t (fw_t (fw_t fw_h))))))))))))))))))))))
theorem mL_311 : Cond.selects RX4 yX4_missUpper yX4_missUpper ∈ wsL_law := uL_wsL_law_r13 _ (fw_t (fw_t (fw_t (fw_t (fw_t (fw_t (fw_t (fw_t (fw_t (fw_t (fw_t (fw_t (fw_t (fw_t (fw_t (fw_t (fw_t (fw_t (fw_t (fw_t (fw_t (fw_t (fw_t fw_h)))))))))))))))))))))))
theorem uL_wsL_law_r14 : ∀ w ∈ wsL_law_r14, w ∈ wsL_law := fun _ h => (fw_l (fw_l (fw_l (fw_l (fw_l (fw_l (fw_l (fw_l (fw_l (fw_l (fw_l (fw_l (fw_l (fw_l (fw_r (fw_r (fw_r (fw_r (fw_r (fw_r (fw_r (fw_r (fw_r (fw_r (fw_r (fw_r (fw_r (fw_l h))))))))))))))))))))))))))))
theorem mL_312 : Cond.code yX4_missUpper cX4_missUpper 1 (some .long) ∈ wsL_law := uL_wsL_law_r14 _ (fw_h)
theorem mL_313 : Cond.methodLink RX11 138 yX4_missLower ∈ wsL_law := uL_wsL_law_r14 _ (fw_t fw_h)
theorem mL_314 : Cond.instanceMethod yX4_missLower ∈ wsL_law := uL_wsL_law_r14 _ (fw_t (fw_t fw_h))
theorem mL_315 : Cond.selects RX4 yX4_missLower yX4_missLower ∈ wsL_law := uL_wsL_law_r14 _ (fw_t (fw_t (fw_t fw_h)))
theorem mL_316 : Cond.code yX4_missLower cX4_missLower 1 (some .long) ∈ wsL_law := uL_wsL_law_r14 _ (fw_t (fw_t (fw_t (fw_t fw_h))))
theorem mL_317 : Cond.methodLink RL 37 yX12_miss ∈ wsL_law := uL_wsL_law_r14 _ (fw_t (fw_t (fw_t (fw_t (fw_t fw_h)))))
theorem mL_318 : Cond.instanceMethod yX12_miss ∈ wsL_law := uL_wsL_law_r14 _ (fw_t (fw_t (fw_t (fw_t (fw_t (fw_t fw_h))))))
theorem mL_319 : Cond.selects RX12 yX12_miss yX12_miss ∈ wsL_law := uL_wsL_law_r14 _ (fw_t (fw_t (fw_t (fw_t (fw_t (fw_t (fw_t fw_h)))))))
theorem mL_320 : Cond.code yX12_miss cX12_miss 6 (some .long) ∈ wsL_law := uL_wsL_law_r14 _ (fw_t (fw_t (fw_t (fw_t (fw_t (fw_t (fw_t (fw_t fw_h))))))))
theorem mL_321 : Cond.methodLink RL 38 yX11_doubt ∈ wsL_law := uL_wsL_law_r14 _ (fw_t (fw_t (fw_t (fw_t (fw_t (fw_t (fw_t (fw_t (fw_t fw_h)))))))))
theorem mL_322 : Cond.instanceMethod yX11_doubt ∈ wsL_law := uL_wsL_law_r14 _ (fw_t (fw_t (fw_t (fw_t (fw_t (fw_t (fw_t (fw_t (fw_t (fw_t fw_h))))))))))
theorem mL_323 : Cond.selects RX11 yX11_doubt yX11_doubt ∈ wsL_law := uL_wsL_law_r14 _ (fw_t (fw_t (fw_t (fw_t (fw_t (fw_t (fw_t (fw_t (fw_t (fw_t (fw_t fw_h)))))))))))
theorem mL_324 : Cond.code yX11_doubt cX11_doubt 3 (some .long) ∈ wsL_law := uL_wsL_law_r14 _ (fw_t (fw_t (fw_t (fw_t (fw_t (fw_t (fw_t (fw_t (fw_t (fw_t (fw_t (fw_t fw_h))))))))))))
theorem mL_325 : Cond.methodLink RX11 141 yX7_hasReach ∈ wsL_law := uL_wsL_law_r14 _ (fw_t (fw_t (fw_t (fw_t (fw_t (fw_t (fw_t (fw_t (fw_t (fw_t (fw_t (fw_t (fw_t fw_h)))))))))))))
theorem mL_326 : Cond.instanceMethod yX7_hasReach ∈ wsL_law := uL_wsL_law_r14 _ (fw_t (fw_t (fw_t (fw_t (fw_t (fw_t (fw_t (fw_t (fw_t (fw_t (fw_t (fw_t (fw_t (fw_t fw_h))))))))))))))
theorem mL_327 : Cond.selects RX7 yX7_hasReach yX7_hasReach ∈ wsL_law := uL_wsL_law_r14 _ (fw_t (fw_t (fw_t (fw_t (fw_t (fw_t (fw_t (fw_t (fw_t (fw_t (fw_t (fw_t (fw_t (fw_t (fw_t fw_h)))))))))))))))
theorem mL_328 : Cond.code yX7_hasReach cX7_hasReach 1 (some .boolean) ∈ wsL_law := uL_wsL_law_r14 _ (fw_t (fw_t (fw_t (fw_t (fw_t (fw_t (fw_t (fw_t (fw_t (fw_t (fw_t (fw_t (fw_t (fw_t (fw_t (fw_t fw_h))))))))))))))))
theorem mL_329 : Cond.methodLink RX7 46 yX4_isThere ∈ wsL_law := uL_wsL_law_r14 _ (fw_t (fw_t (fw_t (fw_t (fw_t (fw_t (fw_t (fw_t (fw_t (fw_t (fw_t (fw_t (fw_t (fw_t (fw_t (fw_t (fw_t fw_h)))))))))))))))))
theorem mL_330 : Cond.methodLink RX11 144 yX7_reach ∈ wsL_law := uL_wsL_law_r14 _ (fw_t (fw_t (fw_t (fw_t (fw_t (fw_t (fw_t (fw_t (fw_t (fw_t (fw_t (fw_t (fw_t (fw_t (fw_t (fw_t (fw_t (fw_t fw_h))))))))))))))))))
theorem mL_331 : Cond.instanceMethod yX7_reach ∈ wsL_law := uL_wsL_law_r14 _ (fw_t (fw_t (fw_t (fw_t (fw_t (fw_t (fw_t (fw_t (fw_t (fw_t (fw_t (fw_t (fw_t (fw_t (fw_t (fw_t (fw_t (fw_t (fw_t fw_h)))))))))))))))))))
theorem mL_332 : Cond.selects RX7 yX7_reach yX7_reach ∈ wsL_law := uL_wsL_law_r14 _ (fw_t (fw_t (fw_t (fw_t (fw_t (fw_t (fw_t (fw_t (fw_t (fw_t (fw_t (fw_t (fw_t (fw_t (fw_t (fw_t (fw_t (fw_t (fw_t (fw_t fw_h))))))))))))))))))))
theorem mL_333 : Cond.code yX7_reach cX7_reach 1 (some .long) ∈ wsL_law := uL_wsL_law_r14 _ (fw_t (fw_t (fw_t (fw_t (fw_t (fw_t (fw_t (fw_t (fw_t (fw_t (fw_t (fw_t (fw_t (fw_t (fw_t (fw_t (fw_t (fw_t (fw_t (fw_t (fw_t fw_h)))))))))))))))))))))
theorem mL_334 : Cond.methodLink RX7 54 Lib.MathLoose.max_long.x ∈ wsL_law := uL_wsL_law_r14 _ (fw_t (fw_t (fw_t (fw_t (fw_t (fw_t (fw_t (fw_t (fw_t (fw_t (fw_t (fw_t (fw_t (fw_t (fw_t (fw_t (fw_t (fw_t (fw_t (fw_t (fw_t (fw_t fw_h))))))))))))))))))))))
theorem mL_335 : Cond.methodLink RX7 50 yX4_worst ∈ wsL_law := uL_wsL_law_r14 _ (fw_t (fw_t (fw_t (fw_t (fw_t (fw_t (fw_t (fw_t (fw_t (fw_t (fw_t (fw_t (fw_t (fw_t (fw_t (fw_t (fw_t (fw_t (fw_t (fw_t (fw_t (fw_t (fw_t fw_h)))))))))))))))))))))))
theorem uL_wsL_law_r15 : ∀ w ∈ wsL_law_r15, w ∈ wsL_law := fun _ h => (fw_l (fw_l (fw_l (fw_l (fw_l (fw_l (fw_l (fw_l (fw_l (fw_l (fw_l (fw_l (fw_l (fw_l (fw_r (fw_r (fw_r (fw_r (fw_r (fw_r (fw_r (fw_r (fw_r (fw_r (fw_r (fw_r (fw_r (fw_r (fw_l h)))))))))))))))))))))))))))))
theorem mL_336 : Cond.instanceMethod yX4_worst ∈ wsL_law := uL_wsL_law_r15 _ (fw_h)
theorem mL_337 : Cond.selects RX4 yX4_worst yX4_worst ∈ wsL_law := uL_wsL_law_r15 _ (fw_t fw_h)
theorem mL_338 : Cond.code yX4_worst cX4_worst 1 (some .long) ∈ wsL_law := uL_wsL_law_r15 _ (fw_t (fw_t fw_h))
theorem mL_339 : Cond.methodLink RL 41 yX12_doubt ∈ wsL_law := uL_wsL_law_r15 _ (fw_t (fw_t (fw_t fw_h)))
theorem mL_340 : Cond.instanceMethod yX12_doubt ∈ wsL_law := uL_wsL_law_r15 _ (fw_t (fw_t (fw_t (fw_t fw_h))))
theorem mL_341 : Cond.selects RX12 yX12_doubt yX12_doubt ∈ wsL_law := uL_wsL_law_r15 _ (fw_t (fw_t (fw_t (fw_t (fw_t fw_h)))))
theorem mL_342 : Cond.code yX12_doubt cX12_doubt 4 (some .long) ∈ wsL_law := uL_wsL_law_r15 _ (fw_t (fw_t (fw_t (fw_t (fw_t (fw_t fw_h))))))
theorem mL_343 : Cond.methodLink RX12 117 yX12_doubtOf ∈ wsL_law := uL_wsL_law_r15 _ (fw_t (fw_t (fw_t (fw_t (fw_t (fw_t (fw_t fw_h)))))))
theorem mL_344 : Cond.instanceMethod yX12_doubtOf ∈ wsL_law := uL_wsL_law_r15 _ (fw_t (fw_t (fw_t (fw_t (fw_t (fw_t (fw_t (fw_t fw_h))))))))
theorem mL_345 : Cond.selects RX12 yX12_doubtOf yX12_doubtOf ∈ wsL_law := uL_wsL_law_r15 _ (fw_t (fw_t (fw_t (fw_t (fw_t (fw_t (fw_t (fw_t (fw_t fw_h)))))))))
theorem mL_346 : Cond.code yX12_doubtOf cX12_doubtOf 13 (some .long) ∈ wsL_law := uL_wsL_law_r15 _ (fw_t (fw_t (fw_t (fw_t (fw_t (fw_t (fw_t (fw_t (fw_t (fw_t fw_h))))))))))
theorem mL_347 : Cond.constantLong RX12 115 (-1) ∈ wsL_law := uL_wsL_law_r15 _ (fw_t (fw_t (fw_t (fw_t (fw_t (fw_t (fw_t (fw_t (fw_t (fw_t (fw_t fw_h)))))))))))
theorem mL_348 : Cond.methodLink RL 42 yX11_mark ∈ wsL_law := uL_wsL_law_r15 _ (fw_t (fw_t (fw_t (fw_t (fw_t (fw_t (fw_t (fw_t (fw_t (fw_t (fw_t (fw_t fw_h))))))))))))
theorem mL_349 : Cond.instanceMethod yX11_mark ∈ wsL_law := uL_wsL_law_r15 _ (fw_t (fw_t (fw_t (fw_t (fw_t (fw_t (fw_t (fw_t (fw_t (fw_t (fw_t (fw_t (fw_t fw_h)))))))))))))
theorem mL_350 : Cond.selects RX11 yX11_mark yX11_mark ∈ wsL_law := uL_wsL_law_r15 _ (fw_t (fw_t (fw_t (fw_t (fw_t (fw_t (fw_t (fw_t (fw_t (fw_t (fw_t (fw_t (fw_t (fw_t fw_h))))))))))))))
theorem mL_351 : Cond.code yX11_mark cX11_mark 8 (some .long) ∈ wsL_law := uL_wsL_law_r15 _ (fw_t (fw_t (fw_t (fw_t (fw_t (fw_t (fw_t (fw_t (fw_t (fw_t (fw_t (fw_t (fw_t (fw_t (fw_t fw_h)))))))))))))))
theorem mL_352 : Cond.fieldLink RX11 151 "CornDesk" "markCount" "I" ∈ wsL_law := uL_wsL_law_r15 _ (fw_t (fw_t (fw_t (fw_t (fw_t (fw_t (fw_t (fw_t (fw_t (fw_t (fw_t (fw_t (fw_t (fw_t (fw_t (fw_t fw_h))))))))))))))))
theorem mL_353 : Cond.instantiable RX5 6 ∈ wsL_law := uL_wsL_law_r15 _ (fw_t (fw_t (fw_t (fw_t (fw_t (fw_t (fw_t (fw_t (fw_t (fw_t (fw_t (fw_t (fw_t (fw_t (fw_t (fw_t (fw_t fw_h)))))))))))))))))
theorem mL_354 : Cond.initialized RX5 ∈ wsL_law := uL_wsL_law_r15 _ (fw_t (fw_t (fw_t (fw_t (fw_t (fw_t (fw_t (fw_t (fw_t (fw_t (fw_t (fw_t (fw_t (fw_t (fw_t (fw_t (fw_t (fw_t fw_h))))))))))))))))))
theorem mL_355 : Cond.methodLink RX11 147 yX11_isMarkOf ∈ wsL_law := uL_wsL_law_r15 _ (fw_t (fw_t (fw_t (fw_t (fw_t (fw_t (fw_t (fw_t (fw_t (fw_t (fw_t (fw_t (fw_t (fw_t (fw_t (fw_t (fw_t (fw_t (fw_t fw_h)))))))))))))))))))
theorem mL_356 : Cond.static yX11_isMarkOf ∈ wsL_law := uL_wsL_law_r15 _ (fw_t (fw_t (fw_t (fw_t (fw_t (fw_t (fw_t (fw_t (fw_t (fw_t (fw_t (fw_t (fw_t (fw_t (fw_t (fw_t (fw_t (fw_t (fw_t (fw_t fw_h))))))))))))))))))))
theorem mL_357 : Cond.code yX11_isMarkOf cX11_isMarkOf 3 (some .boolean) ∈ wsL_law := uL_wsL_law_r15 _ (fw_t (fw_t (fw_t (fw_t (fw_t (fw_t (fw_t (fw_t (fw_t (fw_t (fw_t (fw_t (fw_t (fw_t (fw_t (fw_t (fw_t (fw_t (fw_t (fw_t (fw_t fw_h)))))))))))))))))))))
theorem mL_358 : Cond.methodLink RX11 161 yX11_isKind ∈ wsL_law := uL_wsL_law_r15 _ (fw_t (fw_t (fw_t (fw_t (fw_t (fw_t (fw_t (fw_t (fw_t (fw_t (fw_t (fw_t (fw_t (fw_t (fw_t (fw_t (fw_t (fw_t (fw_t (fw_t (fw_t (fw_t fw_h))))))))))))))))))))))
theorem mL_359 : Cond.static yX11_isKind ∈ wsL_law := uL_wsL_law_r15 _ (fw_t (fw_t (fw_t (fw_t (fw_t (fw_t (fw_t (fw_t (fw_t (fw_t (fw_t (fw_t (fw_t (fw_t (fw_t (fw_t (fw_t (fw_t (fw_t (fw_t (fw_t (fw_t (fw_t fw_h)))))))))))))))))))))))
theorem uL_wsL_law_r16 : ∀ w ∈ wsL_law_r16, w ∈ wsL_law := fun _ h => (fw_l (fw_l (fw_l (fw_l (fw_l (fw_l (fw_l (fw_l (fw_l (fw_l (fw_l (fw_l (fw_l (fw_l (fw_r (fw_r (fw_r (fw_r (fw_r (fw_r (fw_r (fw_r (fw_r (fw_r (fw_r (fw_r (fw_r (fw_r (fw_r (fw_l h))))))))))))))))))))))))))))))
theorem mL_360 : Cond.code yX11_isKind cX11_isKind 1 (some .boolean) ∈ wsL_law := uL_wsL_law_r16 _ (fw_h)
theorem mL_361 : Cond.fieldLink RX11 372 "CornDesk" "KIND_ABOVE" "[I" ∈ wsL_law := uL_wsL_law_r16 _ (fw_t fw_h)
theorem mL_362 : Cond.methodLink RX11 167 yX11_isUnder ∈ wsL_law := uL_wsL_law_r16 _ (fw_t (fw_t fw_h))
theorem mL_363 : Cond.static yX11_isUnder ∈ wsL_law := uL_wsL_law_r16 _ (fw_t (fw_t (fw_t fw_h)))
theorem mL_364 : Cond.code yX11_isUnder cX11_isUnder 4 (some .boolean) ∈ wsL_law := uL_wsL_law_r16 _ (fw_t (fw_t (fw_t (fw_t fw_h))))
theorem mL_365 : Cond.methodLink RX11 154 yX5_init ∈ wsL_law := uL_wsL_law_r16 _ (fw_t (fw_t (fw_t (fw_t (fw_t fw_h)))))
theorem mL_366 : Cond.instanceMethod yX5_init ∈ wsL_law := uL_wsL_law_r16 _ (fw_t (fw_t (fw_t (fw_t (fw_t (fw_t fw_h))))))
theorem mL_367 : Cond.code yX5_init cX5_init 7 none ∈ wsL_law := uL_wsL_law_r16 _ (fw_t (fw_t (fw_t (fw_t (fw_t (fw_t (fw_t fw_h)))))))
theorem mL_368 : Cond.methodLink RX5 1 objectInit ∈ wsL_law := uL_wsL_law_r16 _ (fw_t (fw_t (fw_t (fw_t (fw_t (fw_t (fw_t (fw_t fw_h))))))))
theorem mL_369 : Cond.fieldLink RX5 7 "CornDesk$Mark" "picture" "LCornDesk$Picture;" ∈ wsL_law := uL_wsL_law_r16 _ (fw_t (fw_t (fw_t (fw_t (fw_t (fw_t (fw_t (fw_t (fw_t fw_h)))))))))
theorem mL_370 : Cond.fieldLink RX5 13 "CornDesk$Mark" "kind" "I" ∈ wsL_law := uL_wsL_law_r16 _ (fw_t (fw_t (fw_t (fw_t (fw_t (fw_t (fw_t (fw_t (fw_t (fw_t fw_h))))))))))
theorem mL_371 : Cond.fieldLink RX5 17 "CornDesk$Mark" "u" "I" ∈ wsL_law := uL_wsL_law_r16 _ (fw_t (fw_t (fw_t (fw_t (fw_t (fw_t (fw_t (fw_t (fw_t (fw_t (fw_t fw_h)))))))))))
theorem mL_372 : Cond.fieldLink RX5 20 "CornDesk$Mark" "v" "I" ∈ wsL_law := uL_wsL_law_r16 _ (fw_t (fw_t (fw_t (fw_t (fw_t (fw_t (fw_t (fw_t (fw_t (fw_t (fw_t (fw_t fw_h))))))))))))
theorem mL_373 : Cond.fieldLink RX5 23 "CornDesk$Mark" "size" "I" ∈ wsL_law := uL_wsL_law_r16 _ (fw_t (fw_t (fw_t (fw_t (fw_t (fw_t (fw_t (fw_t (fw_t (fw_t (fw_t (fw_t (fw_t fw_h)))))))))))))
theorem mL_374 : Cond.fieldLink RX5 26 "CornDesk$Mark" "gates" "I" ∈ wsL_law := uL_wsL_law_r16 _ (fw_t (fw_t (fw_t (fw_t (fw_t (fw_t (fw_t (fw_t (fw_t (fw_t (fw_t (fw_t (fw_t (fw_t fw_h))))))))))))))
theorem mL_375 : Cond.methodLink RL 46 yX12_mark ∈ wsL_law := uL_wsL_law_r16 _ (fw_t (fw_t (fw_t (fw_t (fw_t (fw_t (fw_t (fw_t (fw_t (fw_t (fw_t (fw_t (fw_t (fw_t (fw_t fw_h)))))))))))))))
theorem mL_376 : Cond.instanceMethod yX12_mark ∈ wsL_law := uL_wsL_law_r16 _ (fw_t (fw_t (fw_t (fw_t (fw_t (fw_t (fw_t (fw_t (fw_t (fw_t (fw_t (fw_t (fw_t (fw_t (fw_t (fw_t fw_h))))))))))))))))
theorem mL_377 : Cond.selects RX12 yX12_mark yX12_mark ∈ wsL_law := uL_wsL_law_r16 _ (fw_t (fw_t (fw_t (fw_t (fw_t (fw_t (fw_t (fw_t (fw_t (fw_t (fw_t (fw_t (fw_t (fw_t (fw_t (fw_t (fw_t fw_h)))))))))))))))))
theorem mL_378 : Cond.code yX12_mark cX12_mark 8 (some .long) ∈ wsL_law := uL_wsL_law_r16 _ (fw_t (fw_t (fw_t (fw_t (fw_t (fw_t (fw_t (fw_t (fw_t (fw_t (fw_t (fw_t (fw_t (fw_t (fw_t (fw_t (fw_t (fw_t fw_h))))))))))))))))))
theorem mL_379 : Cond.methodLink RX12 121 yX12_isRing ∈ wsL_law := uL_wsL_law_r16 _ (fw_t (fw_t (fw_t (fw_t (fw_t (fw_t (fw_t (fw_t (fw_t (fw_t (fw_t (fw_t (fw_t (fw_t (fw_t (fw_t (fw_t (fw_t (fw_t fw_h)))))))))))))))))))
theorem mL_380 : Cond.static yX12_isRing ∈ wsL_law := uL_wsL_law_r16 _ (fw_t (fw_t (fw_t (fw_t (fw_t (fw_t (fw_t (fw_t (fw_t (fw_t (fw_t (fw_t (fw_t (fw_t (fw_t (fw_t (fw_t (fw_t (fw_t (fw_t fw_h))))))))))))))))))))
theorem mL_381 : Cond.code yX12_isRing cX12_isRing 1 (some .boolean) ∈ wsL_law := uL_wsL_law_r16 _ (fw_t (fw_t (fw_t (fw_t (fw_t (fw_t (fw_t (fw_t (fw_t (fw_t (fw_t (fw_t (fw_t (fw_t (fw_t (fw_t (fw_t (fw_t (fw_t (fw_t (fw_t fw_h)))))))))))))))))))))
theorem mL_382 : Cond.methodLink RL 47 yX11_as ∈ wsL_law := uL_wsL_law_r16 _ (fw_t (fw_t (fw_t (fw_t (fw_t (fw_t (fw_t (fw_t (fw_t (fw_t (fw_t (fw_t (fw_t (fw_t (fw_t (fw_t (fw_t (fw_t (fw_t (fw_t (fw_t (fw_t fw_h))))))))))))))))))))))
theorem mL_383 : Cond.instanceMethod yX11_as ∈ wsL_law := uL_wsL_law_r16 _ (fw_t (fw_t (fw_t (fw_t (fw_t (fw_t (fw_t (fw_t (fw_t (fw_t (fw_t (fw_t (fw_t (fw_t (fw_t (fw_t (fw_t (fw_t (fw_t (fw_t (fw_t (fw_t (fw_t fw_h)))))))))))))))))))))))
theorem uL_wsL_law_r17 : ∀ w ∈ wsL_law_r17, w ∈ wsL_law := fun _ h => (fw_l (fw_l (fw_l (fw_l (fw_l (fw_l (fw_l (fw_l (fw_l (fw_l (fw_l (fw_l (fw_l (fw_l (fw_r (fw_r (fw_r (fw_r (fw_r (fw_r (fw_r (fw_r (fw_r (fw_r (fw_r (fw_r (fw_r (fw_r (fw_r (fw_r (fw_l h)))))))))))))))))))))))))))))))
theorem mL_384 : Cond.selects RX11 yX11_as yX11_as ∈ wsL_law := uL_wsL_law_r17 _ (fw_h)
theorem mL_385 : Cond.code yX11_as cX11_as 4 (some .long) ∈ wsL_law := uL_wsL_law_r17 _ (fw_t fw_h)
theorem mL_386 : Cond.constantLong RX11 171 (-1000000004) ∈ wsL_law := uL_wsL_law_r17 _ (fw_t (fw_t fw_h))
theorem mL_387 : Cond.methodLink RX11 157 yX11_markAt ∈ wsL_law := uL_wsL_law_r17 _ (fw_t (fw_t (fw_t fw_h)))
theorem mL_388 : Cond.instanceMethod yX11_markAt ∈ wsL_law := uL_wsL_law_r17 _ (fw_t (fw_t (fw_t (fw_t fw_h))))
theorem mL_389 : Cond.selects RX11 yX11_markAt yX11_markAt ∈ wsL_law := uL_wsL_law_r17 _ (fw_t (fw_t (fw_t (fw_t (fw_t fw_h)))))
theorem mL_390 : Cond.code yX11_markAt cX11_markAt 2 (some (.object "CornDesk$Mark")) ∈ wsL_law := uL_wsL_law_r17 _ (fw_t (fw_t (fw_t (fw_t (fw_t (fw_t fw_h))))))
theorem mL_391 : Cond.methodLink RL 51 yX12_as ∈ wsL_law := uL_wsL_law_r17 _ (fw_t (fw_t (fw_t (fw_t (fw_t (fw_t (fw_t fw_h)))))))
theorem mL_392 : Cond.instanceMethod yX12_as ∈ wsL_law := uL_wsL_law_r17 _ (fw_t (fw_t (fw_t (fw_t (fw_t (fw_t (fw_t (fw_t fw_h))))))))
theorem mL_393 : Cond.selects RX12 yX12_as yX12_as ∈ wsL_law := uL_wsL_law_r17 _ (fw_t (fw_t (fw_t (fw_t (fw_t (fw_t (fw_t (fw_t (fw_t fw_h)))))))))
theorem mL_394 : Cond.code yX12_as cX12_as 4 (some .long) ∈ wsL_law := uL_wsL_law_r17 _ (fw_t (fw_t (fw_t (fw_t (fw_t (fw_t (fw_t (fw_t (fw_t (fw_t fw_h))))))))))
theorem mL_395 : Cond.constantLong RX12 131 (-1000000004) ∈ wsL_law := uL_wsL_law_r17 _ (fw_t (fw_t (fw_t (fw_t (fw_t (fw_t (fw_t (fw_t (fw_t (fw_t (fw_t fw_h)))))))))))
theorem mL_396 : Cond.methodLink RX12 124 yX12_isMark ∈ wsL_law := uL_wsL_law_r17 _ (fw_t (fw_t (fw_t (fw_t (fw_t (fw_t (fw_t (fw_t (fw_t (fw_t (fw_t (fw_t fw_h))))))))))))
theorem mL_397 : Cond.instanceMethod yX12_isMark ∈ wsL_law := uL_wsL_law_r17 _ (fw_t (fw_t (fw_t (fw_t (fw_t (fw_t (fw_t (fw_t (fw_t (fw_t (fw_t (fw_t (fw_t fw_h)))))))))))))
theorem mL_398 : Cond.selects RX12 yX12_isMark yX12_isMark ∈ wsL_law := uL_wsL_law_r17 _ (fw_t (fw_t (fw_t (fw_t (fw_t (fw_t (fw_t (fw_t (fw_t (fw_t (fw_t (fw_t (fw_t (fw_t fw_h))))))))))))))
theorem mL_399 : Cond.code yX12_isMark cX12_isMark 2 (some .boolean) ∈ wsL_law := uL_wsL_law_r17 _ (fw_t (fw_t (fw_t (fw_t (fw_t (fw_t (fw_t (fw_t (fw_t (fw_t (fw_t (fw_t (fw_t (fw_t (fw_t fw_h)))))))))))))))
theorem mL_400 : Cond.methodLink RX12 127 yX12_ofMark ∈ wsL_law := uL_wsL_law_r17 _ (fw_t (fw_t (fw_t (fw_t (fw_t (fw_t (fw_t (fw_t (fw_t (fw_t (fw_t (fw_t (fw_t (fw_t (fw_t (fw_t fw_h))))))))))))))))
theorem mL_401 : Cond.instanceMethod yX12_ofMark ∈ wsL_law := uL_wsL_law_r17 _ (fw_t (fw_t (fw_t (fw_t (fw_t (fw_t (fw_t (fw_t (fw_t (fw_t (fw_t (fw_t (fw_t (fw_t (fw_t (fw_t (fw_t fw_h)))))))))))))))))
theorem mL_402 : Cond.selects RX12 yX12_ofMark yX12_ofMark ∈ wsL_law := uL_wsL_law_r17 _ (fw_t (fw_t (fw_t (fw_t (fw_t (fw_t (fw_t (fw_t (fw_t (fw_t (fw_t (fw_t (fw_t (fw_t (fw_t (fw_t (fw_t (fw_t fw_h))))))))))))))))))
theorem mL_403 : Cond.code yX12_ofMark cX12_ofMark 3 (some .int) ∈ wsL_law := uL_wsL_law_r17 _ (fw_t (fw_t (fw_t (fw_t (fw_t (fw_t (fw_t (fw_t (fw_t (fw_t (fw_t (fw_t (fw_t (fw_t (fw_t (fw_t (fw_t (fw_t (fw_t fw_h)))))))))))))))))))
theorem mL_404 : Cond.methodLink RL 52 yX11_at ∈ wsL_law := uL_wsL_law_r17 _ (fw_t (fw_t (fw_t (fw_t (fw_t (fw_t (fw_t (fw_t (fw_t (fw_t (fw_t (fw_t (fw_t (fw_t (fw_t (fw_t (fw_t (fw_t (fw_t (fw_t fw_h))))))))))))))))))))
theorem mL_405 : Cond.instanceMethod yX11_at ∈ wsL_law := uL_wsL_law_r17 _ (fw_t (fw_t (fw_t (fw_t (fw_t (fw_t (fw_t (fw_t (fw_t (fw_t (fw_t (fw_t (fw_t (fw_t (fw_t (fw_t (fw_t (fw_t (fw_t (fw_t (fw_t fw_h)))))))))))))))))))))
theorem mL_406 : Cond.selects RX11 yX11_at yX11_at ∈ wsL_law := uL_wsL_law_r17 _ (fw_t (fw_t (fw_t (fw_t (fw_t (fw_t (fw_t (fw_t (fw_t (fw_t (fw_t (fw_t (fw_t (fw_t (fw_t (fw_t (fw_t (fw_t (fw_t (fw_t (fw_t (fw_t fw_h))))))))))))))))))))))
theorem mL_407 : Cond.code yX11_at cX11_at 4 (some .long) ∈ wsL_law := uL_wsL_law_r17 _ (fw_t (fw_t (fw_t (fw_t (fw_t (fw_t (fw_t (fw_t (fw_t (fw_t (fw_t (fw_t (fw_t (fw_t (fw_t (fw_t (fw_t (fw_t (fw_t (fw_t (fw_t (fw_t (fw_t fw_h)))))))))))))))))))))))
theorem uL_wsL_law_r18 : ∀ w ∈ wsL_law_r18, w ∈ wsL_law := fun _ h => (fw_l (fw_l (fw_l (fw_l (fw_l (fw_l (fw_l (fw_l (fw_l (fw_l (fw_l (fw_l (fw_l (fw_l (fw_r (fw_r (fw_r (fw_r (fw_r (fw_r (fw_r (fw_r (fw_r (fw_r (fw_r (fw_r (fw_r (fw_r (fw_r (fw_r (fw_r (fw_l h))))))))))))))))))))))))))))))))
theorem mL_408 : Cond.methodLink RX11 173 yX5_hasSpot ∈ wsL_law := uL_wsL_law_r18 _ (fw_h)
theorem mL_409 : Cond.instanceMethod yX5_hasSpot ∈ wsL_law := uL_wsL_law_r18 _ (fw_t fw_h)
theorem mL_410 : Cond.selects RX5 yX5_hasSpot yX5_hasSpot ∈ wsL_law := uL_wsL_law_r18 _ (fw_t (fw_t fw_h))
theorem mL_411 : Cond.code yX5_hasSpot cX5_hasSpot 2 (some .boolean) ∈ wsL_law := uL_wsL_law_r18 _ (fw_t (fw_t (fw_t fw_h)))
theorem mL_412 : Cond.methodLink RX5 29 yX7_way ∈ wsL_law := uL_wsL_law_r18 _ (fw_t (fw_t (fw_t (fw_t fw_h))))
theorem mL_413 : Cond.methodLink RX5 35 yX4_isThere ∈ wsL_law := uL_wsL_law_r18 _ (fw_t (fw_t (fw_t (fw_t (fw_t fw_h)))))
theorem mL_414 : Cond.methodLink RX11 177 yX5_spot ∈ wsL_law := uL_wsL_law_r18 _ (fw_t (fw_t (fw_t (fw_t (fw_t (fw_t fw_h))))))
theorem mL_415 : Cond.instanceMethod yX5_spot ∈ wsL_law := uL_wsL_law_r18 _ (fw_t (fw_t (fw_t (fw_t (fw_t (fw_t (fw_t fw_h)))))))
theorem mL_416 : Cond.selects RX5 yX5_spot yX5_spot ∈ wsL_law := uL_wsL_law_r18 _ (fw_t (fw_t (fw_t (fw_t (fw_t (fw_t (fw_t (fw_t fw_h))))))))
theorem mL_417 : Cond.code yX5_spot cX5_spot 2 (some .long) ∈ wsL_law := uL_wsL_law_r18 _ (fw_t (fw_t (fw_t (fw_t (fw_t (fw_t (fw_t (fw_t (fw_t fw_h)))))))))
theorem mL_418 : Cond.methodLink RX5 41 yX4_cutAt ∈ wsL_law := uL_wsL_law_r18 _ (fw_t (fw_t (fw_t (fw_t (fw_t (fw_t (fw_t (fw_t (fw_t (fw_t fw_h))))))))))
theorem mL_419 : Cond.instanceMethod yX4_cutAt ∈ wsL_law := uL_wsL_law_r18 _ (fw_t (fw_t (fw_t (fw_t (fw_t (fw_t (fw_t (fw_t (fw_t (fw_t (fw_t fw_h)))))))))))
theorem mL_420 : Cond.selects RX4 yX4_cutAt yX4_cutAt ∈ wsL_law := uL_wsL_law_r18 _ (fw_t (fw_t (fw_t (fw_t (fw_t (fw_t (fw_t (fw_t (fw_t (fw_t (fw_t (fw_t fw_h))))))))))))
theorem mL_421 : Cond.code yX4_cutAt cX4_cutAt 2 (some .long) ∈ wsL_law := uL_wsL_law_r18 _ (fw_t (fw_t (fw_t (fw_t (fw_t (fw_t (fw_t (fw_t (fw_t (fw_t (fw_t (fw_t (fw_t fw_h)))))))))))))
theorem mL_422 : Cond.methodLink RX4 39 yJ9_floorDiv_f86c9 ∈ wsL_law := uL_wsL_law_r18 _ (fw_t (fw_t (fw_t (fw_t (fw_t (fw_t (fw_t (fw_t (fw_t (fw_t (fw_t (fw_t (fw_t (fw_t fw_h))))))))))))))
theorem mL_423 : Cond.static yJ9_floorDiv_f86c9 ∈ wsL_law := uL_wsL_law_r18 _ (fw_t (fw_t (fw_t (fw_t (fw_t (fw_t (fw_t (fw_t (fw_t (fw_t (fw_t (fw_t (fw_t (fw_t (fw_t fw_h)))))))))))))))
theorem mL_424 : Cond.initialized RJ9 ∈ wsL_law := uL_wsL_law_r18 _ (fw_t (fw_t (fw_t (fw_t (fw_t (fw_t (fw_t (fw_t (fw_t (fw_t (fw_t (fw_t (fw_t (fw_t (fw_t (fw_t fw_h))))))))))))))))
theorem mL_425 : Cond.code yJ9_floorDiv_f86c9 cJ9_floorDiv_f86c9 6 (some .long) ∈ wsL_law := uL_wsL_law_r18 _ (fw_t (fw_t (fw_t (fw_t (fw_t (fw_t (fw_t (fw_t (fw_t (fw_t (fw_t (fw_t (fw_t (fw_t (fw_t (fw_t (fw_t fw_h)))))))))))))))))
theorem mL_426 : Cond.methodLink RL 56 yX12_at ∈ wsL_law := uL_wsL_law_r18 _ (fw_t (fw_t (fw_t (fw_t (fw_t (fw_t (fw_t (fw_t (fw_t (fw_t (fw_t (fw_t (fw_t (fw_t (fw_t (fw_t (fw_t (fw_t fw_h))))))))))))))))))
theorem mL_427 : Cond.instanceMethod yX12_at ∈ wsL_law := uL_wsL_law_r18 _ (fw_t (fw_t (fw_t (fw_t (fw_t (fw_t (fw_t (fw_t (fw_t (fw_t (fw_t (fw_t (fw_t (fw_t (fw_t (fw_t (fw_t (fw_t (fw_t fw_h)))))))))))))))))))
theorem mL_428 : Cond.selects RX12 yX12_at yX12_at ∈ wsL_law := uL_wsL_law_r18 _ (fw_t (fw_t (fw_t (fw_t (fw_t (fw_t (fw_t (fw_t (fw_t (fw_t (fw_t (fw_t (fw_t (fw_t (fw_t (fw_t (fw_t (fw_t (fw_t (fw_t fw_h))))))))))))))))))))
theorem mL_429 : Cond.code yX12_at cX12_at 3 (some .long) ∈ wsL_law := uL_wsL_law_r18 _ (fw_t (fw_t (fw_t (fw_t (fw_t (fw_t (fw_t (fw_t (fw_t (fw_t (fw_t (fw_t (fw_t (fw_t (fw_t (fw_t (fw_t (fw_t (fw_t (fw_t (fw_t fw_h)))))))))))))))))))))
theorem mL_430 : Cond.methodLink RX12 133 yX12_cut ∈ wsL_law := uL_wsL_law_r18 _ (fw_t (fw_t (fw_t (fw_t (fw_t (fw_t (fw_t (fw_t (fw_t (fw_t (fw_t (fw_t (fw_t (fw_t (fw_t (fw_t (fw_t (fw_t (fw_t (fw_t (fw_t (fw_t fw_h))))))))))))))))))))))
theorem mL_431 : Cond.static yX12_cut ∈ wsL_law := uL_wsL_law_r18 _ (fw_t (fw_t (fw_t (fw_t (fw_t (fw_t (fw_t (fw_t (fw_t (fw_t (fw_t (fw_t (fw_t (fw_t (fw_t (fw_t (fw_t (fw_t (fw_t (fw_t (fw_t (fw_t (fw_t fw_h)))))))))))))))))))))))
theorem uL_wsL_law_r19 : ∀ w ∈ wsL_law_r19, w ∈ wsL_law := fun _ h => (fw_l (fw_l (fw_l (fw_l (fw_l (fw_l (fw_l (fw_l (fw_l (fw_l (fw_l (fw_l (fw_l (fw_l (fw_r (fw_r (fw_r (fw_r (fw_r (fw_r (fw_r (fw_r (fw_r (fw_r (fw_r (fw_r (fw_r (fw_r (fw_r (fw_r (fw_r (fw_r (fw_l h)))))))))))))))))))))))))))))))))
theorem mL_432 : Cond.code yX12_cut cX12_cut 6 (some .long) ∈ wsL_law := uL_wsL_law_r19 _ (fw_h)
theorem mL_433 : Cond.methodLink RL 57 yX11_agree ∈ wsL_law := uL_wsL_law_r19 _ (fw_t fw_h)
theorem mL_434 : Cond.instanceMethod yX11_agree ∈ wsL_law := uL_wsL_law_r19 _ (fw_t (fw_t fw_h))
theorem mL_435 : Cond.selects RX11 yX11_agree yX11_agree ∈ wsL_law := uL_wsL_law_r19 _ (fw_t (fw_t (fw_t fw_h)))
theorem mL_436 : Cond.code yX11_agree cX11_agree 5 (some .long) ∈ wsL_law := uL_wsL_law_r19 _ (fw_t (fw_t (fw_t (fw_t fw_h))))
theorem mL_437 : Cond.methodLink RX11 181 yX5_fits ∈ wsL_law := uL_wsL_law_r19 _ (fw_t (fw_t (fw_t (fw_t (fw_t fw_h)))))
theorem mL_438 : Cond.instanceMethod yX5_fits ∈ wsL_law := uL_wsL_law_r19 _ (fw_t (fw_t (fw_t (fw_t (fw_t (fw_t fw_h))))))
theorem mL_439 : Cond.selects RX5 yX5_fits yX5_fits ∈ wsL_law := uL_wsL_law_r19 _ (fw_t (fw_t (fw_t (fw_t (fw_t (fw_t (fw_t fw_h)))))))
theorem mL_440 : Cond.code yX5_fits cX5_fits 4 (some .boolean) ∈ wsL_law := uL_wsL_law_r19 _ (fw_t (fw_t (fw_t (fw_t (fw_t (fw_t (fw_t (fw_t fw_h))))))))
theorem mL_441 : Cond.methodLink RX5 63 Lib.MathLoose.abs_long.x ∈ wsL_law := uL_wsL_law_r19 _ (fw_t (fw_t (fw_t (fw_t (fw_t (fw_t (fw_t (fw_t (fw_t fw_h)))))))))
theorem mL_442 : Cond.methodLink RX5 48 yX5_sharesPicture ∈ wsL_law := uL_wsL_law_r19 _ (fw_t (fw_t (fw_t (fw_t (fw_t (fw_t (fw_t (fw_t (fw_t (fw_t fw_h))))))))))
theorem mL_443 : Cond.instanceMethod yX5_sharesPicture ∈ wsL_law := uL_wsL_law_r19 _ (fw_t (fw_t (fw_t (fw_t (fw_t (fw_t (fw_t (fw_t (fw_t (fw_t (fw_t fw_h)))))))))))
theorem mL_444 : Cond.selects RX5 yX5_sharesPicture yX5_sharesPicture ∈ wsL_law := uL_wsL_law_r19 _ (fw_t (fw_t (fw_t (fw_t (fw_t (fw_t (fw_t (fw_t (fw_t (fw_t (fw_t (fw_t fw_h))))))))))))
theorem mL_445 : Cond.code yX5_sharesPicture cX5_sharesPicture 2 (some .boolean) ∈ wsL_law := uL_wsL_law_r19 _ (fw_t (fw_t (fw_t (fw_t (fw_t (fw_t (fw_t (fw_t (fw_t (fw_t (fw_t (fw_t (fw_t fw_h)))))))))))))
theorem mL_446 : Cond.methodLink RX5 52 yX7_hasReach ∈ wsL_law := uL_wsL_law_r19 _ (fw_t (fw_t (fw_t (fw_t (fw_t (fw_t (fw_t (fw_t (fw_t (fw_t (fw_t (fw_t (fw_t (fw_t fw_h))))))))))))))
theorem mL_447 : Cond.methodLink RX5 55 yX7_reach ∈ wsL_law := uL_wsL_law_r19 _ (fw_t (fw_t (fw_t (fw_t (fw_t (fw_t (fw_t (fw_t (fw_t (fw_t (fw_t (fw_t (fw_t (fw_t (fw_t fw_h)))))))))))))))
theorem mL_448 : Cond.methodLink RX5 59 yX5_spot ∈ wsL_law := uL_wsL_law_r19 _ (fw_t (fw_t (fw_t (fw_t (fw_t (fw_t (fw_t (fw_t (fw_t (fw_t (fw_t (fw_t (fw_t (fw_t (fw_t (fw_t fw_h))))))))))))))))
theorem mL_449 : Cond.methodLink RL 60 yX12_agree ∈ wsL_law := uL_wsL_law_r19 _ (fw_t (fw_t (fw_t (fw_t (fw_t (fw_t (fw_t (fw_t (fw_t (fw_t (fw_t (fw_t (fw_t (fw_t (fw_t (fw_t (fw_t fw_h)))))))))))))))))
theorem mL_450 : Cond.instanceMethod yX12_agree ∈ wsL_law := uL_wsL_law_r19 _ (fw_t (fw_t (fw_t (fw_t (fw_t (fw_t (fw_t (fw_t (fw_t (fw_t (fw_t (fw_t (fw_t (fw_t (fw_t (fw_t (fw_t (fw_t fw_h))))))))))))))))))
theorem mL_451 : Cond.selects RX12 yX12_agree yX12_agree ∈ wsL_law := uL_wsL_law_r19 _ (fw_t (fw_t (fw_t (fw_t (fw_t (fw_t (fw_t (fw_t (fw_t (fw_t (fw_t (fw_t (fw_t (fw_t (fw_t (fw_t (fw_t (fw_t (fw_t fw_h)))))))))))))))))))
theorem mL_452 : Cond.code yX12_agree cX12_agree 3 (some .long) ∈ wsL_law := uL_wsL_law_r19 _ (fw_t (fw_t (fw_t (fw_t (fw_t (fw_t (fw_t (fw_t (fw_t (fw_t (fw_t (fw_t (fw_t (fw_t (fw_t (fw_t (fw_t (fw_t (fw_t (fw_t fw_h))))))))))))))))))))
theorem mL_453 : Cond.methodLink RX12 136 yX12_findPlaces ∈ wsL_law := uL_wsL_law_r19 _ (fw_t (fw_t (fw_t (fw_t (fw_t (fw_t (fw_t (fw_t (fw_t (fw_t (fw_t (fw_t (fw_t (fw_t (fw_t (fw_t (fw_t (fw_t (fw_t (fw_t (fw_t fw_h)))))))))))))))))))))
theorem mL_454 : Cond.instanceMethod yX12_findPlaces ∈ wsL_law := uL_wsL_law_r19 _ (fw_t (fw_t (fw_t (fw_t (fw_t (fw_t (fw_t (fw_t (fw_t (fw_t (fw_t (fw_t (fw_t (fw_t (fw_t (fw_t (fw_t (fw_t (fw_t (fw_t (fw_t (fw_t fw_h))))))))))))))))))))))
theorem mL_455 : Cond.selects RX12 yX12_findPlaces yX12_findPlaces ∈ wsL_law := uL_wsL_law_r19 _ (fw_t (fw_t (fw_t (fw_t (fw_t (fw_t (fw_t (fw_t (fw_t (fw_t (fw_t (fw_t (fw_t (fw_t (fw_t (fw_t (fw_t (fw_t (fw_t (fw_t (fw_t (fw_t (fw_t fw_h)))))))))))))))))))))))
theorem uL_wsL_law_r20 : ∀ w ∈ wsL_law_r20, w ∈ wsL_law := fun _ h => (fw_l (fw_l (fw_l (fw_l (fw_l (fw_l (fw_l (fw_l (fw_l (fw_l (fw_l (fw_l (fw_l (fw_l (fw_r (fw_r (fw_r (fw_r (fw_r (fw_r (fw_r (fw_r (fw_r (fw_r (fw_r (fw_r (fw_r (fw_r (fw_r (fw_r (fw_r (fw_r (fw_r (fw_l h))))))))))))))))))))))))))))))))))
theorem mL_456 : Cond.code yX12_findPlaces cX12_findPlaces 3 none ∈ wsL_law := uL_wsL_law_r20 _ (fw_h)
theorem mL_457 : Cond.methodLink RX12 146 yX12_doAgree ∈ wsL_law := uL_wsL_law_r20 _ (fw_t fw_h)
theorem mL_458 : Cond.instanceMethod yX12_doAgree ∈ wsL_law := uL_wsL_law_r20 _ (fw_t (fw_t fw_h))
theorem mL_459 : Cond.selects RX12 yX12_doAgree yX12_doAgree ∈ wsL_law := uL_wsL_law_r20 _ (fw_t (fw_t (fw_t fw_h)))
theorem mL_460 : Cond.code yX12_doAgree cX12_doAgree 7 (some .boolean) ∈ wsL_law := uL_wsL_law_r20 _ (fw_t (fw_t (fw_t (fw_t fw_h))))
theorem mL_461 : Cond.methodLink RL 61 yX11_group ∈ wsL_law := uL_wsL_law_r20 _ (fw_t (fw_t (fw_t (fw_t (fw_t fw_h)))))
theorem mL_462 : Cond.instanceMethod yX11_group ∈ wsL_law := uL_wsL_law_r20 _ (fw_t (fw_t (fw_t (fw_t (fw_t (fw_t fw_h))))))
theorem mL_463 : Cond.selects RX11 yX11_group yX11_group ∈ wsL_law := uL_wsL_law_r20 _ (fw_t (fw_t (fw_t (fw_t (fw_t (fw_t (fw_t fw_h)))))))
theorem mL_464 : Cond.code yX11_group cX11_group 2 (some .long) ∈ wsL_law := uL_wsL_law_r20 _ (fw_t (fw_t (fw_t (fw_t (fw_t (fw_t (fw_t (fw_t fw_h))))))))
theorem mL_465 : Cond.methodLink RX11 185 yX3_sort ∈ wsL_law := uL_wsL_law_r20 _ (fw_t (fw_t (fw_t (fw_t (fw_t (fw_t (fw_t (fw_t (fw_t fw_h)))))))))
theorem mL_466 : Cond.instanceMethod yX3_sort ∈ wsL_law := uL_wsL_law_r20 _ (fw_t (fw_t (fw_t (fw_t (fw_t (fw_t (fw_t (fw_t (fw_t (fw_t fw_h))))))))))
theorem mL_467 : Cond.selects RX3 yX3_sort yX3_sort ∈ wsL_law := uL_wsL_law_r20 _ (fw_t (fw_t (fw_t (fw_t (fw_t (fw_t (fw_t (fw_t (fw_t (fw_t (fw_t fw_h)))))))))))
theorem mL_468 : Cond.code yX3_sort cX3_sort 4 none ∈ wsL_law := uL_wsL_law_r20 _ (fw_t (fw_t (fw_t (fw_t (fw_t (fw_t (fw_t (fw_t (fw_t (fw_t (fw_t (fw_t fw_h))))))))))))
theorem mL_469 : Cond.fieldLink RX3 25 "CornDesk$Groups" "total" "I" ∈ wsL_law := uL_wsL_law_r20 _ (fw_t (fw_t (fw_t (fw_t (fw_t (fw_t (fw_t (fw_t (fw_t (fw_t (fw_t (fw_t (fw_t fw_h)))))))))))))
theorem mL_470 : Cond.fieldLink RX3 29 "CornDesk$Groups" "count" "I" ∈ wsL_law := uL_wsL_law_r20 _ (fw_t (fw_t (fw_t (fw_t (fw_t (fw_t (fw_t (fw_t (fw_t (fw_t (fw_t (fw_t (fw_t (fw_t fw_h))))))))))))))
theorem mL_471 : Cond.methodLink RX3 21 yX3_standing ∈ wsL_law := uL_wsL_law_r20 _ (fw_t (fw_t (fw_t (fw_t (fw_t (fw_t (fw_t (fw_t (fw_t (fw_t (fw_t (fw_t (fw_t (fw_t (fw_t fw_h)))))))))))))))
theorem mL_472 : Cond.static yX3_standing ∈ wsL_law := uL_wsL_law_r20 _ (fw_t (fw_t (fw_t (fw_t (fw_t (fw_t (fw_t (fw_t (fw_t (fw_t (fw_t (fw_t (fw_t (fw_t (fw_t (fw_t fw_h))))))))))))))))
theorem mL_473 : Cond.code yX3_standing cX3_standing 4 (some .int) ∈ wsL_law := uL_wsL_law_r20 _ (fw_t (fw_t (fw_t (fw_t (fw_t (fw_t (fw_t (fw_t (fw_t (fw_t (fw_t (fw_t (fw_t (fw_t (fw_t (fw_t (fw_t fw_h)))))))))))))))))
theorem mL_474 : Cond.methodLink RX3 42 Lib.Math.min.name ∈ wsL_law := uL_wsL_law_r20 _ (fw_t (fw_t (fw_t (fw_t (fw_t (fw_t (fw_t (fw_t (fw_t (fw_t (fw_t (fw_t (fw_t (fw_t (fw_t (fw_t (fw_t (fw_t fw_h))))))))))))))))))
theorem mL_475 : Cond.methodLink RX3 32 yJ7_fill_53178 ∈ wsL_law := uL_wsL_law_r20 _ (fw_t (fw_t (fw_t (fw_t (fw_t (fw_t (fw_t (fw_t (fw_t (fw_t (fw_t (fw_t (fw_t (fw_t (fw_t (fw_t (fw_t (fw_t (fw_t fw_h)))))))))))))))))))
theorem mL_476 : Cond.methodLink RX3 38 yX3_gather ∈ wsL_law := uL_wsL_law_r20 _ (fw_t (fw_t (fw_t (fw_t (fw_t (fw_t (fw_t (fw_t (fw_t (fw_t (fw_t (fw_t (fw_t (fw_t (fw_t (fw_t (fw_t (fw_t (fw_t (fw_t fw_h))))))))))))))))))))
theorem mL_477 : Cond.instanceMethod yX3_gather ∈ wsL_law := uL_wsL_law_r20 _ (fw_t (fw_t (fw_t (fw_t (fw_t (fw_t (fw_t (fw_t (fw_t (fw_t (fw_t (fw_t (fw_t (fw_t (fw_t (fw_t (fw_t (fw_t (fw_t (fw_t (fw_t fw_h)))))))))))))))))))))
theorem mL_478 : Cond.selects RX3 yX3_gather yX3_gather ∈ wsL_law := uL_wsL_law_r20 _ (fw_t (fw_t (fw_t (fw_t (fw_t (fw_t (fw_t (fw_t (fw_t (fw_t (fw_t (fw_t (fw_t (fw_t (fw_t (fw_t (fw_t (fw_t (fw_t (fw_t (fw_t (fw_t fw_h))))))))))))))))))))))
theorem mL_479 : Cond.code yX3_gather cX3_gather 7 none ∈ wsL_law := uL_wsL_law_r20 _ (fw_t (fw_t (fw_t (fw_t (fw_t (fw_t (fw_t (fw_t (fw_t (fw_t (fw_t (fw_t (fw_t (fw_t (fw_t (fw_t (fw_t (fw_t (fw_t (fw_t (fw_t (fw_t (fw_t fw_h)))))))))))))))))))))))
theorem uL_wsL_law_r21 : ∀ w ∈ wsL_law_r21, w ∈ wsL_law := fun _ h => (fw_l (fw_l (fw_l (fw_l (fw_l (fw_l (fw_l (fw_l (fw_l (fw_l (fw_l (fw_l (fw_l (fw_l (fw_r (fw_r (fw_r (fw_r (fw_r (fw_r (fw_r (fw_r (fw_r (fw_r (fw_r (fw_r (fw_r (fw_r (fw_r (fw_r (fw_r (fw_r (fw_r (fw_r (fw_l h)))))))))))))))))))))))))))))))))))
theorem mL_480 : Cond.methodLink RX3 48 yX5_fits ∈ wsL_law := uL_wsL_law_r21 _ (fw_h)
theorem mL_481 : Cond.methodLink RX11 189 yX3_groupOf ∈ wsL_law := uL_wsL_law_r21 _ (fw_t fw_h)
theorem mL_482 : Cond.instanceMethod yX3_groupOf ∈ wsL_law := uL_wsL_law_r21 _ (fw_t (fw_t fw_h))
theorem mL_483 : Cond.selects RX3 yX3_groupOf yX3_groupOf ∈ wsL_law := uL_wsL_law_r21 _ (fw_t (fw_t (fw_t fw_h)))
theorem mL_484 : Cond.code yX3_groupOf cX3_groupOf 2 (some .int) ∈ wsL_law := uL_wsL_law_r21 _ (fw_t (fw_t (fw_t (fw_t fw_h))))
theorem mL_485 : Cond.methodLink RL 64 yX12_group ∈ wsL_law := uL_wsL_law_r21 _ (fw_t (fw_t (fw_t (fw_t (fw_t fw_h)))))
theorem mL_486 : Cond.instanceMethod yX12_group ∈ wsL_law := uL_wsL_law_r21 _ (fw_t (fw_t (fw_t (fw_t (fw_t (fw_t fw_h))))))
theorem mL_487 : Cond.selects RX12 yX12_group yX12_group ∈ wsL_law := uL_wsL_law_r21 _ (fw_t (fw_t (fw_t (fw_t (fw_t (fw_t (fw_t fw_h)))))))
theorem mL_488 : Cond.code yX12_group cX12_group 2 (some .long) ∈ wsL_law := uL_wsL_law_r21 _ (fw_t (fw_t (fw_t (fw_t (fw_t (fw_t (fw_t (fw_t fw_h))))))))
theorem mL_489 : Cond.methodLink RX12 149 yX12_findGroups ∈ wsL_law := uL_wsL_law_r21 _ (fw_t (fw_t (fw_t (fw_t (fw_t (fw_t (fw_t (fw_t (fw_t fw_h)))))))))
theorem mL_490 : Cond.instanceMethod yX12_findGroups ∈ wsL_law := uL_wsL_law_r21 _ (fw_t (fw_t (fw_t (fw_t (fw_t (fw_t (fw_t (fw_t (fw_t (fw_t fw_h))))))))))
theorem mL_491 : Cond.selects RX12 yX12_findGroups yX12_findGroups ∈ wsL_law := uL_wsL_law_r21 _ (fw_t (fw_t (fw_t (fw_t (fw_t (fw_t (fw_t (fw_t (fw_t (fw_t (fw_t fw_h)))))))))))
theorem mL_492 : Cond.code yX12_findGroups cX12_findGroups 2 none ∈ wsL_law := uL_wsL_law_r21 _ (fw_t (fw_t (fw_t (fw_t (fw_t (fw_t (fw_t (fw_t (fw_t (fw_t (fw_t (fw_t fw_h))))))))))))
theorem mL_493 : Cond.fieldLink RX12 139 "CornDeskModel" "groupMany" "I" ∈ wsL_law := uL_wsL_law_r21 _ (fw_t (fw_t (fw_t (fw_t (fw_t (fw_t (fw_t (fw_t (fw_t (fw_t (fw_t (fw_t (fw_t fw_h)))))))))))))
theorem mL_494 : Cond.methodLink RX12 142 yX12_spreads ∈ wsL_law := uL_wsL_law_r21 _ (fw_t (fw_t (fw_t (fw_t (fw_t (fw_t (fw_t (fw_t (fw_t (fw_t (fw_t (fw_t (fw_t (fw_t fw_h))))))))))))))
theorem mL_495 : Cond.instanceMethod yX12_spreads ∈ wsL_law := uL_wsL_law_r21 _ (fw_t (fw_t (fw_t (fw_t (fw_t (fw_t (fw_t (fw_t (fw_t (fw_t (fw_t (fw_t (fw_t (fw_t (fw_t fw_h)))))))))))))))
theorem mL_496 : Cond.selects RX12 yX12_spreads yX12_spreads ∈ wsL_law := uL_wsL_law_r21 _ (fw_t (fw_t (fw_t (fw_t (fw_t (fw_t (fw_t (fw_t (fw_t (fw_t (fw_t (fw_t (fw_t (fw_t (fw_t (fw_t fw_h))))))))))))))))
theorem mL_497 : Cond.code yX12_spreads cX12_spreads 5 none ∈ wsL_law := uL_wsL_law_r21 _ (fw_t (fw_t (fw_t (fw_t (fw_t (fw_t (fw_t (fw_t (fw_t (fw_t (fw_t (fw_t (fw_t (fw_t (fw_t (fw_t (fw_t fw_h)))))))))))))))))
theorem mL_498 : Cond.methodLink RL 65 yX11_groups ∈ wsL_law := uL_wsL_law_r21 _ (fw_t (fw_t (fw_t (fw_t (fw_t (fw_t (fw_t (fw_t (fw_t (fw_t (fw_t (fw_t (fw_t (fw_t (fw_t (fw_t (fw_t (fw_t fw_h))))))))))))))))))
theorem mL_499 : Cond.instanceMethod yX11_groups ∈ wsL_law := uL_wsL_law_r21 _ (fw_t (fw_t (fw_t (fw_t (fw_t (fw_t (fw_t (fw_t (fw_t (fw_t (fw_t (fw_t (fw_t (fw_t (fw_t (fw_t (fw_t (fw_t (fw_t fw_h)))))))))))))))))))
theorem mL_500 : Cond.selects RX11 yX11_groups yX11_groups ∈ wsL_law := uL_wsL_law_r21 _ (fw_t (fw_t (fw_t (fw_t (fw_t (fw_t (fw_t (fw_t (fw_t (fw_t (fw_t (fw_t (fw_t (fw_t (fw_t (fw_t (fw_t (fw_t (fw_t (fw_t fw_h))))))))))))))))))))
theorem mL_501 : Cond.code yX11_groups cX11_groups 1 (some .long) ∈ wsL_law := uL_wsL_law_r21 _ (fw_t (fw_t (fw_t (fw_t (fw_t (fw_t (fw_t (fw_t (fw_t (fw_t (fw_t (fw_t (fw_t (fw_t (fw_t (fw_t (fw_t (fw_t (fw_t (fw_t (fw_t fw_h)))))))))))))))))))))
theorem mL_502 : Cond.methodLink RX11 193 yX3_count ∈ wsL_law := uL_wsL_law_r21 _ (fw_t (fw_t (fw_t (fw_t (fw_t (fw_t (fw_t (fw_t (fw_t (fw_t (fw_t (fw_t (fw_t (fw_t (fw_t (fw_t (fw_t (fw_t (fw_t (fw_t (fw_t (fw_t fw_h))))))))))))))))))))))
theorem mL_503 : Cond.instanceMethod yX3_count ∈ wsL_law := uL_wsL_law_r21 _ (fw_t (fw_t (fw_t (fw_t (fw_t (fw_t (fw_t (fw_t (fw_t (fw_t (fw_t (fw_t (fw_t (fw_t (fw_t (fw_t (fw_t (fw_t (fw_t (fw_t (fw_t (fw_t (fw_t fw_h)))))))))))))))))))))))
theorem uL_wsL_law_r22 : ∀ w ∈ wsL_law_r22, w ∈ wsL_law := fun _ h => (fw_l (fw_l (fw_l (fw_l (fw_l (fw_l (fw_l (fw_l (fw_l (fw_l (fw_l (fw_l (fw_l (fw_l (fw_r (fw_r (fw_r (fw_r (fw_r (fw_r (fw_r (fw_r (fw_r (fw_r (fw_r (fw_r (fw_r (fw_r (fw_r (fw_r (fw_r (fw_r (fw_r (fw_r (fw_r (fw_l h))))))))))))))))))))))))))))))))))))
theorem mL_504 : Cond.selects RX3 yX3_count yX3_count ∈ wsL_law := uL_wsL_law_r22 _ (fw_h)
theorem mL_505 : Cond.code yX3_count cX3_count 1 (some .int) ∈ wsL_law := uL_wsL_law_r22 _ (fw_t fw_h)
theorem mL_506 : Cond.methodLink RL 68 yX12_groups ∈ wsL_law := uL_wsL_law_r22 _ (fw_t (fw_t fw_h))
theorem mL_507 : Cond.instanceMethod yX12_groups ∈ wsL_law := uL_wsL_law_r22 _ (fw_t (fw_t (fw_t fw_h)))
theorem mL_508 : Cond.selects RX12 yX12_groups yX12_groups ∈ wsL_law := uL_wsL_law_r22 _ (fw_t (fw_t (fw_t (fw_t fw_h))))
theorem mL_509 : Cond.code yX12_groups cX12_groups 1 (some .long) ∈ wsL_law := uL_wsL_law_r22 _ (fw_t (fw_t (fw_t (fw_t (fw_t fw_h)))))
theorem mL_510 : Cond.methodLink RL 69 yX11_rivals ∈ wsL_law := uL_wsL_law_r22 _ (fw_t (fw_t (fw_t (fw_t (fw_t (fw_t fw_h))))))
theorem mL_511 : Cond.instanceMethod yX11_rivals ∈ wsL_law := uL_wsL_law_r22 _ (fw_t (fw_t (fw_t (fw_t (fw_t (fw_t (fw_t fw_h)))))))
theorem mL_512 : Cond.selects RX11 yX11_rivals yX11_rivals ∈ wsL_law := uL_wsL_law_r22 _ (fw_t (fw_t (fw_t (fw_t (fw_t (fw_t (fw_t (fw_t fw_h))))))))
theorem mL_513 : Cond.code yX11_rivals cX11_rivals 2 (some .long) ∈ wsL_law := uL_wsL_law_r22 _ (fw_t (fw_t (fw_t (fw_t (fw_t (fw_t (fw_t (fw_t (fw_t fw_h)))))))))
theorem mL_514 : Cond.methodLink RX11 196 yX3_has ∈ wsL_law := uL_wsL_law_r22 _ (fw_t (fw_t (fw_t (fw_t (fw_t (fw_t (fw_t (fw_t (fw_t (fw_t fw_h))))))))))
theorem mL_515 : Cond.instanceMethod yX3_has ∈ wsL_law := uL_wsL_law_r22 _ (fw_t (fw_t (fw_t (fw_t (fw_t (fw_t (fw_t (fw_t (fw_t (fw_t (fw_t fw_h)))))))))))
theorem mL_516 : Cond.selects RX3 yX3_has yX3_has ∈ wsL_law := uL_wsL_law_r22 _ (fw_t (fw_t (fw_t (fw_t (fw_t (fw_t (fw_t (fw_t (fw_t (fw_t (fw_t (fw_t fw_h))))))))))))
theorem mL_517 : Cond.code yX3_has cX3_has 2 (some .boolean) ∈ wsL_law := uL_wsL_law_r22 _ (fw_t (fw_t (fw_t (fw_t (fw_t (fw_t (fw_t (fw_t (fw_t (fw_t (fw_t (fw_t (fw_t fw_h)))))))))))))
theorem mL_518 : Cond.methodLink RX11 199 yX3_rivalPairs ∈ wsL_law := uL_wsL_law_r22 _ (fw_t (fw_t (fw_t (fw_t (fw_t (fw_t (fw_t (fw_t (fw_t (fw_t (fw_t (fw_t (fw_t (fw_t fw_h))))))))))))))
theorem mL_519 : Cond.instanceMethod yX3_rivalPairs ∈ wsL_law := uL_wsL_law_r22 _ (fw_t (fw_t (fw_t (fw_t (fw_t (fw_t (fw_t (fw_t (fw_t (fw_t (fw_t (fw_t (fw_t (fw_t (fw_t fw_h)))))))))))))))
theorem mL_520 : Cond.selects RX3 yX3_rivalPairs yX3_rivalPairs ∈ wsL_law := uL_wsL_law_r22 _ (fw_t (fw_t (fw_t (fw_t (fw_t (fw_t (fw_t (fw_t (fw_t (fw_t (fw_t (fw_t (fw_t (fw_t (fw_t (fw_t fw_h))))))))))))))))
theorem mL_521 : Cond.code yX3_rivalPairs cX3_rivalPairs 6 (some .int) ∈ wsL_law := uL_wsL_law_r22 _ (fw_t (fw_t (fw_t (fw_t (fw_t (fw_t (fw_t (fw_t (fw_t (fw_t (fw_t (fw_t (fw_t (fw_t (fw_t (fw_t (fw_t fw_h)))))))))))))))))
theorem mL_522 : Cond.methodLink RX3 54 yX5_sharesPicture ∈ wsL_law := uL_wsL_law_r22 _ (fw_t (fw_t (fw_t (fw_t (fw_t (fw_t (fw_t (fw_t (fw_t (fw_t (fw_t (fw_t (fw_t (fw_t (fw_t (fw_t (fw_t (fw_t fw_h))))))))))))))))))
theorem mL_523 : Cond.methodLink RL 72 yX12_rivals ∈ wsL_law := uL_wsL_law_r22 _ (fw_t (fw_t (fw_t (fw_t (fw_t (fw_t (fw_t (fw_t (fw_t (fw_t (fw_t (fw_t (fw_t (fw_t (fw_t (fw_t (fw_t (fw_t (fw_t fw_h)))))))))))))))))))
theorem mL_524 : Cond.instanceMethod yX12_rivals ∈ wsL_law := uL_wsL_law_r22 _ (fw_t (fw_t (fw_t (fw_t (fw_t (fw_t (fw_t (fw_t (fw_t (fw_t (fw_t (fw_t (fw_t (fw_t (fw_t (fw_t (fw_t (fw_t (fw_t (fw_t fw_h))))))))))))))))))))
theorem mL_525 : Cond.selects RX12 yX12_rivals yX12_rivals ∈ wsL_law := uL_wsL_law_r22 _ (fw_t (fw_t (fw_t (fw_t (fw_t (fw_t (fw_t (fw_t (fw_t (fw_t (fw_t (fw_t (fw_t (fw_t (fw_t (fw_t (fw_t (fw_t (fw_t (fw_t (fw_t fw_h)))))))))))))))))))))
theorem mL_526 : Cond.code yX12_rivals cX12_rivals 5 (some .long) ∈ wsL_law := uL_wsL_law_r22 _ (fw_t (fw_t (fw_t (fw_t (fw_t (fw_t (fw_t (fw_t (fw_t (fw_t (fw_t (fw_t (fw_t (fw_t (fw_t (fw_t (fw_t (fw_t (fw_t (fw_t (fw_t (fw_t fw_h))))))))))))))))))))))
theorem mL_527 : Cond.methodLink RX12 152 yX12_isGroup ∈ wsL_law := uL_wsL_law_r22 _ (fw_t (fw_t (fw_t (fw_t (fw_t (fw_t (fw_t (fw_t (fw_t (fw_t (fw_t (fw_t (fw_t (fw_t (fw_t (fw_t (fw_t (fw_t (fw_t (fw_t (fw_t (fw_t (fw_t fw_h)))))))))))))))))))))))
theorem uL_wsL_law_r23 : ∀ w ∈ wsL_law_r23, w ∈ wsL_law := fun _ h => (fw_l (fw_l (fw_l (fw_l (fw_l (fw_l (fw_l (fw_l (fw_l (fw_l (fw_l (fw_l (fw_l (fw_l (fw_r (fw_r (fw_r (fw_r (fw_r (fw_r (fw_r (fw_r (fw_r (fw_r (fw_r (fw_r (fw_r (fw_r (fw_r (fw_r (fw_r (fw_r (fw_r (fw_r (fw_r (fw_r (fw_l h)))))))))))))))))))))))))))))))))))))
theorem mL_528 : Cond.instanceMethod yX12_isGroup ∈ wsL_law := uL_wsL_law_r23 _ (fw_h)
theorem mL_529 : Cond.selects RX12 yX12_isGroup yX12_isGroup ∈ wsL_law := uL_wsL_law_r23 _ (fw_t fw_h)
theorem mL_530 : Cond.code yX12_isGroup cX12_isGroup 2 (some .boolean) ∈ wsL_law := uL_wsL_law_r23 _ (fw_t (fw_t fw_h))
theorem mL_531 : Cond.methodLink RL 73 yX11_sign ∈ wsL_law := uL_wsL_law_r23 _ (fw_t (fw_t (fw_t fw_h)))
theorem mL_532 : Cond.instanceMethod yX11_sign ∈ wsL_law := uL_wsL_law_r23 _ (fw_t (fw_t (fw_t (fw_t fw_h))))
theorem mL_533 : Cond.selects RX11 yX11_sign yX11_sign ∈ wsL_law := uL_wsL_law_r23 _ (fw_t (fw_t (fw_t (fw_t (fw_t fw_h)))))
theorem mL_534 : Cond.code yX11_sign cX11_sign 2 (some .long) ∈ wsL_law := uL_wsL_law_r23 _ (fw_t (fw_t (fw_t (fw_t (fw_t (fw_t fw_h))))))
theorem mL_535 : Cond.methodLink RX11 203 yX11_isSign ∈ wsL_law := uL_wsL_law_r23 _ (fw_t (fw_t (fw_t (fw_t (fw_t (fw_t (fw_t fw_h)))))))
theorem mL_536 : Cond.static yX11_isSign ∈ wsL_law := uL_wsL_law_r23 _ (fw_t (fw_t (fw_t (fw_t (fw_t (fw_t (fw_t (fw_t fw_h))))))))
theorem mL_537 : Cond.code yX11_isSign cX11_isSign 1 (some .boolean) ∈ wsL_law := uL_wsL_law_r23 _ (fw_t (fw_t (fw_t (fw_t (fw_t (fw_t (fw_t (fw_t (fw_t fw_h)))))))))
theorem mL_538 : Cond.methodLink RX11 206 yX2_size ∈ wsL_law := uL_wsL_law_r23 _ (fw_t (fw_t (fw_t (fw_t (fw_t (fw_t (fw_t (fw_t (fw_t (fw_t fw_h))))))))))
theorem mL_539 : Cond.instanceMethod yX2_size ∈ wsL_law := uL_wsL_law_r23 _ (fw_t (fw_t (fw_t (fw_t (fw_t (fw_t (fw_t (fw_t (fw_t (fw_t (fw_t fw_h)))))))))))
theorem mL_540 : Cond.selects RX2 yX2_size yX2_size ∈ wsL_law := uL_wsL_law_r23 _ (fw_t (fw_t (fw_t (fw_t (fw_t (fw_t (fw_t (fw_t (fw_t (fw_t (fw_t (fw_t fw_h))))))))))))
theorem mL_541 : Cond.code yX2_size cX2_size 1 (some .int) ∈ wsL_law := uL_wsL_law_r23 _ (fw_t (fw_t (fw_t (fw_t (fw_t (fw_t (fw_t (fw_t (fw_t (fw_t (fw_t (fw_t (fw_t fw_h)))))))))))))
theorem mL_542 : Cond.fieldLink RX2 18 "CornDesk$Form" "count" "I" ∈ wsL_law := uL_wsL_law_r23 _ (fw_t (fw_t (fw_t (fw_t (fw_t (fw_t (fw_t (fw_t (fw_t (fw_t (fw_t (fw_t (fw_t (fw_t fw_h))))))))))))))
theorem mL_543 : Cond.methodLink RX11 207 yX2_add ∈ wsL_law := uL_wsL_law_r23 _ (fw_t (fw_t (fw_t (fw_t (fw_t (fw_t (fw_t (fw_t (fw_t (fw_t (fw_t (fw_t (fw_t (fw_t (fw_t fw_h)))))))))))))))
theorem mL_544 : Cond.instanceMethod yX2_add ∈ wsL_law := uL_wsL_law_r23 _ (fw_t (fw_t (fw_t (fw_t (fw_t (fw_t (fw_t (fw_t (fw_t (fw_t (fw_t (fw_t (fw_t (fw_t (fw_t (fw_t fw_h))))))))))))))))
theorem mL_545 : Cond.selects RX2 yX2_add yX2_add ∈ wsL_law := uL_wsL_law_r23 _ (fw_t (fw_t (fw_t (fw_t (fw_t (fw_t (fw_t (fw_t (fw_t (fw_t (fw_t (fw_t (fw_t (fw_t (fw_t (fw_t (fw_t fw_h)))))))))))))))))
theorem mL_546 : Cond.code yX2_add cX2_add 2 none ∈ wsL_law := uL_wsL_law_r23 _ (fw_t (fw_t (fw_t (fw_t (fw_t (fw_t (fw_t (fw_t (fw_t (fw_t (fw_t (fw_t (fw_t (fw_t (fw_t (fw_t (fw_t (fw_t fw_h))))))))))))))))))
theorem mL_547 : Cond.methodLink RL 76 yX12_sign ∈ wsL_law := uL_wsL_law_r23 _ (fw_t (fw_t (fw_t (fw_t (fw_t (fw_t (fw_t (fw_t (fw_t (fw_t (fw_t (fw_t (fw_t (fw_t (fw_t (fw_t (fw_t (fw_t (fw_t fw_h)))))))))))))))))))
theorem mL_548 : Cond.instanceMethod yX12_sign ∈ wsL_law := uL_wsL_law_r23 _ (fw_t (fw_t (fw_t (fw_t (fw_t (fw_t (fw_t (fw_t (fw_t (fw_t (fw_t (fw_t (fw_t (fw_t (fw_t (fw_t (fw_t (fw_t (fw_t (fw_t fw_h))))))))))))))))))))
theorem mL_549 : Cond.selects RX12 yX12_sign yX12_sign ∈ wsL_law := uL_wsL_law_r23 _ (fw_t (fw_t (fw_t (fw_t (fw_t (fw_t (fw_t (fw_t (fw_t (fw_t (fw_t (fw_t (fw_t (fw_t (fw_t (fw_t (fw_t (fw_t (fw_t (fw_t (fw_t fw_h)))))))))))))))))))))
theorem mL_550 : Cond.code yX12_sign cX12_sign 2 (some .long) ∈ wsL_law := uL_wsL_law_r23 _ (fw_t (fw_t (fw_t (fw_t (fw_t (fw_t (fw_t (fw_t (fw_t (fw_t (fw_t (fw_t (fw_t (fw_t (fw_t (fw_t (fw_t (fw_t (fw_t (fw_t (fw_t (fw_t fw_h))))))))))))))))))))))
theorem mL_551 : Cond.methodLink RX12 155 yX12_isSign ∈ wsL_law := uL_wsL_law_r23 _ (fw_t (fw_t (fw_t (fw_t (fw_t (fw_t (fw_t (fw_t (fw_t (fw_t (fw_t (fw_t (fw_t (fw_t (fw_t (fw_t (fw_t (fw_t (fw_t (fw_t (fw_t (fw_t (fw_t fw_h)))))))))))))))))))))))
theorem uL_wsL_law_r24 : ∀ w ∈ wsL_law_r24, w ∈ wsL_law := fun _ h => (fw_l (fw_l (fw_l (fw_l (fw_l (fw_l (fw_l (fw_l (fw_l (fw_l (fw_l (fw_l (fw_l (fw_l (fw_r (fw_r (fw_r (fw_r (fw_r (fw_r (fw_r (fw_r (fw_r (fw_r (fw_r (fw_r (fw_r (fw_r (fw_r (fw_r (fw_r (fw_r (fw_r (fw_r (fw_r (fw_r (fw_r (fw_l h))))))))))))))))))))))))))))))))))))))
theorem mL_552 : Cond.static yX12_isSign ∈ wsL_law := uL_wsL_law_r24 _ (fw_h)
theorem mL_553 : Cond.code yX12_isSign cX12_isSign 1 (some .boolean) ∈ wsL_law := uL_wsL_law_r24 _ (fw_t fw_h)
theorem mL_554 : Cond.methodLink RL 77 yX11_blank ∈ wsL_law := uL_wsL_law_r24 _ (fw_t (fw_t fw_h))
theorem mL_555 : Cond.instanceMethod yX11_blank ∈ wsL_law := uL_wsL_law_r24 _ (fw_t (fw_t (fw_t fw_h)))
theorem mL_556 : Cond.selects RX11 yX11_blank yX11_blank ∈ wsL_law := uL_wsL_law_r24 _ (fw_t (fw_t (fw_t (fw_t fw_h))))
theorem mL_557 : Cond.code yX11_blank cX11_blank 2 (some .long) ∈ wsL_law := uL_wsL_law_r24 _ (fw_t (fw_t (fw_t (fw_t (fw_t fw_h)))))
theorem mL_558 : Cond.methodLink RX11 210 yX2_saveTo ∈ wsL_law := uL_wsL_law_r24 _ (fw_t (fw_t (fw_t (fw_t (fw_t (fw_t fw_h))))))
theorem mL_559 : Cond.instanceMethod yX2_saveTo ∈ wsL_law := uL_wsL_law_r24 _ (fw_t (fw_t (fw_t (fw_t (fw_t (fw_t (fw_t fw_h)))))))
theorem mL_560 : Cond.selects RX2 yX2_saveTo yX2_saveTo ∈ wsL_law := uL_wsL_law_r24 _ (fw_t (fw_t (fw_t (fw_t (fw_t (fw_t (fw_t (fw_t fw_h))))))))
theorem mL_561 : Cond.code yX2_saveTo cX2_saveTo 2 none ∈ wsL_law := uL_wsL_law_r24 _ (fw_t (fw_t (fw_t (fw_t (fw_t (fw_t (fw_t (fw_t (fw_t fw_h)))))))))
theorem mL_562 : Cond.methodLink RX2 25 arraycopyName ∈ wsL_law := uL_wsL_law_r24 _ (fw_t (fw_t (fw_t (fw_t (fw_t (fw_t (fw_t (fw_t (fw_t (fw_t fw_h))))))))))
theorem mL_563 : Cond.native arraycopyName ∈ wsL_law := uL_wsL_law_r24 _ (fw_t (fw_t (fw_t (fw_t (fw_t (fw_t (fw_t (fw_t (fw_t (fw_t (fw_t fw_h)))))))))))
theorem mL_564 : Cond.static arraycopyName ∈ wsL_law := uL_wsL_law_r24 _ (fw_t (fw_t (fw_t (fw_t (fw_t (fw_t (fw_t (fw_t (fw_t (fw_t (fw_t (fw_t fw_h))))))))))))
theorem mL_565 : Cond.initialized "java/lang/System" ∈ wsL_law := uL_wsL_law_r24 _ (fw_t (fw_t (fw_t (fw_t (fw_t (fw_t (fw_t (fw_t (fw_t (fw_t (fw_t (fw_t (fw_t fw_h)))))))))))))
theorem mL_566 : Cond.methodLink RX11 213 yX2_clear ∈ wsL_law := uL_wsL_law_r24 _ (fw_t (fw_t (fw_t (fw_t (fw_t (fw_t (fw_t (fw_t (fw_t (fw_t (fw_t (fw_t (fw_t (fw_t fw_h))))))))))))))
theorem mL_567 : Cond.instanceMethod yX2_clear ∈ wsL_law := uL_wsL_law_r24 _ (fw_t (fw_t (fw_t (fw_t (fw_t (fw_t (fw_t (fw_t (fw_t (fw_t (fw_t (fw_t (fw_t (fw_t (fw_t fw_h)))))))))))))))
theorem mL_568 : Cond.selects RX2 yX2_clear yX2_clear ∈ wsL_law := uL_wsL_law_r24 _ (fw_t (fw_t (fw_t (fw_t (fw_t (fw_t (fw_t (fw_t (fw_t (fw_t (fw_t (fw_t (fw_t (fw_t (fw_t (fw_t fw_h))))))))))))))))
theorem mL_569 : Cond.code yX2_clear cX2_clear 1 none ∈ wsL_law := uL_wsL_law_r24 _ (fw_t (fw_t (fw_t (fw_t (fw_t (fw_t (fw_t (fw_t (fw_t (fw_t (fw_t (fw_t (fw_t (fw_t (fw_t (fw_t (fw_t fw_h)))))))))))))))))
theorem mL_570 : Cond.methodLink RL 80 yX12_blank ∈ wsL_law := uL_wsL_law_r24 _ (fw_t (fw_t (fw_t (fw_t (fw_t (fw_t (fw_t (fw_t (fw_t (fw_t (fw_t (fw_t (fw_t (fw_t (fw_t (fw_t (fw_t (fw_t fw_h))))))))))))))))))
theorem mL_571 : Cond.instanceMethod yX12_blank ∈ wsL_law := uL_wsL_law_r24 _ (fw_t (fw_t (fw_t (fw_t (fw_t (fw_t (fw_t (fw_t (fw_t (fw_t (fw_t (fw_t (fw_t (fw_t (fw_t (fw_t (fw_t (fw_t (fw_t fw_h)))))))))))))))))))
theorem mL_572 : Cond.selects RX12 yX12_blank yX12_blank ∈ wsL_law := uL_wsL_law_r24 _ (fw_t (fw_t (fw_t (fw_t (fw_t (fw_t (fw_t (fw_t (fw_t (fw_t (fw_t (fw_t (fw_t (fw_t (fw_t (fw_t (fw_t (fw_t (fw_t (fw_t fw_h))))))))))))))))))))
theorem mL_573 : Cond.code yX12_blank cX12_blank 2 (some .long) ∈ wsL_law := uL_wsL_law_r24 _ (fw_t (fw_t (fw_t (fw_t (fw_t (fw_t (fw_t (fw_t (fw_t (fw_t (fw_t (fw_t (fw_t (fw_t (fw_t (fw_t (fw_t (fw_t (fw_t (fw_t (fw_t fw_h)))))))))))))))))))))
theorem mL_574 : Cond.methodLink RL 81 yX11_wrong ∈ wsL_law := uL_wsL_law_r24 _ (fw_t (fw_t (fw_t (fw_t (fw_t (fw_t (fw_t (fw_t (fw_t (fw_t (fw_t (fw_t (fw_t (fw_t (fw_t (fw_t (fw_t (fw_t (fw_t (fw_t (fw_t (fw_t fw_h))))))))))))))))))))))
theorem mL_575 : Cond.instanceMethod yX11_wrong ∈ wsL_law := uL_wsL_law_r24 _ (fw_t (fw_t (fw_t (fw_t (fw_t (fw_t (fw_t (fw_t (fw_t (fw_t (fw_t (fw_t (fw_t (fw_t (fw_t (fw_t (fw_t (fw_t (fw_t (fw_t (fw_t (fw_t (fw_t fw_h)))))))))))))))))))))))
theorem uL_wsL_law_r25 : ∀ w ∈ wsL_law_r25, w ∈ wsL_law := fun _ h => (fw_l (fw_l (fw_l (fw_l (fw_l (fw_l (fw_l (fw_l (fw_l (fw_l (fw_l (fw_l (fw_l (fw_l (fw_r (fw_r (fw_r (fw_r (fw_r (fw_r (fw_r (fw_r (fw_r (fw_r (fw_r (fw_r (fw_r (fw_r (fw_r (fw_r (fw_r (fw_r (fw_r (fw_r (fw_r (fw_r (fw_r (fw_r (fw_l h)))))))))))))))))))))))))))))))))))))))
theorem mL_576 : Cond.selects RX11 yX11_wrong yX11_wrong ∈ wsL_law := uL_wsL_law_r25 _ (fw_h)
theorem mL_577 : Cond.code yX11_wrong cX11_wrong 1 (some .long) ∈ wsL_law := uL_wsL_law_r25 _ (fw_t fw_h)
theorem mL_578 : Cond.methodLink RX11 216 yX2_firstWrong ∈ wsL_law := uL_wsL_law_r25 _ (fw_t (fw_t fw_h))
theorem mL_579 : Cond.instanceMethod yX2_firstWrong ∈ wsL_law := uL_wsL_law_r25 _ (fw_t (fw_t (fw_t fw_h)))
theorem mL_580 : Cond.selects RX2 yX2_firstWrong yX2_firstWrong ∈ wsL_law := uL_wsL_law_r25 _ (fw_t (fw_t (fw_t (fw_t fw_h))))
theorem mL_581 : Cond.code yX2_firstWrong cX2_firstWrong 4 (some .int) ∈ wsL_law := uL_wsL_law_r25 _ (fw_t (fw_t (fw_t (fw_t (fw_t fw_h)))))
theorem mL_582 : Cond.methodLink RX2 40 yX2_taken ∈ wsL_law := uL_wsL_law_r25 _ (fw_t (fw_t (fw_t (fw_t (fw_t (fw_t fw_h))))))
theorem mL_583 : Cond.static yX2_taken ∈ wsL_law := uL_wsL_law_r25 _ (fw_t (fw_t (fw_t (fw_t (fw_t (fw_t (fw_t fw_h)))))))
theorem mL_584 : Cond.code yX2_taken cX2_taken 1 (some .int) ∈ wsL_law := uL_wsL_law_r25 _ (fw_t (fw_t (fw_t (fw_t (fw_t (fw_t (fw_t (fw_t fw_h))))))))
theorem mL_585 : Cond.methodLink RL 84 yX12_wrong ∈ wsL_law := uL_wsL_law_r25 _ (fw_t (fw_t (fw_t (fw_t (fw_t (fw_t (fw_t (fw_t (fw_t fw_h)))))))))
theorem mL_586 : Cond.instanceMethod yX12_wrong ∈ wsL_law := uL_wsL_law_r25 _ (fw_t (fw_t (fw_t (fw_t (fw_t (fw_t (fw_t (fw_t (fw_t (fw_t fw_h))))))))))
theorem mL_587 : Cond.selects RX12 yX12_wrong yX12_wrong ∈ wsL_law := uL_wsL_law_r25 _ (fw_t (fw_t (fw_t (fw_t (fw_t (fw_t (fw_t (fw_t (fw_t (fw_t (fw_t fw_h)))))))))))
theorem mL_588 : Cond.code yX12_wrong cX12_wrong 1 (some .long) ∈ wsL_law := uL_wsL_law_r25 _ (fw_t (fw_t (fw_t (fw_t (fw_t (fw_t (fw_t (fw_t (fw_t (fw_t (fw_t (fw_t fw_h))))))))))))
theorem mL_589 : Cond.methodLink RX12 158 yX12_wrongAt ∈ wsL_law := uL_wsL_law_r25 _ (fw_t (fw_t (fw_t (fw_t (fw_t (fw_t (fw_t (fw_t (fw_t (fw_t (fw_t (fw_t (fw_t fw_h)))))))))))))
theorem mL_590 : Cond.instanceMethod yX12_wrongAt ∈ wsL_law := uL_wsL_law_r25 _ (fw_t (fw_t (fw_t (fw_t (fw_t (fw_t (fw_t (fw_t (fw_t (fw_t (fw_t (fw_t (fw_t (fw_t fw_h))))))))))))))
theorem mL_591 : Cond.selects RX12 yX12_wrongAt yX12_wrongAt ∈ wsL_law := uL_wsL_law_r25 _ (fw_t (fw_t (fw_t (fw_t (fw_t (fw_t (fw_t (fw_t (fw_t (fw_t (fw_t (fw_t (fw_t (fw_t (fw_t fw_h)))))))))))))))
theorem mL_592 : Cond.code yX12_wrongAt cX12_wrongAt 5 (some .int) ∈ wsL_law := uL_wsL_law_r25 _ (fw_t (fw_t (fw_t (fw_t (fw_t (fw_t (fw_t (fw_t (fw_t (fw_t (fw_t (fw_t (fw_t (fw_t (fw_t (fw_t fw_h))))))))))))))))
theorem mL_593 : Cond.methodLink RL 85 yX11_is ∈ wsL_law := uL_wsL_law_r25 _ (fw_t (fw_t (fw_t (fw_t (fw_t (fw_t (fw_t (fw_t (fw_t (fw_t (fw_t (fw_t (fw_t (fw_t (fw_t (fw_t (fw_t fw_h)))))))))))))))))
theorem mL_594 : Cond.instanceMethod yX11_is ∈ wsL_law := uL_wsL_law_r25 _ (fw_t (fw_t (fw_t (fw_t (fw_t (fw_t (fw_t (fw_t (fw_t (fw_t (fw_t (fw_t (fw_t (fw_t (fw_t (fw_t (fw_t (fw_t fw_h))))))))))))))))))
theorem mL_595 : Cond.selects RX11 yX11_is yX11_is ∈ wsL_law := uL_wsL_law_r25 _ (fw_t (fw_t (fw_t (fw_t (fw_t (fw_t (fw_t (fw_t (fw_t (fw_t (fw_t (fw_t (fw_t (fw_t (fw_t (fw_t (fw_t (fw_t (fw_t fw_h)))))))))))))))))))
theorem mL_596 : Cond.code yX11_is cX11_is 2 (some .long) ∈ wsL_law := uL_wsL_law_r25 _ (fw_t (fw_t (fw_t (fw_t (fw_t (fw_t (fw_t (fw_t (fw_t (fw_t (fw_t (fw_t (fw_t (fw_t (fw_t (fw_t (fw_t (fw_t (fw_t (fw_t fw_h))))))))))))))))))))
theorem mL_597 : Cond.methodLink RX11 219 yX3_facts ∈ wsL_law := uL_wsL_law_r25 _ (fw_t (fw_t (fw_t (fw_t (fw_t (fw_t (fw_t (fw_t (fw_t (fw_t (fw_t (fw_t (fw_t (fw_t (fw_t (fw_t (fw_t (fw_t (fw_t (fw_t (fw_t fw_h)))))))))))))))))))))
theorem mL_598 : Cond.instanceMethod yX3_facts ∈ wsL_law := uL_wsL_law_r25 _ (fw_t (fw_t (fw_t (fw_t (fw_t (fw_t (fw_t (fw_t (fw_t (fw_t (fw_t (fw_t (fw_t (fw_t (fw_t (fw_t (fw_t (fw_t (fw_t (fw_t (fw_t (fw_t fw_h))))))))))))))))))))))
theorem mL_599 : Cond.selects RX3 yX3_facts yX3_facts ∈ wsL_law := uL_wsL_law_r25 _ (fw_t (fw_t (fw_t (fw_t (fw_t (fw_t (fw_t (fw_t (fw_t (fw_t (fw_t (fw_t (fw_t (fw_t (fw_t (fw_t (fw_t (fw_t (fw_t (fw_t (fw_t (fw_t (fw_t fw_h)))))))))))))))))))))))
theorem uL_wsL_law_r26 : ∀ w ∈ wsL_law_r26, w ∈ wsL_law := fun _ h => (fw_l (fw_l (fw_l (fw_l (fw_l (fw_l (fw_l (fw_l (fw_l (fw_l (fw_l (fw_l (fw_l (fw_l (fw_r (fw_r (fw_r (fw_r (fw_r (fw_r (fw_r (fw_r (fw_r (fw_r (fw_r (fw_r (fw_r (fw_r (fw_r (fw_r (fw_r (fw_r (fw_r (fw_r (fw_r (fw_r (fw_r (fw_r (fw_r (fw_l h))))))))))))))))))))))))))))))))))))))))
theorem mL_600 : Cond.code yX3_facts cX3_facts 5 (some (.array .int)) ∈ wsL_law := uL_wsL_law_r26 _ (fw_h)
theorem mL_601 : Cond.methodLink RX3 60 Lib.Math.max.name ∈ wsL_law := uL_wsL_law_r26 _ (fw_t fw_h)
theorem mL_602 : Cond.static Lib.Math.max.name ∈ wsL_law := uL_wsL_law_r26 _ (fw_t (fw_t fw_h))
theorem mL_603 : Cond.code Lib.Math.max.name Lib.Math.max.code 2 (some .int) ∈ wsL_law := uL_wsL_law_r26 _ (fw_t (fw_t (fw_t fw_h)))
theorem mL_604 : Cond.methodLink RX3 69 yJ6_bitCount_0f7a4 ∈ wsL_law := uL_wsL_law_r26 _ (fw_t (fw_t (fw_t (fw_t fw_h))))
theorem mL_605 : Cond.static yJ6_bitCount_0f7a4 ∈ wsL_law := uL_wsL_law_r26 _ (fw_t (fw_t (fw_t (fw_t (fw_t fw_h)))))
theorem mL_606 : Cond.initialized RJ6 ∈ wsL_law := uL_wsL_law_r26 _ (fw_t (fw_t (fw_t (fw_t (fw_t (fw_t fw_h))))))
theorem mL_607 : Cond.code yJ6_bitCount_0f7a4 cJ6_bitCount_0f7a4 1 (some .int) ∈ wsL_law := uL_wsL_law_r26 _ (fw_t (fw_t (fw_t (fw_t (fw_t (fw_t (fw_t fw_h)))))))
theorem mL_608 : Cond.constant RJ6 265 (1431655765) ∈ wsL_law := uL_wsL_law_r26 _ (fw_t (fw_t (fw_t (fw_t (fw_t (fw_t (fw_t (fw_t fw_h))))))))
theorem mL_609 : Cond.constant RJ6 266 (858993459) ∈ wsL_law := uL_wsL_law_r26 _ (fw_t (fw_t (fw_t (fw_t (fw_t (fw_t (fw_t (fw_t (fw_t fw_h)))))))))
theorem mL_610 : Cond.constant RJ6 267 (252645135) ∈ wsL_law := uL_wsL_law_r26 _ (fw_t (fw_t (fw_t (fw_t (fw_t (fw_t (fw_t (fw_t (fw_t (fw_t fw_h))))))))))
theorem mL_611 : Cond.methodLink RX11 223 yX2_holds ∈ wsL_law := uL_wsL_law_r26 _ (fw_t (fw_t (fw_t (fw_t (fw_t (fw_t (fw_t (fw_t (fw_t (fw_t (fw_t fw_h)))))))))))
theorem mL_612 : Cond.instanceMethod yX2_holds ∈ wsL_law := uL_wsL_law_r26 _ (fw_t (fw_t (fw_t (fw_t (fw_t (fw_t (fw_t (fw_t (fw_t (fw_t (fw_t (fw_t fw_h))))))))))))
theorem mL_613 : Cond.selects RX2 yX2_holds yX2_holds ∈ wsL_law := uL_wsL_law_r26 _ (fw_t (fw_t (fw_t (fw_t (fw_t (fw_t (fw_t (fw_t (fw_t (fw_t (fw_t (fw_t (fw_t fw_h)))))))))))))
theorem mL_614 : Cond.code yX2_holds cX2_holds 5 (some .boolean) ∈ wsL_law := uL_wsL_law_r26 _ (fw_t (fw_t (fw_t (fw_t (fw_t (fw_t (fw_t (fw_t (fw_t (fw_t (fw_t (fw_t (fw_t (fw_t fw_h))))))))))))))
theorem mL_615 : Cond.methodLink RX2 44 yX2_read ∈ wsL_law := uL_wsL_law_r26 _ (fw_t (fw_t (fw_t (fw_t (fw_t (fw_t (fw_t (fw_t (fw_t (fw_t (fw_t (fw_t (fw_t (fw_t (fw_t fw_h)))))))))))))))
theorem mL_616 : Cond.static yX2_read ∈ wsL_law := uL_wsL_law_r26 _ (fw_t (fw_t (fw_t (fw_t (fw_t (fw_t (fw_t (fw_t (fw_t (fw_t (fw_t (fw_t (fw_t (fw_t (fw_t (fw_t fw_h))))))))))))))))
theorem mL_617 : Cond.code yX2_read cX2_read 4 (some .int) ∈ wsL_law := uL_wsL_law_r26 _ (fw_t (fw_t (fw_t (fw_t (fw_t (fw_t (fw_t (fw_t (fw_t (fw_t (fw_t (fw_t (fw_t (fw_t (fw_t (fw_t (fw_t fw_h)))))))))))))))))
theorem mL_618 : Cond.methodLink RL 88 yX12_is ∈ wsL_law := uL_wsL_law_r26 _ (fw_t (fw_t (fw_t (fw_t (fw_t (fw_t (fw_t (fw_t (fw_t (fw_t (fw_t (fw_t (fw_t (fw_t (fw_t (fw_t (fw_t (fw_t fw_h))))))))))))))))))
theorem mL_619 : Cond.instanceMethod yX12_is ∈ wsL_law := uL_wsL_law_r26 _ (fw_t (fw_t (fw_t (fw_t (fw_t (fw_t (fw_t (fw_t (fw_t (fw_t (fw_t (fw_t (fw_t (fw_t (fw_t (fw_t (fw_t (fw_t (fw_t fw_h)))))))))))))))))))
theorem mL_620 : Cond.selects RX12 yX12_is yX12_is ∈ wsL_law := uL_wsL_law_r26 _ (fw_t (fw_t (fw_t (fw_t (fw_t (fw_t (fw_t (fw_t (fw_t (fw_t (fw_t (fw_t (fw_t (fw_t (fw_t (fw_t (fw_t (fw_t (fw_t (fw_t fw_h))))))))))))))))))))
theorem mL_621 : Cond.code yX12_is cX12_is 8 (some .long) ∈ wsL_law := uL_wsL_law_r26 _ (fw_t (fw_t (fw_t (fw_t (fw_t (fw_t (fw_t (fw_t (fw_t (fw_t (fw_t (fw_t (fw_t (fw_t (fw_t (fw_t (fw_t (fw_t (fw_t (fw_t (fw_t fw_h)))))))))))))))))))))
theorem mL_622 : Cond.methodLink RX12 162 yX12_told ∈ wsL_law := uL_wsL_law_r26 _ (fw_t (fw_t (fw_t (fw_t (fw_t (fw_t (fw_t (fw_t (fw_t (fw_t (fw_t (fw_t (fw_t (fw_t (fw_t (fw_t (fw_t (fw_t (fw_t (fw_t (fw_t (fw_t fw_h))))))))))))))))))))))
theorem mL_623 : Cond.instanceMethod yX12_told ∈ wsL_law := uL_wsL_law_r26 _ (fw_t (fw_t (fw_t (fw_t (fw_t (fw_t (fw_t (fw_t (fw_t (fw_t (fw_t (fw_t (fw_t (fw_t (fw_t (fw_t (fw_t (fw_t (fw_t (fw_t (fw_t (fw_t (fw_t fw_h)))))))))))))))))))))))
theorem uL_wsL_law_r27 : ∀ w ∈ wsL_law_r27, w ∈ wsL_law := fun _ h => (fw_l (fw_l (fw_l (fw_l (fw_l (fw_l (fw_l (fw_l (fw_l (fw_l (fw_l (fw_l (fw_l (fw_l (fw_r (fw_r (fw_r (fw_r (fw_r (fw_r (fw_r (fw_r (fw_r (fw_r (fw_r (fw_r (fw_r (fw_r (fw_r (fw_r (fw_r (fw_r (fw_r (fw_r (fw_r (fw_r (fw_r (fw_r (fw_r (fw_r (fw_l h)))))))))))))))))))))))))))))))))))))))))
theorem mL_624 : Cond.selects RX12 yX12_told yX12_told ∈ wsL_law := uL_wsL_law_r27 _ (fw_h)
theorem mL_625 : Cond.code yX12_told cX12_told 9 (some .int) ∈ wsL_law := uL_wsL_law_r27 _ (fw_t fw_h)
theorem mL_626 : Cond.methodLink RL 89 yX11_field ∈ wsL_law := uL_wsL_law_r27 _ (fw_t (fw_t fw_h))
theorem mL_627 : Cond.instanceMethod yX11_field ∈ wsL_law := uL_wsL_law_r27 _ (fw_t (fw_t (fw_t fw_h)))
theorem mL_628 : Cond.selects RX11 yX11_field yX11_field ∈ wsL_law := uL_wsL_law_r27 _ (fw_t (fw_t (fw_t (fw_t fw_h))))
theorem mL_629 : Cond.code yX11_field cX11_field 4 (some .long) ∈ wsL_law := uL_wsL_law_r27 _ (fw_t (fw_t (fw_t (fw_t (fw_t fw_h)))))
theorem mL_630 : Cond.fieldLink RX11 233 "CornDesk" "fieldCount" "I" ∈ wsL_law := uL_wsL_law_r27 _ (fw_t (fw_t (fw_t (fw_t (fw_t (fw_t fw_h))))))
theorem mL_631 : Cond.instantiable RX0 9 ∈ wsL_law := uL_wsL_law_r27 _ (fw_t (fw_t (fw_t (fw_t (fw_t (fw_t (fw_t fw_h)))))))
theorem mL_632 : Cond.initialized RX0 ∈ wsL_law := uL_wsL_law_r27 _ (fw_t (fw_t (fw_t (fw_t (fw_t (fw_t (fw_t (fw_t fw_h))))))))
theorem mL_633 : Cond.methodLink RX11 227 yX11_isLevel ∈ wsL_law := uL_wsL_law_r27 _ (fw_t (fw_t (fw_t (fw_t (fw_t (fw_t (fw_t (fw_t (fw_t fw_h)))))))))
theorem mL_634 : Cond.static yX11_isLevel ∈ wsL_law := uL_wsL_law_r27 _ (fw_t (fw_t (fw_t (fw_t (fw_t (fw_t (fw_t (fw_t (fw_t (fw_t fw_h))))))))))
theorem mL_635 : Cond.code yX11_isLevel cX11_isLevel 1 (some .boolean) ∈ wsL_law := uL_wsL_law_r27 _ (fw_t (fw_t (fw_t (fw_t (fw_t (fw_t (fw_t (fw_t (fw_t (fw_t (fw_t fw_h)))))))))))
theorem mL_636 : Cond.methodLink RX11 236 yX0_init ∈ wsL_law := uL_wsL_law_r27 _ (fw_t (fw_t (fw_t (fw_t (fw_t (fw_t (fw_t (fw_t (fw_t (fw_t (fw_t (fw_t fw_h))))))))))))
theorem mL_637 : Cond.instanceMethod yX0_init ∈ wsL_law := uL_wsL_law_r27 _ (fw_t (fw_t (fw_t (fw_t (fw_t (fw_t (fw_t (fw_t (fw_t (fw_t (fw_t (fw_t (fw_t fw_h)))))))))))))
theorem mL_638 : Cond.code yX0_init cX0_init 4 none ∈ wsL_law := uL_wsL_law_r27 _ (fw_t (fw_t (fw_t (fw_t (fw_t (fw_t (fw_t (fw_t (fw_t (fw_t (fw_t (fw_t (fw_t (fw_t fw_h))))))))))))))
theorem mL_639 : Cond.methodLink RX0 3 objectInit ∈ wsL_law := uL_wsL_law_r27 _ (fw_t (fw_t (fw_t (fw_t (fw_t (fw_t (fw_t (fw_t (fw_t (fw_t (fw_t (fw_t (fw_t (fw_t (fw_t fw_h)))))))))))))))
theorem mL_640 : Cond.fieldLink RX0 9 "CornDesk$Field" "crops" "[I" ∈ wsL_law := uL_wsL_law_r27 _ (fw_t (fw_t (fw_t (fw_t (fw_t (fw_t (fw_t (fw_t (fw_t (fw_t (fw_t (fw_t (fw_t (fw_t (fw_t (fw_t fw_h))))))))))))))))
theorem mL_641 : Cond.fieldLink RX0 15 "CornDesk$Field" "drys" "[I" ∈ wsL_law := uL_wsL_law_r27 _ (fw_t (fw_t (fw_t (fw_t (fw_t (fw_t (fw_t (fw_t (fw_t (fw_t (fw_t (fw_t (fw_t (fw_t (fw_t (fw_t (fw_t fw_h)))))))))))))))))
theorem mL_642 : Cond.arrayClass .boolean ∈ wsL_law := uL_wsL_law_r27 _ (fw_t (fw_t (fw_t (fw_t (fw_t (fw_t (fw_t (fw_t (fw_t (fw_t (fw_t (fw_t (fw_t (fw_t (fw_t (fw_t (fw_t (fw_t fw_h))))))))))))))))))
theorem mL_643 : Cond.fieldLink RX0 18 "CornDesk$Field" "seen" "[Z" ∈ wsL_law := uL_wsL_law_r27 _ (fw_t (fw_t (fw_t (fw_t (fw_t (fw_t (fw_t (fw_t (fw_t (fw_t (fw_t (fw_t (fw_t (fw_t (fw_t (fw_t (fw_t (fw_t (fw_t fw_h)))))))))))))))))))
theorem mL_644 : Cond.fieldLink RX0 22 "CornDesk$Field" "soil" "I" ∈ wsL_law := uL_wsL_law_r27 _ (fw_t (fw_t (fw_t (fw_t (fw_t (fw_t (fw_t (fw_t (fw_t (fw_t (fw_t (fw_t (fw_t (fw_t (fw_t (fw_t (fw_t (fw_t (fw_t (fw_t fw_h))))))))))))))))))))
theorem mL_645 : Cond.fieldLink RX0 26 "CornDesk$Field" "chance" "I" ∈ wsL_law := uL_wsL_law_r27 _ (fw_t (fw_t (fw_t (fw_t (fw_t (fw_t (fw_t (fw_t (fw_t (fw_t (fw_t (fw_t (fw_t (fw_t (fw_t (fw_t (fw_t (fw_t (fw_t (fw_t (fw_t fw_h)))))))))))))))))))))
theorem mL_646 : Cond.fieldLink RX0 29 "CornDesk$Field" "hours" "I" ∈ wsL_law := uL_wsL_law_r27 _ (fw_t (fw_t (fw_t (fw_t (fw_t (fw_t (fw_t (fw_t (fw_t (fw_t (fw_t (fw_t (fw_t (fw_t (fw_t (fw_t (fw_t (fw_t (fw_t (fw_t (fw_t (fw_t fw_h))))))))))))))))))))))
theorem mL_647 : Cond.methodLink RL 93 yX12_field ∈ wsL_law := uL_wsL_law_r27 _ (fw_t (fw_t (fw_t (fw_t (fw_t (fw_t (fw_t (fw_t (fw_t (fw_t (fw_t (fw_t (fw_t (fw_t (fw_t (fw_t (fw_t (fw_t (fw_t (fw_t (fw_t (fw_t (fw_t fw_h)))))))))))))))))))))))
theorem uL_wsL_law_r28 : ∀ w ∈ wsL_law_r28, w ∈ wsL_law := fun _ h => (fw_l (fw_l (fw_l (fw_l (fw_l (fw_l (fw_l (fw_l (fw_l (fw_l (fw_l (fw_l (fw_l (fw_l (fw_r (fw_r (fw_r (fw_r (fw_r (fw_r (fw_r (fw_r (fw_r (fw_r (fw_r (fw_r (fw_r (fw_r (fw_r (fw_r (fw_r (fw_r (fw_r (fw_r (fw_r (fw_r (fw_r (fw_r (fw_r (fw_r (fw_r (fw_l h))))))))))))))))))))))))))))))))))))))))))
theorem mL_648 : Cond.instanceMethod yX12_field ∈ wsL_law := uL_wsL_law_r28 _ (fw_h)
theorem mL_649 : Cond.selects RX12 yX12_field yX12_field ∈ wsL_law := uL_wsL_law_r28 _ (fw_t fw_h)
theorem mL_650 : Cond.code yX12_field cX12_field 5 (some .long) ∈ wsL_law := uL_wsL_law_r28 _ (fw_t (fw_t fw_h))
theorem mL_651 : Cond.methodLink RL 94 yX11_look ∈ wsL_law := uL_wsL_law_r28 _ (fw_t (fw_t (fw_t fw_h)))
theorem mL_652 : Cond.instanceMethod yX11_look ∈ wsL_law := uL_wsL_law_r28 _ (fw_t (fw_t (fw_t (fw_t fw_h))))
theorem mL_653 : Cond.selects RX11 yX11_look yX11_look ∈ wsL_law := uL_wsL_law_r28 _ (fw_t (fw_t (fw_t (fw_t (fw_t fw_h)))))
theorem mL_654 : Cond.code yX11_look cX11_look 6 (some .long) ∈ wsL_law := uL_wsL_law_r28 _ (fw_t (fw_t (fw_t (fw_t (fw_t (fw_t fw_h))))))
theorem mL_655 : Cond.methodLink RX11 239 yX11_fieldAt ∈ wsL_law := uL_wsL_law_r28 _ (fw_t (fw_t (fw_t (fw_t (fw_t (fw_t (fw_t fw_h)))))))
theorem mL_656 : Cond.instanceMethod yX11_fieldAt ∈ wsL_law := uL_wsL_law_r28 _ (fw_t (fw_t (fw_t (fw_t (fw_t (fw_t (fw_t (fw_t fw_h))))))))
theorem mL_657 : Cond.selects RX11 yX11_fieldAt yX11_fieldAt ∈ wsL_law := uL_wsL_law_r28 _ (fw_t (fw_t (fw_t (fw_t (fw_t (fw_t (fw_t (fw_t (fw_t fw_h)))))))))
theorem mL_658 : Cond.code yX11_fieldAt cX11_fieldAt 2 (some (.object "CornDesk$Field")) ∈ wsL_law := uL_wsL_law_r28 _ (fw_t (fw_t (fw_t (fw_t (fw_t (fw_t (fw_t (fw_t (fw_t (fw_t fw_h))))))))))
theorem mL_659 : Cond.methodLink RX11 243 yX0_isDug ∈ wsL_law := uL_wsL_law_r28 _ (fw_t (fw_t (fw_t (fw_t (fw_t (fw_t (fw_t (fw_t (fw_t (fw_t (fw_t fw_h)))))))))))
theorem mL_660 : Cond.instanceMethod yX0_isDug ∈ wsL_law := uL_wsL_law_r28 _ (fw_t (fw_t (fw_t (fw_t (fw_t (fw_t (fw_t (fw_t (fw_t (fw_t (fw_t (fw_t fw_h))))))))))))
theorem mL_661 : Cond.selects RX0 yX0_isDug yX0_isDug ∈ wsL_law := uL_wsL_law_r28 _ (fw_t (fw_t (fw_t (fw_t (fw_t (fw_t (fw_t (fw_t (fw_t (fw_t (fw_t (fw_t (fw_t fw_h)))))))))))))
theorem mL_662 : Cond.code yX0_isDug cX0_isDug 1 (some .boolean) ∈ wsL_law := uL_wsL_law_r28 _ (fw_t (fw_t (fw_t (fw_t (fw_t (fw_t (fw_t (fw_t (fw_t (fw_t (fw_t (fw_t (fw_t (fw_t fw_h))))))))))))))
theorem mL_663 : Cond.fieldLink RX0 35 "CornDesk$Field" "dug" "Z" ∈ wsL_law := uL_wsL_law_r28 _ (fw_t (fw_t (fw_t (fw_t (fw_t (fw_t (fw_t (fw_t (fw_t (fw_t (fw_t (fw_t (fw_t (fw_t (fw_t fw_h)))))))))))))))
theorem mL_664 : Cond.methodLink RX11 246 yX0_looks ∈ wsL_law := uL_wsL_law_r28 _ (fw_t (fw_t (fw_t (fw_t (fw_t (fw_t (fw_t (fw_t (fw_t (fw_t (fw_t (fw_t (fw_t (fw_t (fw_t (fw_t fw_h))))))))))))))))
theorem mL_665 : Cond.instanceMethod yX0_looks ∈ wsL_law := uL_wsL_law_r28 _ (fw_t (fw_t (fw_t (fw_t (fw_t (fw_t (fw_t (fw_t (fw_t (fw_t (fw_t (fw_t (fw_t (fw_t (fw_t (fw_t (fw_t fw_h)))))))))))))))))
theorem mL_666 : Cond.selects RX0 yX0_looks yX0_looks ∈ wsL_law := uL_wsL_law_r28 _ (fw_t (fw_t (fw_t (fw_t (fw_t (fw_t (fw_t (fw_t (fw_t (fw_t (fw_t (fw_t (fw_t (fw_t (fw_t (fw_t (fw_t (fw_t fw_h))))))))))))))))))
theorem mL_667 : Cond.code yX0_looks cX0_looks 1 (some .int) ∈ wsL_law := uL_wsL_law_r28 _ (fw_t (fw_t (fw_t (fw_t (fw_t (fw_t (fw_t (fw_t (fw_t (fw_t (fw_t (fw_t (fw_t (fw_t (fw_t (fw_t (fw_t (fw_t (fw_t fw_h)))))))))))))))))))
theorem mL_668 : Cond.fieldLink RX0 32 "CornDesk$Field" "looks" "I" ∈ wsL_law := uL_wsL_law_r28 _ (fw_t (fw_t (fw_t (fw_t (fw_t (fw_t (fw_t (fw_t (fw_t (fw_t (fw_t (fw_t (fw_t (fw_t (fw_t (fw_t (fw_t (fw_t (fw_t (fw_t fw_h))))))))))))))))))))
theorem mL_669 : Cond.methodLink RX11 249 yX0_addLook ∈ wsL_law := uL_wsL_law_r28 _ (fw_t (fw_t (fw_t (fw_t (fw_t (fw_t (fw_t (fw_t (fw_t (fw_t (fw_t (fw_t (fw_t (fw_t (fw_t (fw_t (fw_t (fw_t (fw_t (fw_t (fw_t fw_h)))))))))))))))))))))
theorem mL_670 : Cond.instanceMethod yX0_addLook ∈ wsL_law := uL_wsL_law_r28 _ (fw_t (fw_t (fw_t (fw_t (fw_t (fw_t (fw_t (fw_t (fw_t (fw_t (fw_t (fw_t (fw_t (fw_t (fw_t (fw_t (fw_t (fw_t (fw_t (fw_t (fw_t (fw_t fw_h))))))))))))))))))))))
theorem mL_671 : Cond.selects RX0 yX0_addLook yX0_addLook ∈ wsL_law := uL_wsL_law_r28 _ (fw_t (fw_t (fw_t (fw_t (fw_t (fw_t (fw_t (fw_t (fw_t (fw_t (fw_t (fw_t (fw_t (fw_t (fw_t (fw_t (fw_t (fw_t (fw_t (fw_t (fw_t (fw_t (fw_t fw_h)))))))))))))))))))))))
theorem uL_wsL_law_r29 : ∀ w ∈ wsL_law_r29, w ∈ wsL_law := fun _ h => (fw_l (fw_l (fw_l (fw_l (fw_l (fw_l (fw_l (fw_l (fw_l (fw_l (fw_l (fw_l (fw_l (fw_l (fw_r (fw_r (fw_r (fw_r (fw_r (fw_r (fw_r (fw_r (fw_r (fw_r (fw_r (fw_r (fw_r (fw_r (fw_r (fw_r (fw_r (fw_r (fw_r (fw_r (fw_r (fw_r (fw_r (fw_r (fw_r (fw_r (fw_r (fw_r (fw_l h)))))))))))))))))))))))))))))))))))))))))))
theorem mL_672 : Cond.code yX0_addLook cX0_addLook 4 none ∈ wsL_law := uL_wsL_law_r29 _ (fw_h)
theorem mL_673 : Cond.methodLink RL 98 yX12_look ∈ wsL_law := uL_wsL_law_r29 _ (fw_t fw_h)
theorem mL_674 : Cond.instanceMethod yX12_look ∈ wsL_law := uL_wsL_law_r29 _ (fw_t (fw_t fw_h))
theorem mL_675 : Cond.selects RX12 yX12_look yX12_look ∈ wsL_law := uL_wsL_law_r29 _ (fw_t (fw_t (fw_t fw_h)))
theorem mL_676 : Cond.code yX12_look cX12_look 7 (some .long) ∈ wsL_law := uL_wsL_law_r29 _ (fw_t (fw_t (fw_t (fw_t fw_h))))
theorem mL_677 : Cond.methodLink RX12 165 yX12_isField ∈ wsL_law := uL_wsL_law_r29 _ (fw_t (fw_t (fw_t (fw_t (fw_t fw_h)))))
theorem mL_678 : Cond.instanceMethod yX12_isField ∈ wsL_law := uL_wsL_law_r29 _ (fw_t (fw_t (fw_t (fw_t (fw_t (fw_t fw_h))))))
theorem mL_679 : Cond.selects RX12 yX12_isField yX12_isField ∈ wsL_law := uL_wsL_law_r29 _ (fw_t (fw_t (fw_t (fw_t (fw_t (fw_t (fw_t fw_h)))))))
theorem mL_680 : Cond.code yX12_isField cX12_isField 2 (some .boolean) ∈ wsL_law := uL_wsL_law_r29 _ (fw_t (fw_t (fw_t (fw_t (fw_t (fw_t (fw_t (fw_t fw_h))))))))
theorem mL_681 : Cond.methodLink RX12 168 yX12_isWeather ∈ wsL_law := uL_wsL_law_r29 _ (fw_t (fw_t (fw_t (fw_t (fw_t (fw_t (fw_t (fw_t (fw_t fw_h)))))))))
theorem mL_682 : Cond.static yX12_isWeather ∈ wsL_law := uL_wsL_law_r29 _ (fw_t (fw_t (fw_t (fw_t (fw_t (fw_t (fw_t (fw_t (fw_t (fw_t fw_h))))))))))
theorem mL_683 : Cond.code yX12_isWeather cX12_isWeather 2 (some .boolean) ∈ wsL_law := uL_wsL_law_r29 _ (fw_t (fw_t (fw_t (fw_t (fw_t (fw_t (fw_t (fw_t (fw_t (fw_t (fw_t fw_h)))))))))))
theorem mL_684 : Cond.methodLink RX12 171 yX12_ofField ∈ wsL_law := uL_wsL_law_r29 _ (fw_t (fw_t (fw_t (fw_t (fw_t (fw_t (fw_t (fw_t (fw_t (fw_t (fw_t (fw_t fw_h))))))))))))
theorem mL_685 : Cond.instanceMethod yX12_ofField ∈ wsL_law := uL_wsL_law_r29 _ (fw_t (fw_t (fw_t (fw_t (fw_t (fw_t (fw_t (fw_t (fw_t (fw_t (fw_t (fw_t (fw_t fw_h)))))))))))))
theorem mL_686 : Cond.selects RX12 yX12_ofField yX12_ofField ∈ wsL_law := uL_wsL_law_r29 _ (fw_t (fw_t (fw_t (fw_t (fw_t (fw_t (fw_t (fw_t (fw_t (fw_t (fw_t (fw_t (fw_t (fw_t fw_h))))))))))))))
theorem mL_687 : Cond.code yX12_ofField cX12_ofField 3 (some .int) ∈ wsL_law := uL_wsL_law_r29 _ (fw_t (fw_t (fw_t (fw_t (fw_t (fw_t (fw_t (fw_t (fw_t (fw_t (fw_t (fw_t (fw_t (fw_t (fw_t fw_h)))))))))))))))
theorem mL_688 : Cond.methodLink RL 99 yX11_belief ∈ wsL_law := uL_wsL_law_r29 _ (fw_t (fw_t (fw_t (fw_t (fw_t (fw_t (fw_t (fw_t (fw_t (fw_t (fw_t (fw_t (fw_t (fw_t (fw_t (fw_t fw_h))))))))))))))))
theorem mL_689 : Cond.instanceMethod yX11_belief ∈ wsL_law := uL_wsL_law_r29 _ (fw_t (fw_t (fw_t (fw_t (fw_t (fw_t (fw_t (fw_t (fw_t (fw_t (fw_t (fw_t (fw_t (fw_t (fw_t (fw_t (fw_t fw_h)))))))))))))))))
theorem mL_690 : Cond.selects RX11 yX11_belief yX11_belief ∈ wsL_law := uL_wsL_law_r29 _ (fw_t (fw_t (fw_t (fw_t (fw_t (fw_t (fw_t (fw_t (fw_t (fw_t (fw_t (fw_t (fw_t (fw_t (fw_t (fw_t (fw_t (fw_t fw_h))))))))))))))))))
theorem mL_691 : Cond.code yX11_belief cX11_belief 4 (some .long) ∈ wsL_law := uL_wsL_law_r29 _ (fw_t (fw_t (fw_t (fw_t (fw_t (fw_t (fw_t (fw_t (fw_t (fw_t (fw_t (fw_t (fw_t (fw_t (fw_t (fw_t (fw_t (fw_t (fw_t fw_h)))))))))))))))))))
theorem mL_692 : Cond.methodLink RX11 253 yX0_believed ∈ wsL_law := uL_wsL_law_r29 _ (fw_t (fw_t (fw_t (fw_t (fw_t (fw_t (fw_t (fw_t (fw_t (fw_t (fw_t (fw_t (fw_t (fw_t (fw_t (fw_t (fw_t (fw_t (fw_t (fw_t fw_h))))))))))))))))))))
theorem mL_693 : Cond.instanceMethod yX0_believed ∈ wsL_law := uL_wsL_law_r29 _ (fw_t (fw_t (fw_t (fw_t (fw_t (fw_t (fw_t (fw_t (fw_t (fw_t (fw_t (fw_t (fw_t (fw_t (fw_t (fw_t (fw_t (fw_t (fw_t (fw_t (fw_t fw_h)))))))))))))))))))))
theorem mL_694 : Cond.selects RX0 yX0_believed yX0_believed ∈ wsL_law := uL_wsL_law_r29 _ (fw_t (fw_t (fw_t (fw_t (fw_t (fw_t (fw_t (fw_t (fw_t (fw_t (fw_t (fw_t (fw_t (fw_t (fw_t (fw_t (fw_t (fw_t (fw_t (fw_t (fw_t (fw_t fw_h))))))))))))))))))))))
theorem mL_695 : Cond.code yX0_believed cX0_believed 14 (some .long) ∈ wsL_law := uL_wsL_law_r29 _ (fw_t (fw_t (fw_t (fw_t (fw_t (fw_t (fw_t (fw_t (fw_t (fw_t (fw_t (fw_t (fw_t (fw_t (fw_t (fw_t (fw_t (fw_t (fw_t (fw_t (fw_t (fw_t (fw_t fw_h)))))))))))))))))))))))
theorem uL_wsL_law_r30 : ∀ w ∈ wsL_law_r30, w ∈ wsL_law := fun _ h => (fw_l (fw_l (fw_l (fw_l (fw_l (fw_l (fw_l (fw_l (fw_l (fw_l (fw_l (fw_l (fw_l (fw_l (fw_r (fw_r (fw_r (fw_r (fw_r (fw_r (fw_r (fw_r (fw_r (fw_r (fw_r (fw_r (fw_r (fw_r (fw_r (fw_r (fw_r (fw_r (fw_r (fw_r (fw_r (fw_r (fw_r (fw_r (fw_r (fw_r (fw_r (fw_r (fw_r (fw_l h))))))))))))))))))))))))))))))))))))))))))))
theorem mL_696 : Cond.constantLong RX0 59 (100) ∈ wsL_law := uL_wsL_law_r30 _ (fw_h)
theorem mL_697 : Cond.methodLink RX0 55 yX0_wasSeen ∈ wsL_law := uL_wsL_law_r30 _ (fw_t fw_h)
theorem mL_698 : Cond.instanceMethod yX0_wasSeen ∈ wsL_law := uL_wsL_law_r30 _ (fw_t (fw_t fw_h))
theorem mL_699 : Cond.selects RX0 yX0_wasSeen yX0_wasSeen ∈ wsL_law := uL_wsL_law_r30 _ (fw_t (fw_t (fw_t fw_h)))
theorem mL_700 : Cond.code yX0_wasSeen cX0_wasSeen 2 (some .boolean) ∈ wsL_law := uL_wsL_law_r30 _ (fw_t (fw_t (fw_t (fw_t fw_h))))
theorem mL_701 : Cond.methodLink RX0 61 yX10_upper ∈ wsL_law := uL_wsL_law_r30 _ (fw_t (fw_t (fw_t (fw_t (fw_t fw_h)))))
theorem mL_702 : Cond.instanceMethod yX10_upper ∈ wsL_law := uL_wsL_law_r30 _ (fw_t (fw_t (fw_t (fw_t (fw_t (fw_t fw_h))))))
theorem mL_703 : Cond.selects RX10 yX10_upper yX10_upper ∈ wsL_law := uL_wsL_law_r30 _ (fw_t (fw_t (fw_t (fw_t (fw_t (fw_t (fw_t fw_h)))))))
theorem mL_704 : Cond.code yX10_upper cX10_upper 4 (some .int) ∈ wsL_law := uL_wsL_law_r30 _ (fw_t (fw_t (fw_t (fw_t (fw_t (fw_t (fw_t (fw_t fw_h))))))))
theorem mL_705 : Cond.methodLink RX10 28 yX10_cell ∈ wsL_law := uL_wsL_law_r30 _ (fw_t (fw_t (fw_t (fw_t (fw_t (fw_t (fw_t (fw_t (fw_t fw_h)))))))))
theorem mL_706 : Cond.static yX10_cell ∈ wsL_law := uL_wsL_law_r30 _ (fw_t (fw_t (fw_t (fw_t (fw_t (fw_t (fw_t (fw_t (fw_t (fw_t fw_h))))))))))
theorem mL_707 : Cond.code yX10_cell cX10_cell 3 (some .int) ∈ wsL_law := uL_wsL_law_r30 _ (fw_t (fw_t (fw_t (fw_t (fw_t (fw_t (fw_t (fw_t (fw_t (fw_t (fw_t fw_h)))))))))))
theorem mL_708 : Cond.methodLink RX0 64 yX10_lower ∈ wsL_law := uL_wsL_law_r30 _ (fw_t (fw_t (fw_t (fw_t (fw_t (fw_t (fw_t (fw_t (fw_t (fw_t (fw_t (fw_t fw_h))))))))))))
theorem mL_709 : Cond.instanceMethod yX10_lower ∈ wsL_law := uL_wsL_law_r30 _ (fw_t (fw_t (fw_t (fw_t (fw_t (fw_t (fw_t (fw_t (fw_t (fw_t (fw_t (fw_t (fw_t fw_h)))))))))))))
theorem mL_710 : Cond.selects RX10 yX10_lower yX10_lower ∈ wsL_law := uL_wsL_law_r30 _ (fw_t (fw_t (fw_t (fw_t (fw_t (fw_t (fw_t (fw_t (fw_t (fw_t (fw_t (fw_t (fw_t (fw_t fw_h))))))))))))))
theorem mL_711 : Cond.code yX10_lower cX10_lower 4 (some .int) ∈ wsL_law := uL_wsL_law_r30 _ (fw_t (fw_t (fw_t (fw_t (fw_t (fw_t (fw_t (fw_t (fw_t (fw_t (fw_t (fw_t (fw_t (fw_t (fw_t fw_h)))))))))))))))
theorem mL_712 : Cond.methodLink RL 102 yX12_belief ∈ wsL_law := uL_wsL_law_r30 _ (fw_t (fw_t (fw_t (fw_t (fw_t (fw_t (fw_t (fw_t (fw_t (fw_t (fw_t (fw_t (fw_t (fw_t (fw_t (fw_t fw_h))))))))))))))))
theorem mL_713 : Cond.instanceMethod yX12_belief ∈ wsL_law := uL_wsL_law_r30 _ (fw_t (fw_t (fw_t (fw_t (fw_t (fw_t (fw_t (fw_t (fw_t (fw_t (fw_t (fw_t (fw_t (fw_t (fw_t (fw_t (fw_t fw_h)))))))))))))))))
theorem mL_714 : Cond.selects RX12 yX12_belief yX12_belief ∈ wsL_law := uL_wsL_law_r30 _ (fw_t (fw_t (fw_t (fw_t (fw_t (fw_t (fw_t (fw_t (fw_t (fw_t (fw_t (fw_t (fw_t (fw_t (fw_t (fw_t (fw_t (fw_t fw_h))))))))))))))))))
theorem mL_715 : Cond.code yX12_belief cX12_belief 9 (some .long) ∈ wsL_law := uL_wsL_law_r30 _ (fw_t (fw_t (fw_t (fw_t (fw_t (fw_t (fw_t (fw_t (fw_t (fw_t (fw_t (fw_t (fw_t (fw_t (fw_t (fw_t (fw_t (fw_t (fw_t fw_h)))))))))))))))))))
theorem mL_716 : Cond.methodLink RX12 174 yX12_wasSeen ∈ wsL_law := uL_wsL_law_r30 _ (fw_t (fw_t (fw_t (fw_t (fw_t (fw_t (fw_t (fw_t (fw_t (fw_t (fw_t (fw_t (fw_t (fw_t (fw_t (fw_t (fw_t (fw_t (fw_t (fw_t fw_h))))))))))))))))))))
theorem mL_717 : Cond.instanceMethod yX12_wasSeen ∈ wsL_law := uL_wsL_law_r30 _ (fw_t (fw_t (fw_t (fw_t (fw_t (fw_t (fw_t (fw_t (fw_t (fw_t (fw_t (fw_t (fw_t (fw_t (fw_t (fw_t (fw_t (fw_t (fw_t (fw_t (fw_t fw_h)))))))))))))))))))))
theorem mL_718 : Cond.selects RX12 yX12_wasSeen yX12_wasSeen ∈ wsL_law := uL_wsL_law_r30 _ (fw_t (fw_t (fw_t (fw_t (fw_t (fw_t (fw_t (fw_t (fw_t (fw_t (fw_t (fw_t (fw_t (fw_t (fw_t (fw_t (fw_t (fw_t (fw_t (fw_t (fw_t (fw_t fw_h))))))))))))))))))))))
theorem mL_719 : Cond.code yX12_wasSeen cX12_wasSeen 3 (some .boolean) ∈ wsL_law := uL_wsL_law_r30 _ (fw_t (fw_t (fw_t (fw_t (fw_t (fw_t (fw_t (fw_t (fw_t (fw_t (fw_t (fw_t (fw_t (fw_t (fw_t (fw_t (fw_t (fw_t (fw_t (fw_t (fw_t (fw_t (fw_t fw_h)))))))))))))))))))))))
theorem uL_wsL_law_r31 : ∀ w ∈ wsL_law_r31, w ∈ wsL_law := fun _ h => (fw_l (fw_l (fw_l (fw_l (fw_l (fw_l (fw_l (fw_l (fw_l (fw_l (fw_l (fw_l (fw_l (fw_l (fw_r (fw_r (fw_r (fw_r (fw_r (fw_r (fw_r (fw_r (fw_r (fw_r (fw_r (fw_r (fw_r (fw_r (fw_r (fw_r (fw_r (fw_r (fw_r (fw_r (fw_r (fw_r (fw_r (fw_r (fw_r (fw_r (fw_r (fw_r (fw_r (fw_r (fw_l h)))))))))))))))))))))))))))))))))))))))))))))
theorem mL_720 : Cond.methodLink RX12 177 yX12_showAt ∈ wsL_law := uL_wsL_law_r31 _ (fw_h)
theorem mL_721 : Cond.static yX12_showAt ∈ wsL_law := uL_wsL_law_r31 _ (fw_t fw_h)
theorem mL_722 : Cond.code yX12_showAt cX12_showAt 3 (some .int) ∈ wsL_law := uL_wsL_law_r31 _ (fw_t (fw_t fw_h))
theorem mL_723 : Cond.methodLink RL 103 yX11_showing ∈ wsL_law := uL_wsL_law_r31 _ (fw_t (fw_t (fw_t fw_h)))
theorem mL_724 : Cond.instanceMethod yX11_showing ∈ wsL_law := uL_wsL_law_r31 _ (fw_t (fw_t (fw_t (fw_t fw_h))))
theorem mL_725 : Cond.selects RX11 yX11_showing yX11_showing ∈ wsL_law := uL_wsL_law_r31 _ (fw_t (fw_t (fw_t (fw_t (fw_t fw_h)))))
theorem mL_726 : Cond.code yX11_showing cX11_showing 5 (some .long) ∈ wsL_law := uL_wsL_law_r31 _ (fw_t (fw_t (fw_t (fw_t (fw_t (fw_t fw_h))))))
theorem mL_727 : Cond.methodLink RX11 257 yX10_lower ∈ wsL_law := uL_wsL_law_r31 _ (fw_t (fw_t (fw_t (fw_t (fw_t (fw_t (fw_t fw_h)))))))
theorem mL_728 : Cond.methodLink RX11 260 yX10_upper ∈ wsL_law := uL_wsL_law_r31 _ (fw_t (fw_t (fw_t (fw_t (fw_t (fw_t (fw_t (fw_t fw_h))))))))
theorem mL_729 : Cond.methodLink RL 106 yX12_showing ∈ wsL_law := uL_wsL_law_r31 _ (fw_t (fw_t (fw_t (fw_t (fw_t (fw_t (fw_t (fw_t (fw_t fw_h)))))))))
theorem mL_730 : Cond.instanceMethod yX12_showing ∈ wsL_law := uL_wsL_law_r31 _ (fw_t (fw_t (fw_t (fw_t (fw_t (fw_t (fw_t (fw_t (fw_t (fw_t fw_h))))))))))
theorem mL_731 : Cond.selects RX12 yX12_showing yX12_showing ∈ wsL_law := uL_wsL_law_r31 _ (fw_t (fw_t (fw_t (fw_t (fw_t (fw_t (fw_t (fw_t (fw_t (fw_t (fw_t fw_h)))))))))))
theorem mL_732 : Cond.code yX12_showing cX12_showing 5 (some .long) ∈ wsL_law := uL_wsL_law_r31 _ (fw_t (fw_t (fw_t (fw_t (fw_t (fw_t (fw_t (fw_t (fw_t (fw_t (fw_t (fw_t fw_h))))))))))))
theorem mL_733 : Cond.methodLink RL 107 yX11_dig ∈ wsL_law := uL_wsL_law_r31 _ (fw_t (fw_t (fw_t (fw_t (fw_t (fw_t (fw_t (fw_t (fw_t (fw_t (fw_t (fw_t (fw_t fw_h)))))))))))))
theorem mL_734 : Cond.instanceMethod yX11_dig ∈ wsL_law := uL_wsL_law_r31 _ (fw_t (fw_t (fw_t (fw_t (fw_t (fw_t (fw_t (fw_t (fw_t (fw_t (fw_t (fw_t (fw_t (fw_t fw_h))))))))))))))
theorem mL_735 : Cond.selects RX11 yX11_dig yX11_dig ∈ wsL_law := uL_wsL_law_r31 _ (fw_t (fw_t (fw_t (fw_t (fw_t (fw_t (fw_t (fw_t (fw_t (fw_t (fw_t (fw_t (fw_t (fw_t (fw_t fw_h)))))))))))))))
theorem mL_736 : Cond.code yX11_dig cX11_dig 4 (some .long) ∈ wsL_law := uL_wsL_law_r31 _ (fw_t (fw_t (fw_t (fw_t (fw_t (fw_t (fw_t (fw_t (fw_t (fw_t (fw_t (fw_t (fw_t (fw_t (fw_t (fw_t fw_h))))))))))))))))
theorem mL_737 : Cond.methodLink RX11 263 yX0_open ∈ wsL_law := uL_wsL_law_r31 _ (fw_t (fw_t (fw_t (fw_t (fw_t (fw_t (fw_t (fw_t (fw_t (fw_t (fw_t (fw_t (fw_t (fw_t (fw_t (fw_t (fw_t fw_h)))))))))))))))))
theorem mL_738 : Cond.instanceMethod yX0_open ∈ wsL_law := uL_wsL_law_r31 _ (fw_t (fw_t (fw_t (fw_t (fw_t (fw_t (fw_t (fw_t (fw_t (fw_t (fw_t (fw_t (fw_t (fw_t (fw_t (fw_t (fw_t (fw_t fw_h))))))))))))))))))
theorem mL_739 : Cond.selects RX0 yX0_open yX0_open ∈ wsL_law := uL_wsL_law_r31 _ (fw_t (fw_t (fw_t (fw_t (fw_t (fw_t (fw_t (fw_t (fw_t (fw_t (fw_t (fw_t (fw_t (fw_t (fw_t (fw_t (fw_t (fw_t (fw_t fw_h)))))))))))))))))))
theorem mL_740 : Cond.code yX0_open cX0_open 3 (some .int) ∈ wsL_law := uL_wsL_law_r31 _ (fw_t (fw_t (fw_t (fw_t (fw_t (fw_t (fw_t (fw_t (fw_t (fw_t (fw_t (fw_t (fw_t (fw_t (fw_t (fw_t (fw_t (fw_t (fw_t (fw_t fw_h))))))))))))))))))))
theorem mL_741 : Cond.fieldLink RX0 39 "CornDesk$Field" "found" "Z" ∈ wsL_law := uL_wsL_law_r31 _ (fw_t (fw_t (fw_t (fw_t (fw_t (fw_t (fw_t (fw_t (fw_t (fw_t (fw_t (fw_t (fw_t (fw_t (fw_t (fw_t (fw_t (fw_t (fw_t (fw_t (fw_t fw_h)))))))))))))))))))))
theorem mL_742 : Cond.methodLink RX0 42 yX0_count ∈ wsL_law := uL_wsL_law_r31 _ (fw_t (fw_t (fw_t (fw_t (fw_t (fw_t (fw_t (fw_t (fw_t (fw_t (fw_t (fw_t (fw_t (fw_t (fw_t (fw_t (fw_t (fw_t (fw_t (fw_t (fw_t (fw_t fw_h))))))))))))))))))))))
theorem mL_743 : Cond.instanceMethod yX0_count ∈ wsL_law := uL_wsL_law_r31 _ (fw_t (fw_t (fw_t (fw_t (fw_t (fw_t (fw_t (fw_t (fw_t (fw_t (fw_t (fw_t (fw_t (fw_t (fw_t (fw_t (fw_t (fw_t (fw_t (fw_t (fw_t (fw_t (fw_t fw_h)))))))))))))))))))))))
theorem uL_wsL_law_r32 : ∀ w ∈ wsL_law_r32, w ∈ wsL_law := fun _ h => (fw_l (fw_l (fw_l (fw_l (fw_l (fw_l (fw_l (fw_l (fw_l (fw_l (fw_l (fw_l (fw_l (fw_l (fw_r (fw_r (fw_r (fw_r (fw_r (fw_r (fw_r (fw_r (fw_r (fw_r (fw_r (fw_r (fw_r (fw_r (fw_r (fw_r (fw_r (fw_r (fw_r (fw_r (fw_r (fw_r (fw_r (fw_r (fw_r (fw_r (fw_r (fw_r (fw_r (fw_r (fw_r (fw_l h))))))))))))))))))))))))))))))))))))))))))))))
theorem mL_744 : Cond.selects RX0 yX0_count yX0_count ∈ wsL_law := uL_wsL_law_r32 _ (fw_h)
theorem mL_745 : Cond.code yX0_count cX0_count 4 (some .int) ∈ wsL_law := uL_wsL_law_r32 _ (fw_t fw_h)
theorem mL_746 : Cond.methodLink RX0 52 yX10_count ∈ wsL_law := uL_wsL_law_r32 _ (fw_t (fw_t fw_h))
theorem mL_747 : Cond.instanceMethod yX10_count ∈ wsL_law := uL_wsL_law_r32 _ (fw_t (fw_t (fw_t fw_h)))
theorem mL_748 : Cond.selects RX10 yX10_count yX10_count ∈ wsL_law := uL_wsL_law_r32 _ (fw_t (fw_t (fw_t (fw_t fw_h))))
theorem mL_749 : Cond.code yX10_count cX10_count 4 none ∈ wsL_law := uL_wsL_law_r32 _ (fw_t (fw_t (fw_t (fw_t (fw_t fw_h)))))
theorem mL_750 : Cond.methodLink RL 110 yX12_dig ∈ wsL_law := uL_wsL_law_r32 _ (fw_t (fw_t (fw_t (fw_t (fw_t (fw_t fw_h))))))
theorem mL_751 : Cond.instanceMethod yX12_dig ∈ wsL_law := uL_wsL_law_r32 _ (fw_t (fw_t (fw_t (fw_t (fw_t (fw_t (fw_t fw_h)))))))
theorem mL_752 : Cond.selects RX12 yX12_dig yX12_dig ∈ wsL_law := uL_wsL_law_r32 _ (fw_t (fw_t (fw_t (fw_t (fw_t (fw_t (fw_t (fw_t fw_h))))))))
theorem mL_753 : Cond.code yX12_dig cX12_dig 7 (some .long) ∈ wsL_law := uL_wsL_law_r32 _ (fw_t (fw_t (fw_t (fw_t (fw_t (fw_t (fw_t (fw_t (fw_t fw_h)))))))))
theorem mL_754 : Cond.methodLink RL 111 yX11_plan ∈ wsL_law := uL_wsL_law_r32 _ (fw_t (fw_t (fw_t (fw_t (fw_t (fw_t (fw_t (fw_t (fw_t (fw_t fw_h))))))))))
theorem mL_755 : Cond.instanceMethod yX11_plan ∈ wsL_law := uL_wsL_law_r32 _ (fw_t (fw_t (fw_t (fw_t (fw_t (fw_t (fw_t (fw_t (fw_t (fw_t (fw_t fw_h)))))))))))
theorem mL_756 : Cond.selects RX11 yX11_plan yX11_plan ∈ wsL_law := uL_wsL_law_r32 _ (fw_t (fw_t (fw_t (fw_t (fw_t (fw_t (fw_t (fw_t (fw_t (fw_t (fw_t (fw_t fw_h))))))))))))
theorem mL_757 : Cond.code yX11_plan cX11_plan 4 (some .long) ∈ wsL_law := uL_wsL_law_r32 _ (fw_t (fw_t (fw_t (fw_t (fw_t (fw_t (fw_t (fw_t (fw_t (fw_t (fw_t (fw_t (fw_t fw_h)))))))))))))
theorem mL_758 : Cond.methodLink RX11 267 yX11_isFlight ∈ wsL_law := uL_wsL_law_r32 _ (fw_t (fw_t (fw_t (fw_t (fw_t (fw_t (fw_t (fw_t (fw_t (fw_t (fw_t (fw_t (fw_t (fw_t fw_h))))))))))))))
theorem mL_759 : Cond.static yX11_isFlight ∈ wsL_law := uL_wsL_law_r32 _ (fw_t (fw_t (fw_t (fw_t (fw_t (fw_t (fw_t (fw_t (fw_t (fw_t (fw_t (fw_t (fw_t (fw_t (fw_t fw_h)))))))))))))))
theorem mL_760 : Cond.code yX11_isFlight cX11_isFlight 3 (some .boolean) ∈ wsL_law := uL_wsL_law_r32 _ (fw_t (fw_t (fw_t (fw_t (fw_t (fw_t (fw_t (fw_t (fw_t (fw_t (fw_t (fw_t (fw_t (fw_t (fw_t (fw_t fw_h))))))))))))))))
theorem mL_761 : Cond.methodLink RX11 270 yX11_choose ∈ wsL_law := uL_wsL_law_r32 _ (fw_t (fw_t (fw_t (fw_t (fw_t (fw_t (fw_t (fw_t (fw_t (fw_t (fw_t (fw_t (fw_t (fw_t (fw_t (fw_t (fw_t fw_h)))))))))))))))))
theorem mL_762 : Cond.instanceMethod yX11_choose ∈ wsL_law := uL_wsL_law_r32 _ (fw_t (fw_t (fw_t (fw_t (fw_t (fw_t (fw_t (fw_t (fw_t (fw_t (fw_t (fw_t (fw_t (fw_t (fw_t (fw_t (fw_t (fw_t fw_h))))))))))))))))))
theorem mL_763 : Cond.selects RX11 yX11_choose yX11_choose ∈ wsL_law := uL_wsL_law_r32 _ (fw_t (fw_t (fw_t (fw_t (fw_t (fw_t (fw_t (fw_t (fw_t (fw_t (fw_t (fw_t (fw_t (fw_t (fw_t (fw_t (fw_t (fw_t (fw_t fw_h)))))))))))))))))))
theorem mL_764 : Cond.code yX11_choose cX11_choose 4 none ∈ wsL_law := uL_wsL_law_r32 _ (fw_t (fw_t (fw_t (fw_t (fw_t (fw_t (fw_t (fw_t (fw_t (fw_t (fw_t (fw_t (fw_t (fw_t (fw_t (fw_t (fw_t (fw_t (fw_t (fw_t fw_h))))))))))))))))))))
theorem mL_765 : Cond.methodLink RX11 337 yX1_weighFields ∈ wsL_law := uL_wsL_law_r32 _ (fw_t (fw_t (fw_t (fw_t (fw_t (fw_t (fw_t (fw_t (fw_t (fw_t (fw_t (fw_t (fw_t (fw_t (fw_t (fw_t (fw_t (fw_t (fw_t (fw_t (fw_t fw_h)))))))))))))))))))))
theorem mL_766 : Cond.instanceMethod yX1_weighFields ∈ wsL_law := uL_wsL_law_r32 _ (fw_t (fw_t (fw_t (fw_t (fw_t (fw_t (fw_t (fw_t (fw_t (fw_t (fw_t (fw_t (fw_t (fw_t (fw_t (fw_t (fw_t (fw_t (fw_t (fw_t (fw_t (fw_t fw_h))))))))))))))))))))))
theorem mL_767 : Cond.selects RX1 yX1_weighFields yX1_weighFields ∈ wsL_law := uL_wsL_law_r32 _ (fw_t (fw_t (fw_t (fw_t (fw_t (fw_t (fw_t (fw_t (fw_t (fw_t (fw_t (fw_t (fw_t (fw_t (fw_t (fw_t (fw_t (fw_t (fw_t (fw_t (fw_t (fw_t (fw_t fw_h)))))))))))))))))))))))
theorem uL_wsL_law_r33 : ∀ w ∈ wsL_law_r33, w ∈ wsL_law := fun _ h => (fw_l (fw_l (fw_l (fw_l (fw_l (fw_l (fw_l (fw_l (fw_l (fw_l (fw_l (fw_l (fw_l (fw_l (fw_r (fw_r (fw_r (fw_r (fw_r (fw_r (fw_r (fw_r (fw_r (fw_r (fw_r (fw_r (fw_r (fw_r (fw_r (fw_r (fw_r (fw_r (fw_r (fw_r (fw_r (fw_r (fw_r (fw_r (fw_r (fw_r (fw_r (fw_r (fw_r (fw_r (fw_r (fw_r (fw_l h)))))))))))))))))))))))))))))))))))))))))))))))
theorem mL_768 : Cond.code yX1_weighFields cX1_weighFields 7 none ∈ wsL_law := uL_wsL_law_r33 _ (fw_h)
theorem mL_769 : Cond.methodLink RX1 27 yX0_gain ∈ wsL_law := uL_wsL_law_r33 _ (fw_t fw_h)
theorem mL_770 : Cond.instanceMethod yX0_gain ∈ wsL_law := uL_wsL_law_r33 _ (fw_t (fw_t fw_h))
theorem mL_771 : Cond.selects RX0 yX0_gain yX0_gain ∈ wsL_law := uL_wsL_law_r33 _ (fw_t (fw_t (fw_t fw_h)))
theorem mL_772 : Cond.code yX0_gain cX0_gain 6 (some .long) ∈ wsL_law := uL_wsL_law_r33 _ (fw_t (fw_t (fw_t (fw_t fw_h))))
theorem mL_773 : Cond.methodLink RX11 341 yX1_choose ∈ wsL_law := uL_wsL_law_r33 _ (fw_t (fw_t (fw_t (fw_t (fw_t fw_h)))))
theorem mL_774 : Cond.instanceMethod yX1_choose ∈ wsL_law := uL_wsL_law_r33 _ (fw_t (fw_t (fw_t (fw_t (fw_t (fw_t fw_h))))))
theorem mL_775 : Cond.selects RX1 yX1_choose yX1_choose ∈ wsL_law := uL_wsL_law_r33 _ (fw_t (fw_t (fw_t (fw_t (fw_t (fw_t (fw_t fw_h)))))))
theorem mL_776 : Cond.code yX1_choose cX1_choose 5 none ∈ wsL_law := uL_wsL_law_r33 _ (fw_t (fw_t (fw_t (fw_t (fw_t (fw_t (fw_t (fw_t fw_h))))))))
theorem mL_777 : Cond.fieldLink RX1 19 "CornDesk$Flight" "bestSet" "I" ∈ wsL_law := uL_wsL_law_r33 _ (fw_t (fw_t (fw_t (fw_t (fw_t (fw_t (fw_t (fw_t (fw_t fw_h)))))))))
theorem mL_778 : Cond.fieldLink RX1 23 "CornDesk$Flight" "bestGain" "J" ∈ wsL_law := uL_wsL_law_r33 _ (fw_t (fw_t (fw_t (fw_t (fw_t (fw_t (fw_t (fw_t (fw_t (fw_t fw_h))))))))))
theorem mL_779 : Cond.fieldLink RX1 35 "CornDesk$Flight" "bestHours" "I" ∈ wsL_law := uL_wsL_law_r33 _ (fw_t (fw_t (fw_t (fw_t (fw_t (fw_t (fw_t (fw_t (fw_t (fw_t (fw_t fw_h)))))))))))
theorem mL_780 : Cond.methodLink RX1 38 Lib.Math.min.name ∈ wsL_law := uL_wsL_law_r33 _ (fw_t (fw_t (fw_t (fw_t (fw_t (fw_t (fw_t (fw_t (fw_t (fw_t (fw_t (fw_t fw_h))))))))))))
theorem mL_781 : Cond.methodLink RX1 44 yX1_weighSet ∈ wsL_law := uL_wsL_law_r33 _ (fw_t (fw_t (fw_t (fw_t (fw_t (fw_t (fw_t (fw_t (fw_t (fw_t (fw_t (fw_t (fw_t fw_h)))))))))))))
theorem mL_782 : Cond.instanceMethod yX1_weighSet ∈ wsL_law := uL_wsL_law_r33 _ (fw_t (fw_t (fw_t (fw_t (fw_t (fw_t (fw_t (fw_t (fw_t (fw_t (fw_t (fw_t (fw_t (fw_t fw_h))))))))))))))
theorem mL_783 : Cond.selects RX1 yX1_weighSet yX1_weighSet ∈ wsL_law := uL_wsL_law_r33 _ (fw_t (fw_t (fw_t (fw_t (fw_t (fw_t (fw_t (fw_t (fw_t (fw_t (fw_t (fw_t (fw_t (fw_t (fw_t fw_h)))))))))))))))
theorem mL_784 : Cond.code yX1_weighSet cX1_weighSet 7 none ∈ wsL_law := uL_wsL_law_r33 _ (fw_t (fw_t (fw_t (fw_t (fw_t (fw_t (fw_t (fw_t (fw_t (fw_t (fw_t (fw_t (fw_t (fw_t (fw_t (fw_t fw_h))))))))))))))))
theorem mL_785 : Cond.methodLink RX11 273 yX1_set ∈ wsL_law := uL_wsL_law_r33 _ (fw_t (fw_t (fw_t (fw_t (fw_t (fw_t (fw_t (fw_t (fw_t (fw_t (fw_t (fw_t (fw_t (fw_t (fw_t (fw_t (fw_t fw_h)))))))))))))))))
theorem mL_786 : Cond.instanceMethod yX1_set ∈ wsL_law := uL_wsL_law_r33 _ (fw_t (fw_t (fw_t (fw_t (fw_t (fw_t (fw_t (fw_t (fw_t (fw_t (fw_t (fw_t (fw_t (fw_t (fw_t (fw_t (fw_t (fw_t fw_h))))))))))))))))))
theorem mL_787 : Cond.selects RX1 yX1_set yX1_set ∈ wsL_law := uL_wsL_law_r33 _ (fw_t (fw_t (fw_t (fw_t (fw_t (fw_t (fw_t (fw_t (fw_t (fw_t (fw_t (fw_t (fw_t (fw_t (fw_t (fw_t (fw_t (fw_t (fw_t fw_h)))))))))))))))))))
theorem mL_788 : Cond.code yX1_set cX1_set 1 (some .int) ∈ wsL_law := uL_wsL_law_r33 _ (fw_t (fw_t (fw_t (fw_t (fw_t (fw_t (fw_t (fw_t (fw_t (fw_t (fw_t (fw_t (fw_t (fw_t (fw_t (fw_t (fw_t (fw_t (fw_t (fw_t fw_h))))))))))))))))))))
theorem mL_789 : Cond.methodLink RL 114 yX12_plan ∈ wsL_law := uL_wsL_law_r33 _ (fw_t (fw_t (fw_t (fw_t (fw_t (fw_t (fw_t (fw_t (fw_t (fw_t (fw_t (fw_t (fw_t (fw_t (fw_t (fw_t (fw_t (fw_t (fw_t (fw_t (fw_t fw_h)))))))))))))))))))))
theorem mL_790 : Cond.instanceMethod yX12_plan ∈ wsL_law := uL_wsL_law_r33 _ (fw_t (fw_t (fw_t (fw_t (fw_t (fw_t (fw_t (fw_t (fw_t (fw_t (fw_t (fw_t (fw_t (fw_t (fw_t (fw_t (fw_t (fw_t (fw_t (fw_t (fw_t (fw_t fw_h))))))))))))))))))))))
theorem mL_791 : Cond.selects RX12 yX12_plan yX12_plan ∈ wsL_law := uL_wsL_law_r33 _ (fw_t (fw_t (fw_t (fw_t (fw_t (fw_t (fw_t (fw_t (fw_t (fw_t (fw_t (fw_t (fw_t (fw_t (fw_t (fw_t (fw_t (fw_t (fw_t (fw_t (fw_t (fw_t (fw_t fw_h)))))))))))))))))))))))
theorem uL_wsL_law_r34 : ∀ w ∈ wsL_law_r34, w ∈ wsL_law := fun _ h => (fw_l (fw_l (fw_l (fw_l (fw_l (fw_l (fw_l (fw_l (fw_l (fw_l (fw_l (fw_l (fw_l (fw_l (fw_r (fw_r (fw_r (fw_r (fw_r (fw_r (fw_r (fw_r (fw_r (fw_r (fw_r (fw_r (fw_r (fw_r (fw_r (fw_r (fw_r (fw_r (fw_r (fw_r (fw_r (fw_r (fw_r (fw_r (fw_r (fw_r (fw_r (fw_r (fw_r (fw_r (fw_r (fw_r (fw_r (fw_l h))))))))))))))))))))))))))))))))))))))))))))))))
theorem mL_792 : Cond.code yX12_plan cX12_plan 4 (some .long) ∈ wsL_law := uL_wsL_law_r34 _ (fw_h)
theorem mL_793 : Cond.fieldLink RX12 181 "CornDeskModel" "bestSet" "I" ∈ wsL_law := uL_wsL_law_r34 _ (fw_t fw_h)
theorem mL_794 : Cond.methodLink RX12 190 yX12_findPlan ∈ wsL_law := uL_wsL_law_r34 _ (fw_t (fw_t fw_h))
theorem mL_795 : Cond.instanceMethod yX12_findPlan ∈ wsL_law := uL_wsL_law_r34 _ (fw_t (fw_t (fw_t fw_h)))
theorem mL_796 : Cond.selects RX12 yX12_findPlan yX12_findPlan ∈ wsL_law := uL_wsL_law_r34 _ (fw_t (fw_t (fw_t (fw_t fw_h))))
theorem mL_797 : Cond.code yX12_findPlan cX12_findPlan 9 none ∈ wsL_law := uL_wsL_law_r34 _ (fw_t (fw_t (fw_t (fw_t (fw_t fw_h)))))
theorem mL_798 : Cond.fieldLink RX12 184 "CornDeskModel" "bestSum" "I" ∈ wsL_law := uL_wsL_law_r34 _ (fw_t (fw_t (fw_t (fw_t (fw_t (fw_t fw_h))))))
theorem mL_799 : Cond.methodLink RX12 187 yX12_brought ∈ wsL_law := uL_wsL_law_r34 _ (fw_t (fw_t (fw_t (fw_t (fw_t (fw_t (fw_t fw_h)))))))
theorem mL_800 : Cond.instanceMethod yX12_brought ∈ wsL_law := uL_wsL_law_r34 _ (fw_t (fw_t (fw_t (fw_t (fw_t (fw_t (fw_t (fw_t fw_h))))))))
theorem mL_801 : Cond.selects RX12 yX12_brought yX12_brought ∈ wsL_law := uL_wsL_law_r34 _ (fw_t (fw_t (fw_t (fw_t (fw_t (fw_t (fw_t (fw_t (fw_t fw_h)))))))))
theorem mL_802 : Cond.code yX12_brought cX12_brought 5 (some .int) ∈ wsL_law := uL_wsL_law_r34 _ (fw_t (fw_t (fw_t (fw_t (fw_t (fw_t (fw_t (fw_t (fw_t (fw_t fw_h))))))))))
theorem mL_803 : Cond.methodLink RL 115 yX11_brings ∈ wsL_law := uL_wsL_law_r34 _ (fw_t (fw_t (fw_t (fw_t (fw_t (fw_t (fw_t (fw_t (fw_t (fw_t (fw_t fw_h)))))))))))
theorem mL_804 : Cond.instanceMethod yX11_brings ∈ wsL_law := uL_wsL_law_r34 _ (fw_t (fw_t (fw_t (fw_t (fw_t (fw_t (fw_t (fw_t (fw_t (fw_t (fw_t (fw_t fw_h))))))))))))
theorem mL_805 : Cond.selects RX11 yX11_brings yX11_brings ∈ wsL_law := uL_wsL_law_r34 _ (fw_t (fw_t (fw_t (fw_t (fw_t (fw_t (fw_t (fw_t (fw_t (fw_t (fw_t (fw_t (fw_t fw_h)))))))))))))
theorem mL_806 : Cond.code yX11_brings cX11_brings 4 (some .long) ∈ wsL_law := uL_wsL_law_r34 _ (fw_t (fw_t (fw_t (fw_t (fw_t (fw_t (fw_t (fw_t (fw_t (fw_t (fw_t (fw_t (fw_t (fw_t fw_h))))))))))))))
theorem mL_807 : Cond.methodLink RX11 276 yX1_gain ∈ wsL_law := uL_wsL_law_r34 _ (fw_t (fw_t (fw_t (fw_t (fw_t (fw_t (fw_t (fw_t (fw_t (fw_t (fw_t (fw_t (fw_t (fw_t (fw_t fw_h)))))))))))))))
theorem mL_808 : Cond.instanceMethod yX1_gain ∈ wsL_law := uL_wsL_law_r34 _ (fw_t (fw_t (fw_t (fw_t (fw_t (fw_t (fw_t (fw_t (fw_t (fw_t (fw_t (fw_t (fw_t (fw_t (fw_t (fw_t fw_h))))))))))))))))
theorem mL_809 : Cond.selects RX1 yX1_gain yX1_gain ∈ wsL_law := uL_wsL_law_r34 _ (fw_t (fw_t (fw_t (fw_t (fw_t (fw_t (fw_t (fw_t (fw_t (fw_t (fw_t (fw_t (fw_t (fw_t (fw_t (fw_t (fw_t fw_h)))))))))))))))))
theorem mL_810 : Cond.code yX1_gain cX1_gain 1 (some .long) ∈ wsL_law := uL_wsL_law_r34 _ (fw_t (fw_t (fw_t (fw_t (fw_t (fw_t (fw_t (fw_t (fw_t (fw_t (fw_t (fw_t (fw_t (fw_t (fw_t (fw_t (fw_t (fw_t fw_h))))))))))))))))))
theorem mL_811 : Cond.methodLink RL 118 yX12_brings ∈ wsL_law := uL_wsL_law_r34 _ (fw_t (fw_t (fw_t (fw_t (fw_t (fw_t (fw_t (fw_t (fw_t (fw_t (fw_t (fw_t (fw_t (fw_t (fw_t (fw_t (fw_t (fw_t (fw_t fw_h)))))))))))))))))))
theorem mL_812 : Cond.instanceMethod yX12_brings ∈ wsL_law := uL_wsL_law_r34 _ (fw_t (fw_t (fw_t (fw_t (fw_t (fw_t (fw_t (fw_t (fw_t (fw_t (fw_t (fw_t (fw_t (fw_t (fw_t (fw_t (fw_t (fw_t (fw_t (fw_t fw_h))))))))))))))))))))
theorem mL_813 : Cond.selects RX12 yX12_brings yX12_brings ∈ wsL_law := uL_wsL_law_r34 _ (fw_t (fw_t (fw_t (fw_t (fw_t (fw_t (fw_t (fw_t (fw_t (fw_t (fw_t (fw_t (fw_t (fw_t (fw_t (fw_t (fw_t (fw_t (fw_t (fw_t (fw_t fw_h)))))))))))))))))))))
theorem mL_814 : Cond.code yX12_brings cX12_brings 4 (some .long) ∈ wsL_law := uL_wsL_law_r34 _ (fw_t (fw_t (fw_t (fw_t (fw_t (fw_t (fw_t (fw_t (fw_t (fw_t (fw_t (fw_t (fw_t (fw_t (fw_t (fw_t (fw_t (fw_t (fw_t (fw_t (fw_t (fw_t fw_h))))))))))))))))))))))
theorem mL_815 : Cond.methodLink RL 119 yX11_sheet ∈ wsL_law := uL_wsL_law_r34 _ (fw_t (fw_t (fw_t (fw_t (fw_t (fw_t (fw_t (fw_t (fw_t (fw_t (fw_t (fw_t (fw_t (fw_t (fw_t (fw_t (fw_t (fw_t (fw_t (fw_t (fw_t (fw_t (fw_t fw_h)))))))))))))))))))))))
theorem uL_wsL_law_r35 : ∀ w ∈ wsL_law_r35, w ∈ wsL_law := fun _ h => (fw_l (fw_l (fw_l (fw_l (fw_l (fw_l (fw_l (fw_l (fw_l (fw_l (fw_l (fw_l (fw_l (fw_l (fw_r (fw_r (fw_r (fw_r (fw_r (fw_r (fw_r (fw_r (fw_r (fw_r (fw_r (fw_r (fw_r (fw_r (fw_r (fw_r (fw_r (fw_r (fw_r (fw_r (fw_r (fw_r (fw_r (fw_r (fw_r (fw_r (fw_r (fw_r (fw_r (fw_r (fw_r (fw_r (fw_r (fw_r (fw_l h)))))))))))))))))))))))))))))))))))))))))))))))))
theorem mL_816 : Cond.instanceMethod yX11_sheet ∈ wsL_law := uL_wsL_law_r35 _ (fw_h)
theorem mL_817 : Cond.selects RX11 yX11_sheet yX11_sheet ∈ wsL_law := uL_wsL_law_r35 _ (fw_t fw_h)
theorem mL_818 : Cond.code yX11_sheet cX11_sheet 5 (some .long) ∈ wsL_law := uL_wsL_law_r35 _ (fw_t (fw_t fw_h))
theorem mL_819 : Cond.constantLong RX11 286 (-1000000003) ∈ wsL_law := uL_wsL_law_r35 _ (fw_t (fw_t (fw_t fw_h)))
theorem mL_820 : Cond.methodLink RX11 279 yX11_sheetAt ∈ wsL_law := uL_wsL_law_r35 _ (fw_t (fw_t (fw_t (fw_t fw_h))))
theorem mL_821 : Cond.instanceMethod yX11_sheetAt ∈ wsL_law := uL_wsL_law_r35 _ (fw_t (fw_t (fw_t (fw_t (fw_t fw_h)))))
theorem mL_822 : Cond.selects RX11 yX11_sheetAt yX11_sheetAt ∈ wsL_law := uL_wsL_law_r35 _ (fw_t (fw_t (fw_t (fw_t (fw_t (fw_t fw_h))))))
theorem mL_823 : Cond.code yX11_sheetAt cX11_sheetAt 2 (some (.object "CornDesk$Sheet")) ∈ wsL_law := uL_wsL_law_r35 _ (fw_t (fw_t (fw_t (fw_t (fw_t (fw_t (fw_t fw_h)))))))
theorem mL_824 : Cond.methodLink RX11 283 yX11_isWidth ∈ wsL_law := uL_wsL_law_r35 _ (fw_t (fw_t (fw_t (fw_t (fw_t (fw_t (fw_t (fw_t fw_h))))))))
theorem mL_825 : Cond.static yX11_isWidth ∈ wsL_law := uL_wsL_law_r35 _ (fw_t (fw_t (fw_t (fw_t (fw_t (fw_t (fw_t (fw_t (fw_t fw_h)))))))))
theorem mL_826 : Cond.code yX11_isWidth cX11_isWidth 1 (some .boolean) ∈ wsL_law := uL_wsL_law_r35 _ (fw_t (fw_t (fw_t (fw_t (fw_t (fw_t (fw_t (fw_t (fw_t (fw_t fw_h))))))))))
theorem mL_827 : Cond.methodLink RX11 288 yX8_become ∈ wsL_law := uL_wsL_law_r35 _ (fw_t (fw_t (fw_t (fw_t (fw_t (fw_t (fw_t (fw_t (fw_t (fw_t (fw_t fw_h)))))))))))
theorem mL_828 : Cond.instanceMethod yX8_become ∈ wsL_law := uL_wsL_law_r35 _ (fw_t (fw_t (fw_t (fw_t (fw_t (fw_t (fw_t (fw_t (fw_t (fw_t (fw_t (fw_t fw_h))))))))))))
theorem mL_829 : Cond.selects RX8 yX8_become yX8_become ∈ wsL_law := uL_wsL_law_r35 _ (fw_t (fw_t (fw_t (fw_t (fw_t (fw_t (fw_t (fw_t (fw_t (fw_t (fw_t (fw_t (fw_t fw_h)))))))))))))
theorem mL_830 : Cond.code yX8_become cX8_become 3 none ∈ wsL_law := uL_wsL_law_r35 _ (fw_t (fw_t (fw_t (fw_t (fw_t (fw_t (fw_t (fw_t (fw_t (fw_t (fw_t (fw_t (fw_t (fw_t fw_h))))))))))))))
theorem mL_831 : Cond.fieldLink RX8 15 "CornDesk$Sheet" "bits" "I" ∈ wsL_law := uL_wsL_law_r35 _ (fw_t (fw_t (fw_t (fw_t (fw_t (fw_t (fw_t (fw_t (fw_t (fw_t (fw_t (fw_t (fw_t (fw_t (fw_t fw_h)))))))))))))))
theorem mL_832 : Cond.fieldLink RX8 19 "CornDesk$Sheet" "count" "I" ∈ wsL_law := uL_wsL_law_r35 _ (fw_t (fw_t (fw_t (fw_t (fw_t (fw_t (fw_t (fw_t (fw_t (fw_t (fw_t (fw_t (fw_t (fw_t (fw_t (fw_t fw_h))))))))))))))))
theorem mL_833 : Cond.methodLink RX8 22 yJ7_fill_53178 ∈ wsL_law := uL_wsL_law_r35 _ (fw_t (fw_t (fw_t (fw_t (fw_t (fw_t (fw_t (fw_t (fw_t (fw_t (fw_t (fw_t (fw_t (fw_t (fw_t (fw_t (fw_t fw_h)))))))))))))))))
theorem mL_834 : Cond.methodLink RX11 292 yX8_size ∈ wsL_law := uL_wsL_law_r35 _ (fw_t (fw_t (fw_t (fw_t (fw_t (fw_t (fw_t (fw_t (fw_t (fw_t (fw_t (fw_t (fw_t (fw_t (fw_t (fw_t (fw_t (fw_t fw_h))))))))))))))))))
theorem mL_835 : Cond.instanceMethod yX8_size ∈ wsL_law := uL_wsL_law_r35 _ (fw_t (fw_t (fw_t (fw_t (fw_t (fw_t (fw_t (fw_t (fw_t (fw_t (fw_t (fw_t (fw_t (fw_t (fw_t (fw_t (fw_t (fw_t (fw_t fw_h)))))))))))))))))))
theorem mL_836 : Cond.selects RX8 yX8_size yX8_size ∈ wsL_law := uL_wsL_law_r35 _ (fw_t (fw_t (fw_t (fw_t (fw_t (fw_t (fw_t (fw_t (fw_t (fw_t (fw_t (fw_t (fw_t (fw_t (fw_t (fw_t (fw_t (fw_t (fw_t (fw_t fw_h))))))))))))))))))))
theorem mL_837 : Cond.code yX8_size cX8_size 1 (some .int) ∈ wsL_law := uL_wsL_law_r35 _ (fw_t (fw_t (fw_t (fw_t (fw_t (fw_t (fw_t (fw_t (fw_t (fw_t (fw_t (fw_t (fw_t (fw_t (fw_t (fw_t (fw_t (fw_t (fw_t (fw_t (fw_t fw_h)))))))))))))))))))))
theorem mL_838 : Cond.methodLink RL 122 yX12_sheet ∈ wsL_law := uL_wsL_law_r35 _ (fw_t (fw_t (fw_t (fw_t (fw_t (fw_t (fw_t (fw_t (fw_t (fw_t (fw_t (fw_t (fw_t (fw_t (fw_t (fw_t (fw_t (fw_t (fw_t (fw_t (fw_t (fw_t fw_h))))))))))))))))))))))
theorem mL_839 : Cond.instanceMethod yX12_sheet ∈ wsL_law := uL_wsL_law_r35 _ (fw_t (fw_t (fw_t (fw_t (fw_t (fw_t (fw_t (fw_t (fw_t (fw_t (fw_t (fw_t (fw_t (fw_t (fw_t (fw_t (fw_t (fw_t (fw_t (fw_t (fw_t (fw_t (fw_t fw_h)))))))))))))))))))))))
theorem uL_wsL_law_r36 : ∀ w ∈ wsL_law_r36, w ∈ wsL_law := fun _ h => (fw_l (fw_l (fw_l (fw_l (fw_l (fw_l (fw_l (fw_l (fw_l (fw_l (fw_l (fw_l (fw_l (fw_l (fw_r (fw_r (fw_r (fw_r (fw_r (fw_r (fw_r (fw_r (fw_r (fw_r (fw_r (fw_r (fw_r (fw_r (fw_r (fw_r (fw_r (fw_r (fw_r (fw_r (fw_r (fw_r (fw_r (fw_r (fw_r (fw_r (fw_r (fw_r (fw_r (fw_r (fw_r (fw_r (fw_r (fw_r (fw_r (fw_l h))))))))))))))))))))))))))))))))))))))))))))))))))
theorem mL_840 : Cond.selects RX12 yX12_sheet yX12_sheet ∈ wsL_law := uL_wsL_law_r36 _ (fw_h)
theorem mL_841 : Cond.code yX12_sheet cX12_sheet 5 (some .long) ∈ wsL_law := uL_wsL_law_r36 _ (fw_t fw_h)
theorem mL_842 : Cond.constantLong RX12 197 (-1000000003) ∈ wsL_law := uL_wsL_law_r36 _ (fw_t (fw_t fw_h))
theorem mL_843 : Cond.methodLink RX12 194 yX12_isSheet ∈ wsL_law := uL_wsL_law_r36 _ (fw_t (fw_t (fw_t fw_h)))
theorem mL_844 : Cond.static yX12_isSheet ∈ wsL_law := uL_wsL_law_r36 _ (fw_t (fw_t (fw_t (fw_t fw_h))))
theorem mL_845 : Cond.code yX12_isSheet cX12_isSheet 1 (some .boolean) ∈ wsL_law := uL_wsL_law_r36 _ (fw_t (fw_t (fw_t (fw_t (fw_t fw_h)))))
theorem mL_846 : Cond.methodLink RL 123 yX11_put ∈ wsL_law := uL_wsL_law_r36 _ (fw_t (fw_t (fw_t (fw_t (fw_t (fw_t fw_h))))))
theorem mL_847 : Cond.instanceMethod yX11_put ∈ wsL_law := uL_wsL_law_r36 _ (fw_t (fw_t (fw_t (fw_t (fw_t (fw_t (fw_t fw_h)))))))
theorem mL_848 : Cond.selects RX11 yX11_put yX11_put ∈ wsL_law := uL_wsL_law_r36 _ (fw_t (fw_t (fw_t (fw_t (fw_t (fw_t (fw_t (fw_t fw_h))))))))
theorem mL_849 : Cond.code yX11_put cX11_put 5 (some .long) ∈ wsL_law := uL_wsL_law_r36 _ (fw_t (fw_t (fw_t (fw_t (fw_t (fw_t (fw_t (fw_t (fw_t fw_h)))))))))
theorem mL_850 : Cond.constantLong RX11 296 (-1000000002) ∈ wsL_law := uL_wsL_law_r36 _ (fw_t (fw_t (fw_t (fw_t (fw_t (fw_t (fw_t (fw_t (fw_t (fw_t fw_h))))))))))
theorem mL_851 : Cond.methodLink RX11 293 yX8_isMissing ∈ wsL_law := uL_wsL_law_r36 _ (fw_t (fw_t (fw_t (fw_t (fw_t (fw_t (fw_t (fw_t (fw_t (fw_t (fw_t fw_h)))))))))))
theorem mL_852 : Cond.instanceMethod yX8_isMissing ∈ wsL_law := uL_wsL_law_r36 _ (fw_t (fw_t (fw_t (fw_t (fw_t (fw_t (fw_t (fw_t (fw_t (fw_t (fw_t (fw_t fw_h))))))))))))
theorem mL_853 : Cond.selects RX8 yX8_isMissing yX8_isMissing ∈ wsL_law := uL_wsL_law_r36 _ (fw_t (fw_t (fw_t (fw_t (fw_t (fw_t (fw_t (fw_t (fw_t (fw_t (fw_t (fw_t (fw_t fw_h)))))))))))))
theorem mL_854 : Cond.code yX8_isMissing cX8_isMissing 1 (some .boolean) ∈ wsL_law := uL_wsL_law_r36 _ (fw_t (fw_t (fw_t (fw_t (fw_t (fw_t (fw_t (fw_t (fw_t (fw_t (fw_t (fw_t (fw_t (fw_t fw_h))))))))))))))
theorem mL_855 : Cond.methodLink RX11 298 yX8_hasRun ∈ wsL_law := uL_wsL_law_r36 _ (fw_t (fw_t (fw_t (fw_t (fw_t (fw_t (fw_t (fw_t (fw_t (fw_t (fw_t (fw_t (fw_t (fw_t (fw_t fw_h)))))))))))))))
theorem mL_856 : Cond.instanceMethod yX8_hasRun ∈ wsL_law := uL_wsL_law_r36 _ (fw_t (fw_t (fw_t (fw_t (fw_t (fw_t (fw_t (fw_t (fw_t (fw_t (fw_t (fw_t (fw_t (fw_t (fw_t (fw_t fw_h))))))))))))))))
theorem mL_857 : Cond.selects RX8 yX8_hasRun yX8_hasRun ∈ wsL_law := uL_wsL_law_r36 _ (fw_t (fw_t (fw_t (fw_t (fw_t (fw_t (fw_t (fw_t (fw_t (fw_t (fw_t (fw_t (fw_t (fw_t (fw_t (fw_t (fw_t fw_h)))))))))))))))))
theorem mL_858 : Cond.code yX8_hasRun cX8_hasRun 3 (some .boolean) ∈ wsL_law := uL_wsL_law_r36 _ (fw_t (fw_t (fw_t (fw_t (fw_t (fw_t (fw_t (fw_t (fw_t (fw_t (fw_t (fw_t (fw_t (fw_t (fw_t (fw_t (fw_t (fw_t fw_h))))))))))))))))))
theorem mL_859 : Cond.methodLink RX11 301 yX8_write ∈ wsL_law := uL_wsL_law_r36 _ (fw_t (fw_t (fw_t (fw_t (fw_t (fw_t (fw_t (fw_t (fw_t (fw_t (fw_t (fw_t (fw_t (fw_t (fw_t (fw_t (fw_t (fw_t (fw_t fw_h)))))))))))))))))))
theorem mL_860 : Cond.instanceMethod yX8_write ∈ wsL_law := uL_wsL_law_r36 _ (fw_t (fw_t (fw_t (fw_t (fw_t (fw_t (fw_t (fw_t (fw_t (fw_t (fw_t (fw_t (fw_t (fw_t (fw_t (fw_t (fw_t (fw_t (fw_t (fw_t fw_h))))))))))))))))))))
theorem mL_861 : Cond.selects RX8 yX8_write yX8_write ∈ wsL_law := uL_wsL_law_r36 _ (fw_t (fw_t (fw_t (fw_t (fw_t (fw_t (fw_t (fw_t (fw_t (fw_t (fw_t (fw_t (fw_t (fw_t (fw_t (fw_t (fw_t (fw_t (fw_t (fw_t (fw_t fw_h)))))))))))))))))))))
theorem mL_862 : Cond.code yX8_write cX8_write 3 none ∈ wsL_law := uL_wsL_law_r36 _ (fw_t (fw_t (fw_t (fw_t (fw_t (fw_t (fw_t (fw_t (fw_t (fw_t (fw_t (fw_t (fw_t (fw_t (fw_t (fw_t (fw_t (fw_t (fw_t (fw_t (fw_t (fw_t fw_h))))))))))))))))))))))
theorem mL_863 : Cond.methodLink RL 126 yX12_put ∈ wsL_law := uL_wsL_law_r36 _ (fw_t (fw_t (fw_t (fw_t (fw_t (fw_t (fw_t (fw_t (fw_t (fw_t (fw_t (fw_t (fw_t (fw_t (fw_t (fw_t (fw_t (fw_t (fw_t (fw_t (fw_t (fw_t (fw_t fw_h)))))))))))))))))))))))
theorem uL_wsL_law_r37 : ∀ w ∈ wsL_law_r37, w ∈ wsL_law := fun _ h => (fw_l (fw_l (fw_l (fw_l (fw_l (fw_l (fw_l (fw_l (fw_l (fw_l (fw_l (fw_l (fw_l (fw_l (fw_r (fw_r (fw_r (fw_r (fw_r (fw_r (fw_r (fw_r (fw_r (fw_r (fw_r (fw_r (fw_r (fw_r (fw_r (fw_r (fw_r (fw_r (fw_r (fw_r (fw_r (fw_r (fw_r (fw_r (fw_r (fw_r (fw_r (fw_r (fw_r (fw_r (fw_r (fw_r (fw_r (fw_r (fw_r (fw_r (fw_l h)))))))))))))))))))))))))))))))))))))))))))))))))))
theorem mL_864 : Cond.instanceMethod yX12_put ∈ wsL_law := uL_wsL_law_r37 _ (fw_h)
theorem mL_865 : Cond.selects RX12 yX12_put yX12_put ∈ wsL_law := uL_wsL_law_r37 _ (fw_t fw_h)
theorem mL_866 : Cond.code yX12_put cX12_put 4 (some .long) ∈ wsL_law := uL_wsL_law_r37 _ (fw_t (fw_t fw_h))
theorem mL_867 : Cond.constantLong RX12 199 (-1000000002) ∈ wsL_law := uL_wsL_law_r37 _ (fw_t (fw_t (fw_t fw_h)))
theorem mL_868 : Cond.methodLink RL 127 yX11_copy ∈ wsL_law := uL_wsL_law_r37 _ (fw_t (fw_t (fw_t (fw_t fw_h))))
theorem mL_869 : Cond.instanceMethod yX11_copy ∈ wsL_law := uL_wsL_law_r37 _ (fw_t (fw_t (fw_t (fw_t (fw_t fw_h)))))
theorem mL_870 : Cond.selects RX11 yX11_copy yX11_copy ∈ wsL_law := uL_wsL_law_r37 _ (fw_t (fw_t (fw_t (fw_t (fw_t (fw_t fw_h))))))
theorem mL_871 : Cond.code yX11_copy cX11_copy 8 (some .long) ∈ wsL_law := uL_wsL_law_r37 _ (fw_t (fw_t (fw_t (fw_t (fw_t (fw_t (fw_t fw_h)))))))
theorem mL_872 : Cond.methodLink RX11 304 yX8_bits ∈ wsL_law := uL_wsL_law_r37 _ (fw_t (fw_t (fw_t (fw_t (fw_t (fw_t (fw_t (fw_t fw_h))))))))
theorem mL_873 : Cond.instanceMethod yX8_bits ∈ wsL_law := uL_wsL_law_r37 _ (fw_t (fw_t (fw_t (fw_t (fw_t (fw_t (fw_t (fw_t (fw_t fw_h)))))))))
theorem mL_874 : Cond.selects RX8 yX8_bits yX8_bits ∈ wsL_law := uL_wsL_law_r37 _ (fw_t (fw_t (fw_t (fw_t (fw_t (fw_t (fw_t (fw_t (fw_t (fw_t fw_h))))))))))
theorem mL_875 : Cond.code yX8_bits cX8_bits 1 (some .int) ∈ wsL_law := uL_wsL_law_r37 _ (fw_t (fw_t (fw_t (fw_t (fw_t (fw_t (fw_t (fw_t (fw_t (fw_t (fw_t fw_h)))))))))))
theorem mL_876 : Cond.methodLink RX11 307 yX8_take ∈ wsL_law := uL_wsL_law_r37 _ (fw_t (fw_t (fw_t (fw_t (fw_t (fw_t (fw_t (fw_t (fw_t (fw_t (fw_t (fw_t fw_h))))))))))))
theorem mL_877 : Cond.instanceMethod yX8_take ∈ wsL_law := uL_wsL_law_r37 _ (fw_t (fw_t (fw_t (fw_t (fw_t (fw_t (fw_t (fw_t (fw_t (fw_t (fw_t (fw_t (fw_t fw_h)))))))))))))
theorem mL_878 : Cond.selects RX8 yX8_take yX8_take ∈ wsL_law := uL_wsL_law_r37 _ (fw_t (fw_t (fw_t (fw_t (fw_t (fw_t (fw_t (fw_t (fw_t (fw_t (fw_t (fw_t (fw_t (fw_t fw_h))))))))))))))
theorem mL_879 : Cond.code yX8_take cX8_take 5 none ∈ wsL_law := uL_wsL_law_r37 _ (fw_t (fw_t (fw_t (fw_t (fw_t (fw_t (fw_t (fw_t (fw_t (fw_t (fw_t (fw_t (fw_t (fw_t (fw_t fw_h)))))))))))))))
theorem mL_880 : Cond.methodLink RX8 32 arraycopyName ∈ wsL_law := uL_wsL_law_r37 _ (fw_t (fw_t (fw_t (fw_t (fw_t (fw_t (fw_t (fw_t (fw_t (fw_t (fw_t (fw_t (fw_t (fw_t (fw_t (fw_t fw_h))))))))))))))))
theorem mL_881 : Cond.methodLink RX8 28 yX8_hasRun ∈ wsL_law := uL_wsL_law_r37 _ (fw_t (fw_t (fw_t (fw_t (fw_t (fw_t (fw_t (fw_t (fw_t (fw_t (fw_t (fw_t (fw_t (fw_t (fw_t (fw_t (fw_t fw_h)))))))))))))))))
theorem mL_882 : Cond.methodLink RL 130 yX12_copy ∈ wsL_law := uL_wsL_law_r37 _ (fw_t (fw_t (fw_t (fw_t (fw_t (fw_t (fw_t (fw_t (fw_t (fw_t (fw_t (fw_t (fw_t (fw_t (fw_t (fw_t (fw_t (fw_t fw_h))))))))))))))))))
theorem mL_883 : Cond.instanceMethod yX12_copy ∈ wsL_law := uL_wsL_law_r37 _ (fw_t (fw_t (fw_t (fw_t (fw_t (fw_t (fw_t (fw_t (fw_t (fw_t (fw_t (fw_t (fw_t (fw_t (fw_t (fw_t (fw_t (fw_t (fw_t fw_h)))))))))))))))))))
theorem mL_884 : Cond.selects RX12 yX12_copy yX12_copy ∈ wsL_law := uL_wsL_law_r37 _ (fw_t (fw_t (fw_t (fw_t (fw_t (fw_t (fw_t (fw_t (fw_t (fw_t (fw_t (fw_t (fw_t (fw_t (fw_t (fw_t (fw_t (fw_t (fw_t (fw_t fw_h))))))))))))))))))))
theorem mL_885 : Cond.code yX12_copy cX12_copy 7 (some .long) ∈ wsL_law := uL_wsL_law_r37 _ (fw_t (fw_t (fw_t (fw_t (fw_t (fw_t (fw_t (fw_t (fw_t (fw_t (fw_t (fw_t (fw_t (fw_t (fw_t (fw_t (fw_t (fw_t (fw_t (fw_t (fw_t fw_h)))))))))))))))))))))
theorem mL_886 : Cond.methodLink RL 131 yX11_text ∈ wsL_law := uL_wsL_law_r37 _ (fw_t (fw_t (fw_t (fw_t (fw_t (fw_t (fw_t (fw_t (fw_t (fw_t (fw_t (fw_t (fw_t (fw_t (fw_t (fw_t (fw_t (fw_t (fw_t (fw_t (fw_t (fw_t fw_h))))))))))))))))))))))
theorem mL_887 : Cond.instanceMethod yX11_text ∈ wsL_law := uL_wsL_law_r37 _ (fw_t (fw_t (fw_t (fw_t (fw_t (fw_t (fw_t (fw_t (fw_t (fw_t (fw_t (fw_t (fw_t (fw_t (fw_t (fw_t (fw_t (fw_t (fw_t (fw_t (fw_t (fw_t (fw_t fw_h)))))))))))))))))))))))
theorem uL_wsL_law_r38 : ∀ w ∈ wsL_law_r38, w ∈ wsL_law := fun _ h => (fw_l (fw_l (fw_l (fw_l (fw_l (fw_l (fw_l (fw_l (fw_l (fw_l (fw_l (fw_l (fw_l (fw_l (fw_r (fw_r (fw_r (fw_r (fw_r (fw_r (fw_r (fw_r (fw_r (fw_r (fw_r (fw_r (fw_r (fw_r (fw_r (fw_r (fw_r (fw_r (fw_r (fw_r (fw_r (fw_r (fw_r (fw_r (fw_r (fw_r (fw_r (fw_r (fw_r (fw_r (fw_r (fw_r (fw_r (fw_r (fw_r (fw_r (fw_r (fw_l h))))))))))))))))))))))))))))))))))))))))))))))))))))
theorem mL_888 : Cond.selects RX11 yX11_text yX11_text ∈ wsL_law := uL_wsL_law_r38 _ (fw_h)
theorem mL_889 : Cond.code yX11_text cX11_text 3 (some .long) ∈ wsL_law := uL_wsL_law_r38 _ (fw_t fw_h)
theorem mL_890 : Cond.methodLink RX11 311 yX8_holdsSigns ∈ wsL_law := uL_wsL_law_r38 _ (fw_t (fw_t fw_h))
theorem mL_891 : Cond.instanceMethod yX8_holdsSigns ∈ wsL_law := uL_wsL_law_r38 _ (fw_t (fw_t (fw_t fw_h)))
theorem mL_892 : Cond.selects RX8 yX8_holdsSigns yX8_holdsSigns ∈ wsL_law := uL_wsL_law_r38 _ (fw_t (fw_t (fw_t (fw_t fw_h))))
theorem mL_893 : Cond.code yX8_holdsSigns cX8_holdsSigns 2 (some .boolean) ∈ wsL_law := uL_wsL_law_r38 _ (fw_t (fw_t (fw_t (fw_t (fw_t fw_h)))))
theorem mL_894 : Cond.methodLink RX11 318 yX2_become ∈ wsL_law := uL_wsL_law_r38 _ (fw_t (fw_t (fw_t (fw_t (fw_t (fw_t fw_h))))))
theorem mL_895 : Cond.instanceMethod yX2_become ∈ wsL_law := uL_wsL_law_r38 _ (fw_t (fw_t (fw_t (fw_t (fw_t (fw_t (fw_t fw_h)))))))
theorem mL_896 : Cond.selects RX2 yX2_become yX2_become ∈ wsL_law := uL_wsL_law_r38 _ (fw_t (fw_t (fw_t (fw_t (fw_t (fw_t (fw_t (fw_t fw_h))))))))
theorem mL_897 : Cond.code yX2_become cX2_become 3 none ∈ wsL_law := uL_wsL_law_r38 _ (fw_t (fw_t (fw_t (fw_t (fw_t (fw_t (fw_t (fw_t (fw_t fw_h)))))))))
theorem mL_898 : Cond.methodLink RX2 31 Lib.Math.min.name ∈ wsL_law := uL_wsL_law_r38 _ (fw_t (fw_t (fw_t (fw_t (fw_t (fw_t (fw_t (fw_t (fw_t (fw_t fw_h))))))))))
theorem mL_899 : Cond.methodLink RX2 37 Lib.Math.max.name ∈ wsL_law := uL_wsL_law_r38 _ (fw_t (fw_t (fw_t (fw_t (fw_t (fw_t (fw_t (fw_t (fw_t (fw_t (fw_t fw_h)))))))))))
theorem mL_900 : Cond.methodLink RL 134 yX12_text ∈ wsL_law := uL_wsL_law_r38 _ (fw_t (fw_t (fw_t (fw_t (fw_t (fw_t (fw_t (fw_t (fw_t (fw_t (fw_t (fw_t fw_h))))))))))))
theorem mL_901 : Cond.instanceMethod yX12_text ∈ wsL_law := uL_wsL_law_r38 _ (fw_t (fw_t (fw_t (fw_t (fw_t (fw_t (fw_t (fw_t (fw_t (fw_t (fw_t (fw_t (fw_t fw_h)))))))))))))
theorem mL_902 : Cond.selects RX12 yX12_text yX12_text ∈ wsL_law := uL_wsL_law_r38 _ (fw_t (fw_t (fw_t (fw_t (fw_t (fw_t (fw_t (fw_t (fw_t (fw_t (fw_t (fw_t (fw_t (fw_t fw_h))))))))))))))
theorem mL_903 : Cond.code yX12_text cX12_text 3 (some .long) ∈ wsL_law := uL_wsL_law_r38 _ (fw_t (fw_t (fw_t (fw_t (fw_t (fw_t (fw_t (fw_t (fw_t (fw_t (fw_t (fw_t (fw_t (fw_t (fw_t fw_h)))))))))))))))
theorem mL_904 : Cond.methodLink RL 135 yX11_undo ∈ wsL_law := uL_wsL_law_r38 _ (fw_t (fw_t (fw_t (fw_t (fw_t (fw_t (fw_t (fw_t (fw_t (fw_t (fw_t (fw_t (fw_t (fw_t (fw_t (fw_t fw_h))))))))))))))))
theorem mL_905 : Cond.instanceMethod yX11_undo ∈ wsL_law := uL_wsL_law_r38 _ (fw_t (fw_t (fw_t (fw_t (fw_t (fw_t (fw_t (fw_t (fw_t (fw_t (fw_t (fw_t (fw_t (fw_t (fw_t (fw_t (fw_t fw_h)))))))))))))))))
theorem mL_906 : Cond.selects RX11 yX11_undo yX11_undo ∈ wsL_law := uL_wsL_law_r38 _ (fw_t (fw_t (fw_t (fw_t (fw_t (fw_t (fw_t (fw_t (fw_t (fw_t (fw_t (fw_t (fw_t (fw_t (fw_t (fw_t (fw_t (fw_t fw_h))))))))))))))))))
theorem mL_907 : Cond.code yX11_undo cX11_undo 2 (some .long) ∈ wsL_law := uL_wsL_law_r38 _ (fw_t (fw_t (fw_t (fw_t (fw_t (fw_t (fw_t (fw_t (fw_t (fw_t (fw_t (fw_t (fw_t (fw_t (fw_t (fw_t (fw_t (fw_t (fw_t fw_h)))))))))))))))))))
theorem mL_908 : Cond.methodLink RX11 321 yX6_takeLatest ∈ wsL_law := uL_wsL_law_r38 _ (fw_t (fw_t (fw_t (fw_t (fw_t (fw_t (fw_t (fw_t (fw_t (fw_t (fw_t (fw_t (fw_t (fw_t (fw_t (fw_t (fw_t (fw_t (fw_t (fw_t fw_h))))))))))))))))))))
theorem mL_909 : Cond.instanceMethod yX6_takeLatest ∈ wsL_law := uL_wsL_law_r38 _ (fw_t (fw_t (fw_t (fw_t (fw_t (fw_t (fw_t (fw_t (fw_t (fw_t (fw_t (fw_t (fw_t (fw_t (fw_t (fw_t (fw_t (fw_t (fw_t (fw_t (fw_t fw_h)))))))))))))))))))))
theorem mL_910 : Cond.selects RX6 yX6_takeLatest yX6_takeLatest ∈ wsL_law := uL_wsL_law_r38 _ (fw_t (fw_t (fw_t (fw_t (fw_t (fw_t (fw_t (fw_t (fw_t (fw_t (fw_t (fw_t (fw_t (fw_t (fw_t (fw_t (fw_t (fw_t (fw_t (fw_t (fw_t (fw_t fw_h))))))))))))))))))))))
theorem mL_911 : Cond.code yX6_takeLatest cX6_takeLatest 1 (some (.object "CornDesk$Step")) ∈ wsL_law := uL_wsL_law_r38 _ (fw_t (fw_t (fw_t (fw_t (fw_t (fw_t (fw_t (fw_t (fw_t (fw_t (fw_t (fw_t (fw_t (fw_t (fw_t (fw_t (fw_t (fw_t (fw_t (fw_t (fw_t (fw_t (fw_t fw_h)))))))))))))))))))))))
theorem uL_wsL_law_r39 : ∀ w ∈ wsL_law_r39, w ∈ wsL_law := fun _ h => (fw_l (fw_l (fw_l (fw_l (fw_l (fw_l (fw_l (fw_l (fw_l (fw_l (fw_l (fw_l (fw_l (fw_l (fw_r (fw_r (fw_r (fw_r (fw_r (fw_r (fw_r (fw_r (fw_r (fw_r (fw_r (fw_r (fw_r (fw_r (fw_r (fw_r (fw_r (fw_r (fw_r (fw_r (fw_r (fw_r (fw_r (fw_r (fw_r (fw_r (fw_r (fw_r (fw_r (fw_r (fw_r (fw_r (fw_r (fw_r (fw_r (fw_r (fw_r (fw_r (fw_l h)))))))))))))))))))))))))))))))))))))))))))))))))))))
theorem mL_912 : Cond.methodLink RX11 325 yX11_takeBack ∈ wsL_law := uL_wsL_law_r39 _ (fw_h)
theorem mL_913 : Cond.instanceMethod yX11_takeBack ∈ wsL_law := uL_wsL_law_r39 _ (fw_t fw_h)
theorem mL_914 : Cond.selects RX11 yX11_takeBack yX11_takeBack ∈ wsL_law := uL_wsL_law_r39 _ (fw_t (fw_t fw_h))
theorem mL_915 : Cond.code yX11_takeBack cX11_takeBack 2 none ∈ wsL_law := uL_wsL_law_r39 _ (fw_t (fw_t (fw_t fw_h)))
theorem mL_916 : Cond.methodLink RX11 351 yX11_takeBackPlace ∈ wsL_law := uL_wsL_law_r39 _ (fw_t (fw_t (fw_t (fw_t fw_h))))
theorem mL_917 : Cond.static yX11_takeBackPlace ∈ wsL_law := uL_wsL_law_r39 _ (fw_t (fw_t (fw_t (fw_t (fw_t fw_h)))))
theorem mL_918 : Cond.code yX11_takeBackPlace cX11_takeBackPlace 2 none ∈ wsL_law := uL_wsL_law_r39 _ (fw_t (fw_t (fw_t (fw_t (fw_t (fw_t fw_h))))))
theorem mL_919 : Cond.methodLink RX11 355 yX2_drop ∈ wsL_law := uL_wsL_law_r39 _ (fw_t (fw_t (fw_t (fw_t (fw_t (fw_t (fw_t fw_h)))))))
theorem mL_920 : Cond.instanceMethod yX2_drop ∈ wsL_law := uL_wsL_law_r39 _ (fw_t (fw_t (fw_t (fw_t (fw_t (fw_t (fw_t (fw_t fw_h))))))))
theorem mL_921 : Cond.selects RX2 yX2_drop yX2_drop ∈ wsL_law := uL_wsL_law_r39 _ (fw_t (fw_t (fw_t (fw_t (fw_t (fw_t (fw_t (fw_t (fw_t fw_h)))))))))
theorem mL_922 : Cond.code yX2_drop cX2_drop 1 none ∈ wsL_law := uL_wsL_law_r39 _ (fw_t (fw_t (fw_t (fw_t (fw_t (fw_t (fw_t (fw_t (fw_t (fw_t fw_h))))))))))
theorem mL_923 : Cond.methodLink RX11 361 yX11_takeBackVisit ∈ wsL_law := uL_wsL_law_r39 _ (fw_t (fw_t (fw_t (fw_t (fw_t (fw_t (fw_t (fw_t (fw_t (fw_t (fw_t fw_h)))))))))))
theorem mL_924 : Cond.instanceMethod yX11_takeBackVisit ∈ wsL_law := uL_wsL_law_r39 _ (fw_t (fw_t (fw_t (fw_t (fw_t (fw_t (fw_t (fw_t (fw_t (fw_t (fw_t (fw_t fw_h))))))))))))
theorem mL_925 : Cond.selects RX11 yX11_takeBackVisit yX11_takeBackVisit ∈ wsL_law := uL_wsL_law_r39 _ (fw_t (fw_t (fw_t (fw_t (fw_t (fw_t (fw_t (fw_t (fw_t (fw_t (fw_t (fw_t (fw_t fw_h)))))))))))))
theorem mL_926 : Cond.code yX11_takeBackVisit cX11_takeBackVisit 3 none ∈ wsL_law := uL_wsL_law_r39 _ (fw_t (fw_t (fw_t (fw_t (fw_t (fw_t (fw_t (fw_t (fw_t (fw_t (fw_t (fw_t (fw_t (fw_t fw_h))))))))))))))
theorem mL_927 : Cond.methodLink RX11 365 yX0_dropLook ∈ wsL_law := uL_wsL_law_r39 _ (fw_t (fw_t (fw_t (fw_t (fw_t (fw_t (fw_t (fw_t (fw_t (fw_t (fw_t (fw_t (fw_t (fw_t (fw_t fw_h)))))))))))))))
theorem mL_928 : Cond.instanceMethod yX0_dropLook ∈ wsL_law := uL_wsL_law_r39 _ (fw_t (fw_t (fw_t (fw_t (fw_t (fw_t (fw_t (fw_t (fw_t (fw_t (fw_t (fw_t (fw_t (fw_t (fw_t (fw_t fw_h))))))))))))))))
theorem mL_929 : Cond.selects RX0 yX0_dropLook yX0_dropLook ∈ wsL_law := uL_wsL_law_r39 _ (fw_t (fw_t (fw_t (fw_t (fw_t (fw_t (fw_t (fw_t (fw_t (fw_t (fw_t (fw_t (fw_t (fw_t (fw_t (fw_t (fw_t fw_h)))))))))))))))))
theorem mL_930 : Cond.code yX0_dropLook cX0_dropLook 1 none ∈ wsL_law := uL_wsL_law_r39 _ (fw_t (fw_t (fw_t (fw_t (fw_t (fw_t (fw_t (fw_t (fw_t (fw_t (fw_t (fw_t (fw_t (fw_t (fw_t (fw_t (fw_t (fw_t fw_h))))))))))))))))))
theorem mL_931 : Cond.methodLink RX11 368 yX0_close ∈ wsL_law := uL_wsL_law_r39 _ (fw_t (fw_t (fw_t (fw_t (fw_t (fw_t (fw_t (fw_t (fw_t (fw_t (fw_t (fw_t (fw_t (fw_t (fw_t (fw_t (fw_t (fw_t (fw_t fw_h)))))))))))))))))))
theorem mL_932 : Cond.instanceMethod yX0_close ∈ wsL_law := uL_wsL_law_r39 _ (fw_t (fw_t (fw_t (fw_t (fw_t (fw_t (fw_t (fw_t (fw_t (fw_t (fw_t (fw_t (fw_t (fw_t (fw_t (fw_t (fw_t (fw_t (fw_t (fw_t fw_h))))))))))))))))))))
theorem mL_933 : Cond.selects RX0 yX0_close yX0_close ∈ wsL_law := uL_wsL_law_r39 _ (fw_t (fw_t (fw_t (fw_t (fw_t (fw_t (fw_t (fw_t (fw_t (fw_t (fw_t (fw_t (fw_t (fw_t (fw_t (fw_t (fw_t (fw_t (fw_t (fw_t (fw_t fw_h)))))))))))))))))))))
theorem mL_934 : Cond.code yX0_close cX0_close 2 none ∈ wsL_law := uL_wsL_law_r39 _ (fw_t (fw_t (fw_t (fw_t (fw_t (fw_t (fw_t (fw_t (fw_t (fw_t (fw_t (fw_t (fw_t (fw_t (fw_t (fw_t (fw_t (fw_t (fw_t (fw_t (fw_t (fw_t fw_h))))))))))))))))))))))
theorem mL_935 : Cond.methodLink RX11 328 yX6_kept ∈ wsL_law := uL_wsL_law_r39 _ (fw_t (fw_t (fw_t (fw_t (fw_t (fw_t (fw_t (fw_t (fw_t (fw_t (fw_t (fw_t (fw_t (fw_t (fw_t (fw_t (fw_t (fw_t (fw_t (fw_t (fw_t (fw_t (fw_t fw_h)))))))))))))))))))))))
theorem uL_wsL_law_r40 : ∀ w ∈ wsL_law_r40, w ∈ wsL_law := fun _ h => (fw_l (fw_l (fw_l (fw_l (fw_l (fw_l (fw_l (fw_l (fw_l (fw_l (fw_l (fw_l (fw_l (fw_l (fw_r (fw_r (fw_r (fw_r (fw_r (fw_r (fw_r (fw_r (fw_r (fw_r (fw_r (fw_r (fw_r (fw_r (fw_r (fw_r (fw_r (fw_r (fw_r (fw_r (fw_r (fw_r (fw_r (fw_r (fw_r (fw_r (fw_r (fw_r (fw_r (fw_r (fw_r (fw_r (fw_r (fw_r (fw_r (fw_r (fw_r (fw_r (fw_r h)))))))))))))))))))))))))))))))))))))))))))))))))))))
theorem mL_936 : Cond.instanceMethod yX6_kept ∈ wsL_law := uL_wsL_law_r40 _ (fw_h)
theorem mL_937 : Cond.selects RX6 yX6_kept yX6_kept ∈ wsL_law := uL_wsL_law_r40 _ (fw_t fw_h)
theorem mL_938 : Cond.code yX6_kept cX6_kept 1 (some .int) ∈ wsL_law := uL_wsL_law_r40 _ (fw_t (fw_t fw_h))
theorem mL_939 : Cond.methodLink RL 138 yX12_undo ∈ wsL_law := uL_wsL_law_r40 _ (fw_t (fw_t (fw_t fw_h)))
theorem mL_940 : Cond.instanceMethod yX12_undo ∈ wsL_law := uL_wsL_law_r40 _ (fw_t (fw_t (fw_t (fw_t fw_h))))
theorem mL_941 : Cond.selects RX12 yX12_undo yX12_undo ∈ wsL_law := uL_wsL_law_r40 _ (fw_t (fw_t (fw_t (fw_t (fw_t fw_h)))))
theorem mL_942 : Cond.code yX12_undo cX12_undo 2 (some .long) ∈ wsL_law := uL_wsL_law_r40 _ (fw_t (fw_t (fw_t (fw_t (fw_t (fw_t fw_h))))))
theorem mL_943 : Cond.methodLink RL 139 yX11_all ∈ wsL_law := uL_wsL_law_r40 _ (fw_t (fw_t (fw_t (fw_t (fw_t (fw_t (fw_t fw_h)))))))
theorem mL_944 : Cond.instanceMethod yX11_all ∈ wsL_law := uL_wsL_law_r40 _ (fw_t (fw_t (fw_t (fw_t (fw_t (fw_t (fw_t (fw_t fw_h))))))))
theorem mL_945 : Cond.selects RX11 yX11_all yX11_all ∈ wsL_law := uL_wsL_law_r40 _ (fw_t (fw_t (fw_t (fw_t (fw_t (fw_t (fw_t (fw_t (fw_t fw_h)))))))))
theorem mL_946 : Cond.code yX11_all cX11_all 2 (some .long) ∈ wsL_law := uL_wsL_law_r40 _ (fw_t (fw_t (fw_t (fw_t (fw_t (fw_t (fw_t (fw_t (fw_t (fw_t fw_h))))))))))
theorem mL_947 : Cond.methodLink RL 142 yX12_all ∈ wsL_law := uL_wsL_law_r40 _ (fw_t (fw_t (fw_t (fw_t (fw_t (fw_t (fw_t (fw_t (fw_t (fw_t (fw_t fw_h)))))))))))
theorem mL_948 : Cond.instanceMethod yX12_all ∈ wsL_law := uL_wsL_law_r40 _ (fw_t (fw_t (fw_t (fw_t (fw_t (fw_t (fw_t (fw_t (fw_t (fw_t (fw_t (fw_t fw_h))))))))))))
theorem mL_949 : Cond.selects RX12 yX12_all yX12_all ∈ wsL_law := uL_wsL_law_r40 _ (fw_t (fw_t (fw_t (fw_t (fw_t (fw_t (fw_t (fw_t (fw_t (fw_t (fw_t (fw_t (fw_t fw_h)))))))))))))
theorem mL_950 : Cond.code yX12_all cX12_all 2 (some .long) ∈ wsL_law := uL_wsL_law_r40 _ (fw_t (fw_t (fw_t (fw_t (fw_t (fw_t (fw_t (fw_t (fw_t (fw_t (fw_t (fw_t (fw_t (fw_t fw_h))))))))))))))
theorem uL_wsX110 : ∀ w ∈ wsX110, w ∈ wsL_law := fun _ h => (fw_l (fw_l (fw_l (fw_l (fw_l (fw_l (fw_l (fw_l (fw_l (fw_l (fw_l (fw_l (fw_l (fw_r h))))))))))))))
theorem uL_wsX120 : ∀ w ∈ wsX120, w ∈ wsL_law := fun _ h => (fw_l (fw_l (fw_l (fw_l (fw_l (fw_l (fw_l (fw_l (fw_l (fw_l (fw_l (fw_l (fw_r h)))))))))))))
theorem uL_wsX30 : ∀ w ∈ wsX30, w ∈ wsL_law := fun _ h => (fw_l (fw_l (fw_l (fw_l (fw_l (fw_l (fw_l (fw_l (fw_l (fw_l (fw_l (fw_r h))))))))))))
theorem uL_wsX20 : ∀ w ∈ wsX20, w ∈ wsL_law := fun _ h => (fw_l (fw_l (fw_l (fw_l (fw_l (fw_l (fw_l (fw_l (fw_l (fw_l (fw_r h)))))))))))
theorem uL_wsX100 : ∀ w ∈ wsX100, w ∈ wsL_law := fun _ h => (fw_l (fw_l (fw_l (fw_l (fw_l (fw_l (fw_l (fw_l (fw_l (fw_r h))))))))))
theorem uL_wsX10 : ∀ w ∈ wsX10, w ∈ wsL_law := fun _ h => (fw_l (fw_l (fw_l (fw_l (fw_l (fw_l (fw_l (fw_l (fw_r h)))))))))
theorem uL_wsX60 : ∀ w ∈ wsX60, w ∈ wsL_law := fun _ h => (fw_l (fw_l (fw_l (fw_l (fw_l (fw_l (fw_l (fw_r h))))))))
theorem uL_wsX80 : ∀ w ∈ wsX80, w ∈ wsL_law := fun _ h => (fw_l (fw_l (fw_l (fw_l (fw_l (fw_l (fw_r h)))))))
theorem uL_wsX90 : ∀ w ∈ wsX90, w ∈ wsL_law := fun _ h => (fw_l (fw_l (fw_l (fw_l (fw_l (fw_r h))))))
theorem uL_wsX70 : ∀ w ∈ wsX70, w ∈ wsL_law := fun _ h => (fw_l (fw_l (fw_l (fw_l (fw_r h)))))
theorem uL_wsX40 : ∀ w ∈ wsX40, w ∈ wsL_law := fun _ h => (fw_l (fw_l (fw_l (fw_r h))))
theorem uL_wsX50 : ∀ w ∈ wsX50, w ∈ wsL_law := fun _ h => (fw_l (fw_l (fw_r h)))
theorem uL_wsX00 : ∀ w ∈ wsX00, w ∈ wsL_law := fun _ h => (fw_l (fw_r h))
set_option maxRecDepth 20000 in
theorem ggL_law_X11_init : GoodIn wsL_law wsX11_init := goodIn_sub (fw_c mL_8 (fw_a (fw_a (fw_a (fw_a (fw_a (fw_a (fw_a (fw_a (fw_a (fw_c mL_9 (fw_c mL_10 (fw_c mL_11 (fw_c mL_12 (fw_c mL_13 (fw_c mL_14 (fw_c mL_15 (fw_c mL_16 (fw_c mL_17 (fw_c mL_18 (fw_c mL_19 (fw_c mL_20 (fw_c mL_21 (fw_c mL_22 (fw_c mL_23 (fw_c mL_24 (fw_c mL_25 (fw_c mL_26 (fw_c mL_27 (fw_c mL_28 (fw_c mL_29 (fw_c mL_30 (fw_c mL_31 (fw_c mL_32 fw_n)))))))))))))))))))))))) (fw_a (fw_c mL_33 (fw_c mL_34 (fw_c mL_35 (fw_c mL_36 (fw_c mL_37 (fw_c mL_38 (fw_c mL_39 (fw_c mL_40 (fw_c mL_41 (fw_c mL_42 (fw_c mL_43 (fw_c mL_44 (fw_c mL_45 (fw_c mL_46 (fw_c mL_47 (fw_c mL_48 (fw_c mL_49 (fw_c mL_50 (fw_c mL_51 (fw_c mL_52 (fw_c mL_53 (fw_c mL_54 (fw_c mL_55 (fw_c mL_56 fw_n)))))))))))))))))))))))) (fw_a (fw_c mL_57 (fw_c mL_58 (fw_c mL_59 (fw_c mL_60 (fw_c mL_61 (fw_c mL_62 (fw_c mL_63 (fw_c mL_64 (fw_c mL_65 (fw_c mL_66 (fw_c mL_67 (fw_c mL_68 (fw_c mL_69 (fw_c mL_70 (fw_c mL_71 (fw_c mL_72 (fw_c mL_73 (fw_c mL_74 (fw_c mL_75 (fw_c mL_76 (fw_c mL_77 (fw_c mL_78 (fw_c mL_79 (fw_c mL_80 fw_n)))))))))))))))))))))))) (fw_c mL_81 (fw_c mL_82 (fw_c mL_83 (fw_c mL_84 (fw_c mL_85 fw_n)))))))) (uL_wsX110)) (uL_wsX30)) (uL_wsX20)) (uL_wsX100)) (uL_wsX10)) (uL_wsX60)) (uL_wsX80)) (uL_wsX90))) (by decide +kernel)
set_option maxRecDepth 20000 in
theorem gL_law_X11_init : GoodIn wsL_law (wsX11_init) := ggL_law_X11_init
set_option maxRecDepth 20000 in
theorem ggL_law_X12_init : GoodIn wsL_law wsX12_init := goodIn_sub (fw_c mL_88 (fw_a (fw_c mL_89 (fw_c mL_10 (fw_c mL_11 (fw_c mL_45 (fw_c mL_90 (fw_c mL_91 (fw_c mL_92 (fw_c mL_93 (fw_c mL_94 (fw_c mL_67 (fw_c mL_95 (fw_c mL_96 (fw_c mL_97 (fw_c mL_98 (fw_c mL_99 (fw_c mL_100 fw_n)))))))))))))))) (uL_wsX120))) (by decide +kernel)
set_option maxRecDepth 20000 in
theorem gL_law_X12_init : GoodIn wsL_law (wsX12_init) := ggL_law_X12_init
set_option maxRecDepth 20000 in
theorem ggL_law_X11_picture : GoodIn wsL_law wsX11_picture := goodIn_sub (fw_c mL_104 (fw_a (fw_a (fw_a (fw_a (fw_a (fw_a (fw_c mL_105 (fw_c mL_106 (fw_c mL_39 (fw_c mL_13 (fw_c mL_12 (fw_c mL_107 (fw_c mL_108 (fw_c mL_109 (fw_c mL_110 (fw_c mL_111 (fw_c mL_2 (fw_c mL_112 (fw_c mL_113 (fw_c mL_114 (fw_c mL_115 (fw_c mL_116 (fw_c mL_117 (fw_c mL_38 (fw_c mL_118 (fw_c mL_75 (fw_c mL_119 (fw_c mL_120 (fw_c mL_121 (fw_c mL_122 fw_n)))))))))))))))))))))))) (fw_c mL_123 (fw_c mL_124 (fw_c mL_125 (fw_c mL_126 (fw_c mL_127 (fw_c mL_128 (fw_c mL_10 (fw_c mL_11 (fw_c mL_129 (fw_c mL_130 (fw_c mL_131 (fw_c mL_132 (fw_c mL_133 (fw_c mL_134 (fw_c mL_135 (fw_c mL_136 (fw_c mL_137 (fw_c mL_45 (fw_c mL_138 (fw_c mL_139 fw_n))))))))))))))))))))) (uL_wsX110)) (uL_wsX70)) (uL_wsX60)) (uL_wsX90)) (uL_wsX40))) (by decide +kernel)
set_option maxRecDepth 20000 in
theorem gL_law_X11_picture : GoodIn wsL_law (wsV RL 13 RX11 yX11_picture wsX11_picture) := goodIn_app (goodIn_sub (fw_c mL_101 (fw_c mL_102 (fw_c mL_103 (fw_c mL_2 fw_n)))) (by decide +kernel)) ggL_law_X11_picture
set_option maxRecDepth 20000 in
theorem ggL_law_X12_picture : GoodIn wsL_law wsX12_picture := goodIn_sub (fw_c mL_143 (fw_a (fw_c mL_90 (fw_c mL_144 (fw_c mL_145 (fw_c mL_146 (fw_c mL_147 (fw_c mL_5 (fw_c mL_148 (fw_c mL_149 (fw_c mL_150 (fw_c mL_151 (fw_c mL_152 (fw_c mL_153 (fw_c mL_91 (fw_c mL_154 (fw_c mL_155 fw_n))))))))))))))) (uL_wsX120))) (by decide +kernel)
set_option maxRecDepth 20000 in
theorem gL_law_X12_picture : GoodIn wsL_law (wsV RL 17 RX12 yX12_picture wsX12_picture) := goodIn_app (goodIn_sub (fw_c mL_140 (fw_c mL_141 (fw_c mL_142 (fw_c mL_5 fw_n)))) (by decide +kernel)) ggL_law_X12_picture
set_option maxRecDepth 20000 in
theorem ggL_law_X11_place : GoodIn wsL_law wsX11_place := goodIn_sub (fw_c mL_159 (fw_a (fw_a (fw_a (fw_a (fw_a (fw_a (fw_c mL_160 (fw_c mL_106 (fw_c mL_39 (fw_c mL_161 (fw_c mL_162 (fw_c mL_163 (fw_c mL_2 (fw_c mL_164 (fw_c mL_105 (fw_c mL_13 (fw_c mL_165 (fw_c mL_166 (fw_c mL_167 (fw_c mL_168 (fw_c mL_169 (fw_c mL_170 (fw_c mL_109 (fw_c mL_110 (fw_c mL_111 (fw_c mL_112 (fw_c mL_113 (fw_c mL_114 (fw_c mL_171 (fw_c mL_172 fw_n)))))))))))))))))))))))) (fw_a (fw_c mL_173 (fw_c mL_108 (fw_c mL_174 (fw_c mL_132 (fw_c mL_175 (fw_c mL_176 (fw_c mL_177 (fw_c mL_131 (fw_c mL_178 (fw_c mL_179 (fw_c mL_115 (fw_c mL_116 (fw_c mL_117 (fw_c mL_38 (fw_c mL_118 (fw_c mL_75 (fw_c mL_119 (fw_c mL_120 (fw_c mL_121 (fw_c mL_122 (fw_c mL_123 (fw_c mL_124 (fw_c mL_180 (fw_c mL_181 fw_n)))))))))))))))))))))))) (fw_a (fw_c mL_182 (fw_c mL_183 (fw_c mL_133 (fw_c mL_184 (fw_c mL_185 (fw_c mL_186 (fw_c mL_187 (fw_c mL_138 (fw_c mL_139 (fw_c mL_188 (fw_c mL_189 (fw_c mL_190 (fw_c mL_191 (fw_c mL_192 (fw_c mL_193 (fw_c mL_194 (fw_c mL_195 (fw_c mL_196 (fw_c mL_197 (fw_c mL_198 (fw_c mL_199 (fw_c mL_200 (fw_c mL_201 (fw_c mL_202 fw_n)))))))))))))))))))))))) (fw_c mL_203 (fw_c mL_204 (fw_c mL_205 (fw_c mL_206 (fw_c mL_207 (fw_c mL_208 (fw_c mL_209 (fw_c mL_210 fw_n))))))))))) (uL_wsX110)) (uL_wsX70)) (uL_wsX40)) (uL_wsX60)) (uL_wsX90))) (by decide +kernel)
set_option maxRecDepth 20000 in
theorem gL_law_X11_place : GoodIn wsL_law (wsV RL 18 RX11 yX11_place wsX11_place) := goodIn_app (goodIn_sub (fw_c mL_156 (fw_c mL_157 (fw_c mL_158 (fw_c mL_2 fw_n)))) (by decide +kernel)) ggL_law_X11_place
set_option maxRecDepth 20000 in
theorem ggL_law_X12_place : GoodIn wsL_law wsX12_place := goodIn_sub (fw_c mL_214 (fw_a (fw_a (fw_c mL_215 (fw_c mL_90 (fw_c mL_144 (fw_c mL_216 (fw_c mL_217 (fw_c mL_218 (fw_c mL_5 (fw_c mL_219 (fw_c mL_220 (fw_c mL_221 (fw_c mL_222 (fw_c mL_223 (fw_c mL_224 (fw_c mL_225 (fw_c mL_145 (fw_c mL_146 (fw_c mL_147 (fw_c mL_148 (fw_c mL_149 (fw_c mL_150 (fw_c mL_151 (fw_c mL_152 (fw_c mL_153 (fw_c mL_91 fw_n)))))))))))))))))))))))) (fw_c mL_154 (fw_c mL_155 fw_n))) (uL_wsX120))) (by decide +kernel)
set_option maxRecDepth 20000 in
theorem gL_law_X12_place : GoodIn wsL_law (wsV RL 22 RX12 yX12_place wsX12_place) := goodIn_app (goodIn_sub (fw_c mL_211 (fw_c mL_212 (fw_c mL_213 (fw_c mL_5 fw_n)))) (by decide +kernel)) ggL_law_X12_place
set_option maxRecDepth 20000 in
theorem ggL_law_X11_unplace : GoodIn wsL_law wsX11_unplace := goodIn_sub (fw_c mL_229 (fw_a (fw_a (fw_a (fw_a (fw_a (fw_a (fw_c mL_160 (fw_c mL_230 (fw_c mL_39 (fw_c mL_161 (fw_c mL_162 (fw_c mL_163 (fw_c mL_2 (fw_c mL_164 (fw_c mL_105 (fw_c mL_13 (fw_c mL_109 (fw_c mL_110 (fw_c mL_111 (fw_c mL_112 (fw_c mL_113 (fw_c mL_114 (fw_c mL_171 (fw_c mL_172 (fw_c mL_173 (fw_c mL_108 (fw_c mL_174 (fw_c mL_132 (fw_c mL_175 (fw_c mL_176 fw_n)))))))))))))))))))))))) (fw_a (fw_c mL_177 (fw_c mL_131 (fw_c mL_178 (fw_c mL_179 (fw_c mL_115 (fw_c mL_116 (fw_c mL_117 (fw_c mL_38 (fw_c mL_118 (fw_c mL_75 (fw_c mL_119 (fw_c mL_120 (fw_c mL_121 (fw_c mL_122 (fw_c mL_123 (fw_c mL_124 (fw_c mL_231 (fw_c mL_232 (fw_c mL_233 (fw_c mL_234 (fw_c mL_133 (fw_c mL_235 (fw_c mL_236 (fw_c mL_237 fw_n)))))))))))))))))))))))) (fw_a (fw_c mL_238 (fw_c mL_138 (fw_c mL_239 (fw_c mL_240 (fw_c mL_241 (fw_c mL_242 (fw_c mL_139 (fw_c mL_243 (fw_c mL_244 (fw_c mL_245 (fw_c mL_246 (fw_c mL_247 (fw_c mL_248 (fw_c mL_249 (fw_c mL_250 (fw_c mL_188 (fw_c mL_189 (fw_c mL_190 (fw_c mL_191 (fw_c mL_192 (fw_c mL_193 (fw_c mL_194 (fw_c mL_195 (fw_c mL_196 fw_n)))))))))))))))))))))))) (fw_c mL_197 (fw_c mL_198 (fw_c mL_199 (fw_c mL_200 (fw_c mL_201 (fw_c mL_202 (fw_c mL_203 (fw_c mL_204 (fw_c mL_205 (fw_c mL_206 (fw_c mL_207 (fw_c mL_208 (fw_c mL_209 (fw_c mL_210 fw_n))))))))))))))))) (uL_wsX110)) (uL_wsX70)) (uL_wsX40)) (uL_wsX60)) (uL_wsX90))) (by decide +kernel)
set_option maxRecDepth 20000 in
theorem gL_law_X11_unplace : GoodIn wsL_law (wsV RL 23 RX11 yX11_unplace wsX11_unplace) := goodIn_app (goodIn_sub (fw_c mL_226 (fw_c mL_227 (fw_c mL_228 (fw_c mL_2 fw_n)))) (by decide +kernel)) ggL_law_X11_unplace
set_option maxRecDepth 20000 in
theorem ggL_law_X12_unplace : GoodIn wsL_law wsX12_unplace := goodIn_sub (fw_c mL_254 (fw_a (fw_c mL_215 (fw_c mL_90 (fw_c mL_255 (fw_c mL_216 (fw_c mL_217 (fw_c mL_218 (fw_c mL_5 (fw_c mL_219 (fw_c mL_220 (fw_c mL_221 (fw_c mL_222 (fw_c mL_145 (fw_c mL_146 (fw_c mL_147 (fw_c mL_148 (fw_c mL_149 (fw_c mL_150 (fw_c mL_151 (fw_c mL_152 (fw_c mL_153 (fw_c mL_91 (fw_c mL_154 (fw_c mL_155 fw_n))))))))))))))))))))))) (uL_wsX120))) (by decide +kernel)
set_option maxRecDepth 20000 in
theorem gL_law_X12_unplace : GoodIn wsL_law (wsV RL 27 RX12 yX12_unplace wsX12_unplace) := goodIn_app (goodIn_sub (fw_c mL_251 (fw_c mL_252 (fw_c mL_253 (fw_c mL_5 fw_n)))) (by decide +kernel)) ggL_law_X12_unplace
set_option maxRecDepth 20000 in
theorem ggL_law_X11_led : GoodIn wsL_law wsX11_led := goodIn_sub (fw_c mL_259 (fw_a (fw_a (fw_a (fw_a (fw_c mL_160 (fw_c mL_230 (fw_c mL_161 (fw_c mL_162 (fw_c mL_163 (fw_c mL_2 (fw_c mL_164 (fw_c mL_105 (fw_c mL_13 (fw_c mL_165 (fw_c mL_166 (fw_c mL_167 (fw_c mL_168 (fw_c mL_169 (fw_c mL_170 (fw_c mL_109 (fw_c mL_110 (fw_c mL_111 (fw_c mL_112 (fw_c mL_113 (fw_c mL_114 (fw_c mL_260 (fw_c mL_261 (fw_c mL_262 fw_n)))))))))))))))))))))))) (fw_a (fw_c mL_108 (fw_c mL_263 (fw_c mL_133 (fw_c mL_132 (fw_c mL_264 (fw_c mL_265 (fw_c mL_266 (fw_c mL_131 (fw_c mL_267 (fw_c mL_192 (fw_c mL_268 (fw_c mL_208 (fw_c mL_209 (fw_c mL_210 (fw_c mL_195 (fw_c mL_194 (fw_c mL_269 (fw_c mL_270 (fw_c mL_271 (fw_c mL_272 (fw_c mL_273 (fw_c mL_274 (fw_c mL_275 (fw_c mL_276 fw_n)))))))))))))))))))))))) (fw_c mL_202 (fw_c mL_123 (fw_c mL_203 (fw_c mL_277 (fw_c mL_278 (fw_c mL_279 fw_n)))))))) (uL_wsX110)) (uL_wsX70)) (uL_wsX40))) (by decide +kernel)
set_option maxRecDepth 20000 in
theorem gL_law_X11_led : GoodIn wsL_law (wsV RL 28 RX11 yX11_led wsX11_led) := goodIn_app (goodIn_sub (fw_c mL_256 (fw_c mL_257 (fw_c mL_258 (fw_c mL_2 fw_n)))) (by decide +kernel)) ggL_law_X11_led
set_option maxRecDepth 20000 in
theorem ggL_law_X12_led : GoodIn wsL_law wsX12_led := goodIn_sub (fw_c mL_283 (fw_a (fw_a (fw_c mL_215 (fw_c mL_255 (fw_c mL_284 (fw_c mL_285 (fw_c mL_216 (fw_c mL_217 (fw_c mL_218 (fw_c mL_5 (fw_c mL_219 (fw_c mL_90 (fw_c mL_220 (fw_c mL_221 (fw_c mL_222 (fw_c mL_223 (fw_c mL_224 (fw_c mL_225 (fw_c mL_145 (fw_c mL_146 (fw_c mL_147 (fw_c mL_148 (fw_c mL_149 (fw_c mL_286 (fw_c mL_287 (fw_c mL_288 fw_n)))))))))))))))))))))))) (fw_c mL_289 (fw_c mL_290 (fw_c mL_291 (fw_c mL_292 (fw_c mL_293 (fw_c mL_294 (fw_c mL_295 (fw_c mL_296 (fw_c mL_297 (fw_c mL_298 (fw_c mL_299 (fw_c mL_300 (fw_c mL_301 (fw_c mL_302 (fw_c mL_303 (fw_c mL_304 fw_n))))))))))))))))) (uL_wsX120))) (by decide +kernel)
set_option maxRecDepth 20000 in
theorem gL_law_X12_led : GoodIn wsL_law (wsV RL 32 RX12 yX12_led wsX12_led) := goodIn_app (goodIn_sub (fw_c mL_280 (fw_c mL_281 (fw_c mL_282 (fw_c mL_5 fw_n)))) (by decide +kernel)) ggL_law_X12_led
set_option maxRecDepth 20000 in
theorem ggL_law_X11_miss : GoodIn wsL_law wsX11_miss := goodIn_sub (fw_c mL_308 (fw_a (fw_a (fw_a (fw_a (fw_c mL_160 (fw_c mL_230 (fw_c mL_161 (fw_c mL_162 (fw_c mL_163 (fw_c mL_2 (fw_c mL_164 (fw_c mL_105 (fw_c mL_13 (fw_c mL_109 (fw_c mL_110 (fw_c mL_111 (fw_c mL_112 (fw_c mL_113 (fw_c mL_114 (fw_c mL_260 (fw_c mL_261 (fw_c mL_262 (fw_c mL_108 (fw_c mL_263 (fw_c mL_133 (fw_c mL_132 (fw_c mL_264 (fw_c mL_265 fw_n)))))))))))))))))))))))) (fw_a (fw_c mL_266 (fw_c mL_131 (fw_c mL_267 (fw_c mL_192 (fw_c mL_309 (fw_c mL_310 (fw_c mL_311 (fw_c mL_312 (fw_c mL_193 (fw_c mL_194 (fw_c mL_313 (fw_c mL_314 (fw_c mL_315 (fw_c mL_316 (fw_c mL_179 (fw_c mL_273 (fw_c mL_274 (fw_c mL_275 (fw_c mL_276 (fw_c mL_202 (fw_c mL_123 (fw_c mL_203 (fw_c mL_277 (fw_c mL_278 fw_n)))))))))))))))))))))))) (fw_c mL_279 fw_n))) (uL_wsX110)) (uL_wsX70)) (uL_wsX40))) (by decide +kernel)
set_option maxRecDepth 20000 in
theorem gL_law_X11_miss : GoodIn wsL_law (wsV RL 33 RX11 yX11_miss wsX11_miss) := goodIn_app (goodIn_sub (fw_c mL_305 (fw_c mL_306 (fw_c mL_307 (fw_c mL_2 fw_n)))) (by decide +kernel)) ggL_law_X11_miss
set_option maxRecDepth 20000 in
theorem ggL_law_X12_miss : GoodIn wsL_law wsX12_miss := goodIn_sub (fw_c mL_320 (fw_a (fw_a (fw_c mL_215 (fw_c mL_255 (fw_c mL_284 (fw_c mL_293 (fw_c mL_290 (fw_c mL_291 (fw_c mL_294 (fw_c mL_285 (fw_c mL_216 (fw_c mL_217 (fw_c mL_218 (fw_c mL_5 (fw_c mL_219 (fw_c mL_90 (fw_c mL_220 (fw_c mL_221 (fw_c mL_222 (fw_c mL_145 (fw_c mL_146 (fw_c mL_147 (fw_c mL_148 (fw_c mL_149 (fw_c mL_286 (fw_c mL_287 fw_n)))))))))))))))))))))))) (fw_c mL_288 (fw_c mL_289 (fw_c mL_292 (fw_c mL_299 (fw_c mL_300 (fw_c mL_301 (fw_c mL_302 (fw_c mL_303 (fw_c mL_304 fw_n)))))))))) (uL_wsX120))) (by decide +kernel)
set_option maxRecDepth 20000 in
theorem gL_law_X12_miss : GoodIn wsL_law (wsV RL 37 RX12 yX12_miss wsX12_miss) := goodIn_app (goodIn_sub (fw_c mL_317 (fw_c mL_318 (fw_c mL_319 (fw_c mL_5 fw_n)))) (by decide +kernel)) ggL_law_X12_miss
set_option maxRecDepth 20000 in
theorem ggL_law_X11_doubt : GoodIn wsL_law wsX11_doubt := goodIn_sub (fw_c mL_324 (fw_a (fw_a (fw_a (fw_a (fw_c mL_160 (fw_c mL_230 (fw_c mL_161 (fw_c mL_162 (fw_c mL_163 (fw_c mL_2 (fw_c mL_164 (fw_c mL_105 (fw_c mL_13 (fw_c mL_109 (fw_c mL_110 (fw_c mL_111 (fw_c mL_112 (fw_c mL_113 (fw_c mL_114 (fw_c mL_325 (fw_c mL_326 (fw_c mL_327 (fw_c mL_108 (fw_c mL_328 (fw_c mL_132 (fw_c mL_133 (fw_c mL_329 (fw_c mL_265 fw_n)))))))))))))))))))))))) (fw_c mL_266 (fw_c mL_131 (fw_c mL_267 (fw_c mL_192 (fw_c mL_330 (fw_c mL_331 (fw_c mL_332 (fw_c mL_333 (fw_c mL_334 (fw_c mL_205 (fw_c mL_123 (fw_c mL_206 (fw_c mL_335 (fw_c mL_336 (fw_c mL_337 (fw_c mL_338 (fw_c mL_200 fw_n)))))))))))))))))) (uL_wsX110)) (uL_wsX70)) (uL_wsX40))) (by decide +kernel)
set_option maxRecDepth 20000 in
theorem gL_law_X11_doubt : GoodIn wsL_law (wsV RL 38 RX11 yX11_doubt wsX11_doubt) := goodIn_app (goodIn_sub (fw_c mL_321 (fw_c mL_322 (fw_c mL_323 (fw_c mL_2 fw_n)))) (by decide +kernel)) ggL_law_X11_doubt
set_option maxRecDepth 20000 in
theorem ggL_law_X12_doubt : GoodIn wsL_law wsX12_doubt := goodIn_sub (fw_c mL_342 (fw_a (fw_a (fw_c mL_215 (fw_c mL_255 (fw_c mL_216 (fw_c mL_217 (fw_c mL_218 (fw_c mL_5 (fw_c mL_219 (fw_c mL_90 (fw_c mL_220 (fw_c mL_221 (fw_c mL_222 (fw_c mL_145 (fw_c mL_146 (fw_c mL_147 (fw_c mL_148 (fw_c mL_149 (fw_c mL_343 (fw_c mL_344 (fw_c mL_345 (fw_c mL_346 (fw_c mL_347 (fw_c mL_284 (fw_c mL_285 (fw_c mL_286 fw_n)))))))))))))))))))))))) (fw_c mL_287 (fw_c mL_288 (fw_c mL_289 (fw_c mL_290 (fw_c mL_291 (fw_c mL_292 (fw_c mL_293 (fw_c mL_294 (fw_c mL_295 (fw_c mL_296 (fw_c mL_297 (fw_c mL_298 fw_n))))))))))))) (uL_wsX120))) (by decide +kernel)
set_option maxRecDepth 20000 in
theorem gL_law_X12_doubt : GoodIn wsL_law (wsV RL 41 RX12 yX12_doubt wsX12_doubt) := goodIn_app (goodIn_sub (fw_c mL_339 (fw_c mL_340 (fw_c mL_341 (fw_c mL_5 fw_n)))) (by decide +kernel)) ggL_law_X12_doubt
set_option maxRecDepth 20000 in
theorem ggL_law_X11_mark : GoodIn wsL_law wsX11_mark := goodIn_sub (fw_c mL_351 (fw_a (fw_a (fw_a (fw_a (fw_a (fw_c mL_160 (fw_c mL_352 (fw_c mL_106 (fw_c mL_39 (fw_c mL_15 (fw_c mL_14 (fw_c mL_353 (fw_c mL_354 (fw_c mL_161 (fw_c mL_162 (fw_c mL_163 (fw_c mL_2 (fw_c mL_164 (fw_c mL_105 (fw_c mL_13 (fw_c mL_165 (fw_c mL_166 (fw_c mL_167 (fw_c mL_168 (fw_c mL_169 (fw_c mL_170 (fw_c mL_355 (fw_c mL_356 (fw_c mL_357 fw_n)))))))))))))))))))))))) (fw_a (fw_c mL_358 (fw_c mL_359 (fw_c mL_360 (fw_c mL_361 (fw_c mL_362 (fw_c mL_363 (fw_c mL_364 (fw_c mL_109 (fw_c mL_110 (fw_c mL_111 (fw_c mL_112 (fw_c mL_113 (fw_c mL_114 (fw_c mL_115 (fw_c mL_116 (fw_c mL_117 (fw_c mL_38 (fw_c mL_118 (fw_c mL_75 (fw_c mL_119 (fw_c mL_120 (fw_c mL_121 (fw_c mL_122 (fw_c mL_123 fw_n)))))))))))))))))))))))) (fw_c mL_124 (fw_c mL_365 (fw_c mL_366 (fw_c mL_367 (fw_c mL_368 (fw_c mL_10 (fw_c mL_11 (fw_c mL_369 (fw_c mL_370 (fw_c mL_371 (fw_c mL_372 (fw_c mL_373 (fw_c mL_374 fw_n))))))))))))))) (uL_wsX110)) (uL_wsX50)) (uL_wsX60)) (uL_wsX90))) (by decide +kernel)
set_option maxRecDepth 20000 in
theorem gL_law_X11_mark : GoodIn wsL_law (wsV RL 42 RX11 yX11_mark wsX11_mark) := goodIn_app (goodIn_sub (fw_c mL_348 (fw_c mL_349 (fw_c mL_350 (fw_c mL_2 fw_n)))) (by decide +kernel)) ggL_law_X11_mark
set_option maxRecDepth 20000 in
theorem ggL_law_X12_mark : GoodIn wsL_law wsX12_mark := goodIn_sub (fw_c mL_378 (fw_a (fw_a (fw_c mL_215 (fw_c mL_90 (fw_c mL_144 (fw_c mL_216 (fw_c mL_217 (fw_c mL_218 (fw_c mL_5 (fw_c mL_219 (fw_c mL_220 (fw_c mL_221 (fw_c mL_222 (fw_c mL_223 (fw_c mL_224 (fw_c mL_225 (fw_c mL_145 (fw_c mL_146 (fw_c mL_147 (fw_c mL_148 (fw_c mL_149 (fw_c mL_379 (fw_c mL_380 (fw_c mL_381 (fw_c mL_150 (fw_c mL_151 fw_n)))))))))))))))))))))))) (fw_c mL_152 (fw_c mL_153 (fw_c mL_91 (fw_c mL_154 (fw_c mL_155 fw_n)))))) (uL_wsX120))) (by decide +kernel)
set_option maxRecDepth 20000 in
theorem gL_law_X12_mark : GoodIn wsL_law (wsV RL 46 RX12 yX12_mark wsX12_mark) := goodIn_app (goodIn_sub (fw_c mL_375 (fw_c mL_376 (fw_c mL_377 (fw_c mL_5 fw_n)))) (by decide +kernel)) ggL_law_X12_mark
set_option maxRecDepth 20000 in
theorem ggL_law_X11_as : GoodIn wsL_law wsX11_as := goodIn_sub (fw_c mL_385 (fw_a (fw_a (fw_a (fw_c mL_160 (fw_c mL_386 (fw_c mL_387 (fw_c mL_388 (fw_c mL_389 (fw_c mL_2 (fw_c mL_390 (fw_c mL_352 (fw_c mL_15 (fw_c mL_358 (fw_c mL_359 (fw_c mL_360 (fw_c mL_361 (fw_c mL_168 (fw_c mL_169 (fw_c mL_170 (fw_c mL_109 (fw_c mL_110 (fw_c mL_111 (fw_c mL_112 (fw_c mL_113 (fw_c mL_114 (fw_c mL_362 (fw_c mL_363 fw_n)))))))))))))))))))))))) (fw_c mL_364 fw_n)) (uL_wsX50)) (uL_wsX110))) (by decide +kernel)
set_option maxRecDepth 20000 in
theorem gL_law_X11_as : GoodIn wsL_law (wsV RL 47 RX11 yX11_as wsX11_as) := goodIn_app (goodIn_sub (fw_c mL_382 (fw_c mL_383 (fw_c mL_384 (fw_c mL_2 fw_n)))) (by decide +kernel)) ggL_law_X11_as
set_option maxRecDepth 20000 in
theorem ggL_law_X12_as : GoodIn wsL_law wsX12_as := goodIn_sub (fw_c mL_394 (fw_a (fw_c mL_215 (fw_c mL_395 (fw_c mL_396 (fw_c mL_397 (fw_c mL_398 (fw_c mL_5 (fw_c mL_399 (fw_c mL_90 (fw_c mL_220 (fw_c mL_221 (fw_c mL_222 (fw_c mL_145 (fw_c mL_146 (fw_c mL_147 (fw_c mL_148 (fw_c mL_149 (fw_c mL_400 (fw_c mL_401 (fw_c mL_402 (fw_c mL_403 (fw_c mL_379 (fw_c mL_380 (fw_c mL_381 fw_n))))))))))))))))))))))) (uL_wsX120))) (by decide +kernel)
set_option maxRecDepth 20000 in
theorem gL_law_X12_as : GoodIn wsL_law (wsV RL 51 RX12 yX12_as wsX12_as) := goodIn_app (goodIn_sub (fw_c mL_391 (fw_c mL_392 (fw_c mL_393 (fw_c mL_5 fw_n)))) (by decide +kernel)) ggL_law_X12_as
set_option maxRecDepth 20000 in
theorem ggL_law_X11_at : GoodIn wsL_law wsX11_at := goodIn_sub (fw_c mL_407 (fw_a (fw_a (fw_a (fw_a (fw_a (fw_c mL_160 (fw_c mL_230 (fw_c mL_387 (fw_c mL_388 (fw_c mL_389 (fw_c mL_2 (fw_c mL_390 (fw_c mL_352 (fw_c mL_15 (fw_c mL_109 (fw_c mL_110 (fw_c mL_111 (fw_c mL_112 (fw_c mL_113 (fw_c mL_114 (fw_c mL_408 (fw_c mL_409 (fw_c mL_410 (fw_c mL_354 (fw_c mL_411 (fw_c mL_369 (fw_c mL_412 (fw_c mL_261 (fw_c mL_262 fw_n)))))))))))))))))))))))) (fw_a (fw_c mL_108 (fw_c mL_263 (fw_c mL_133 (fw_c mL_132 (fw_c mL_413 (fw_c mL_265 (fw_c mL_266 (fw_c mL_131 (fw_c mL_267 (fw_c mL_192 (fw_c mL_414 (fw_c mL_415 (fw_c mL_416 (fw_c mL_417 (fw_c mL_372 (fw_c mL_371 (fw_c mL_418 (fw_c mL_419 (fw_c mL_420 (fw_c mL_421 (fw_c mL_207 (fw_c mL_208 (fw_c mL_209 (fw_c mL_210 fw_n)))))))))))))))))))))))) (fw_c mL_195 (fw_c mL_194 (fw_c mL_422 (fw_c mL_423 (fw_c mL_424 (fw_c mL_425 fw_n)))))))) (uL_wsX110)) (uL_wsX50)) (uL_wsX70)) (uL_wsX40))) (by decide +kernel)
set_option maxRecDepth 20000 in
theorem gL_law_X11_at : GoodIn wsL_law (wsV RL 52 RX11 yX11_at wsX11_at) := goodIn_app (goodIn_sub (fw_c mL_404 (fw_c mL_405 (fw_c mL_406 (fw_c mL_2 fw_n)))) (by decide +kernel)) ggL_law_X11_at
set_option maxRecDepth 20000 in
theorem ggL_law_X12_at : GoodIn wsL_law wsX12_at := goodIn_sub (fw_c mL_429 (fw_a (fw_a (fw_c mL_215 (fw_c mL_255 (fw_c mL_284 (fw_c mL_285 (fw_c mL_396 (fw_c mL_397 (fw_c mL_398 (fw_c mL_5 (fw_c mL_399 (fw_c mL_90 (fw_c mL_220 (fw_c mL_221 (fw_c mL_222 (fw_c mL_145 (fw_c mL_146 (fw_c mL_147 (fw_c mL_148 (fw_c mL_149 (fw_c mL_400 (fw_c mL_401 (fw_c mL_402 (fw_c mL_403 (fw_c mL_286 (fw_c mL_287 fw_n)))))))))))))))))))))))) (fw_c mL_288 (fw_c mL_289 (fw_c mL_290 (fw_c mL_291 (fw_c mL_292 (fw_c mL_293 (fw_c mL_294 (fw_c mL_295 (fw_c mL_296 (fw_c mL_297 (fw_c mL_298 (fw_c mL_430 (fw_c mL_431 (fw_c mL_432 fw_n))))))))))))))) (uL_wsX120))) (by decide +kernel)
set_option maxRecDepth 20000 in
theorem gL_law_X12_at : GoodIn wsL_law (wsV RL 56 RX12 yX12_at wsX12_at) := goodIn_app (goodIn_sub (fw_c mL_426 (fw_c mL_427 (fw_c mL_428 (fw_c mL_5 fw_n)))) (by decide +kernel)) ggL_law_X12_at
set_option maxRecDepth 20000 in
theorem ggL_law_X11_agree : GoodIn wsL_law wsX11_agree := goodIn_sub (fw_c mL_436 (fw_a (fw_a (fw_a (fw_a (fw_a (fw_c mL_160 (fw_c mL_387 (fw_c mL_388 (fw_c mL_389 (fw_c mL_2 (fw_c mL_390 (fw_c mL_352 (fw_c mL_15 (fw_c mL_109 (fw_c mL_110 (fw_c mL_111 (fw_c mL_112 (fw_c mL_113 (fw_c mL_114 (fw_c mL_437 (fw_c mL_438 (fw_c mL_439 (fw_c mL_354 (fw_c mL_440 (fw_c mL_370 (fw_c mL_369 (fw_c mL_441 (fw_c mL_202 (fw_c mL_123 fw_n)))))))))))))))))))))))) (fw_a (fw_c mL_203 (fw_c mL_442 (fw_c mL_443 (fw_c mL_444 (fw_c mL_445 (fw_c mL_446 (fw_c mL_326 (fw_c mL_327 (fw_c mL_108 (fw_c mL_328 (fw_c mL_132 (fw_c mL_133 (fw_c mL_329 (fw_c mL_265 (fw_c mL_266 (fw_c mL_131 (fw_c mL_267 (fw_c mL_192 (fw_c mL_447 (fw_c mL_331 (fw_c mL_332 (fw_c mL_333 (fw_c mL_334 (fw_c mL_205 fw_n)))))))))))))))))))))))) (fw_a (fw_c mL_206 (fw_c mL_335 (fw_c mL_336 (fw_c mL_337 (fw_c mL_338 (fw_c mL_200 (fw_c mL_448 (fw_c mL_415 (fw_c mL_416 (fw_c mL_417 (fw_c mL_372 (fw_c mL_371 (fw_c mL_412 (fw_c mL_261 (fw_c mL_262 (fw_c mL_263 (fw_c mL_418 (fw_c mL_419 (fw_c mL_420 (fw_c mL_421 (fw_c mL_207 (fw_c mL_208 (fw_c mL_209 (fw_c mL_210 fw_n)))))))))))))))))))))))) (fw_c mL_195 (fw_c mL_194 (fw_c mL_422 (fw_c mL_423 (fw_c mL_424 (fw_c mL_425 fw_n))))))))) (uL_wsX110)) (uL_wsX50)) (uL_wsX70)) (uL_wsX40))) (by decide +kernel)
set_option maxRecDepth 20000 in
theorem gL_law_X11_agree : GoodIn wsL_law (wsV RL 57 RX11 yX11_agree wsX11_agree) := goodIn_app (goodIn_sub (fw_c mL_433 (fw_c mL_434 (fw_c mL_435 (fw_c mL_2 fw_n)))) (by decide +kernel)) ggL_law_X11_agree
set_option maxRecDepth 20000 in
theorem ggL_law_X12_agree : GoodIn wsL_law wsX12_agree := goodIn_sub (fw_c mL_452 (fw_a (fw_a (fw_c mL_215 (fw_c mL_396 (fw_c mL_397 (fw_c mL_398 (fw_c mL_5 (fw_c mL_399 (fw_c mL_90 (fw_c mL_220 (fw_c mL_221 (fw_c mL_222 (fw_c mL_145 (fw_c mL_146 (fw_c mL_147 (fw_c mL_148 (fw_c mL_149 (fw_c mL_453 (fw_c mL_454 (fw_c mL_455 (fw_c mL_456 (fw_c mL_97 (fw_c mL_95 (fw_c mL_284 (fw_c mL_285 (fw_c mL_96 fw_n)))))))))))))))))))))))) (fw_a (fw_c mL_400 (fw_c mL_401 (fw_c mL_402 (fw_c mL_403 (fw_c mL_343 (fw_c mL_344 (fw_c mL_345 (fw_c mL_346 (fw_c mL_347 (fw_c mL_286 (fw_c mL_287 (fw_c mL_288 (fw_c mL_289 (fw_c mL_290 (fw_c mL_291 (fw_c mL_292 (fw_c mL_293 (fw_c mL_294 (fw_c mL_295 (fw_c mL_296 (fw_c mL_297 (fw_c mL_298 (fw_c mL_430 (fw_c mL_431 fw_n)))))))))))))))))))))))) (fw_c mL_432 (fw_c mL_457 (fw_c mL_458 (fw_c mL_459 (fw_c mL_460 fw_n))))))) (uL_wsX120))) (by decide +kernel)
set_option maxRecDepth 20000 in
theorem gL_law_X12_agree : GoodIn wsL_law (wsV RL 60 RX12 yX12_agree wsX12_agree) := goodIn_app (goodIn_sub (fw_c mL_449 (fw_c mL_450 (fw_c mL_451 (fw_c mL_5 fw_n)))) (by decide +kernel)) ggL_law_X12_agree
set_option maxRecDepth 20000 in
theorem ggL_law_X11_group : GoodIn wsL_law wsX11_group := goodIn_sub (fw_c mL_464 (fw_a (fw_a (fw_a (fw_a (fw_a (fw_a (fw_c mL_160 (fw_c mL_19 (fw_c mL_15 (fw_c mL_352 (fw_c mL_387 (fw_c mL_388 (fw_c mL_389 (fw_c mL_2 (fw_c mL_390 (fw_c mL_109 (fw_c mL_110 (fw_c mL_111 (fw_c mL_112 (fw_c mL_113 (fw_c mL_114 (fw_c mL_465 (fw_c mL_466 (fw_c mL_467 (fw_c mL_18 (fw_c mL_468 (fw_c mL_469 (fw_c mL_470 (fw_c mL_46 (fw_c mL_471 fw_n)))))))))))))))))))))))) (fw_a (fw_c mL_472 (fw_c mL_473 (fw_c mL_474 (fw_c mL_122 (fw_c mL_123 (fw_c mL_124 (fw_c mL_475 (fw_c mL_61 (fw_c mL_62 (fw_c mL_63 (fw_c mL_476 (fw_c mL_477 (fw_c mL_478 (fw_c mL_479 (fw_c mL_47 (fw_c mL_480 (fw_c mL_438 (fw_c mL_439 (fw_c mL_354 (fw_c mL_440 (fw_c mL_370 (fw_c mL_369 (fw_c mL_441 (fw_c mL_202 fw_n)))))))))))))))))))))))) (fw_a (fw_c mL_203 (fw_c mL_442 (fw_c mL_443 (fw_c mL_444 (fw_c mL_445 (fw_c mL_446 (fw_c mL_326 (fw_c mL_327 (fw_c mL_108 (fw_c mL_328 (fw_c mL_132 (fw_c mL_133 (fw_c mL_329 (fw_c mL_265 (fw_c mL_266 (fw_c mL_131 (fw_c mL_267 (fw_c mL_192 (fw_c mL_447 (fw_c mL_331 (fw_c mL_332 (fw_c mL_333 (fw_c mL_334 (fw_c mL_205 fw_n)))))))))))))))))))))))) (fw_a (fw_c mL_206 (fw_c mL_335 (fw_c mL_336 (fw_c mL_337 (fw_c mL_338 (fw_c mL_200 (fw_c mL_448 (fw_c mL_415 (fw_c mL_416 (fw_c mL_417 (fw_c mL_372 (fw_c mL_371 (fw_c mL_412 (fw_c mL_261 (fw_c mL_262 (fw_c mL_263 (fw_c mL_418 (fw_c mL_419 (fw_c mL_420 (fw_c mL_421 (fw_c mL_207 (fw_c mL_208 (fw_c mL_209 (fw_c mL_210 fw_n)))))))))))))))))))))))) (fw_c mL_195 (fw_c mL_194 (fw_c mL_422 (fw_c mL_423 (fw_c mL_424 (fw_c mL_425 (fw_c mL_481 (fw_c mL_482 (fw_c mL_483 (fw_c mL_484 fw_n)))))))))))))) (uL_wsX110)) (uL_wsX30)) (uL_wsX50)) (uL_wsX70)) (uL_wsX40))) (by decide +kernel)
set_option maxRecDepth 20000 in
theorem gL_law_X11_group : GoodIn wsL_law (wsV RL 61 RX11 yX11_group wsX11_group) := goodIn_app (goodIn_sub (fw_c mL_461 (fw_c mL_462 (fw_c mL_463 (fw_c mL_2 fw_n)))) (by decide +kernel)) ggL_law_X11_group
set_option maxRecDepth 20000 in
theorem ggL_law_X12_group : GoodIn wsL_law wsX12_group := goodIn_sub (fw_c mL_488 (fw_a (fw_a (fw_c mL_215 (fw_c mL_98 (fw_c mL_396 (fw_c mL_397 (fw_c mL_398 (fw_c mL_5 (fw_c mL_399 (fw_c mL_90 (fw_c mL_220 (fw_c mL_221 (fw_c mL_222 (fw_c mL_145 (fw_c mL_146 (fw_c mL_147 (fw_c mL_148 (fw_c mL_149 (fw_c mL_489 (fw_c mL_490 (fw_c mL_491 (fw_c mL_492 (fw_c mL_493 (fw_c mL_453 (fw_c mL_454 (fw_c mL_455 fw_n)))))))))))))))))))))))) (fw_a (fw_c mL_456 (fw_c mL_97 (fw_c mL_95 (fw_c mL_284 (fw_c mL_285 (fw_c mL_96 (fw_c mL_400 (fw_c mL_401 (fw_c mL_402 (fw_c mL_403 (fw_c mL_343 (fw_c mL_344 (fw_c mL_345 (fw_c mL_346 (fw_c mL_347 (fw_c mL_286 (fw_c mL_287 (fw_c mL_288 (fw_c mL_289 (fw_c mL_290 (fw_c mL_291 (fw_c mL_292 (fw_c mL_293 (fw_c mL_294 fw_n)))))))))))))))))))))))) (fw_c mL_295 (fw_c mL_296 (fw_c mL_297 (fw_c mL_298 (fw_c mL_430 (fw_c mL_431 (fw_c mL_432 (fw_c mL_494 (fw_c mL_495 (fw_c mL_496 (fw_c mL_497 (fw_c mL_457 (fw_c mL_458 (fw_c mL_459 (fw_c mL_460 fw_n))))))))))))))))) (uL_wsX120))) (by decide +kernel)
set_option maxRecDepth 20000 in
theorem gL_law_X12_group : GoodIn wsL_law (wsV RL 64 RX12 yX12_group wsX12_group) := goodIn_app (goodIn_sub (fw_c mL_485 (fw_c mL_486 (fw_c mL_487 (fw_c mL_5 fw_n)))) (by decide +kernel)) ggL_law_X12_group
set_option maxRecDepth 20000 in
theorem ggL_law_X11_groups : GoodIn wsL_law wsX11_groups := goodIn_sub (fw_c mL_501 (fw_a (fw_a (fw_a (fw_a (fw_a (fw_a (fw_c mL_19 (fw_c mL_15 (fw_c mL_352 (fw_c mL_465 (fw_c mL_466 (fw_c mL_467 (fw_c mL_18 (fw_c mL_468 (fw_c mL_469 (fw_c mL_470 (fw_c mL_46 (fw_c mL_471 (fw_c mL_472 (fw_c mL_473 (fw_c mL_474 (fw_c mL_122 (fw_c mL_123 (fw_c mL_124 (fw_c mL_475 (fw_c mL_61 (fw_c mL_62 (fw_c mL_63 (fw_c mL_476 (fw_c mL_477 fw_n)))))))))))))))))))))))) (fw_a (fw_c mL_478 (fw_c mL_479 (fw_c mL_47 (fw_c mL_480 (fw_c mL_438 (fw_c mL_439 (fw_c mL_354 (fw_c mL_440 (fw_c mL_370 (fw_c mL_369 (fw_c mL_441 (fw_c mL_202 (fw_c mL_203 (fw_c mL_442 (fw_c mL_443 (fw_c mL_444 (fw_c mL_445 (fw_c mL_446 (fw_c mL_326 (fw_c mL_327 (fw_c mL_108 (fw_c mL_328 (fw_c mL_132 (fw_c mL_133 fw_n)))))))))))))))))))))))) (fw_a (fw_c mL_329 (fw_c mL_265 (fw_c mL_266 (fw_c mL_131 (fw_c mL_267 (fw_c mL_192 (fw_c mL_447 (fw_c mL_331 (fw_c mL_332 (fw_c mL_333 (fw_c mL_334 (fw_c mL_205 (fw_c mL_206 (fw_c mL_335 (fw_c mL_336 (fw_c mL_337 (fw_c mL_338 (fw_c mL_200 (fw_c mL_448 (fw_c mL_415 (fw_c mL_416 (fw_c mL_417 (fw_c mL_372 (fw_c mL_371 fw_n)))))))))))))))))))))))) (fw_c mL_412 (fw_c mL_261 (fw_c mL_262 (fw_c mL_263 (fw_c mL_418 (fw_c mL_419 (fw_c mL_420 (fw_c mL_421 (fw_c mL_207 (fw_c mL_208 (fw_c mL_209 (fw_c mL_210 (fw_c mL_195 (fw_c mL_194 (fw_c mL_422 (fw_c mL_423 (fw_c mL_424 (fw_c mL_425 (fw_c mL_502 (fw_c mL_503 (fw_c mL_504 (fw_c mL_505 fw_n))))))))))))))))))))))))) (uL_wsX110)) (uL_wsX30)) (uL_wsX50)) (uL_wsX70)) (uL_wsX40))) (by decide +kernel)
set_option maxRecDepth 20000 in
theorem gL_law_X11_groups : GoodIn wsL_law (wsV RL 65 RX11 yX11_groups wsX11_groups) := goodIn_app (goodIn_sub (fw_c mL_498 (fw_c mL_499 (fw_c mL_500 (fw_c mL_2 fw_n)))) (by decide +kernel)) ggL_law_X11_groups
set_option maxRecDepth 20000 in
theorem ggL_law_X12_groups : GoodIn wsL_law wsX12_groups := goodIn_sub (fw_c mL_509 (fw_a (fw_a (fw_c mL_493 (fw_c mL_489 (fw_c mL_490 (fw_c mL_491 (fw_c mL_5 (fw_c mL_492 (fw_c mL_90 (fw_c mL_98 (fw_c mL_453 (fw_c mL_454 (fw_c mL_455 (fw_c mL_456 (fw_c mL_97 (fw_c mL_95 (fw_c mL_284 (fw_c mL_285 (fw_c mL_96 (fw_c mL_400 (fw_c mL_401 (fw_c mL_402 (fw_c mL_403 (fw_c mL_343 (fw_c mL_344 (fw_c mL_345 fw_n)))))))))))))))))))))))) (fw_a (fw_c mL_346 (fw_c mL_347 (fw_c mL_286 (fw_c mL_287 (fw_c mL_288 (fw_c mL_289 (fw_c mL_290 (fw_c mL_291 (fw_c mL_292 (fw_c mL_293 (fw_c mL_294 (fw_c mL_295 (fw_c mL_296 (fw_c mL_297 (fw_c mL_298 (fw_c mL_430 (fw_c mL_431 (fw_c mL_432 (fw_c mL_494 (fw_c mL_495 (fw_c mL_496 (fw_c mL_497 (fw_c mL_457 (fw_c mL_458 fw_n)))))))))))))))))))))))) (fw_c mL_459 (fw_c mL_460 fw_n)))) (uL_wsX120))) (by decide +kernel)
set_option maxRecDepth 20000 in
theorem gL_law_X12_groups : GoodIn wsL_law (wsV RL 68 RX12 yX12_groups wsX12_groups) := goodIn_app (goodIn_sub (fw_c mL_506 (fw_c mL_507 (fw_c mL_508 (fw_c mL_5 fw_n)))) (by decide +kernel)) ggL_law_X12_groups
set_option maxRecDepth 20000 in
theorem ggL_law_X11_rivals : GoodIn wsL_law wsX11_rivals := goodIn_sub (fw_c mL_513 (fw_a (fw_a (fw_a (fw_a (fw_a (fw_a (fw_c mL_19 (fw_c mL_15 (fw_c mL_352 (fw_c mL_160 (fw_c mL_465 (fw_c mL_466 (fw_c mL_467 (fw_c mL_18 (fw_c mL_468 (fw_c mL_469 (fw_c mL_470 (fw_c mL_46 (fw_c mL_471 (fw_c mL_472 (fw_c mL_473 (fw_c mL_474 (fw_c mL_122 (fw_c mL_123 (fw_c mL_124 (fw_c mL_475 (fw_c mL_61 (fw_c mL_62 (fw_c mL_63 (fw_c mL_476 fw_n)))))))))))))))))))))))) (fw_a (fw_c mL_477 (fw_c mL_478 (fw_c mL_479 (fw_c mL_47 (fw_c mL_480 (fw_c mL_438 (fw_c mL_439 (fw_c mL_354 (fw_c mL_440 (fw_c mL_370 (fw_c mL_369 (fw_c mL_441 (fw_c mL_202 (fw_c mL_203 (fw_c mL_442 (fw_c mL_443 (fw_c mL_444 (fw_c mL_445 (fw_c mL_446 (fw_c mL_326 (fw_c mL_327 (fw_c mL_108 (fw_c mL_328 (fw_c mL_132 fw_n)))))))))))))))))))))))) (fw_a (fw_c mL_133 (fw_c mL_329 (fw_c mL_265 (fw_c mL_266 (fw_c mL_131 (fw_c mL_267 (fw_c mL_192 (fw_c mL_447 (fw_c mL_331 (fw_c mL_332 (fw_c mL_333 (fw_c mL_334 (fw_c mL_205 (fw_c mL_206 (fw_c mL_335 (fw_c mL_336 (fw_c mL_337 (fw_c mL_338 (fw_c mL_200 (fw_c mL_448 (fw_c mL_415 (fw_c mL_416 (fw_c mL_417 (fw_c mL_372 fw_n)))))))))))))))))))))))) (fw_a (fw_c mL_371 (fw_c mL_412 (fw_c mL_261 (fw_c mL_262 (fw_c mL_263 (fw_c mL_418 (fw_c mL_419 (fw_c mL_420 (fw_c mL_421 (fw_c mL_207 (fw_c mL_208 (fw_c mL_209 (fw_c mL_210 (fw_c mL_195 (fw_c mL_194 (fw_c mL_422 (fw_c mL_423 (fw_c mL_424 (fw_c mL_425 (fw_c mL_514 (fw_c mL_515 (fw_c mL_516 (fw_c mL_517 (fw_c mL_518 fw_n)))))))))))))))))))))))) (fw_c mL_519 (fw_c mL_520 (fw_c mL_521 (fw_c mL_522 (fw_c mL_109 (fw_c mL_110 (fw_c mL_111 (fw_c mL_2 (fw_c mL_112 (fw_c mL_113 (fw_c mL_114 fw_n))))))))))))))) (uL_wsX110)) (uL_wsX30)) (uL_wsX50)) (uL_wsX70)) (uL_wsX40))) (by decide +kernel)
set_option maxRecDepth 20000 in
theorem gL_law_X11_rivals : GoodIn wsL_law (wsV RL 69 RX11 yX11_rivals wsX11_rivals) := goodIn_app (goodIn_sub (fw_c mL_510 (fw_c mL_511 (fw_c mL_512 (fw_c mL_2 fw_n)))) (by decide +kernel)) ggL_law_X11_rivals
set_option maxRecDepth 20000 in
theorem ggL_law_X12_rivals : GoodIn wsL_law wsX12_rivals := goodIn_sub (fw_c mL_526 (fw_a (fw_a (fw_c mL_215 (fw_c mL_90 (fw_c mL_98 (fw_c mL_527 (fw_c mL_528 (fw_c mL_529 (fw_c mL_5 (fw_c mL_530 (fw_c mL_493 (fw_c mL_489 (fw_c mL_490 (fw_c mL_491 (fw_c mL_492 (fw_c mL_453 (fw_c mL_454 (fw_c mL_455 (fw_c mL_456 (fw_c mL_97 (fw_c mL_95 (fw_c mL_284 (fw_c mL_285 (fw_c mL_96 (fw_c mL_400 (fw_c mL_401 fw_n)))))))))))))))))))))))) (fw_a (fw_c mL_402 (fw_c mL_403 (fw_c mL_343 (fw_c mL_344 (fw_c mL_345 (fw_c mL_346 (fw_c mL_347 (fw_c mL_286 (fw_c mL_287 (fw_c mL_288 (fw_c mL_289 (fw_c mL_290 (fw_c mL_291 (fw_c mL_292 (fw_c mL_293 (fw_c mL_294 (fw_c mL_295 (fw_c mL_296 (fw_c mL_297 (fw_c mL_298 (fw_c mL_430 (fw_c mL_431 (fw_c mL_432 (fw_c mL_494 fw_n)))))))))))))))))))))))) (fw_c mL_495 (fw_c mL_496 (fw_c mL_497 (fw_c mL_457 (fw_c mL_458 (fw_c mL_459 (fw_c mL_460 (fw_c mL_220 (fw_c mL_221 (fw_c mL_222 (fw_c mL_145 (fw_c mL_146 (fw_c mL_147 (fw_c mL_148 (fw_c mL_149 fw_n))))))))))))))))) (uL_wsX120))) (by decide +kernel)
set_option maxRecDepth 20000 in
theorem gL_law_X12_rivals : GoodIn wsL_law (wsV RL 72 RX12 yX12_rivals wsX12_rivals) := goodIn_app (goodIn_sub (fw_c mL_523 (fw_c mL_524 (fw_c mL_525 (fw_c mL_5 fw_n)))) (by decide +kernel)) ggL_law_X12_rivals
set_option maxRecDepth 20000 in
theorem ggL_law_X11_sign : GoodIn wsL_law wsX11_sign := goodIn_sub (fw_c mL_534 (fw_a (fw_a (fw_a (fw_a (fw_a (fw_c mL_160 (fw_c mL_23 (fw_c mL_106 (fw_c mL_39 (fw_c mL_535 (fw_c mL_536 (fw_c mL_2 (fw_c mL_537 (fw_c mL_168 (fw_c mL_169 (fw_c mL_170 (fw_c mL_109 (fw_c mL_110 (fw_c mL_111 (fw_c mL_112 (fw_c mL_113 (fw_c mL_114 (fw_c mL_538 (fw_c mL_539 (fw_c mL_540 (fw_c mL_22 (fw_c mL_541 (fw_c mL_542 (fw_c mL_115 fw_n)))))))))))))))))))))))) (fw_c mL_116 (fw_c mL_117 (fw_c mL_38 (fw_c mL_118 (fw_c mL_75 (fw_c mL_119 (fw_c mL_120 (fw_c mL_121 (fw_c mL_122 (fw_c mL_123 (fw_c mL_124 (fw_c mL_543 (fw_c mL_544 (fw_c mL_545 (fw_c mL_546 (fw_c mL_52 fw_n))))))))))))))))) (uL_wsX110)) (uL_wsX20)) (uL_wsX60)) (uL_wsX90))) (by decide +kernel)
set_option maxRecDepth 20000 in
theorem gL_law_X11_sign : GoodIn wsL_law (wsV RL 73 RX11 yX11_sign wsX11_sign) := goodIn_app (goodIn_sub (fw_c mL_531 (fw_c mL_532 (fw_c mL_533 (fw_c mL_2 fw_n)))) (by decide +kernel)) ggL_law_X11_sign
set_option maxRecDepth 20000 in
theorem ggL_law_X12_sign : GoodIn wsL_law wsX12_sign := goodIn_sub (fw_c mL_550 (fw_a (fw_c mL_215 (fw_c mL_90 (fw_c mL_144 (fw_c mL_551 (fw_c mL_552 (fw_c mL_5 (fw_c mL_553 (fw_c mL_220 (fw_c mL_221 (fw_c mL_222 (fw_c mL_145 (fw_c mL_146 (fw_c mL_147 (fw_c mL_148 (fw_c mL_149 (fw_c mL_150 (fw_c mL_151 (fw_c mL_152 (fw_c mL_153 (fw_c mL_91 (fw_c mL_154 (fw_c mL_155 fw_n)))))))))))))))))))))) (uL_wsX120))) (by decide +kernel)
set_option maxRecDepth 20000 in
theorem gL_law_X12_sign : GoodIn wsL_law (wsV RL 76 RX12 yX12_sign wsX12_sign) := goodIn_app (goodIn_sub (fw_c mL_547 (fw_c mL_548 (fw_c mL_549 (fw_c mL_5 fw_n)))) (by decide +kernel)) ggL_law_X12_sign
set_option maxRecDepth 20000 in
theorem ggL_law_X11_blank : GoodIn wsL_law wsX11_blank := goodIn_sub (fw_c mL_557 (fw_a (fw_a (fw_a (fw_a (fw_a (fw_c mL_23 (fw_c mL_39 (fw_c mL_538 (fw_c mL_539 (fw_c mL_540 (fw_c mL_22 (fw_c mL_541 (fw_c mL_542 (fw_c mL_115 (fw_c mL_116 (fw_c mL_117 (fw_c mL_38 (fw_c mL_118 (fw_c mL_75 (fw_c mL_119 (fw_c mL_120 (fw_c mL_121 (fw_c mL_122 (fw_c mL_123 (fw_c mL_124 (fw_c mL_558 (fw_c mL_559 (fw_c mL_560 (fw_c mL_561 fw_n)))))))))))))))))))))))) (fw_c mL_52 (fw_c mL_562 (fw_c mL_563 (fw_c mL_564 (fw_c mL_565 (fw_c mL_566 (fw_c mL_567 (fw_c mL_568 (fw_c mL_569 fw_n)))))))))) (uL_wsX110)) (uL_wsX20)) (uL_wsX60)) (uL_wsX90))) (by decide +kernel)
set_option maxRecDepth 20000 in
theorem gL_law_X11_blank : GoodIn wsL_law (wsV RL 77 RX11 yX11_blank wsX11_blank) := goodIn_app (goodIn_sub (fw_c mL_554 (fw_c mL_555 (fw_c mL_556 (fw_c mL_2 fw_n)))) (by decide +kernel)) ggL_law_X11_blank
set_option maxRecDepth 20000 in
theorem ggL_law_X12_blank : GoodIn wsL_law wsX12_blank := goodIn_sub (fw_c mL_573 (fw_a (fw_c mL_90 (fw_c mL_150 (fw_c mL_151 (fw_c mL_152 (fw_c mL_5 (fw_c mL_153 (fw_c mL_91 (fw_c mL_154 (fw_c mL_155 fw_n))))))))) (uL_wsX120))) (by decide +kernel)
set_option maxRecDepth 20000 in
theorem gL_law_X12_blank : GoodIn wsL_law (wsV RL 80 RX12 yX12_blank wsX12_blank) := goodIn_app (goodIn_sub (fw_c mL_570 (fw_c mL_571 (fw_c mL_572 (fw_c mL_5 fw_n)))) (by decide +kernel)) ggL_law_X12_blank
set_option maxRecDepth 20000 in
theorem ggL_law_X11_wrong : GoodIn wsL_law wsX11_wrong := goodIn_sub (fw_c mL_577 (fw_a (fw_a (fw_c mL_23 (fw_c mL_578 (fw_c mL_579 (fw_c mL_580 (fw_c mL_22 (fw_c mL_581 (fw_c mL_542 (fw_c mL_52 (fw_c mL_582 (fw_c mL_583 (fw_c mL_584 fw_n))))))))))) (uL_wsX110)) (uL_wsX20))) (by decide +kernel)
set_option maxRecDepth 20000 in
theorem gL_law_X11_wrong : GoodIn wsL_law (wsV RL 81 RX11 yX11_wrong wsX11_wrong) := goodIn_app (goodIn_sub (fw_c mL_574 (fw_c mL_575 (fw_c mL_576 (fw_c mL_2 fw_n)))) (by decide +kernel)) ggL_law_X11_wrong
set_option maxRecDepth 20000 in
theorem ggL_law_X12_wrong : GoodIn wsL_law wsX12_wrong := goodIn_sub (fw_c mL_588 (fw_a (fw_c mL_589 (fw_c mL_590 (fw_c mL_591 (fw_c mL_5 (fw_c mL_592 (fw_c mL_90 fw_n)))))) (uL_wsX120))) (by decide +kernel)
set_option maxRecDepth 20000 in
theorem gL_law_X12_wrong : GoodIn wsL_law (wsV RL 84 RX12 yX12_wrong wsX12_wrong) := goodIn_app (goodIn_sub (fw_c mL_585 (fw_c mL_586 (fw_c mL_587 (fw_c mL_5 fw_n)))) (by decide +kernel)) ggL_law_X12_wrong
set_option maxRecDepth 20000 in
theorem ggL_law_X11_is : GoodIn wsL_law wsX11_is := goodIn_sub (fw_c mL_596 (fw_a (fw_a (fw_a (fw_a (fw_a (fw_a (fw_a (fw_c mL_19 (fw_c mL_15 (fw_c mL_352 (fw_c mL_160 (fw_c mL_23 (fw_c mL_386 (fw_c mL_465 (fw_c mL_466 (fw_c mL_467 (fw_c mL_18 (fw_c mL_468 (fw_c mL_469 (fw_c mL_470 (fw_c mL_46 (fw_c mL_471 (fw_c mL_472 (fw_c mL_473 (fw_c mL_474 (fw_c mL_122 (fw_c mL_123 (fw_c mL_124 (fw_c mL_475 (fw_c mL_61 (fw_c mL_62 fw_n)))))))))))))))))))))))) (fw_a (fw_c mL_63 (fw_c mL_476 (fw_c mL_477 (fw_c mL_478 (fw_c mL_479 (fw_c mL_47 (fw_c mL_480 (fw_c mL_438 (fw_c mL_439 (fw_c mL_354 (fw_c mL_440 (fw_c mL_370 (fw_c mL_369 (fw_c mL_441 (fw_c mL_202 (fw_c mL_203 (fw_c mL_442 (fw_c mL_443 (fw_c mL_444 (fw_c mL_445 (fw_c mL_446 (fw_c mL_326 (fw_c mL_327 (fw_c mL_108 fw_n)))))))))))))))))))))))) (fw_a (fw_c mL_328 (fw_c mL_132 (fw_c mL_133 (fw_c mL_329 (fw_c mL_265 (fw_c mL_266 (fw_c mL_131 (fw_c mL_267 (fw_c mL_192 (fw_c mL_447 (fw_c mL_331 (fw_c mL_332 (fw_c mL_333 (fw_c mL_334 (fw_c mL_205 (fw_c mL_206 (fw_c mL_335 (fw_c mL_336 (fw_c mL_337 (fw_c mL_338 (fw_c mL_200 (fw_c mL_448 (fw_c mL_415 (fw_c mL_416 fw_n)))))))))))))))))))))))) (fw_a (fw_c mL_417 (fw_c mL_372 (fw_c mL_371 (fw_c mL_412 (fw_c mL_261 (fw_c mL_262 (fw_c mL_263 (fw_c mL_418 (fw_c mL_419 (fw_c mL_420 (fw_c mL_421 (fw_c mL_207 (fw_c mL_208 (fw_c mL_209 (fw_c mL_210 (fw_c mL_195 (fw_c mL_194 (fw_c mL_422 (fw_c mL_423 (fw_c mL_424 (fw_c mL_425 (fw_c mL_514 (fw_c mL_515 (fw_c mL_516 fw_n)))))))))))))))))))))))) (fw_a (fw_c mL_517 (fw_c mL_109 (fw_c mL_110 (fw_c mL_111 (fw_c mL_2 (fw_c mL_112 (fw_c mL_113 (fw_c mL_114 (fw_c mL_578 (fw_c mL_579 (fw_c mL_580 (fw_c mL_22 (fw_c mL_581 (fw_c mL_542 (fw_c mL_52 (fw_c mL_582 (fw_c mL_583 (fw_c mL_584 (fw_c mL_597 (fw_c mL_598 (fw_c mL_599 (fw_c mL_600 (fw_c mL_48 (fw_c mL_601 fw_n)))))))))))))))))))))))) (fw_c mL_602 (fw_c mL_603 (fw_c mL_604 (fw_c mL_605 (fw_c mL_606 (fw_c mL_607 (fw_c mL_608 (fw_c mL_609 (fw_c mL_610 (fw_c mL_611 (fw_c mL_612 (fw_c mL_613 (fw_c mL_614 (fw_c mL_53 (fw_c mL_615 (fw_c mL_616 (fw_c mL_617 (fw_c mL_169 (fw_c mL_170 fw_n)))))))))))))))))))))))) (uL_wsX110)) (uL_wsX30)) (uL_wsX50)) (uL_wsX70)) (uL_wsX40)) (uL_wsX20))) (by decide +kernel)
set_option maxRecDepth 20000 in
theorem gL_law_X11_is : GoodIn wsL_law (wsV RL 85 RX11 yX11_is wsX11_is) := goodIn_app (goodIn_sub (fw_c mL_593 (fw_c mL_594 (fw_c mL_595 (fw_c mL_2 fw_n)))) (by decide +kernel)) ggL_law_X11_is
set_option maxRecDepth 20000 in
theorem ggL_law_X12_is : GoodIn wsL_law wsX12_is := goodIn_sub (fw_c mL_621 (fw_a (fw_a (fw_c mL_215 (fw_c mL_395 (fw_c mL_90 (fw_c mL_99 (fw_c mL_527 (fw_c mL_528 (fw_c mL_529 (fw_c mL_5 (fw_c mL_530 (fw_c mL_493 (fw_c mL_489 (fw_c mL_490 (fw_c mL_491 (fw_c mL_492 (fw_c mL_98 (fw_c mL_453 (fw_c mL_454 (fw_c mL_455 (fw_c mL_456 (fw_c mL_97 (fw_c mL_95 (fw_c mL_284 (fw_c mL_285 (fw_c mL_96 fw_n)))))))))))))))))))))))) (fw_a (fw_c mL_400 (fw_c mL_401 (fw_c mL_402 (fw_c mL_403 (fw_c mL_343 (fw_c mL_344 (fw_c mL_345 (fw_c mL_346 (fw_c mL_347 (fw_c mL_286 (fw_c mL_287 (fw_c mL_288 (fw_c mL_289 (fw_c mL_290 (fw_c mL_291 (fw_c mL_292 (fw_c mL_293 (fw_c mL_294 (fw_c mL_295 (fw_c mL_296 (fw_c mL_297 (fw_c mL_298 (fw_c mL_430 (fw_c mL_431 fw_n)))))))))))))))))))))))) (fw_a (fw_c mL_432 (fw_c mL_494 (fw_c mL_495 (fw_c mL_496 (fw_c mL_497 (fw_c mL_457 (fw_c mL_458 (fw_c mL_459 (fw_c mL_460 (fw_c mL_220 (fw_c mL_221 (fw_c mL_222 (fw_c mL_145 (fw_c mL_146 (fw_c mL_147 (fw_c mL_148 (fw_c mL_149 (fw_c mL_589 (fw_c mL_590 (fw_c mL_591 (fw_c mL_592 (fw_c mL_622 (fw_c mL_623 (fw_c mL_624 fw_n)))))))))))))))))))))))) (fw_c mL_625 fw_n)))) (uL_wsX120))) (by decide +kernel)
set_option maxRecDepth 20000 in
theorem gL_law_X12_is : GoodIn wsL_law (wsV RL 88 RX12 yX12_is wsX12_is) := goodIn_app (goodIn_sub (fw_c mL_618 (fw_c mL_619 (fw_c mL_620 (fw_c mL_5 fw_n)))) (by decide +kernel)) ggL_law_X12_is
set_option maxRecDepth 20000 in
theorem ggL_law_X11_field : GoodIn wsL_law wsX11_field := goodIn_sub (fw_c mL_629 (fw_a (fw_a (fw_a (fw_a (fw_a (fw_c mL_160 (fw_c mL_630 (fw_c mL_106 (fw_c mL_39 (fw_c mL_25 (fw_c mL_24 (fw_c mL_631 (fw_c mL_632 (fw_c mL_633 (fw_c mL_634 (fw_c mL_2 (fw_c mL_635 (fw_c mL_168 (fw_c mL_169 (fw_c mL_170 (fw_c mL_109 (fw_c mL_110 (fw_c mL_111 (fw_c mL_112 (fw_c mL_113 (fw_c mL_114 (fw_c mL_115 (fw_c mL_116 (fw_c mL_117 fw_n)))))))))))))))))))))))) (fw_c mL_38 (fw_c mL_118 (fw_c mL_75 (fw_c mL_119 (fw_c mL_120 (fw_c mL_121 (fw_c mL_122 (fw_c mL_123 (fw_c mL_124 (fw_c mL_636 (fw_c mL_637 (fw_c mL_638 (fw_c mL_639 (fw_c mL_10 (fw_c mL_11 (fw_c mL_45 (fw_c mL_640 (fw_c mL_641 (fw_c mL_642 (fw_c mL_643 (fw_c mL_644 (fw_c mL_645 (fw_c mL_646 fw_n)))))))))))))))))))))))) (uL_wsX110)) (uL_wsX00)) (uL_wsX60)) (uL_wsX90))) (by decide +kernel)
set_option maxRecDepth 20000 in
theorem gL_law_X11_field : GoodIn wsL_law (wsV RL 89 RX11 yX11_field wsX11_field) := goodIn_app (goodIn_sub (fw_c mL_626 (fw_c mL_627 (fw_c mL_628 (fw_c mL_2 fw_n)))) (by decide +kernel)) ggL_law_X11_field
set_option maxRecDepth 20000 in
theorem ggL_law_X12_field : GoodIn wsL_law wsX12_field := goodIn_sub (fw_c mL_650 (fw_a (fw_c mL_215 (fw_c mL_90 (fw_c mL_144 (fw_c mL_220 (fw_c mL_221 (fw_c mL_5 (fw_c mL_222 (fw_c mL_145 (fw_c mL_146 (fw_c mL_147 (fw_c mL_148 (fw_c mL_149 (fw_c mL_150 (fw_c mL_151 (fw_c mL_152 (fw_c mL_153 (fw_c mL_91 (fw_c mL_154 (fw_c mL_155 fw_n))))))))))))))))))) (uL_wsX120))) (by decide +kernel)
set_option maxRecDepth 20000 in
theorem gL_law_X12_field : GoodIn wsL_law (wsV RL 93 RX12 yX12_field wsX12_field) := goodIn_app (goodIn_sub (fw_c mL_647 (fw_c mL_648 (fw_c mL_649 (fw_c mL_5 fw_n)))) (by decide +kernel)) ggL_law_X12_field
set_option maxRecDepth 20000 in
theorem ggL_law_X11_look : GoodIn wsL_law wsX11_look := goodIn_sub (fw_c mL_654 (fw_a (fw_a (fw_a (fw_a (fw_a (fw_c mL_160 (fw_c mL_386 (fw_c mL_106 (fw_c mL_39 (fw_c mL_655 (fw_c mL_656 (fw_c mL_657 (fw_c mL_2 (fw_c mL_658 (fw_c mL_630 (fw_c mL_25 (fw_c mL_633 (fw_c mL_634 (fw_c mL_635 (fw_c mL_168 (fw_c mL_169 (fw_c mL_170 (fw_c mL_109 (fw_c mL_110 (fw_c mL_111 (fw_c mL_112 (fw_c mL_113 (fw_c mL_114 (fw_c mL_659 fw_n)))))))))))))))))))))))) (fw_a (fw_c mL_660 (fw_c mL_661 (fw_c mL_632 (fw_c mL_662 (fw_c mL_663 (fw_c mL_664 (fw_c mL_665 (fw_c mL_666 (fw_c mL_667 (fw_c mL_668 (fw_c mL_115 (fw_c mL_116 (fw_c mL_117 (fw_c mL_38 (fw_c mL_118 (fw_c mL_75 (fw_c mL_119 (fw_c mL_120 (fw_c mL_121 (fw_c mL_122 (fw_c mL_123 (fw_c mL_124 (fw_c mL_669 (fw_c mL_670 fw_n)))))))))))))))))))))))) (fw_c mL_671 (fw_c mL_672 (fw_c mL_640 (fw_c mL_641 (fw_c mL_643 fw_n))))))) (uL_wsX110)) (uL_wsX00)) (uL_wsX60)) (uL_wsX90))) (by decide +kernel)
set_option maxRecDepth 20000 in
theorem gL_law_X11_look : GoodIn wsL_law (wsV RL 94 RX11 yX11_look wsX11_look) := goodIn_app (goodIn_sub (fw_c mL_651 (fw_c mL_652 (fw_c mL_653 (fw_c mL_2 fw_n)))) (by decide +kernel)) ggL_law_X11_look
set_option maxRecDepth 20000 in
theorem ggL_law_X12_look : GoodIn wsL_law wsX12_look := goodIn_sub (fw_c mL_676 (fw_a (fw_a (fw_c mL_215 (fw_c mL_395 (fw_c mL_144 (fw_c mL_90 (fw_c mL_677 (fw_c mL_678 (fw_c mL_679 (fw_c mL_5 (fw_c mL_680 (fw_c mL_220 (fw_c mL_221 (fw_c mL_222 (fw_c mL_681 (fw_c mL_682 (fw_c mL_683 (fw_c mL_145 (fw_c mL_146 (fw_c mL_147 (fw_c mL_148 (fw_c mL_149 (fw_c mL_684 (fw_c mL_685 (fw_c mL_686 (fw_c mL_687 fw_n)))))))))))))))))))))))) (fw_c mL_150 (fw_c mL_151 (fw_c mL_152 (fw_c mL_153 (fw_c mL_91 (fw_c mL_154 (fw_c mL_155 fw_n)))))))) (uL_wsX120))) (by decide +kernel)
set_option maxRecDepth 20000 in
theorem gL_law_X12_look : GoodIn wsL_law (wsV RL 98 RX12 yX12_look wsX12_look) := goodIn_app (goodIn_sub (fw_c mL_673 (fw_c mL_674 (fw_c mL_675 (fw_c mL_5 fw_n)))) (by decide +kernel)) ggL_law_X12_look
set_option maxRecDepth 20000 in
theorem ggL_law_X11_belief : GoodIn wsL_law wsX11_belief := goodIn_sub (fw_c mL_691 (fw_a (fw_a (fw_a (fw_a (fw_c mL_160 (fw_c mL_29 (fw_c mL_655 (fw_c mL_656 (fw_c mL_657 (fw_c mL_2 (fw_c mL_658 (fw_c mL_630 (fw_c mL_25 (fw_c mL_109 (fw_c mL_110 (fw_c mL_111 (fw_c mL_112 (fw_c mL_113 (fw_c mL_114 (fw_c mL_692 (fw_c mL_693 (fw_c mL_694 (fw_c mL_632 (fw_c mL_695 (fw_c mL_645 (fw_c mL_696 (fw_c mL_668 (fw_c mL_644 fw_n)))))))))))))))))))))))) (fw_a (fw_c mL_640 (fw_c mL_641 (fw_c mL_697 (fw_c mL_698 (fw_c mL_699 (fw_c mL_700 (fw_c mL_643 (fw_c mL_701 (fw_c mL_702 (fw_c mL_703 (fw_c mL_28 (fw_c mL_704 (fw_c mL_58 (fw_c mL_705 (fw_c mL_706 (fw_c mL_707 (fw_c mL_634 (fw_c mL_635 (fw_c mL_168 (fw_c mL_169 (fw_c mL_170 (fw_c mL_708 (fw_c mL_709 (fw_c mL_710 fw_n)))))))))))))))))))))))) (fw_c mL_711 (fw_c mL_59 (fw_c mL_274 (fw_c mL_275 (fw_c mL_276 (fw_c mL_202 (fw_c mL_123 (fw_c mL_203 (fw_c mL_277 (fw_c mL_278 (fw_c mL_279 fw_n))))))))))))) (uL_wsX110)) (uL_wsX00)) (uL_wsX100))) (by decide +kernel)
set_option maxRecDepth 20000 in
theorem gL_law_X11_belief : GoodIn wsL_law (wsV RL 99 RX11 yX11_belief wsX11_belief) := goodIn_app (goodIn_sub (fw_c mL_688 (fw_c mL_689 (fw_c mL_690 (fw_c mL_2 fw_n)))) (by decide +kernel)) ggL_law_X11_belief
set_option maxRecDepth 20000 in
theorem ggL_law_X12_belief : GoodIn wsL_law wsX12_belief := goodIn_sub (fw_c mL_715 (fw_a (fw_a (fw_c mL_215 (fw_c mL_90 (fw_c mL_677 (fw_c mL_678 (fw_c mL_679 (fw_c mL_5 (fw_c mL_680 (fw_c mL_220 (fw_c mL_221 (fw_c mL_222 (fw_c mL_145 (fw_c mL_146 (fw_c mL_147 (fw_c mL_148 (fw_c mL_149 (fw_c mL_716 (fw_c mL_717 (fw_c mL_718 (fw_c mL_719 (fw_c mL_684 (fw_c mL_685 (fw_c mL_686 (fw_c mL_687 (fw_c mL_720 fw_n)))))))))))))))))))))))) (fw_c mL_721 (fw_c mL_722 (fw_c mL_299 (fw_c mL_300 (fw_c mL_301 (fw_c mL_302 (fw_c mL_303 (fw_c mL_304 fw_n))))))))) (uL_wsX120))) (by decide +kernel)
set_option maxRecDepth 20000 in
theorem gL_law_X12_belief : GoodIn wsL_law (wsV RL 102 RX12 yX12_belief wsX12_belief) := goodIn_app (goodIn_sub (fw_c mL_712 (fw_c mL_713 (fw_c mL_714 (fw_c mL_5 fw_n)))) (by decide +kernel)) ggL_law_X12_belief
set_option maxRecDepth 20000 in
theorem ggL_law_X11_showing : GoodIn wsL_law wsX11_showing := goodIn_sub (fw_c mL_726 (fw_a (fw_a (fw_a (fw_c mL_160 (fw_c mL_29 (fw_c mL_633 (fw_c mL_634 (fw_c mL_2 (fw_c mL_635 (fw_c mL_168 (fw_c mL_169 (fw_c mL_170 (fw_c mL_109 (fw_c mL_110 (fw_c mL_111 (fw_c mL_112 (fw_c mL_113 (fw_c mL_114 (fw_c mL_727 (fw_c mL_709 (fw_c mL_710 (fw_c mL_28 (fw_c mL_711 (fw_c mL_59 (fw_c mL_705 (fw_c mL_706 (fw_c mL_707 fw_n)))))))))))))))))))))))) (fw_c mL_728 (fw_c mL_702 (fw_c mL_703 (fw_c mL_704 (fw_c mL_58 fw_n)))))) (uL_wsX110)) (uL_wsX100))) (by decide +kernel)
set_option maxRecDepth 20000 in
theorem gL_law_X11_showing : GoodIn wsL_law (wsV RL 103 RX11 yX11_showing wsX11_showing) := goodIn_app (goodIn_sub (fw_c mL_723 (fw_c mL_724 (fw_c mL_725 (fw_c mL_2 fw_n)))) (by decide +kernel)) ggL_law_X11_showing
set_option maxRecDepth 20000 in
theorem ggL_law_X12_showing : GoodIn wsL_law wsX12_showing := goodIn_sub (fw_c mL_732 (fw_a (fw_c mL_215 (fw_c mL_90 (fw_c mL_220 (fw_c mL_221 (fw_c mL_5 (fw_c mL_222 (fw_c mL_681 (fw_c mL_682 (fw_c mL_683 (fw_c mL_145 (fw_c mL_146 (fw_c mL_147 (fw_c mL_148 (fw_c mL_149 (fw_c mL_720 (fw_c mL_721 (fw_c mL_722 fw_n))))))))))))))))) (uL_wsX120))) (by decide +kernel)
set_option maxRecDepth 20000 in
theorem gL_law_X12_showing : GoodIn wsL_law (wsV RL 106 RX12 yX12_showing wsX12_showing) := goodIn_app (goodIn_sub (fw_c mL_729 (fw_c mL_730 (fw_c mL_731 (fw_c mL_5 fw_n)))) (by decide +kernel)) ggL_law_X12_showing
set_option maxRecDepth 20000 in
theorem ggL_law_X11_dig : GoodIn wsL_law wsX11_dig := goodIn_sub (fw_c mL_736 (fw_a (fw_a (fw_a (fw_a (fw_a (fw_a (fw_c mL_160 (fw_c mL_386 (fw_c mL_39 (fw_c mL_29 (fw_c mL_655 (fw_c mL_656 (fw_c mL_657 (fw_c mL_2 (fw_c mL_658 (fw_c mL_630 (fw_c mL_25 (fw_c mL_109 (fw_c mL_110 (fw_c mL_111 (fw_c mL_112 (fw_c mL_113 (fw_c mL_114 (fw_c mL_659 (fw_c mL_660 (fw_c mL_661 (fw_c mL_632 (fw_c mL_662 (fw_c mL_663 (fw_c mL_115 fw_n)))))))))))))))))))))))) (fw_a (fw_c mL_116 (fw_c mL_117 (fw_c mL_38 (fw_c mL_118 (fw_c mL_75 (fw_c mL_119 (fw_c mL_120 (fw_c mL_121 (fw_c mL_122 (fw_c mL_123 (fw_c mL_124 (fw_c mL_737 (fw_c mL_738 (fw_c mL_739 (fw_c mL_740 (fw_c mL_741 (fw_c mL_742 (fw_c mL_743 (fw_c mL_744 (fw_c mL_745 (fw_c mL_668 (fw_c mL_644 (fw_c mL_640 (fw_c mL_641 fw_n)))))))))))))))))))))))) (fw_c mL_643 (fw_c mL_706 (fw_c mL_28 (fw_c mL_707 (fw_c mL_634 (fw_c mL_635 (fw_c mL_168 (fw_c mL_169 (fw_c mL_170 (fw_c mL_746 (fw_c mL_747 (fw_c mL_748 (fw_c mL_749 (fw_c mL_58 (fw_c mL_59 fw_n))))))))))))))))) (uL_wsX110)) (uL_wsX00)) (uL_wsX60)) (uL_wsX90)) (uL_wsX100))) (by decide +kernel)
set_option maxRecDepth 20000 in
theorem gL_law_X11_dig : GoodIn wsL_law (wsV RL 107 RX11 yX11_dig wsX11_dig) := goodIn_app (goodIn_sub (fw_c mL_733 (fw_c mL_734 (fw_c mL_735 (fw_c mL_2 fw_n)))) (by decide +kernel)) ggL_law_X11_dig
set_option maxRecDepth 20000 in
theorem ggL_law_X12_dig : GoodIn wsL_law wsX12_dig := goodIn_sub (fw_c mL_753 (fw_a (fw_a (fw_c mL_215 (fw_c mL_395 (fw_c mL_90 (fw_c mL_677 (fw_c mL_678 (fw_c mL_679 (fw_c mL_5 (fw_c mL_680 (fw_c mL_220 (fw_c mL_221 (fw_c mL_222 (fw_c mL_145 (fw_c mL_146 (fw_c mL_147 (fw_c mL_148 (fw_c mL_149 (fw_c mL_684 (fw_c mL_685 (fw_c mL_686 (fw_c mL_687 (fw_c mL_150 (fw_c mL_151 (fw_c mL_152 (fw_c mL_153 fw_n)))))))))))))))))))))))) (fw_c mL_91 (fw_c mL_154 (fw_c mL_155 (fw_c mL_720 (fw_c mL_721 (fw_c mL_722 fw_n))))))) (uL_wsX120))) (by decide +kernel)
set_option maxRecDepth 20000 in
theorem gL_law_X12_dig : GoodIn wsL_law (wsV RL 110 RX12 yX12_dig wsX12_dig) := goodIn_app (goodIn_sub (fw_c mL_750 (fw_c mL_751 (fw_c mL_752 (fw_c mL_5 fw_n)))) (by decide +kernel)) ggL_law_X12_dig
set_option maxRecDepth 20000 in
theorem ggL_law_X11_plan : GoodIn wsL_law wsX11_plan := goodIn_sub (fw_c mL_757 (fw_a (fw_a (fw_a (fw_a (fw_a (fw_c mL_160 (fw_c mL_33 (fw_c mL_758 (fw_c mL_759 (fw_c mL_2 (fw_c mL_760 (fw_c mL_168 (fw_c mL_169 (fw_c mL_170 (fw_c mL_633 (fw_c mL_634 (fw_c mL_635 (fw_c mL_109 (fw_c mL_110 (fw_c mL_111 (fw_c mL_112 (fw_c mL_113 (fw_c mL_114 (fw_c mL_761 (fw_c mL_762 (fw_c mL_763 (fw_c mL_764 (fw_c mL_25 (fw_c mL_630 fw_n)))))))))))))))))))))))) (fw_a (fw_c mL_29 (fw_c mL_765 (fw_c mL_766 (fw_c mL_767 (fw_c mL_32 (fw_c mL_768 (fw_c mL_68 (fw_c mL_69 (fw_c mL_769 (fw_c mL_770 (fw_c mL_771 (fw_c mL_632 (fw_c mL_772 (fw_c mL_644 (fw_c mL_663 (fw_c mL_696 (fw_c mL_645 (fw_c mL_708 (fw_c mL_709 (fw_c mL_710 (fw_c mL_28 (fw_c mL_711 (fw_c mL_59 (fw_c mL_705 fw_n)))))))))))))))))))))))) (fw_a (fw_c mL_706 (fw_c mL_707 (fw_c mL_697 (fw_c mL_698 (fw_c mL_699 (fw_c mL_700 (fw_c mL_668 (fw_c mL_643 (fw_c mL_701 (fw_c mL_702 (fw_c mL_703 (fw_c mL_704 (fw_c mL_58 (fw_c mL_773 (fw_c mL_774 (fw_c mL_775 (fw_c mL_776 (fw_c mL_777 (fw_c mL_778 (fw_c mL_779 (fw_c mL_780 (fw_c mL_122 (fw_c mL_123 (fw_c mL_124 fw_n)))))))))))))))))))))))) (fw_c mL_781 (fw_c mL_782 (fw_c mL_783 (fw_c mL_784 (fw_c mL_785 (fw_c mL_786 (fw_c mL_787 (fw_c mL_788 fw_n))))))))))) (uL_wsX110)) (uL_wsX10)) (uL_wsX00)) (uL_wsX100))) (by decide +kernel)
set_option maxRecDepth 20000 in
theorem gL_law_X11_plan : GoodIn wsL_law (wsV RL 111 RX11 yX11_plan wsX11_plan) := goodIn_app (goodIn_sub (fw_c mL_754 (fw_c mL_755 (fw_c mL_756 (fw_c mL_2 fw_n)))) (by decide +kernel)) ggL_law_X11_plan
set_option maxRecDepth 20000 in
theorem ggL_law_X12_plan : GoodIn wsL_law wsX12_plan := goodIn_sub (fw_c mL_792 (fw_a (fw_a (fw_c mL_215 (fw_c mL_793 (fw_c mL_220 (fw_c mL_221 (fw_c mL_5 (fw_c mL_222 (fw_c mL_681 (fw_c mL_682 (fw_c mL_683 (fw_c mL_145 (fw_c mL_146 (fw_c mL_147 (fw_c mL_148 (fw_c mL_149 (fw_c mL_794 (fw_c mL_795 (fw_c mL_796 (fw_c mL_797 (fw_c mL_798 (fw_c mL_90 (fw_c mL_799 (fw_c mL_800 (fw_c mL_801 (fw_c mL_802 fw_n)))))))))))))))))))))))) (fw_c mL_684 (fw_c mL_685 (fw_c mL_686 (fw_c mL_687 (fw_c mL_716 (fw_c mL_717 (fw_c mL_718 (fw_c mL_719 (fw_c mL_720 (fw_c mL_721 (fw_c mL_722 fw_n)))))))))))) (uL_wsX120))) (by decide +kernel)
set_option maxRecDepth 20000 in
theorem gL_law_X12_plan : GoodIn wsL_law (wsV RL 114 RX12 yX12_plan wsX12_plan) := goodIn_app (goodIn_sub (fw_c mL_789 (fw_c mL_790 (fw_c mL_791 (fw_c mL_5 fw_n)))) (by decide +kernel)) ggL_law_X12_plan
set_option maxRecDepth 20000 in
theorem ggL_law_X11_brings : GoodIn wsL_law wsX11_brings := goodIn_sub (fw_c mL_806 (fw_a (fw_a (fw_a (fw_a (fw_a (fw_c mL_160 (fw_c mL_33 (fw_c mL_758 (fw_c mL_759 (fw_c mL_2 (fw_c mL_760 (fw_c mL_168 (fw_c mL_169 (fw_c mL_170 (fw_c mL_633 (fw_c mL_634 (fw_c mL_635 (fw_c mL_109 (fw_c mL_110 (fw_c mL_111 (fw_c mL_112 (fw_c mL_113 (fw_c mL_114 (fw_c mL_761 (fw_c mL_762 (fw_c mL_763 (fw_c mL_764 (fw_c mL_25 (fw_c mL_630 fw_n)))))))))))))))))))))))) (fw_a (fw_c mL_29 (fw_c mL_765 (fw_c mL_766 (fw_c mL_767 (fw_c mL_32 (fw_c mL_768 (fw_c mL_68 (fw_c mL_69 (fw_c mL_769 (fw_c mL_770 (fw_c mL_771 (fw_c mL_632 (fw_c mL_772 (fw_c mL_644 (fw_c mL_663 (fw_c mL_696 (fw_c mL_645 (fw_c mL_708 (fw_c mL_709 (fw_c mL_710 (fw_c mL_28 (fw_c mL_711 (fw_c mL_59 (fw_c mL_705 fw_n)))))))))))))))))))))))) (fw_a (fw_c mL_706 (fw_c mL_707 (fw_c mL_697 (fw_c mL_698 (fw_c mL_699 (fw_c mL_700 (fw_c mL_668 (fw_c mL_643 (fw_c mL_701 (fw_c mL_702 (fw_c mL_703 (fw_c mL_704 (fw_c mL_58 (fw_c mL_773 (fw_c mL_774 (fw_c mL_775 (fw_c mL_776 (fw_c mL_777 (fw_c mL_778 (fw_c mL_779 (fw_c mL_780 (fw_c mL_122 (fw_c mL_123 (fw_c mL_124 fw_n)))))))))))))))))))))))) (fw_c mL_781 (fw_c mL_782 (fw_c mL_783 (fw_c mL_784 (fw_c mL_807 (fw_c mL_808 (fw_c mL_809 (fw_c mL_810 fw_n))))))))))) (uL_wsX110)) (uL_wsX10)) (uL_wsX00)) (uL_wsX100))) (by decide +kernel)
set_option maxRecDepth 20000 in
theorem gL_law_X11_brings : GoodIn wsL_law (wsV RL 115 RX11 yX11_brings wsX11_brings) := goodIn_app (goodIn_sub (fw_c mL_803 (fw_c mL_804 (fw_c mL_805 (fw_c mL_2 fw_n)))) (by decide +kernel)) ggL_law_X11_brings
set_option maxRecDepth 20000 in
theorem ggL_law_X12_brings : GoodIn wsL_law wsX12_brings := goodIn_sub (fw_c mL_814 (fw_a (fw_a (fw_c mL_215 (fw_c mL_798 (fw_c mL_220 (fw_c mL_221 (fw_c mL_5 (fw_c mL_222 (fw_c mL_681 (fw_c mL_682 (fw_c mL_683 (fw_c mL_145 (fw_c mL_146 (fw_c mL_147 (fw_c mL_148 (fw_c mL_149 (fw_c mL_794 (fw_c mL_795 (fw_c mL_796 (fw_c mL_797 (fw_c mL_793 (fw_c mL_90 (fw_c mL_799 (fw_c mL_800 (fw_c mL_801 (fw_c mL_802 fw_n)))))))))))))))))))))))) (fw_c mL_684 (fw_c mL_685 (fw_c mL_686 (fw_c mL_687 (fw_c mL_716 (fw_c mL_717 (fw_c mL_718 (fw_c mL_719 (fw_c mL_720 (fw_c mL_721 (fw_c mL_722 fw_n)))))))))))) (uL_wsX120))) (by decide +kernel)
set_option maxRecDepth 20000 in
theorem gL_law_X12_brings : GoodIn wsL_law (wsV RL 118 RX12 yX12_brings wsX12_brings) := goodIn_app (goodIn_sub (fw_c mL_811 (fw_c mL_812 (fw_c mL_813 (fw_c mL_5 fw_n)))) (by decide +kernel)) ggL_law_X12_brings
set_option maxRecDepth 20000 in
theorem ggL_law_X11_sheet : GoodIn wsL_law wsX11_sheet := goodIn_sub (fw_c mL_818 (fw_a (fw_a (fw_a (fw_c mL_160 (fw_c mL_819 (fw_c mL_820 (fw_c mL_821 (fw_c mL_822 (fw_c mL_2 (fw_c mL_823 (fw_c mL_35 (fw_c mL_824 (fw_c mL_825 (fw_c mL_826 (fw_c mL_109 (fw_c mL_110 (fw_c mL_111 (fw_c mL_112 (fw_c mL_113 (fw_c mL_114 (fw_c mL_827 (fw_c mL_828 (fw_c mL_829 (fw_c mL_41 (fw_c mL_830 (fw_c mL_831 (fw_c mL_832 fw_n)))))))))))))))))))))))) (fw_c mL_85 (fw_c mL_833 (fw_c mL_61 (fw_c mL_62 (fw_c mL_63 (fw_c mL_834 (fw_c mL_835 (fw_c mL_836 (fw_c mL_837 fw_n)))))))))) (uL_wsX110)) (uL_wsX80))) (by decide +kernel)
set_option maxRecDepth 20000 in
theorem gL_law_X11_sheet : GoodIn wsL_law (wsV RL 119 RX11 yX11_sheet wsX11_sheet) := goodIn_app (goodIn_sub (fw_c mL_815 (fw_c mL_816 (fw_c mL_817 (fw_c mL_2 fw_n)))) (by decide +kernel)) ggL_law_X11_sheet
set_option maxRecDepth 20000 in
theorem ggL_law_X12_sheet : GoodIn wsL_law wsX12_sheet := goodIn_sub (fw_c mL_841 (fw_a (fw_c mL_215 (fw_c mL_842 (fw_c mL_92 (fw_c mL_93 (fw_c mL_94 (fw_c mL_843 (fw_c mL_844 (fw_c mL_5 (fw_c mL_845 (fw_c mL_220 (fw_c mL_221 (fw_c mL_222 (fw_c mL_145 (fw_c mL_146 (fw_c mL_147 (fw_c mL_148 (fw_c mL_149 fw_n))))))))))))))))) (uL_wsX120))) (by decide +kernel)
set_option maxRecDepth 20000 in
theorem gL_law_X12_sheet : GoodIn wsL_law (wsV RL 122 RX12 yX12_sheet wsX12_sheet) := goodIn_app (goodIn_sub (fw_c mL_838 (fw_c mL_839 (fw_c mL_840 (fw_c mL_5 fw_n)))) (by decide +kernel)) ggL_law_X12_sheet
set_option maxRecDepth 20000 in
theorem ggL_law_X11_put : GoodIn wsL_law wsX11_put := goodIn_sub (fw_c mL_849 (fw_a (fw_a (fw_a (fw_c mL_160 (fw_c mL_850 (fw_c mL_820 (fw_c mL_821 (fw_c mL_822 (fw_c mL_2 (fw_c mL_823 (fw_c mL_35 (fw_c mL_109 (fw_c mL_110 (fw_c mL_111 (fw_c mL_112 (fw_c mL_113 (fw_c mL_114 (fw_c mL_851 (fw_c mL_852 (fw_c mL_853 (fw_c mL_41 (fw_c mL_854 (fw_c mL_831 (fw_c mL_855 (fw_c mL_856 (fw_c mL_857 (fw_c mL_858 fw_n)))))))))))))))))))))))) (fw_c mL_832 (fw_c mL_859 (fw_c mL_860 (fw_c mL_861 (fw_c mL_862 (fw_c mL_85 fw_n))))))) (uL_wsX110)) (uL_wsX80))) (by decide +kernel)
set_option maxRecDepth 20000 in
theorem gL_law_X11_put : GoodIn wsL_law (wsV RL 123 RX11 yX11_put wsX11_put) := goodIn_app (goodIn_sub (fw_c mL_846 (fw_c mL_847 (fw_c mL_848 (fw_c mL_2 fw_n)))) (by decide +kernel)) ggL_law_X11_put
set_option maxRecDepth 20000 in
theorem ggL_law_X12_put : GoodIn wsL_law wsX12_put := goodIn_sub (fw_c mL_866 (fw_a (fw_c mL_215 (fw_c mL_92 (fw_c mL_867 (fw_c mL_93 (fw_c mL_94 (fw_c mL_843 (fw_c mL_844 (fw_c mL_5 (fw_c mL_845 (fw_c mL_220 (fw_c mL_221 (fw_c mL_222 (fw_c mL_145 (fw_c mL_146 (fw_c mL_147 (fw_c mL_148 (fw_c mL_149 fw_n))))))))))))))))) (uL_wsX120))) (by decide +kernel)
set_option maxRecDepth 20000 in
theorem gL_law_X12_put : GoodIn wsL_law (wsV RL 126 RX12 yX12_put wsX12_put) := goodIn_app (goodIn_sub (fw_c mL_863 (fw_c mL_864 (fw_c mL_865 (fw_c mL_5 fw_n)))) (by decide +kernel)) ggL_law_X12_put
set_option maxRecDepth 20000 in
theorem ggL_law_X11_copy : GoodIn wsL_law wsX11_copy := goodIn_sub (fw_c mL_871 (fw_a (fw_a (fw_a (fw_c mL_160 (fw_c mL_850 (fw_c mL_386 (fw_c mL_820 (fw_c mL_821 (fw_c mL_822 (fw_c mL_2 (fw_c mL_823 (fw_c mL_35 (fw_c mL_109 (fw_c mL_110 (fw_c mL_111 (fw_c mL_112 (fw_c mL_113 (fw_c mL_114 (fw_c mL_851 (fw_c mL_852 (fw_c mL_853 (fw_c mL_41 (fw_c mL_854 (fw_c mL_831 (fw_c mL_872 (fw_c mL_873 (fw_c mL_874 fw_n)))))))))))))))))))))))) (fw_c mL_875 (fw_c mL_855 (fw_c mL_856 (fw_c mL_857 (fw_c mL_858 (fw_c mL_832 (fw_c mL_876 (fw_c mL_877 (fw_c mL_878 (fw_c mL_879 (fw_c mL_85 (fw_c mL_880 (fw_c mL_563 (fw_c mL_564 (fw_c mL_565 (fw_c mL_881 fw_n))))))))))))))))) (uL_wsX110)) (uL_wsX80))) (by decide +kernel)
set_option maxRecDepth 20000 in
theorem gL_law_X11_copy : GoodIn wsL_law (wsV RL 127 RX11 yX11_copy wsX11_copy) := goodIn_app (goodIn_sub (fw_c mL_868 (fw_c mL_869 (fw_c mL_870 (fw_c mL_2 fw_n)))) (by decide +kernel)) ggL_law_X11_copy
set_option maxRecDepth 20000 in
theorem ggL_law_X12_copy : GoodIn wsL_law wsX12_copy := goodIn_sub (fw_c mL_885 (fw_a (fw_c mL_215 (fw_c mL_92 (fw_c mL_867 (fw_c mL_395 (fw_c mL_93 (fw_c mL_100 (fw_c mL_94 (fw_c mL_843 (fw_c mL_844 (fw_c mL_5 (fw_c mL_845 (fw_c mL_220 (fw_c mL_221 (fw_c mL_222 (fw_c mL_145 (fw_c mL_146 (fw_c mL_147 (fw_c mL_148 (fw_c mL_149 fw_n))))))))))))))))))) (uL_wsX120))) (by decide +kernel)
set_option maxRecDepth 20000 in
theorem gL_law_X12_copy : GoodIn wsL_law (wsV RL 130 RX12 yX12_copy wsX12_copy) := goodIn_app (goodIn_sub (fw_c mL_882 (fw_c mL_883 (fw_c mL_884 (fw_c mL_5 fw_n)))) (by decide +kernel)) ggL_law_X12_copy
set_option maxRecDepth 20000 in
theorem ggL_law_X11_text : GoodIn wsL_law wsX11_text := goodIn_sub (fw_c mL_889 (fw_a (fw_a (fw_a (fw_a (fw_a (fw_a (fw_c mL_160 (fw_c mL_850 (fw_c mL_819 (fw_c mL_23 (fw_c mL_39 (fw_c mL_820 (fw_c mL_821 (fw_c mL_822 (fw_c mL_2 (fw_c mL_823 (fw_c mL_35 (fw_c mL_109 (fw_c mL_110 (fw_c mL_111 (fw_c mL_112 (fw_c mL_113 (fw_c mL_114 (fw_c mL_851 (fw_c mL_852 (fw_c mL_853 (fw_c mL_41 (fw_c mL_854 (fw_c mL_831 (fw_c mL_834 fw_n)))))))))))))))))))))))) (fw_a (fw_c mL_835 (fw_c mL_836 (fw_c mL_837 (fw_c mL_832 (fw_c mL_890 (fw_c mL_891 (fw_c mL_892 (fw_c mL_893 (fw_c mL_85 (fw_c mL_536 (fw_c mL_537 (fw_c mL_168 (fw_c mL_169 (fw_c mL_170 (fw_c mL_538 (fw_c mL_539 (fw_c mL_540 (fw_c mL_22 (fw_c mL_541 (fw_c mL_542 (fw_c mL_115 (fw_c mL_116 (fw_c mL_117 (fw_c mL_38 fw_n)))))))))))))))))))))))) (fw_a (fw_c mL_118 (fw_c mL_75 (fw_c mL_119 (fw_c mL_120 (fw_c mL_121 (fw_c mL_122 (fw_c mL_123 (fw_c mL_124 (fw_c mL_558 (fw_c mL_559 (fw_c mL_560 (fw_c mL_561 (fw_c mL_52 (fw_c mL_562 (fw_c mL_563 (fw_c mL_564 (fw_c mL_565 (fw_c mL_894 (fw_c mL_895 (fw_c mL_896 (fw_c mL_897 (fw_c mL_898 (fw_c mL_899 (fw_c mL_602 fw_n)))))))))))))))))))))))) (fw_c mL_603 fw_n)))) (uL_wsX110)) (uL_wsX80)) (uL_wsX20)) (uL_wsX60)) (uL_wsX90))) (by decide +kernel)
set_option maxRecDepth 20000 in
theorem gL_law_X11_text : GoodIn wsL_law (wsV RL 131 RX11 yX11_text wsX11_text) := goodIn_app (goodIn_sub (fw_c mL_886 (fw_c mL_887 (fw_c mL_888 (fw_c mL_2 fw_n)))) (by decide +kernel)) ggL_law_X11_text
set_option maxRecDepth 20000 in
theorem ggL_law_X12_text : GoodIn wsL_law wsX12_text := goodIn_sub (fw_c mL_903 (fw_a (fw_a (fw_c mL_215 (fw_c mL_92 (fw_c mL_867 (fw_c mL_93 (fw_c mL_842 (fw_c mL_94 (fw_c mL_90 (fw_c mL_843 (fw_c mL_844 (fw_c mL_5 (fw_c mL_845 (fw_c mL_220 (fw_c mL_221 (fw_c mL_222 (fw_c mL_145 (fw_c mL_146 (fw_c mL_147 (fw_c mL_148 (fw_c mL_149 (fw_c mL_551 (fw_c mL_552 (fw_c mL_553 (fw_c mL_150 (fw_c mL_151 fw_n)))))))))))))))))))))))) (fw_c mL_152 (fw_c mL_153 (fw_c mL_91 (fw_c mL_154 (fw_c mL_155 fw_n)))))) (uL_wsX120))) (by decide +kernel)
set_option maxRecDepth 20000 in
theorem gL_law_X12_text : GoodIn wsL_law (wsV RL 134 RX12 yX12_text wsX12_text) := goodIn_app (goodIn_sub (fw_c mL_900 (fw_c mL_901 (fw_c mL_902 (fw_c mL_5 fw_n)))) (by decide +kernel)) ggL_law_X12_text
set_option maxRecDepth 20000 in
theorem ggL_law_X11_undo : GoodIn wsL_law wsX11_undo := goodIn_sub (fw_c mL_907 (fw_a (fw_a (fw_a (fw_a (fw_a (fw_a (fw_a (fw_a (fw_a (fw_c mL_39 (fw_c mL_230 (fw_c mL_908 (fw_c mL_909 (fw_c mL_910 (fw_c mL_38 (fw_c mL_911 (fw_c mL_120 (fw_c mL_119 (fw_c mL_75 (fw_c mL_109 (fw_c mL_110 (fw_c mL_111 (fw_c mL_2 (fw_c mL_112 (fw_c mL_113 (fw_c mL_114 (fw_c mL_912 (fw_c mL_913 (fw_c mL_914 (fw_c mL_915 (fw_c mL_105 (fw_c mL_352 (fw_c mL_23 fw_n)))))))))))))))))))))))) (fw_a (fw_c mL_630 (fw_c mL_161 (fw_c mL_162 (fw_c mL_163 (fw_c mL_164 (fw_c mL_13 (fw_c mL_916 (fw_c mL_917 (fw_c mL_918 (fw_c mL_243 (fw_c mL_244 (fw_c mL_245 (fw_c mL_108 (fw_c mL_246 (fw_c mL_132 (fw_c mL_133 (fw_c mL_247 (fw_c mL_248 (fw_c mL_249 (fw_c mL_131 (fw_c mL_250 (fw_c mL_179 (fw_c mL_188 (fw_c mL_189 fw_n)))))))))))))))))))))))) (fw_a (fw_c mL_190 (fw_c mL_191 (fw_c mL_138 (fw_c mL_139 (fw_c mL_192 (fw_c mL_193 (fw_c mL_194 (fw_c mL_195 (fw_c mL_196 (fw_c mL_197 (fw_c mL_198 (fw_c mL_199 (fw_c mL_200 (fw_c mL_201 (fw_c mL_202 (fw_c mL_123 (fw_c mL_203 (fw_c mL_204 (fw_c mL_205 (fw_c mL_206 (fw_c mL_207 (fw_c mL_208 (fw_c mL_209 (fw_c mL_210 fw_n)))))))))))))))))))))))) (fw_a (fw_c mL_180 (fw_c mL_181 (fw_c mL_182 (fw_c mL_183 (fw_c mL_184 (fw_c mL_185 (fw_c mL_186 (fw_c mL_187 (fw_c mL_919 (fw_c mL_920 (fw_c mL_921 (fw_c mL_22 (fw_c mL_922 (fw_c mL_542 (fw_c mL_894 (fw_c mL_895 (fw_c mL_896 (fw_c mL_897 (fw_c mL_898 (fw_c mL_122 (fw_c mL_124 (fw_c mL_899 (fw_c mL_602 (fw_c mL_603 fw_n)))))))))))))))))))))))) (fw_a (fw_c mL_52 (fw_c mL_562 (fw_c mL_563 (fw_c mL_564 (fw_c mL_565 (fw_c mL_655 (fw_c mL_656 (fw_c mL_657 (fw_c mL_658 (fw_c mL_25 (fw_c mL_923 (fw_c mL_924 (fw_c mL_925 (fw_c mL_926 (fw_c mL_29 (fw_c mL_927 (fw_c mL_928 (fw_c mL_929 (fw_c mL_632 (fw_c mL_930 (fw_c mL_668 (fw_c mL_931 (fw_c mL_932 (fw_c mL_933 fw_n)))))))))))))))))))))))) (fw_a (fw_c mL_934 (fw_c mL_663 (fw_c mL_741 (fw_c mL_742 (fw_c mL_743 (fw_c mL_744 (fw_c mL_745 (fw_c mL_644 (fw_c mL_640 (fw_c mL_641 (fw_c mL_643 (fw_c mL_706 (fw_c mL_28 (fw_c mL_707 (fw_c mL_634 (fw_c mL_635 (fw_c mL_168 (fw_c mL_169 (fw_c mL_170 (fw_c mL_746 (fw_c mL_747 (fw_c mL_748 (fw_c mL_749 (fw_c mL_58 fw_n)))))))))))))))))))))))) (fw_c mL_59 (fw_c mL_935 (fw_c mL_936 (fw_c mL_937 (fw_c mL_938 fw_n))))))))))) (uL_wsX110)) (uL_wsX60)) (uL_wsX90)) (uL_wsX70)) (uL_wsX40)) (uL_wsX20)) (uL_wsX00)) (uL_wsX100))) (by decide +kernel)
set_option maxRecDepth 20000 in
theorem gL_law_X11_undo : GoodIn wsL_law (wsV RL 135 RX11 yX11_undo wsX11_undo) := goodIn_app (goodIn_sub (fw_c mL_904 (fw_c mL_905 (fw_c mL_906 (fw_c mL_2 fw_n)))) (by decide +kernel)) ggL_law_X11_undo
set_option maxRecDepth 20000 in
theorem ggL_law_X12_undo : GoodIn wsL_law wsX12_undo := goodIn_sub (fw_c mL_942 (fw_a (fw_c mL_155 (fw_c mL_255 (fw_c mL_154 (fw_c mL_90 (fw_c mL_91 (fw_c mL_145 (fw_c mL_146 (fw_c mL_147 (fw_c mL_5 (fw_c mL_148 (fw_c mL_149 fw_n))))))))))) (uL_wsX120))) (by decide +kernel)
set_option maxRecDepth 20000 in
theorem gL_law_X12_undo : GoodIn wsL_law (wsV RL 138 RX12 yX12_undo wsX12_undo) := goodIn_app (goodIn_sub (fw_c mL_939 (fw_c mL_940 (fw_c mL_941 (fw_c mL_5 fw_n)))) (by decide +kernel)) ggL_law_X12_undo
set_option maxRecDepth 20000 in
theorem ggL_law_X11_all : GoodIn wsL_law wsX11_all := goodIn_sub (fw_c mL_946 (fw_a (fw_a (fw_c mL_105 (fw_c mL_352 (fw_c mL_630 (fw_c mL_23 (fw_c mL_114 (fw_c mL_160 (fw_c mL_538 (fw_c mL_539 (fw_c mL_540 (fw_c mL_22 (fw_c mL_541 (fw_c mL_542 (fw_c mL_109 (fw_c mL_110 (fw_c mL_111 (fw_c mL_2 (fw_c mL_112 (fw_c mL_113 fw_n)))))))))))))))))) (uL_wsX110)) (uL_wsX20))) (by decide +kernel)
set_option maxRecDepth 20000 in
theorem gL_law_X11_all : GoodIn wsL_law (wsV RL 139 RX11 yX11_all wsX11_all) := goodIn_app (goodIn_sub (fw_c mL_943 (fw_c mL_944 (fw_c mL_945 (fw_c mL_2 fw_n)))) (by decide +kernel)) ggL_law_X11_all
set_option maxRecDepth 20000 in
theorem ggL_law_X12_all : GoodIn wsL_law wsX12_all := goodIn_sub (fw_c mL_950 (fw_a (fw_c mL_90 (fw_c mL_149 (fw_c mL_215 (fw_c mL_145 (fw_c mL_146 (fw_c mL_147 (fw_c mL_5 (fw_c mL_148 fw_n)))))))) (uL_wsX120))) (by decide +kernel)
set_option maxRecDepth 20000 in
theorem gL_law_X12_all : GoodIn wsL_law (wsV RL 142 RX12 yX12_all wsX12_all) := goodIn_app (goodIn_sub (fw_c mL_947 (fw_c mL_948 (fw_c mL_949 (fw_c mL_5 fw_n)))) (by decide +kernel)) ggL_law_X12_all
theorem dLb_0 : (decode cL_law 0 = .ok (.new 7, 3)) ∧ (decode cL_law 3 = .ok (.dup, 1)) ∧ (decode cL_law 4 = .ok (.invokespecial 9, 3)) ∧ (decode cL_law 7 = .ok (.astore_n 1, 1)) ∧ (decode cL_law 8 = .ok (.new 10, 3)) ∧ (decode cL_law 11 = .ok (.dup, 1)) ∧ (decode cL_law 12 = .ok (.invokespecial 12, 3)) ∧ (decode cL_law 15 = .ok (.astore_n 2, 1)) ∧ (decode cL_law 16 = .ok (.iconst 0, 1)) ∧ (decode cL_law 17 = .ok (.istore_n 3, 1)) ∧ (decode cL_law 18 = .ok (.iload_n 3, 1)) ∧ (decode cL_law 19 = .ok (.aload_n 0, 1)) ∧ (decode cL_law 20 = .ok (.arraylength, 1)) ∧ (decode cL_law 21 = .ok (.bipush 7, 2)) ∧ (decode cL_law 23 = .ok (.isub, 1)) ∧ (decode cL_law 24 = .ok (.if_icmp .gt 1327, 3)) := by decide +kernel
theorem dL_law_0 : decode cL_law 0 = .ok (.new 7, 3) := dLb_0.1
theorem dL_law_3 : decode cL_law 3 = .ok (.dup, 1) := dLb_0.2.1
theorem dL_law_4 : decode cL_law 4 = .ok (.invokespecial 9, 3) := dLb_0.2.2.1
theorem dL_law_7 : decode cL_law 7 = .ok (.astore_n 1, 1) := dLb_0.2.2.2.1
theorem dL_law_8 : decode cL_law 8 = .ok (.new 10, 3) := dLb_0.2.2.2.2.1
theorem dL_law_11 : decode cL_law 11 = .ok (.dup, 1) := dLb_0.2.2.2.2.2.1
theorem dL_law_12 : decode cL_law 12 = .ok (.invokespecial 12, 3) := dLb_0.2.2.2.2.2.2.1
theorem dL_law_15 : decode cL_law 15 = .ok (.astore_n 2, 1) := dLb_0.2.2.2.2.2.2.2.1
theorem dL_law_16 : decode cL_law 16 = .ok (.iconst 0, 1) := dLb_0.2.2.2.2.2.2.2.2.1
theorem dL_law_17 : decode cL_law 17 = .ok (.istore_n 3, 1) := dLb_0.2.2.2.2.2.2.2.2.2.1
theorem dL_law_18 : decode cL_law 18 = .ok (.iload_n 3, 1) := dLb_0.2.2.2.2.2.2.2.2.2.2.1
theorem dL_law_19 : decode cL_law 19 = .ok (.aload_n 0, 1) := dLb_0.2.2.2.2.2.2.2.2.2.2.2.1
theorem dL_law_20 : decode cL_law 20 = .ok (.arraylength, 1) := dLb_0.2.2.2.2.2.2.2.2.2.2.2.2.1
theorem dL_law_21 : decode cL_law 21 = .ok (.bipush 7, 2) := dLb_0.2.2.2.2.2.2.2.2.2.2.2.2.2.1
theorem dL_law_23 : decode cL_law 23 = .ok (.isub, 1) := dLb_0.2.2.2.2.2.2.2.2.2.2.2.2.2.2.1
theorem dL_law_24 : decode cL_law 24 = .ok (.if_icmp .gt 1327, 3) := dLb_0.2.2.2.2.2.2.2.2.2.2.2.2.2.2.2
theorem dLb_1 : (decode cL_law 27 = .ok (.aload_n 0, 1)) ∧ (decode cL_law 28 = .ok (.iload_n 3, 1)) ∧ (decode cL_law 29 = .ok (.iaload, 1)) ∧ (decode cL_law 30 = .ok (.bipush 31, 2)) ∧ (decode cL_law 32 = .ok (.iand, 1)) ∧ (decode cL_law 33 = .ok (.tableswitch 1312 0 29 #[135, 148, 211, 234, 319, 394, 417, 492, 525, 574, 607, 630, 643, 666, 689, 702, 715, 738, 781, 850, 899, 968, 1017, 1060, 1103, 1146, 1189, 1252, 1275, 1289], 135)) ∧ (decode cL_law 168 = .ok (.aload_n 1, 1)) ∧ (decode cL_law 169 = .ok (.invokevirtual 13, 3)) ∧ (decode cL_law 172 = .ok (.pop2, 1)) ∧ (decode cL_law 173 = .ok (.aload_n 2, 1)) ∧ (decode cL_law 174 = .ok (.invokevirtual 17, 3)) ∧ (decode cL_law 177 = .ok (.pop2, 1)) ∧ (decode cL_law 178 = .ok (.goto 1167, 3)) ∧ (decode cL_law 181 = .ok (.aload_n 1, 1)) ∧ (decode cL_law 182 = .ok (.aload_n 0, 1)) ∧ (decode cL_law 183 = .ok (.iload_n 3, 1)) := by decide +kernel
theorem dL_law_27 : decode cL_law 27 = .ok (.aload_n 0, 1) := dLb_1.1
theorem dL_law_28 : decode cL_law 28 = .ok (.iload_n 3, 1) := dLb_1.2.1
theorem dL_law_29 : decode cL_law 29 = .ok (.iaload, 1) := dLb_1.2.2.1
theorem dL_law_30 : decode cL_law 30 = .ok (.bipush 31, 2) := dLb_1.2.2.2.1
theorem dL_law_32 : decode cL_law 32 = .ok (.iand, 1) := dLb_1.2.2.2.2.1
theorem dL_law_33 : decode cL_law 33 = .ok (.tableswitch 1312 0 29 #[135, 148, 211, 234, 319, 394, 417, 492, 525, 574, 607, 630, 643, 666, 689, 702, 715, 738, 781, 850, 899, 968, 1017, 1060, 1103, 1146, 1189, 1252, 1275, 1289], 135) := dLb_1.2.2.2.2.2.1
theorem dL_law_168 : decode cL_law 168 = .ok (.aload_n 1, 1) := dLb_1.2.2.2.2.2.2.1
theorem dL_law_169 : decode cL_law 169 = .ok (.invokevirtual 13, 3) := dLb_1.2.2.2.2.2.2.2.1
theorem dL_law_172 : decode cL_law 172 = .ok (.pop2, 1) := dLb_1.2.2.2.2.2.2.2.2.1
theorem dL_law_173 : decode cL_law 173 = .ok (.aload_n 2, 1) := dLb_1.2.2.2.2.2.2.2.2.2.1
theorem dL_law_174 : decode cL_law 174 = .ok (.invokevirtual 17, 3) := dLb_1.2.2.2.2.2.2.2.2.2.2.1
theorem dL_law_177 : decode cL_law 177 = .ok (.pop2, 1) := dLb_1.2.2.2.2.2.2.2.2.2.2.2.1
theorem dL_law_178 : decode cL_law 178 = .ok (.goto 1167, 3) := dLb_1.2.2.2.2.2.2.2.2.2.2.2.2.1
theorem dL_law_181 : decode cL_law 181 = .ok (.aload_n 1, 1) := dLb_1.2.2.2.2.2.2.2.2.2.2.2.2.2.1
theorem dL_law_182 : decode cL_law 182 = .ok (.aload_n 0, 1) := dLb_1.2.2.2.2.2.2.2.2.2.2.2.2.2.2.1
theorem dL_law_183 : decode cL_law 183 = .ok (.iload_n 3, 1) := dLb_1.2.2.2.2.2.2.2.2.2.2.2.2.2.2.2
theorem dLb_2 : (decode cL_law 184 = .ok (.iconst 1, 1)) ∧ (decode cL_law 185 = .ok (.iadd, 1)) ∧ (decode cL_law 186 = .ok (.iaload, 1)) ∧ (decode cL_law 187 = .ok (.aload_n 0, 1)) ∧ (decode cL_law 188 = .ok (.iload_n 3, 1)) ∧ (decode cL_law 189 = .ok (.iconst 2, 1)) ∧ (decode cL_law 190 = .ok (.iadd, 1)) ∧ (decode cL_law 191 = .ok (.iaload, 1)) ∧ (decode cL_law 192 = .ok (.aload_n 0, 1)) ∧ (decode cL_law 193 = .ok (.iload_n 3, 1)) ∧ (decode cL_law 194 = .ok (.iconst 3, 1)) ∧ (decode cL_law 195 = .ok (.iadd, 1)) ∧ (decode cL_law 196 = .ok (.iaload, 1)) ∧ (decode cL_law 197 = .ok (.aload_n 0, 1)) ∧ (decode cL_law 198 = .ok (.iload_n 3, 1)) ∧ (decode cL_law 199 = .ok (.iconst 4, 1)) := by decide +kernel
theorem dL_law_184 : decode cL_law 184 = .ok (.iconst 1, 1) := dLb_2.1
theorem dL_law_185 : decode cL_law 185 = .ok (.iadd, 1) := dLb_2.2.1
theorem dL_law_186 : decode cL_law 186 = .ok (.iaload, 1) := dLb_2.2.2.1
theorem dL_law_187 : decode cL_law 187 = .ok (.aload_n 0, 1) := dLb_2.2.2.2.1
theorem dL_law_188 : decode cL_law 188 = .ok (.iload_n 3, 1) := dLb_2.2.2.2.2.1
theorem dL_law_189 : decode cL_law 189 = .ok (.iconst 2, 1) := dLb_2.2.2.2.2.2.1
theorem dL_law_190 : decode cL_law 190 = .ok (.iadd, 1) := dLb_2.2.2.2.2.2.2.1
theorem dL_law_191 : decode cL_law 191 = .ok (.iaload, 1) := dLb_2.2.2.2.2.2.2.2.1
theorem dL_law_192 : decode cL_law 192 = .ok (.aload_n 0, 1) := dLb_2.2.2.2.2.2.2.2.2.1
theorem dL_law_193 : decode cL_law 193 = .ok (.iload_n 3, 1) := dLb_2.2.2.2.2.2.2.2.2.2.1
theorem dL_law_194 : decode cL_law 194 = .ok (.iconst 3, 1) := dLb_2.2.2.2.2.2.2.2.2.2.2.1
theorem dL_law_195 : decode cL_law 195 = .ok (.iadd, 1) := dLb_2.2.2.2.2.2.2.2.2.2.2.2.1
theorem dL_law_196 : decode cL_law 196 = .ok (.iaload, 1) := dLb_2.2.2.2.2.2.2.2.2.2.2.2.2.1
theorem dL_law_197 : decode cL_law 197 = .ok (.aload_n 0, 1) := dLb_2.2.2.2.2.2.2.2.2.2.2.2.2.2.1
theorem dL_law_198 : decode cL_law 198 = .ok (.iload_n 3, 1) := dLb_2.2.2.2.2.2.2.2.2.2.2.2.2.2.2.1
theorem dL_law_199 : decode cL_law 199 = .ok (.iconst 4, 1) := dLb_2.2.2.2.2.2.2.2.2.2.2.2.2.2.2.2
theorem dLb_3 : (decode cL_law 200 = .ok (.iadd, 1)) ∧ (decode cL_law 201 = .ok (.iaload, 1)) ∧ (decode cL_law 202 = .ok (.aload_n 0, 1)) ∧ (decode cL_law 203 = .ok (.iload_n 3, 1)) ∧ (decode cL_law 204 = .ok (.iconst 5, 1)) ∧ (decode cL_law 205 = .ok (.iadd, 1)) ∧ (decode cL_law 206 = .ok (.iaload, 1)) ∧ (decode cL_law 207 = .ok (.invokevirtual 18, 3)) ∧ (decode cL_law 210 = .ok (.pop2, 1)) ∧ (decode cL_law 211 = .ok (.aload_n 2, 1)) ∧ (decode cL_law 212 = .ok (.aload_n 0, 1)) ∧ (decode cL_law 213 = .ok (.iload_n 3, 1)) ∧ (decode cL_law 214 = .ok (.iconst 1, 1)) ∧ (decode cL_law 215 = .ok (.iadd, 1)) ∧ (decode cL_law 216 = .ok (.iaload, 1)) ∧ (decode cL_law 217 = .ok (.aload_n 0, 1)) := by decide +kernel
theorem dL_law_200 : decode cL_law 200 = .ok (.iadd, 1) := dLb_3.1
theorem dL_law_201 : decode cL_law 201 = .ok (.iaload, 1) := dLb_3.2.1
theorem dL_law_202 : decode cL_law 202 = .ok (.aload_n 0, 1) := dLb_3.2.2.1
theorem dL_law_203 : decode cL_law 203 = .ok (.iload_n 3, 1) := dLb_3.2.2.2.1
theorem dL_law_204 : decode cL_law 204 = .ok (.iconst 5, 1) := dLb_3.2.2.2.2.1
theorem dL_law_205 : decode cL_law 205 = .ok (.iadd, 1) := dLb_3.2.2.2.2.2.1
theorem dL_law_206 : decode cL_law 206 = .ok (.iaload, 1) := dLb_3.2.2.2.2.2.2.1
theorem dL_law_207 : decode cL_law 207 = .ok (.invokevirtual 18, 3) := dLb_3.2.2.2.2.2.2.2.1
theorem dL_law_210 : decode cL_law 210 = .ok (.pop2, 1) := dLb_3.2.2.2.2.2.2.2.2.1
theorem dL_law_211 : decode cL_law 211 = .ok (.aload_n 2, 1) := dLb_3.2.2.2.2.2.2.2.2.2.1
theorem dL_law_212 : decode cL_law 212 = .ok (.aload_n 0, 1) := dLb_3.2.2.2.2.2.2.2.2.2.2.1
theorem dL_law_213 : decode cL_law 213 = .ok (.iload_n 3, 1) := dLb_3.2.2.2.2.2.2.2.2.2.2.2.1
theorem dL_law_214 : decode cL_law 214 = .ok (.iconst 1, 1) := dLb_3.2.2.2.2.2.2.2.2.2.2.2.2.1
theorem dL_law_215 : decode cL_law 215 = .ok (.iadd, 1) := dLb_3.2.2.2.2.2.2.2.2.2.2.2.2.2.1
theorem dL_law_216 : decode cL_law 216 = .ok (.iaload, 1) := dLb_3.2.2.2.2.2.2.2.2.2.2.2.2.2.2.1
theorem dL_law_217 : decode cL_law 217 = .ok (.aload_n 0, 1) := dLb_3.2.2.2.2.2.2.2.2.2.2.2.2.2.2.2
theorem dLb_4 : (decode cL_law 218 = .ok (.iload_n 3, 1)) ∧ (decode cL_law 219 = .ok (.iconst 2, 1)) ∧ (decode cL_law 220 = .ok (.iadd, 1)) ∧ (decode cL_law 221 = .ok (.iaload, 1)) ∧ (decode cL_law 222 = .ok (.aload_n 0, 1)) ∧ (decode cL_law 223 = .ok (.iload_n 3, 1)) ∧ (decode cL_law 224 = .ok (.iconst 3, 1)) ∧ (decode cL_law 225 = .ok (.iadd, 1)) ∧ (decode cL_law 226 = .ok (.iaload, 1)) ∧ (decode cL_law 227 = .ok (.aload_n 0, 1)) ∧ (decode cL_law 228 = .ok (.iload_n 3, 1)) ∧ (decode cL_law 229 = .ok (.iconst 4, 1)) ∧ (decode cL_law 230 = .ok (.iadd, 1)) ∧ (decode cL_law 231 = .ok (.iaload, 1)) ∧ (decode cL_law 232 = .ok (.aload_n 0, 1)) ∧ (decode cL_law 233 = .ok (.iload_n 3, 1)) := by decide +kernel
theorem dL_law_218 : decode cL_law 218 = .ok (.iload_n 3, 1) := dLb_4.1
theorem dL_law_219 : decode cL_law 219 = .ok (.iconst 2, 1) := dLb_4.2.1
theorem dL_law_220 : decode cL_law 220 = .ok (.iadd, 1) := dLb_4.2.2.1
theorem dL_law_221 : decode cL_law 221 = .ok (.iaload, 1) := dLb_4.2.2.2.1
theorem dL_law_222 : decode cL_law 222 = .ok (.aload_n 0, 1) := dLb_4.2.2.2.2.1
theorem dL_law_223 : decode cL_law 223 = .ok (.iload_n 3, 1) := dLb_4.2.2.2.2.2.1
theorem dL_law_224 : decode cL_law 224 = .ok (.iconst 3, 1) := dLb_4.2.2.2.2.2.2.1
theorem dL_law_225 : decode cL_law 225 = .ok (.iadd, 1) := dLb_4.2.2.2.2.2.2.2.1
theorem dL_law_226 : decode cL_law 226 = .ok (.iaload, 1) := dLb_4.2.2.2.2.2.2.2.2.1
theorem dL_law_227 : decode cL_law 227 = .ok (.aload_n 0, 1) := dLb_4.2.2.2.2.2.2.2.2.2.1
theorem dL_law_228 : decode cL_law 228 = .ok (.iload_n 3, 1) := dLb_4.2.2.2.2.2.2.2.2.2.2.1
theorem dL_law_229 : decode cL_law 229 = .ok (.iconst 4, 1) := dLb_4.2.2.2.2.2.2.2.2.2.2.2.1
theorem dL_law_230 : decode cL_law 230 = .ok (.iadd, 1) := dLb_4.2.2.2.2.2.2.2.2.2.2.2.2.1
theorem dL_law_231 : decode cL_law 231 = .ok (.iaload, 1) := dLb_4.2.2.2.2.2.2.2.2.2.2.2.2.2.1
theorem dL_law_232 : decode cL_law 232 = .ok (.aload_n 0, 1) := dLb_4.2.2.2.2.2.2.2.2.2.2.2.2.2.2.1
theorem dL_law_233 : decode cL_law 233 = .ok (.iload_n 3, 1) := dLb_4.2.2.2.2.2.2.2.2.2.2.2.2.2.2.2
theorem dLb_5 : (decode cL_law 234 = .ok (.iconst 5, 1)) ∧ (decode cL_law 235 = .ok (.iadd, 1)) ∧ (decode cL_law 236 = .ok (.iaload, 1)) ∧ (decode cL_law 237 = .ok (.invokevirtual 22, 3)) ∧ (decode cL_law 240 = .ok (.pop2, 1)) ∧ (decode cL_law 241 = .ok (.goto 1104, 3)) ∧ (decode cL_law 244 = .ok (.aload_n 1, 1)) ∧ (decode cL_law 245 = .ok (.aload_n 0, 1)) ∧ (decode cL_law 246 = .ok (.iload_n 3, 1)) ∧ (decode cL_law 247 = .ok (.iconst 1, 1)) ∧ (decode cL_law 248 = .ok (.iadd, 1)) ∧ (decode cL_law 249 = .ok (.iaload, 1)) ∧ (decode cL_law 250 = .ok (.invokevirtual 23, 3)) ∧ (decode cL_law 253 = .ok (.pop2, 1)) ∧ (decode cL_law 254 = .ok (.aload_n 2, 1)) ∧ (decode cL_law 255 = .ok (.aload_n 0, 1)) := by decide +kernel
theorem dL_law_234 : decode cL_law 234 = .ok (.iconst 5, 1) := dLb_5.1
theorem dL_law_235 : decode cL_law 235 = .ok (.iadd, 1) := dLb_5.2.1
theorem dL_law_236 : decode cL_law 236 = .ok (.iaload, 1) := dLb_5.2.2.1
theorem dL_law_237 : decode cL_law 237 = .ok (.invokevirtual 22, 3) := dLb_5.2.2.2.1
theorem dL_law_240 : decode cL_law 240 = .ok (.pop2, 1) := dLb_5.2.2.2.2.1
theorem dL_law_241 : decode cL_law 241 = .ok (.goto 1104, 3) := dLb_5.2.2.2.2.2.1
theorem dL_law_244 : decode cL_law 244 = .ok (.aload_n 1, 1) := dLb_5.2.2.2.2.2.2.1
theorem dL_law_245 : decode cL_law 245 = .ok (.aload_n 0, 1) := dLb_5.2.2.2.2.2.2.2.1
theorem dL_law_246 : decode cL_law 246 = .ok (.iload_n 3, 1) := dLb_5.2.2.2.2.2.2.2.2.1
theorem dL_law_247 : decode cL_law 247 = .ok (.iconst 1, 1) := dLb_5.2.2.2.2.2.2.2.2.2.1
theorem dL_law_248 : decode cL_law 248 = .ok (.iadd, 1) := dLb_5.2.2.2.2.2.2.2.2.2.2.1
theorem dL_law_249 : decode cL_law 249 = .ok (.iaload, 1) := dLb_5.2.2.2.2.2.2.2.2.2.2.2.1
theorem dL_law_250 : decode cL_law 250 = .ok (.invokevirtual 23, 3) := dLb_5.2.2.2.2.2.2.2.2.2.2.2.2.1
theorem dL_law_253 : decode cL_law 253 = .ok (.pop2, 1) := dLb_5.2.2.2.2.2.2.2.2.2.2.2.2.2.1
theorem dL_law_254 : decode cL_law 254 = .ok (.aload_n 2, 1) := dLb_5.2.2.2.2.2.2.2.2.2.2.2.2.2.2.1
theorem dL_law_255 : decode cL_law 255 = .ok (.aload_n 0, 1) := dLb_5.2.2.2.2.2.2.2.2.2.2.2.2.2.2.2
theorem dLb_6 : (decode cL_law 256 = .ok (.iload_n 3, 1)) ∧ (decode cL_law 257 = .ok (.iconst 1, 1)) ∧ (decode cL_law 258 = .ok (.iadd, 1)) ∧ (decode cL_law 259 = .ok (.iaload, 1)) ∧ (decode cL_law 260 = .ok (.invokevirtual 27, 3)) ∧ (decode cL_law 263 = .ok (.pop2, 1)) ∧ (decode cL_law 264 = .ok (.goto 1081, 3)) ∧ (decode cL_law 267 = .ok (.aload_n 1, 1)) ∧ (decode cL_law 268 = .ok (.aload_n 0, 1)) ∧ (decode cL_law 269 = .ok (.iload_n 3, 1)) ∧ (decode cL_law 270 = .ok (.iconst 1, 1)) ∧ (decode cL_law 271 = .ok (.iadd, 1)) ∧ (decode cL_law 272 = .ok (.iaload, 1)) ∧ (decode cL_law 273 = .ok (.aload_n 0, 1)) ∧ (decode cL_law 274 = .ok (.iload_n 3, 1)) ∧ (decode cL_law 275 = .ok (.iconst 2, 1)) := by decide +kernel
theorem dL_law_256 : decode cL_law 256 = .ok (.iload_n 3, 1) := dLb_6.1
theorem dL_law_257 : decode cL_law 257 = .ok (.iconst 1, 1) := dLb_6.2.1
theorem dL_law_258 : decode cL_law 258 = .ok (.iadd, 1) := dLb_6.2.2.1
theorem dL_law_259 : decode cL_law 259 = .ok (.iaload, 1) := dLb_6.2.2.2.1
theorem dL_law_260 : decode cL_law 260 = .ok (.invokevirtual 27, 3) := dLb_6.2.2.2.2.1
theorem dL_law_263 : decode cL_law 263 = .ok (.pop2, 1) := dLb_6.2.2.2.2.2.1
theorem dL_law_264 : decode cL_law 264 = .ok (.goto 1081, 3) := dLb_6.2.2.2.2.2.2.1
theorem dL_law_267 : decode cL_law 267 = .ok (.aload_n 1, 1) := dLb_6.2.2.2.2.2.2.2.1
theorem dL_law_268 : decode cL_law 268 = .ok (.aload_n 0, 1) := dLb_6.2.2.2.2.2.2.2.2.1
theorem dL_law_269 : decode cL_law 269 = .ok (.iload_n 3, 1) := dLb_6.2.2.2.2.2.2.2.2.2.1
theorem dL_law_270 : decode cL_law 270 = .ok (.iconst 1, 1) := dLb_6.2.2.2.2.2.2.2.2.2.2.1
theorem dL_law_271 : decode cL_law 271 = .ok (.iadd, 1) := dLb_6.2.2.2.2.2.2.2.2.2.2.2.1
theorem dL_law_272 : decode cL_law 272 = .ok (.iaload, 1) := dLb_6.2.2.2.2.2.2.2.2.2.2.2.2.1
theorem dL_law_273 : decode cL_law 273 = .ok (.aload_n 0, 1) := dLb_6.2.2.2.2.2.2.2.2.2.2.2.2.2.1
theorem dL_law_274 : decode cL_law 274 = .ok (.iload_n 3, 1) := dLb_6.2.2.2.2.2.2.2.2.2.2.2.2.2.2.1
theorem dL_law_275 : decode cL_law 275 = .ok (.iconst 2, 1) := dLb_6.2.2.2.2.2.2.2.2.2.2.2.2.2.2.2
theorem dLb_7 : (decode cL_law 276 = .ok (.iadd, 1)) ∧ (decode cL_law 277 = .ok (.iaload, 1)) ∧ (decode cL_law 278 = .ok (.ifCond .eq 7, 3)) ∧ (decode cL_law 281 = .ok (.iconst 1, 1)) ∧ (decode cL_law 282 = .ok (.goto 4, 3)) ∧ (decode cL_law 285 = .ok (.iconst 0, 1)) ∧ (decode cL_law 286 = .ok (.aload_n 0, 1)) ∧ (decode cL_law 287 = .ok (.iload_n 3, 1)) ∧ (decode cL_law 288 = .ok (.iconst 3, 1)) ∧ (decode cL_law 289 = .ok (.iadd, 1)) ∧ (decode cL_law 290 = .ok (.iaload, 1)) ∧ (decode cL_law 291 = .ok (.aload_n 0, 1)) ∧ (decode cL_law 292 = .ok (.iload_n 3, 1)) ∧ (decode cL_law 293 = .ok (.iconst 4, 1)) ∧ (decode cL_law 294 = .ok (.iadd, 1)) ∧ (decode cL_law 295 = .ok (.iaload, 1)) := by decide +kernel
theorem dL_law_276 : decode cL_law 276 = .ok (.iadd, 1) := dLb_7.1
theorem dL_law_277 : decode cL_law 277 = .ok (.iaload, 1) := dLb_7.2.1
theorem dL_law_278 : decode cL_law 278 = .ok (.ifCond .eq 7, 3) := dLb_7.2.2.1
theorem dL_law_281 : decode cL_law 281 = .ok (.iconst 1, 1) := dLb_7.2.2.2.1
theorem dL_law_282 : decode cL_law 282 = .ok (.goto 4, 3) := dLb_7.2.2.2.2.1
theorem dL_law_285 : decode cL_law 285 = .ok (.iconst 0, 1) := dLb_7.2.2.2.2.2.1
theorem dL_law_286 : decode cL_law 286 = .ok (.aload_n 0, 1) := dLb_7.2.2.2.2.2.2.1
theorem dL_law_287 : decode cL_law 287 = .ok (.iload_n 3, 1) := dLb_7.2.2.2.2.2.2.2.1
theorem dL_law_288 : decode cL_law 288 = .ok (.iconst 3, 1) := dLb_7.2.2.2.2.2.2.2.2.1
theorem dL_law_289 : decode cL_law 289 = .ok (.iadd, 1) := dLb_7.2.2.2.2.2.2.2.2.2.1
theorem dL_law_290 : decode cL_law 290 = .ok (.iaload, 1) := dLb_7.2.2.2.2.2.2.2.2.2.2.1
theorem dL_law_291 : decode cL_law 291 = .ok (.aload_n 0, 1) := dLb_7.2.2.2.2.2.2.2.2.2.2.2.1
theorem dL_law_292 : decode cL_law 292 = .ok (.iload_n 3, 1) := dLb_7.2.2.2.2.2.2.2.2.2.2.2.2.1
theorem dL_law_293 : decode cL_law 293 = .ok (.iconst 4, 1) := dLb_7.2.2.2.2.2.2.2.2.2.2.2.2.2.1
theorem dL_law_294 : decode cL_law 294 = .ok (.iadd, 1) := dLb_7.2.2.2.2.2.2.2.2.2.2.2.2.2.2.1
theorem dL_law_295 : decode cL_law 295 = .ok (.iaload, 1) := dLb_7.2.2.2.2.2.2.2.2.2.2.2.2.2.2.2
theorem dLb_8 : (decode cL_law 296 = .ok (.ifCond .eq 7, 3)) ∧ (decode cL_law 299 = .ok (.iconst 1, 1)) ∧ (decode cL_law 300 = .ok (.goto 4, 3)) ∧ (decode cL_law 303 = .ok (.iconst 0, 1)) ∧ (decode cL_law 304 = .ok (.invokevirtual 28, 3)) ∧ (decode cL_law 307 = .ok (.pop2, 1)) ∧ (decode cL_law 308 = .ok (.aload_n 2, 1)) ∧ (decode cL_law 309 = .ok (.aload_n 0, 1)) ∧ (decode cL_law 310 = .ok (.iload_n 3, 1)) ∧ (decode cL_law 311 = .ok (.iconst 1, 1)) ∧ (decode cL_law 312 = .ok (.iadd, 1)) ∧ (decode cL_law 313 = .ok (.iaload, 1)) ∧ (decode cL_law 314 = .ok (.aload_n 0, 1)) ∧ (decode cL_law 315 = .ok (.iload_n 3, 1)) ∧ (decode cL_law 316 = .ok (.iconst 2, 1)) ∧ (decode cL_law 317 = .ok (.iadd, 1)) := by decide +kernel
theorem dL_law_296 : decode cL_law 296 = .ok (.ifCond .eq 7, 3) := dLb_8.1
theorem dL_law_299 : decode cL_law 299 = .ok (.iconst 1, 1) := dLb_8.2.1
theorem dL_law_300 : decode cL_law 300 = .ok (.goto 4, 3) := dLb_8.2.2.1
theorem dL_law_303 : decode cL_law 303 = .ok (.iconst 0, 1) := dLb_8.2.2.2.1
theorem dL_law_304 : decode cL_law 304 = .ok (.invokevirtual 28, 3) := dLb_8.2.2.2.2.1
theorem dL_law_307 : decode cL_law 307 = .ok (.pop2, 1) := dLb_8.2.2.2.2.2.1
theorem dL_law_308 : decode cL_law 308 = .ok (.aload_n 2, 1) := dLb_8.2.2.2.2.2.2.1
theorem dL_law_309 : decode cL_law 309 = .ok (.aload_n 0, 1) := dLb_8.2.2.2.2.2.2.2.1
theorem dL_law_310 : decode cL_law 310 = .ok (.iload_n 3, 1) := dLb_8.2.2.2.2.2.2.2.2.1
theorem dL_law_311 : decode cL_law 311 = .ok (.iconst 1, 1) := dLb_8.2.2.2.2.2.2.2.2.2.1
theorem dL_law_312 : decode cL_law 312 = .ok (.iadd, 1) := dLb_8.2.2.2.2.2.2.2.2.2.2.1
theorem dL_law_313 : decode cL_law 313 = .ok (.iaload, 1) := dLb_8.2.2.2.2.2.2.2.2.2.2.2.1
theorem dL_law_314 : decode cL_law 314 = .ok (.aload_n 0, 1) := dLb_8.2.2.2.2.2.2.2.2.2.2.2.2.1
theorem dL_law_315 : decode cL_law 315 = .ok (.iload_n 3, 1) := dLb_8.2.2.2.2.2.2.2.2.2.2.2.2.2.1
theorem dL_law_316 : decode cL_law 316 = .ok (.iconst 2, 1) := dLb_8.2.2.2.2.2.2.2.2.2.2.2.2.2.2.1
theorem dL_law_317 : decode cL_law 317 = .ok (.iadd, 1) := dLb_8.2.2.2.2.2.2.2.2.2.2.2.2.2.2.2
theorem dLb_9 : (decode cL_law 318 = .ok (.iaload, 1)) ∧ (decode cL_law 319 = .ok (.ifCond .eq 7, 3)) ∧ (decode cL_law 322 = .ok (.iconst 1, 1)) ∧ (decode cL_law 323 = .ok (.goto 4, 3)) ∧ (decode cL_law 326 = .ok (.iconst 0, 1)) ∧ (decode cL_law 327 = .ok (.aload_n 0, 1)) ∧ (decode cL_law 328 = .ok (.iload_n 3, 1)) ∧ (decode cL_law 329 = .ok (.iconst 3, 1)) ∧ (decode cL_law 330 = .ok (.iadd, 1)) ∧ (decode cL_law 331 = .ok (.iaload, 1)) ∧ (decode cL_law 332 = .ok (.aload_n 0, 1)) ∧ (decode cL_law 333 = .ok (.iload_n 3, 1)) ∧ (decode cL_law 334 = .ok (.iconst 4, 1)) ∧ (decode cL_law 335 = .ok (.iadd, 1)) ∧ (decode cL_law 336 = .ok (.iaload, 1)) ∧ (decode cL_law 337 = .ok (.ifCond .eq 7, 3)) := by decide +kernel
theorem dL_law_318 : decode cL_law 318 = .ok (.iaload, 1) := dLb_9.1
theorem dL_law_319 : decode cL_law 319 = .ok (.ifCond .eq 7, 3) := dLb_9.2.1
theorem dL_law_322 : decode cL_law 322 = .ok (.iconst 1, 1) := dLb_9.2.2.1
theorem dL_law_323 : decode cL_law 323 = .ok (.goto 4, 3) := dLb_9.2.2.2.1
theorem dL_law_326 : decode cL_law 326 = .ok (.iconst 0, 1) := dLb_9.2.2.2.2.1
theorem dL_law_327 : decode cL_law 327 = .ok (.aload_n 0, 1) := dLb_9.2.2.2.2.2.1
theorem dL_law_328 : decode cL_law 328 = .ok (.iload_n 3, 1) := dLb_9.2.2.2.2.2.2.1
theorem dL_law_329 : decode cL_law 329 = .ok (.iconst 3, 1) := dLb_9.2.2.2.2.2.2.2.1
theorem dL_law_330 : decode cL_law 330 = .ok (.iadd, 1) := dLb_9.2.2.2.2.2.2.2.2.1
theorem dL_law_331 : decode cL_law 331 = .ok (.iaload, 1) := dLb_9.2.2.2.2.2.2.2.2.2.1
theorem dL_law_332 : decode cL_law 332 = .ok (.aload_n 0, 1) := dLb_9.2.2.2.2.2.2.2.2.2.2.1
theorem dL_law_333 : decode cL_law 333 = .ok (.iload_n 3, 1) := dLb_9.2.2.2.2.2.2.2.2.2.2.2.1
theorem dL_law_334 : decode cL_law 334 = .ok (.iconst 4, 1) := dLb_9.2.2.2.2.2.2.2.2.2.2.2.2.1
theorem dL_law_335 : decode cL_law 335 = .ok (.iadd, 1) := dLb_9.2.2.2.2.2.2.2.2.2.2.2.2.2.1
theorem dL_law_336 : decode cL_law 336 = .ok (.iaload, 1) := dLb_9.2.2.2.2.2.2.2.2.2.2.2.2.2.2.1
theorem dL_law_337 : decode cL_law 337 = .ok (.ifCond .eq 7, 3) := dLb_9.2.2.2.2.2.2.2.2.2.2.2.2.2.2.2
theorem dLb_10 : (decode cL_law 340 = .ok (.iconst 1, 1)) ∧ (decode cL_law 341 = .ok (.goto 4, 3)) ∧ (decode cL_law 344 = .ok (.iconst 0, 1)) ∧ (decode cL_law 345 = .ok (.invokevirtual 32, 3)) ∧ (decode cL_law 348 = .ok (.pop2, 1)) ∧ (decode cL_law 349 = .ok (.goto 996, 3)) ∧ (decode cL_law 352 = .ok (.aload_n 1, 1)) ∧ (decode cL_law 353 = .ok (.aload_n 0, 1)) ∧ (decode cL_law 354 = .ok (.iload_n 3, 1)) ∧ (decode cL_law 355 = .ok (.iconst 1, 1)) ∧ (decode cL_law 356 = .ok (.iadd, 1)) ∧ (decode cL_law 357 = .ok (.iaload, 1)) ∧ (decode cL_law 358 = .ok (.aload_n 0, 1)) ∧ (decode cL_law 359 = .ok (.iload_n 3, 1)) ∧ (decode cL_law 360 = .ok (.iconst 2, 1)) ∧ (decode cL_law 361 = .ok (.iadd, 1)) := by decide +kernel
theorem dL_law_340 : decode cL_law 340 = .ok (.iconst 1, 1) := dLb_10.1
theorem dL_law_341 : decode cL_law 341 = .ok (.goto 4, 3) := dLb_10.2.1
theorem dL_law_344 : decode cL_law 344 = .ok (.iconst 0, 1) := dLb_10.2.2.1
theorem dL_law_345 : decode cL_law 345 = .ok (.invokevirtual 32, 3) := dLb_10.2.2.2.1
theorem dL_law_348 : decode cL_law 348 = .ok (.pop2, 1) := dLb_10.2.2.2.2.1
theorem dL_law_349 : decode cL_law 349 = .ok (.goto 996, 3) := dLb_10.2.2.2.2.2.1
theorem dL_law_352 : decode cL_law 352 = .ok (.aload_n 1, 1) := dLb_10.2.2.2.2.2.2.1
theorem dL_law_353 : decode cL_law 353 = .ok (.aload_n 0, 1) := dLb_10.2.2.2.2.2.2.2.1
theorem dL_law_354 : decode cL_law 354 = .ok (.iload_n 3, 1) := dLb_10.2.2.2.2.2.2.2.2.1
theorem dL_law_355 : decode cL_law 355 = .ok (.iconst 1, 1) := dLb_10.2.2.2.2.2.2.2.2.2.1
theorem dL_law_356 : decode cL_law 356 = .ok (.iadd, 1) := dLb_10.2.2.2.2.2.2.2.2.2.2.1
theorem dL_law_357 : decode cL_law 357 = .ok (.iaload, 1) := dLb_10.2.2.2.2.2.2.2.2.2.2.2.1
theorem dL_law_358 : decode cL_law 358 = .ok (.aload_n 0, 1) := dLb_10.2.2.2.2.2.2.2.2.2.2.2.2.1
theorem dL_law_359 : decode cL_law 359 = .ok (.iload_n 3, 1) := dLb_10.2.2.2.2.2.2.2.2.2.2.2.2.2.1
theorem dL_law_360 : decode cL_law 360 = .ok (.iconst 2, 1) := dLb_10.2.2.2.2.2.2.2.2.2.2.2.2.2.2.1
theorem dL_law_361 : decode cL_law 361 = .ok (.iadd, 1) := dLb_10.2.2.2.2.2.2.2.2.2.2.2.2.2.2.2
theorem dLb_11 : (decode cL_law 362 = .ok (.iaload, 1)) ∧ (decode cL_law 363 = .ok (.ifCond .eq 7, 3)) ∧ (decode cL_law 366 = .ok (.iconst 1, 1)) ∧ (decode cL_law 367 = .ok (.goto 4, 3)) ∧ (decode cL_law 370 = .ok (.iconst 0, 1)) ∧ (decode cL_law 371 = .ok (.aload_n 0, 1)) ∧ (decode cL_law 372 = .ok (.iload_n 3, 1)) ∧ (decode cL_law 373 = .ok (.iconst 3, 1)) ∧ (decode cL_law 374 = .ok (.iadd, 1)) ∧ (decode cL_law 375 = .ok (.iaload, 1)) ∧ (decode cL_law 376 = .ok (.ifCond .eq 7, 3)) ∧ (decode cL_law 379 = .ok (.iconst 1, 1)) ∧ (decode cL_law 380 = .ok (.goto 4, 3)) ∧ (decode cL_law 383 = .ok (.iconst 0, 1)) ∧ (decode cL_law 384 = .ok (.invokevirtual 33, 3)) ∧ (decode cL_law 387 = .ok (.pop2, 1)) := by decide +kernel
theorem dL_law_362 : decode cL_law 362 = .ok (.iaload, 1) := dLb_11.1
theorem dL_law_363 : decode cL_law 363 = .ok (.ifCond .eq 7, 3) := dLb_11.2.1
theorem dL_law_366 : decode cL_law 366 = .ok (.iconst 1, 1) := dLb_11.2.2.1
theorem dL_law_367 : decode cL_law 367 = .ok (.goto 4, 3) := dLb_11.2.2.2.1
theorem dL_law_370 : decode cL_law 370 = .ok (.iconst 0, 1) := dLb_11.2.2.2.2.1
theorem dL_law_371 : decode cL_law 371 = .ok (.aload_n 0, 1) := dLb_11.2.2.2.2.2.1
theorem dL_law_372 : decode cL_law 372 = .ok (.iload_n 3, 1) := dLb_11.2.2.2.2.2.2.1
theorem dL_law_373 : decode cL_law 373 = .ok (.iconst 3, 1) := dLb_11.2.2.2.2.2.2.2.1
theorem dL_law_374 : decode cL_law 374 = .ok (.iadd, 1) := dLb_11.2.2.2.2.2.2.2.2.1
theorem dL_law_375 : decode cL_law 375 = .ok (.iaload, 1) := dLb_11.2.2.2.2.2.2.2.2.2.1
theorem dL_law_376 : decode cL_law 376 = .ok (.ifCond .eq 7, 3) := dLb_11.2.2.2.2.2.2.2.2.2.2.1
theorem dL_law_379 : decode cL_law 379 = .ok (.iconst 1, 1) := dLb_11.2.2.2.2.2.2.2.2.2.2.2.1
theorem dL_law_380 : decode cL_law 380 = .ok (.goto 4, 3) := dLb_11.2.2.2.2.2.2.2.2.2.2.2.2.1
theorem dL_law_383 : decode cL_law 383 = .ok (.iconst 0, 1) := dLb_11.2.2.2.2.2.2.2.2.2.2.2.2.2.1
theorem dL_law_384 : decode cL_law 384 = .ok (.invokevirtual 33, 3) := dLb_11.2.2.2.2.2.2.2.2.2.2.2.2.2.2.1
theorem dL_law_387 : decode cL_law 387 = .ok (.pop2, 1) := dLb_11.2.2.2.2.2.2.2.2.2.2.2.2.2.2.2
theorem dLb_12 : (decode cL_law 388 = .ok (.aload_n 2, 1)) ∧ (decode cL_law 389 = .ok (.aload_n 0, 1)) ∧ (decode cL_law 390 = .ok (.iload_n 3, 1)) ∧ (decode cL_law 391 = .ok (.iconst 1, 1)) ∧ (decode cL_law 392 = .ok (.iadd, 1)) ∧ (decode cL_law 393 = .ok (.iaload, 1)) ∧ (decode cL_law 394 = .ok (.aload_n 0, 1)) ∧ (decode cL_law 395 = .ok (.iload_n 3, 1)) ∧ (decode cL_law 396 = .ok (.iconst 2, 1)) ∧ (decode cL_law 397 = .ok (.iadd, 1)) ∧ (decode cL_law 398 = .ok (.iaload, 1)) ∧ (decode cL_law 399 = .ok (.ifCond .eq 7, 3)) ∧ (decode cL_law 402 = .ok (.iconst 1, 1)) ∧ (decode cL_law 403 = .ok (.goto 4, 3)) ∧ (decode cL_law 406 = .ok (.iconst 0, 1)) ∧ (decode cL_law 407 = .ok (.aload_n 0, 1)) := by decide +kernel
theorem dL_law_388 : decode cL_law 388 = .ok (.aload_n 2, 1) := dLb_12.1
theorem dL_law_389 : decode cL_law 389 = .ok (.aload_n 0, 1) := dLb_12.2.1
theorem dL_law_390 : decode cL_law 390 = .ok (.iload_n 3, 1) := dLb_12.2.2.1
theorem dL_law_391 : decode cL_law 391 = .ok (.iconst 1, 1) := dLb_12.2.2.2.1
theorem dL_law_392 : decode cL_law 392 = .ok (.iadd, 1) := dLb_12.2.2.2.2.1
theorem dL_law_393 : decode cL_law 393 = .ok (.iaload, 1) := dLb_12.2.2.2.2.2.1
theorem dL_law_394 : decode cL_law 394 = .ok (.aload_n 0, 1) := dLb_12.2.2.2.2.2.2.1
theorem dL_law_395 : decode cL_law 395 = .ok (.iload_n 3, 1) := dLb_12.2.2.2.2.2.2.2.1
theorem dL_law_396 : decode cL_law 396 = .ok (.iconst 2, 1) := dLb_12.2.2.2.2.2.2.2.2.1
theorem dL_law_397 : decode cL_law 397 = .ok (.iadd, 1) := dLb_12.2.2.2.2.2.2.2.2.2.1
theorem dL_law_398 : decode cL_law 398 = .ok (.iaload, 1) := dLb_12.2.2.2.2.2.2.2.2.2.2.1
theorem dL_law_399 : decode cL_law 399 = .ok (.ifCond .eq 7, 3) := dLb_12.2.2.2.2.2.2.2.2.2.2.2.1
theorem dL_law_402 : decode cL_law 402 = .ok (.iconst 1, 1) := dLb_12.2.2.2.2.2.2.2.2.2.2.2.2.1
theorem dL_law_403 : decode cL_law 403 = .ok (.goto 4, 3) := dLb_12.2.2.2.2.2.2.2.2.2.2.2.2.2.1
theorem dL_law_406 : decode cL_law 406 = .ok (.iconst 0, 1) := dLb_12.2.2.2.2.2.2.2.2.2.2.2.2.2.2.1
theorem dL_law_407 : decode cL_law 407 = .ok (.aload_n 0, 1) := dLb_12.2.2.2.2.2.2.2.2.2.2.2.2.2.2.2
theorem dLb_13 : (decode cL_law 408 = .ok (.iload_n 3, 1)) ∧ (decode cL_law 409 = .ok (.iconst 3, 1)) ∧ (decode cL_law 410 = .ok (.iadd, 1)) ∧ (decode cL_law 411 = .ok (.iaload, 1)) ∧ (decode cL_law 412 = .ok (.ifCond .eq 7, 3)) ∧ (decode cL_law 415 = .ok (.iconst 1, 1)) ∧ (decode cL_law 416 = .ok (.goto 4, 3)) ∧ (decode cL_law 419 = .ok (.iconst 0, 1)) ∧ (decode cL_law 420 = .ok (.invokevirtual 37, 3)) ∧ (decode cL_law 423 = .ok (.pop2, 1)) ∧ (decode cL_law 424 = .ok (.goto 921, 3)) ∧ (decode cL_law 427 = .ok (.aload_n 1, 1)) ∧ (decode cL_law 428 = .ok (.aload_n 0, 1)) ∧ (decode cL_law 429 = .ok (.iload_n 3, 1)) ∧ (decode cL_law 430 = .ok (.iconst 1, 1)) ∧ (decode cL_law 431 = .ok (.iadd, 1)) := by decide +kernel
theorem dL_law_408 : decode cL_law 408 = .ok (.iload_n 3, 1) := dLb_13.1
theorem dL_law_409 : decode cL_law 409 = .ok (.iconst 3, 1) := dLb_13.2.1
theorem dL_law_410 : decode cL_law 410 = .ok (.iadd, 1) := dLb_13.2.2.1
theorem dL_law_411 : decode cL_law 411 = .ok (.iaload, 1) := dLb_13.2.2.2.1
theorem dL_law_412 : decode cL_law 412 = .ok (.ifCond .eq 7, 3) := dLb_13.2.2.2.2.1
theorem dL_law_415 : decode cL_law 415 = .ok (.iconst 1, 1) := dLb_13.2.2.2.2.2.1
theorem dL_law_416 : decode cL_law 416 = .ok (.goto 4, 3) := dLb_13.2.2.2.2.2.2.1
theorem dL_law_419 : decode cL_law 419 = .ok (.iconst 0, 1) := dLb_13.2.2.2.2.2.2.2.1
theorem dL_law_420 : decode cL_law 420 = .ok (.invokevirtual 37, 3) := dLb_13.2.2.2.2.2.2.2.2.1
theorem dL_law_423 : decode cL_law 423 = .ok (.pop2, 1) := dLb_13.2.2.2.2.2.2.2.2.2.1
theorem dL_law_424 : decode cL_law 424 = .ok (.goto 921, 3) := dLb_13.2.2.2.2.2.2.2.2.2.2.1
theorem dL_law_427 : decode cL_law 427 = .ok (.aload_n 1, 1) := dLb_13.2.2.2.2.2.2.2.2.2.2.2.1
theorem dL_law_428 : decode cL_law 428 = .ok (.aload_n 0, 1) := dLb_13.2.2.2.2.2.2.2.2.2.2.2.2.1
theorem dL_law_429 : decode cL_law 429 = .ok (.iload_n 3, 1) := dLb_13.2.2.2.2.2.2.2.2.2.2.2.2.2.1
theorem dL_law_430 : decode cL_law 430 = .ok (.iconst 1, 1) := dLb_13.2.2.2.2.2.2.2.2.2.2.2.2.2.2.1
theorem dL_law_431 : decode cL_law 431 = .ok (.iadd, 1) := dLb_13.2.2.2.2.2.2.2.2.2.2.2.2.2.2.2
theorem dLb_14 : (decode cL_law 432 = .ok (.iaload, 1)) ∧ (decode cL_law 433 = .ok (.invokevirtual 38, 3)) ∧ (decode cL_law 436 = .ok (.pop2, 1)) ∧ (decode cL_law 437 = .ok (.aload_n 2, 1)) ∧ (decode cL_law 438 = .ok (.aload_n 0, 1)) ∧ (decode cL_law 439 = .ok (.iload_n 3, 1)) ∧ (decode cL_law 440 = .ok (.iconst 1, 1)) ∧ (decode cL_law 441 = .ok (.iadd, 1)) ∧ (decode cL_law 442 = .ok (.iaload, 1)) ∧ (decode cL_law 443 = .ok (.invokevirtual 41, 3)) ∧ (decode cL_law 446 = .ok (.pop2, 1)) ∧ (decode cL_law 447 = .ok (.goto 898, 3)) ∧ (decode cL_law 450 = .ok (.aload_n 1, 1)) ∧ (decode cL_law 451 = .ok (.aload_n 0, 1)) ∧ (decode cL_law 452 = .ok (.iload_n 3, 1)) ∧ (decode cL_law 453 = .ok (.iconst 1, 1)) := by decide +kernel
theorem dL_law_432 : decode cL_law 432 = .ok (.iaload, 1) := dLb_14.1
theorem dL_law_433 : decode cL_law 433 = .ok (.invokevirtual 38, 3) := dLb_14.2.1
theorem dL_law_436 : decode cL_law 436 = .ok (.pop2, 1) := dLb_14.2.2.1
theorem dL_law_437 : decode cL_law 437 = .ok (.aload_n 2, 1) := dLb_14.2.2.2.1
theorem dL_law_438 : decode cL_law 438 = .ok (.aload_n 0, 1) := dLb_14.2.2.2.2.1
theorem dL_law_439 : decode cL_law 439 = .ok (.iload_n 3, 1) := dLb_14.2.2.2.2.2.1
theorem dL_law_440 : decode cL_law 440 = .ok (.iconst 1, 1) := dLb_14.2.2.2.2.2.2.1
theorem dL_law_441 : decode cL_law 441 = .ok (.iadd, 1) := dLb_14.2.2.2.2.2.2.2.1
theorem dL_law_442 : decode cL_law 442 = .ok (.iaload, 1) := dLb_14.2.2.2.2.2.2.2.2.1
theorem dL_law_443 : decode cL_law 443 = .ok (.invokevirtual 41, 3) := dLb_14.2.2.2.2.2.2.2.2.2.1
theorem dL_law_446 : decode cL_law 446 = .ok (.pop2, 1) := dLb_14.2.2.2.2.2.2.2.2.2.2.1
theorem dL_law_447 : decode cL_law 447 = .ok (.goto 898, 3) := dLb_14.2.2.2.2.2.2.2.2.2.2.2.1
theorem dL_law_450 : decode cL_law 450 = .ok (.aload_n 1, 1) := dLb_14.2.2.2.2.2.2.2.2.2.2.2.2.1
theorem dL_law_451 : decode cL_law 451 = .ok (.aload_n 0, 1) := dLb_14.2.2.2.2.2.2.2.2.2.2.2.2.2.1
theorem dL_law_452 : decode cL_law 452 = .ok (.iload_n 3, 1) := dLb_14.2.2.2.2.2.2.2.2.2.2.2.2.2.2.1
theorem dL_law_453 : decode cL_law 453 = .ok (.iconst 1, 1) := dLb_14.2.2.2.2.2.2.2.2.2.2.2.2.2.2.2
theorem dLb_15 : (decode cL_law 454 = .ok (.iadd, 1)) ∧ (decode cL_law 455 = .ok (.iaload, 1)) ∧ (decode cL_law 456 = .ok (.aload_n 0, 1)) ∧ (decode cL_law 457 = .ok (.iload_n 3, 1)) ∧ (decode cL_law 458 = .ok (.iconst 2, 1)) ∧ (decode cL_law 459 = .ok (.iadd, 1)) ∧ (decode cL_law 460 = .ok (.iaload, 1)) ∧ (decode cL_law 461 = .ok (.aload_n 0, 1)) ∧ (decode cL_law 462 = .ok (.iload_n 3, 1)) ∧ (decode cL_law 463 = .ok (.iconst 3, 1)) ∧ (decode cL_law 464 = .ok (.iadd, 1)) ∧ (decode cL_law 465 = .ok (.iaload, 1)) ∧ (decode cL_law 466 = .ok (.aload_n 0, 1)) ∧ (decode cL_law 467 = .ok (.iload_n 3, 1)) ∧ (decode cL_law 468 = .ok (.iconst 4, 1)) ∧ (decode cL_law 469 = .ok (.iadd, 1)) := by decide +kernel
theorem dL_law_454 : decode cL_law 454 = .ok (.iadd, 1) := dLb_15.1
theorem dL_law_455 : decode cL_law 455 = .ok (.iaload, 1) := dLb_15.2.1
theorem dL_law_456 : decode cL_law 456 = .ok (.aload_n 0, 1) := dLb_15.2.2.1
theorem dL_law_457 : decode cL_law 457 = .ok (.iload_n 3, 1) := dLb_15.2.2.2.1
theorem dL_law_458 : decode cL_law 458 = .ok (.iconst 2, 1) := dLb_15.2.2.2.2.1
theorem dL_law_459 : decode cL_law 459 = .ok (.iadd, 1) := dLb_15.2.2.2.2.2.1
theorem dL_law_460 : decode cL_law 460 = .ok (.iaload, 1) := dLb_15.2.2.2.2.2.2.1
theorem dL_law_461 : decode cL_law 461 = .ok (.aload_n 0, 1) := dLb_15.2.2.2.2.2.2.2.1
theorem dL_law_462 : decode cL_law 462 = .ok (.iload_n 3, 1) := dLb_15.2.2.2.2.2.2.2.2.1
theorem dL_law_463 : decode cL_law 463 = .ok (.iconst 3, 1) := dLb_15.2.2.2.2.2.2.2.2.2.1
theorem dL_law_464 : decode cL_law 464 = .ok (.iadd, 1) := dLb_15.2.2.2.2.2.2.2.2.2.2.1
theorem dL_law_465 : decode cL_law 465 = .ok (.iaload, 1) := dLb_15.2.2.2.2.2.2.2.2.2.2.2.1
theorem dL_law_466 : decode cL_law 466 = .ok (.aload_n 0, 1) := dLb_15.2.2.2.2.2.2.2.2.2.2.2.2.1
theorem dL_law_467 : decode cL_law 467 = .ok (.iload_n 3, 1) := dLb_15.2.2.2.2.2.2.2.2.2.2.2.2.2.1
theorem dL_law_468 : decode cL_law 468 = .ok (.iconst 4, 1) := dLb_15.2.2.2.2.2.2.2.2.2.2.2.2.2.2.1
theorem dL_law_469 : decode cL_law 469 = .ok (.iadd, 1) := dLb_15.2.2.2.2.2.2.2.2.2.2.2.2.2.2.2
theorem dLb_16 : (decode cL_law 470 = .ok (.iaload, 1)) ∧ (decode cL_law 471 = .ok (.aload_n 0, 1)) ∧ (decode cL_law 472 = .ok (.iload_n 3, 1)) ∧ (decode cL_law 473 = .ok (.iconst 5, 1)) ∧ (decode cL_law 474 = .ok (.iadd, 1)) ∧ (decode cL_law 475 = .ok (.iaload, 1)) ∧ (decode cL_law 476 = .ok (.aload_n 0, 1)) ∧ (decode cL_law 477 = .ok (.iload_n 3, 1)) ∧ (decode cL_law 478 = .ok (.bipush 6, 2)) ∧ (decode cL_law 480 = .ok (.iadd, 1)) ∧ (decode cL_law 481 = .ok (.iaload, 1)) ∧ (decode cL_law 482 = .ok (.invokevirtual 42, 3)) ∧ (decode cL_law 485 = .ok (.pop2, 1)) ∧ (decode cL_law 486 = .ok (.aload_n 2, 1)) ∧ (decode cL_law 487 = .ok (.aload_n 0, 1)) ∧ (decode cL_law 488 = .ok (.iload_n 3, 1)) := by decide +kernel
theorem dL_law_470 : decode cL_law 470 = .ok (.iaload, 1) := dLb_16.1
theorem dL_law_471 : decode cL_law 471 = .ok (.aload_n 0, 1) := dLb_16.2.1
theorem dL_law_472 : decode cL_law 472 = .ok (.iload_n 3, 1) := dLb_16.2.2.1
theorem dL_law_473 : decode cL_law 473 = .ok (.iconst 5, 1) := dLb_16.2.2.2.1
theorem dL_law_474 : decode cL_law 474 = .ok (.iadd, 1) := dLb_16.2.2.2.2.1
theorem dL_law_475 : decode cL_law 475 = .ok (.iaload, 1) := dLb_16.2.2.2.2.2.1
theorem dL_law_476 : decode cL_law 476 = .ok (.aload_n 0, 1) := dLb_16.2.2.2.2.2.2.1
theorem dL_law_477 : decode cL_law 477 = .ok (.iload_n 3, 1) := dLb_16.2.2.2.2.2.2.2.1
theorem dL_law_478 : decode cL_law 478 = .ok (.bipush 6, 2) := dLb_16.2.2.2.2.2.2.2.2.1
theorem dL_law_480 : decode cL_law 480 = .ok (.iadd, 1) := dLb_16.2.2.2.2.2.2.2.2.2.1
theorem dL_law_481 : decode cL_law 481 = .ok (.iaload, 1) := dLb_16.2.2.2.2.2.2.2.2.2.2.1
theorem dL_law_482 : decode cL_law 482 = .ok (.invokevirtual 42, 3) := dLb_16.2.2.2.2.2.2.2.2.2.2.2.1
theorem dL_law_485 : decode cL_law 485 = .ok (.pop2, 1) := dLb_16.2.2.2.2.2.2.2.2.2.2.2.2.1
theorem dL_law_486 : decode cL_law 486 = .ok (.aload_n 2, 1) := dLb_16.2.2.2.2.2.2.2.2.2.2.2.2.2.1
theorem dL_law_487 : decode cL_law 487 = .ok (.aload_n 0, 1) := dLb_16.2.2.2.2.2.2.2.2.2.2.2.2.2.2.1
theorem dL_law_488 : decode cL_law 488 = .ok (.iload_n 3, 1) := dLb_16.2.2.2.2.2.2.2.2.2.2.2.2.2.2.2
theorem dLb_17 : (decode cL_law 489 = .ok (.iconst 1, 1)) ∧ (decode cL_law 490 = .ok (.iadd, 1)) ∧ (decode cL_law 491 = .ok (.iaload, 1)) ∧ (decode cL_law 492 = .ok (.aload_n 0, 1)) ∧ (decode cL_law 493 = .ok (.iload_n 3, 1)) ∧ (decode cL_law 494 = .ok (.iconst 2, 1)) ∧ (decode cL_law 495 = .ok (.iadd, 1)) ∧ (decode cL_law 496 = .ok (.iaload, 1)) ∧ (decode cL_law 497 = .ok (.aload_n 0, 1)) ∧ (decode cL_law 498 = .ok (.iload_n 3, 1)) ∧ (decode cL_law 499 = .ok (.iconst 3, 1)) ∧ (decode cL_law 500 = .ok (.iadd, 1)) ∧ (decode cL_law 501 = .ok (.iaload, 1)) ∧ (decode cL_law 502 = .ok (.aload_n 0, 1)) ∧ (decode cL_law 503 = .ok (.iload_n 3, 1)) ∧ (decode cL_law 504 = .ok (.iconst 4, 1)) := by decide +kernel
theorem dL_law_489 : decode cL_law 489 = .ok (.iconst 1, 1) := dLb_17.1
theorem dL_law_490 : decode cL_law 490 = .ok (.iadd, 1) := dLb_17.2.1
theorem dL_law_491 : decode cL_law 491 = .ok (.iaload, 1) := dLb_17.2.2.1
theorem dL_law_492 : decode cL_law 492 = .ok (.aload_n 0, 1) := dLb_17.2.2.2.1
theorem dL_law_493 : decode cL_law 493 = .ok (.iload_n 3, 1) := dLb_17.2.2.2.2.1
theorem dL_law_494 : decode cL_law 494 = .ok (.iconst 2, 1) := dLb_17.2.2.2.2.2.1
theorem dL_law_495 : decode cL_law 495 = .ok (.iadd, 1) := dLb_17.2.2.2.2.2.2.1
theorem dL_law_496 : decode cL_law 496 = .ok (.iaload, 1) := dLb_17.2.2.2.2.2.2.2.1
theorem dL_law_497 : decode cL_law 497 = .ok (.aload_n 0, 1) := dLb_17.2.2.2.2.2.2.2.2.1
theorem dL_law_498 : decode cL_law 498 = .ok (.iload_n 3, 1) := dLb_17.2.2.2.2.2.2.2.2.2.1
theorem dL_law_499 : decode cL_law 499 = .ok (.iconst 3, 1) := dLb_17.2.2.2.2.2.2.2.2.2.2.1
theorem dL_law_500 : decode cL_law 500 = .ok (.iadd, 1) := dLb_17.2.2.2.2.2.2.2.2.2.2.2.1
theorem dL_law_501 : decode cL_law 501 = .ok (.iaload, 1) := dLb_17.2.2.2.2.2.2.2.2.2.2.2.2.1
theorem dL_law_502 : decode cL_law 502 = .ok (.aload_n 0, 1) := dLb_17.2.2.2.2.2.2.2.2.2.2.2.2.2.1
theorem dL_law_503 : decode cL_law 503 = .ok (.iload_n 3, 1) := dLb_17.2.2.2.2.2.2.2.2.2.2.2.2.2.2.1
theorem dL_law_504 : decode cL_law 504 = .ok (.iconst 4, 1) := dLb_17.2.2.2.2.2.2.2.2.2.2.2.2.2.2.2
theorem dLb_18 : (decode cL_law 505 = .ok (.iadd, 1)) ∧ (decode cL_law 506 = .ok (.iaload, 1)) ∧ (decode cL_law 507 = .ok (.aload_n 0, 1)) ∧ (decode cL_law 508 = .ok (.iload_n 3, 1)) ∧ (decode cL_law 509 = .ok (.iconst 5, 1)) ∧ (decode cL_law 510 = .ok (.iadd, 1)) ∧ (decode cL_law 511 = .ok (.iaload, 1)) ∧ (decode cL_law 512 = .ok (.aload_n 0, 1)) ∧ (decode cL_law 513 = .ok (.iload_n 3, 1)) ∧ (decode cL_law 514 = .ok (.bipush 6, 2)) ∧ (decode cL_law 516 = .ok (.iadd, 1)) ∧ (decode cL_law 517 = .ok (.iaload, 1)) ∧ (decode cL_law 518 = .ok (.invokevirtual 46, 3)) ∧ (decode cL_law 521 = .ok (.pop2, 1)) ∧ (decode cL_law 522 = .ok (.goto 823, 3)) ∧ (decode cL_law 525 = .ok (.aload_n 1, 1)) := by decide +kernel
theorem dL_law_505 : decode cL_law 505 = .ok (.iadd, 1) := dLb_18.1
theorem dL_law_506 : decode cL_law 506 = .ok (.iaload, 1) := dLb_18.2.1
theorem dL_law_507 : decode cL_law 507 = .ok (.aload_n 0, 1) := dLb_18.2.2.1
theorem dL_law_508 : decode cL_law 508 = .ok (.iload_n 3, 1) := dLb_18.2.2.2.1
theorem dL_law_509 : decode cL_law 509 = .ok (.iconst 5, 1) := dLb_18.2.2.2.2.1
theorem dL_law_510 : decode cL_law 510 = .ok (.iadd, 1) := dLb_18.2.2.2.2.2.1
theorem dL_law_511 : decode cL_law 511 = .ok (.iaload, 1) := dLb_18.2.2.2.2.2.2.1
theorem dL_law_512 : decode cL_law 512 = .ok (.aload_n 0, 1) := dLb_18.2.2.2.2.2.2.2.1
theorem dL_law_513 : decode cL_law 513 = .ok (.iload_n 3, 1) := dLb_18.2.2.2.2.2.2.2.2.1
theorem dL_law_514 : decode cL_law 514 = .ok (.bipush 6, 2) := dLb_18.2.2.2.2.2.2.2.2.2.1
theorem dL_law_516 : decode cL_law 516 = .ok (.iadd, 1) := dLb_18.2.2.2.2.2.2.2.2.2.2.1
theorem dL_law_517 : decode cL_law 517 = .ok (.iaload, 1) := dLb_18.2.2.2.2.2.2.2.2.2.2.2.1
theorem dL_law_518 : decode cL_law 518 = .ok (.invokevirtual 46, 3) := dLb_18.2.2.2.2.2.2.2.2.2.2.2.2.1
theorem dL_law_521 : decode cL_law 521 = .ok (.pop2, 1) := dLb_18.2.2.2.2.2.2.2.2.2.2.2.2.2.1
theorem dL_law_522 : decode cL_law 522 = .ok (.goto 823, 3) := dLb_18.2.2.2.2.2.2.2.2.2.2.2.2.2.2.1
theorem dL_law_525 : decode cL_law 525 = .ok (.aload_n 1, 1) := dLb_18.2.2.2.2.2.2.2.2.2.2.2.2.2.2.2
theorem dLb_19 : (decode cL_law 526 = .ok (.aload_n 0, 1)) ∧ (decode cL_law 527 = .ok (.iload_n 3, 1)) ∧ (decode cL_law 528 = .ok (.iconst 1, 1)) ∧ (decode cL_law 529 = .ok (.iadd, 1)) ∧ (decode cL_law 530 = .ok (.iaload, 1)) ∧ (decode cL_law 531 = .ok (.aload_n 0, 1)) ∧ (decode cL_law 532 = .ok (.iload_n 3, 1)) ∧ (decode cL_law 533 = .ok (.iconst 2, 1)) ∧ (decode cL_law 534 = .ok (.iadd, 1)) ∧ (decode cL_law 535 = .ok (.iaload, 1)) ∧ (decode cL_law 536 = .ok (.invokevirtual 47, 3)) ∧ (decode cL_law 539 = .ok (.pop2, 1)) ∧ (decode cL_law 540 = .ok (.aload_n 2, 1)) ∧ (decode cL_law 541 = .ok (.aload_n 0, 1)) ∧ (decode cL_law 542 = .ok (.iload_n 3, 1)) ∧ (decode cL_law 543 = .ok (.iconst 1, 1)) := by decide +kernel
theorem dL_law_526 : decode cL_law 526 = .ok (.aload_n 0, 1) := dLb_19.1
theorem dL_law_527 : decode cL_law 527 = .ok (.iload_n 3, 1) := dLb_19.2.1
theorem dL_law_528 : decode cL_law 528 = .ok (.iconst 1, 1) := dLb_19.2.2.1
theorem dL_law_529 : decode cL_law 529 = .ok (.iadd, 1) := dLb_19.2.2.2.1
theorem dL_law_530 : decode cL_law 530 = .ok (.iaload, 1) := dLb_19.2.2.2.2.1
theorem dL_law_531 : decode cL_law 531 = .ok (.aload_n 0, 1) := dLb_19.2.2.2.2.2.1
theorem dL_law_532 : decode cL_law 532 = .ok (.iload_n 3, 1) := dLb_19.2.2.2.2.2.2.1
theorem dL_law_533 : decode cL_law 533 = .ok (.iconst 2, 1) := dLb_19.2.2.2.2.2.2.2.1
theorem dL_law_534 : decode cL_law 534 = .ok (.iadd, 1) := dLb_19.2.2.2.2.2.2.2.2.1
theorem dL_law_535 : decode cL_law 535 = .ok (.iaload, 1) := dLb_19.2.2.2.2.2.2.2.2.2.1
theorem dL_law_536 : decode cL_law 536 = .ok (.invokevirtual 47, 3) := dLb_19.2.2.2.2.2.2.2.2.2.2.1
theorem dL_law_539 : decode cL_law 539 = .ok (.pop2, 1) := dLb_19.2.2.2.2.2.2.2.2.2.2.2.1
theorem dL_law_540 : decode cL_law 540 = .ok (.aload_n 2, 1) := dLb_19.2.2.2.2.2.2.2.2.2.2.2.2.1
theorem dL_law_541 : decode cL_law 541 = .ok (.aload_n 0, 1) := dLb_19.2.2.2.2.2.2.2.2.2.2.2.2.2.1
theorem dL_law_542 : decode cL_law 542 = .ok (.iload_n 3, 1) := dLb_19.2.2.2.2.2.2.2.2.2.2.2.2.2.2.1
theorem dL_law_543 : decode cL_law 543 = .ok (.iconst 1, 1) := dLb_19.2.2.2.2.2.2.2.2.2.2.2.2.2.2.2
theorem dLb_20 : (decode cL_law 544 = .ok (.iadd, 1)) ∧ (decode cL_law 545 = .ok (.iaload, 1)) ∧ (decode cL_law 546 = .ok (.aload_n 0, 1)) ∧ (decode cL_law 547 = .ok (.iload_n 3, 1)) ∧ (decode cL_law 548 = .ok (.iconst 2, 1)) ∧ (decode cL_law 549 = .ok (.iadd, 1)) ∧ (decode cL_law 550 = .ok (.iaload, 1)) ∧ (decode cL_law 551 = .ok (.invokevirtual 51, 3)) ∧ (decode cL_law 554 = .ok (.pop2, 1)) ∧ (decode cL_law 555 = .ok (.goto 790, 3)) ∧ (decode cL_law 558 = .ok (.aload_n 1, 1)) ∧ (decode cL_law 559 = .ok (.aload_n 0, 1)) ∧ (decode cL_law 560 = .ok (.iload_n 3, 1)) ∧ (decode cL_law 561 = .ok (.iconst 1, 1)) ∧ (decode cL_law 562 = .ok (.iadd, 1)) ∧ (decode cL_law 563 = .ok (.iaload, 1)) := by decide +kernel
theorem dL_law_544 : decode cL_law 544 = .ok (.iadd, 1) := dLb_20.1
theorem dL_law_545 : decode cL_law 545 = .ok (.iaload, 1) := dLb_20.2.1
theorem dL_law_546 : decode cL_law 546 = .ok (.aload_n 0, 1) := dLb_20.2.2.1
theorem dL_law_547 : decode cL_law 547 = .ok (.iload_n 3, 1) := dLb_20.2.2.2.1
theorem dL_law_548 : decode cL_law 548 = .ok (.iconst 2, 1) := dLb_20.2.2.2.2.1
theorem dL_law_549 : decode cL_law 549 = .ok (.iadd, 1) := dLb_20.2.2.2.2.2.1
theorem dL_law_550 : decode cL_law 550 = .ok (.iaload, 1) := dLb_20.2.2.2.2.2.2.1
theorem dL_law_551 : decode cL_law 551 = .ok (.invokevirtual 51, 3) := dLb_20.2.2.2.2.2.2.2.1
theorem dL_law_554 : decode cL_law 554 = .ok (.pop2, 1) := dLb_20.2.2.2.2.2.2.2.2.1
theorem dL_law_555 : decode cL_law 555 = .ok (.goto 790, 3) := dLb_20.2.2.2.2.2.2.2.2.2.1
theorem dL_law_558 : decode cL_law 558 = .ok (.aload_n 1, 1) := dLb_20.2.2.2.2.2.2.2.2.2.2.1
theorem dL_law_559 : decode cL_law 559 = .ok (.aload_n 0, 1) := dLb_20.2.2.2.2.2.2.2.2.2.2.2.1
theorem dL_law_560 : decode cL_law 560 = .ok (.iload_n 3, 1) := dLb_20.2.2.2.2.2.2.2.2.2.2.2.2.1
theorem dL_law_561 : decode cL_law 561 = .ok (.iconst 1, 1) := dLb_20.2.2.2.2.2.2.2.2.2.2.2.2.2.1
theorem dL_law_562 : decode cL_law 562 = .ok (.iadd, 1) := dLb_20.2.2.2.2.2.2.2.2.2.2.2.2.2.2.1
theorem dL_law_563 : decode cL_law 563 = .ok (.iaload, 1) := dLb_20.2.2.2.2.2.2.2.2.2.2.2.2.2.2.2
theorem dLb_21 : (decode cL_law 564 = .ok (.aload_n 0, 1)) ∧ (decode cL_law 565 = .ok (.iload_n 3, 1)) ∧ (decode cL_law 566 = .ok (.iconst 2, 1)) ∧ (decode cL_law 567 = .ok (.iadd, 1)) ∧ (decode cL_law 568 = .ok (.iaload, 1)) ∧ (decode cL_law 569 = .ok (.ifCond .eq 7, 3)) ∧ (decode cL_law 572 = .ok (.iconst 1, 1)) ∧ (decode cL_law 573 = .ok (.goto 4, 3)) ∧ (decode cL_law 576 = .ok (.iconst 0, 1)) ∧ (decode cL_law 577 = .ok (.invokevirtual 52, 3)) ∧ (decode cL_law 580 = .ok (.pop2, 1)) ∧ (decode cL_law 581 = .ok (.aload_n 2, 1)) ∧ (decode cL_law 582 = .ok (.aload_n 0, 1)) ∧ (decode cL_law 583 = .ok (.iload_n 3, 1)) ∧ (decode cL_law 584 = .ok (.iconst 1, 1)) ∧ (decode cL_law 585 = .ok (.iadd, 1)) := by decide +kernel
theorem dL_law_564 : decode cL_law 564 = .ok (.aload_n 0, 1) := dLb_21.1
theorem dL_law_565 : decode cL_law 565 = .ok (.iload_n 3, 1) := dLb_21.2.1
theorem dL_law_566 : decode cL_law 566 = .ok (.iconst 2, 1) := dLb_21.2.2.1
theorem dL_law_567 : decode cL_law 567 = .ok (.iadd, 1) := dLb_21.2.2.2.1
theorem dL_law_568 : decode cL_law 568 = .ok (.iaload, 1) := dLb_21.2.2.2.2.1
theorem dL_law_569 : decode cL_law 569 = .ok (.ifCond .eq 7, 3) := dLb_21.2.2.2.2.2.1
theorem dL_law_572 : decode cL_law 572 = .ok (.iconst 1, 1) := dLb_21.2.2.2.2.2.2.1
theorem dL_law_573 : decode cL_law 573 = .ok (.goto 4, 3) := dLb_21.2.2.2.2.2.2.2.1
theorem dL_law_576 : decode cL_law 576 = .ok (.iconst 0, 1) := dLb_21.2.2.2.2.2.2.2.2.1
theorem dL_law_577 : decode cL_law 577 = .ok (.invokevirtual 52, 3) := dLb_21.2.2.2.2.2.2.2.2.2.1
theorem dL_law_580 : decode cL_law 580 = .ok (.pop2, 1) := dLb_21.2.2.2.2.2.2.2.2.2.2.1
theorem dL_law_581 : decode cL_law 581 = .ok (.aload_n 2, 1) := dLb_21.2.2.2.2.2.2.2.2.2.2.2.1
theorem dL_law_582 : decode cL_law 582 = .ok (.aload_n 0, 1) := dLb_21.2.2.2.2.2.2.2.2.2.2.2.2.1
theorem dL_law_583 : decode cL_law 583 = .ok (.iload_n 3, 1) := dLb_21.2.2.2.2.2.2.2.2.2.2.2.2.2.1
theorem dL_law_584 : decode cL_law 584 = .ok (.iconst 1, 1) := dLb_21.2.2.2.2.2.2.2.2.2.2.2.2.2.2.1
theorem dL_law_585 : decode cL_law 585 = .ok (.iadd, 1) := dLb_21.2.2.2.2.2.2.2.2.2.2.2.2.2.2.2
theorem dLb_22 : (decode cL_law 586 = .ok (.iaload, 1)) ∧ (decode cL_law 587 = .ok (.aload_n 0, 1)) ∧ (decode cL_law 588 = .ok (.iload_n 3, 1)) ∧ (decode cL_law 589 = .ok (.iconst 2, 1)) ∧ (decode cL_law 590 = .ok (.iadd, 1)) ∧ (decode cL_law 591 = .ok (.iaload, 1)) ∧ (decode cL_law 592 = .ok (.ifCond .eq 7, 3)) ∧ (decode cL_law 595 = .ok (.iconst 1, 1)) ∧ (decode cL_law 596 = .ok (.goto 4, 3)) ∧ (decode cL_law 599 = .ok (.iconst 0, 1)) ∧ (decode cL_law 600 = .ok (.invokevirtual 56, 3)) ∧ (decode cL_law 603 = .ok (.pop2, 1)) ∧ (decode cL_law 604 = .ok (.goto 741, 3)) ∧ (decode cL_law 607 = .ok (.aload_n 1, 1)) ∧ (decode cL_law 608 = .ok (.aload_n 0, 1)) ∧ (decode cL_law 609 = .ok (.iload_n 3, 1)) := by decide +kernel
theorem dL_law_586 : decode cL_law 586 = .ok (.iaload, 1) := dLb_22.1
theorem dL_law_587 : decode cL_law 587 = .ok (.aload_n 0, 1) := dLb_22.2.1
theorem dL_law_588 : decode cL_law 588 = .ok (.iload_n 3, 1) := dLb_22.2.2.1
theorem dL_law_589 : decode cL_law 589 = .ok (.iconst 2, 1) := dLb_22.2.2.2.1
theorem dL_law_590 : decode cL_law 590 = .ok (.iadd, 1) := dLb_22.2.2.2.2.1
theorem dL_law_591 : decode cL_law 591 = .ok (.iaload, 1) := dLb_22.2.2.2.2.2.1
theorem dL_law_592 : decode cL_law 592 = .ok (.ifCond .eq 7, 3) := dLb_22.2.2.2.2.2.2.1
theorem dL_law_595 : decode cL_law 595 = .ok (.iconst 1, 1) := dLb_22.2.2.2.2.2.2.2.1
theorem dL_law_596 : decode cL_law 596 = .ok (.goto 4, 3) := dLb_22.2.2.2.2.2.2.2.2.1
theorem dL_law_599 : decode cL_law 599 = .ok (.iconst 0, 1) := dLb_22.2.2.2.2.2.2.2.2.2.1
theorem dL_law_600 : decode cL_law 600 = .ok (.invokevirtual 56, 3) := dLb_22.2.2.2.2.2.2.2.2.2.2.1
theorem dL_law_603 : decode cL_law 603 = .ok (.pop2, 1) := dLb_22.2.2.2.2.2.2.2.2.2.2.2.1
theorem dL_law_604 : decode cL_law 604 = .ok (.goto 741, 3) := dLb_22.2.2.2.2.2.2.2.2.2.2.2.2.1
theorem dL_law_607 : decode cL_law 607 = .ok (.aload_n 1, 1) := dLb_22.2.2.2.2.2.2.2.2.2.2.2.2.2.1
theorem dL_law_608 : decode cL_law 608 = .ok (.aload_n 0, 1) := dLb_22.2.2.2.2.2.2.2.2.2.2.2.2.2.2.1
theorem dL_law_609 : decode cL_law 609 = .ok (.iload_n 3, 1) := dLb_22.2.2.2.2.2.2.2.2.2.2.2.2.2.2.2
theorem dLb_23 : (decode cL_law 610 = .ok (.iconst 1, 1)) ∧ (decode cL_law 611 = .ok (.iadd, 1)) ∧ (decode cL_law 612 = .ok (.iaload, 1)) ∧ (decode cL_law 613 = .ok (.aload_n 0, 1)) ∧ (decode cL_law 614 = .ok (.iload_n 3, 1)) ∧ (decode cL_law 615 = .ok (.iconst 2, 1)) ∧ (decode cL_law 616 = .ok (.iadd, 1)) ∧ (decode cL_law 617 = .ok (.iaload, 1)) ∧ (decode cL_law 618 = .ok (.invokevirtual 57, 3)) ∧ (decode cL_law 621 = .ok (.pop2, 1)) ∧ (decode cL_law 622 = .ok (.aload_n 2, 1)) ∧ (decode cL_law 623 = .ok (.aload_n 0, 1)) ∧ (decode cL_law 624 = .ok (.iload_n 3, 1)) ∧ (decode cL_law 625 = .ok (.iconst 1, 1)) ∧ (decode cL_law 626 = .ok (.iadd, 1)) ∧ (decode cL_law 627 = .ok (.iaload, 1)) := by decide +kernel
theorem dL_law_610 : decode cL_law 610 = .ok (.iconst 1, 1) := dLb_23.1
theorem dL_law_611 : decode cL_law 611 = .ok (.iadd, 1) := dLb_23.2.1
theorem dL_law_612 : decode cL_law 612 = .ok (.iaload, 1) := dLb_23.2.2.1
theorem dL_law_613 : decode cL_law 613 = .ok (.aload_n 0, 1) := dLb_23.2.2.2.1
theorem dL_law_614 : decode cL_law 614 = .ok (.iload_n 3, 1) := dLb_23.2.2.2.2.1
theorem dL_law_615 : decode cL_law 615 = .ok (.iconst 2, 1) := dLb_23.2.2.2.2.2.1
theorem dL_law_616 : decode cL_law 616 = .ok (.iadd, 1) := dLb_23.2.2.2.2.2.2.1
theorem dL_law_617 : decode cL_law 617 = .ok (.iaload, 1) := dLb_23.2.2.2.2.2.2.2.1
theorem dL_law_618 : decode cL_law 618 = .ok (.invokevirtual 57, 3) := dLb_23.2.2.2.2.2.2.2.2.1
theorem dL_law_621 : decode cL_law 621 = .ok (.pop2, 1) := dLb_23.2.2.2.2.2.2.2.2.2.1
theorem dL_law_622 : decode cL_law 622 = .ok (.aload_n 2, 1) := dLb_23.2.2.2.2.2.2.2.2.2.2.1
theorem dL_law_623 : decode cL_law 623 = .ok (.aload_n 0, 1) := dLb_23.2.2.2.2.2.2.2.2.2.2.2.1
theorem dL_law_624 : decode cL_law 624 = .ok (.iload_n 3, 1) := dLb_23.2.2.2.2.2.2.2.2.2.2.2.2.1
theorem dL_law_625 : decode cL_law 625 = .ok (.iconst 1, 1) := dLb_23.2.2.2.2.2.2.2.2.2.2.2.2.2.1
theorem dL_law_626 : decode cL_law 626 = .ok (.iadd, 1) := dLb_23.2.2.2.2.2.2.2.2.2.2.2.2.2.2.1
theorem dL_law_627 : decode cL_law 627 = .ok (.iaload, 1) := dLb_23.2.2.2.2.2.2.2.2.2.2.2.2.2.2.2
theorem dLb_24 : (decode cL_law 628 = .ok (.aload_n 0, 1)) ∧ (decode cL_law 629 = .ok (.iload_n 3, 1)) ∧ (decode cL_law 630 = .ok (.iconst 2, 1)) ∧ (decode cL_law 631 = .ok (.iadd, 1)) ∧ (decode cL_law 632 = .ok (.iaload, 1)) ∧ (decode cL_law 633 = .ok (.invokevirtual 60, 3)) ∧ (decode cL_law 636 = .ok (.pop2, 1)) ∧ (decode cL_law 637 = .ok (.goto 708, 3)) ∧ (decode cL_law 640 = .ok (.aload_n 1, 1)) ∧ (decode cL_law 641 = .ok (.aload_n 0, 1)) ∧ (decode cL_law 642 = .ok (.iload_n 3, 1)) ∧ (decode cL_law 643 = .ok (.iconst 1, 1)) ∧ (decode cL_law 644 = .ok (.iadd, 1)) ∧ (decode cL_law 645 = .ok (.iaload, 1)) ∧ (decode cL_law 646 = .ok (.invokevirtual 61, 3)) ∧ (decode cL_law 649 = .ok (.pop2, 1)) := by decide +kernel
theorem dL_law_628 : decode cL_law 628 = .ok (.aload_n 0, 1) := dLb_24.1
theorem dL_law_629 : decode cL_law 629 = .ok (.iload_n 3, 1) := dLb_24.2.1
theorem dL_law_630 : decode cL_law 630 = .ok (.iconst 2, 1) := dLb_24.2.2.1
theorem dL_law_631 : decode cL_law 631 = .ok (.iadd, 1) := dLb_24.2.2.2.1
theorem dL_law_632 : decode cL_law 632 = .ok (.iaload, 1) := dLb_24.2.2.2.2.1
theorem dL_law_633 : decode cL_law 633 = .ok (.invokevirtual 60, 3) := dLb_24.2.2.2.2.2.1
theorem dL_law_636 : decode cL_law 636 = .ok (.pop2, 1) := dLb_24.2.2.2.2.2.2.1
theorem dL_law_637 : decode cL_law 637 = .ok (.goto 708, 3) := dLb_24.2.2.2.2.2.2.2.1
theorem dL_law_640 : decode cL_law 640 = .ok (.aload_n 1, 1) := dLb_24.2.2.2.2.2.2.2.2.1
theorem dL_law_641 : decode cL_law 641 = .ok (.aload_n 0, 1) := dLb_24.2.2.2.2.2.2.2.2.2.1
theorem dL_law_642 : decode cL_law 642 = .ok (.iload_n 3, 1) := dLb_24.2.2.2.2.2.2.2.2.2.2.1
theorem dL_law_643 : decode cL_law 643 = .ok (.iconst 1, 1) := dLb_24.2.2.2.2.2.2.2.2.2.2.2.1
theorem dL_law_644 : decode cL_law 644 = .ok (.iadd, 1) := dLb_24.2.2.2.2.2.2.2.2.2.2.2.2.1
theorem dL_law_645 : decode cL_law 645 = .ok (.iaload, 1) := dLb_24.2.2.2.2.2.2.2.2.2.2.2.2.2.1
theorem dL_law_646 : decode cL_law 646 = .ok (.invokevirtual 61, 3) := dLb_24.2.2.2.2.2.2.2.2.2.2.2.2.2.2.1
theorem dL_law_649 : decode cL_law 649 = .ok (.pop2, 1) := dLb_24.2.2.2.2.2.2.2.2.2.2.2.2.2.2.2
theorem dLb_25 : (decode cL_law 650 = .ok (.aload_n 2, 1)) ∧ (decode cL_law 651 = .ok (.aload_n 0, 1)) ∧ (decode cL_law 652 = .ok (.iload_n 3, 1)) ∧ (decode cL_law 653 = .ok (.iconst 1, 1)) ∧ (decode cL_law 654 = .ok (.iadd, 1)) ∧ (decode cL_law 655 = .ok (.iaload, 1)) ∧ (decode cL_law 656 = .ok (.invokevirtual 64, 3)) ∧ (decode cL_law 659 = .ok (.pop2, 1)) ∧ (decode cL_law 660 = .ok (.goto 685, 3)) ∧ (decode cL_law 663 = .ok (.aload_n 1, 1)) ∧ (decode cL_law 664 = .ok (.invokevirtual 65, 3)) ∧ (decode cL_law 667 = .ok (.pop2, 1)) ∧ (decode cL_law 668 = .ok (.aload_n 2, 1)) ∧ (decode cL_law 669 = .ok (.invokevirtual 68, 3)) ∧ (decode cL_law 672 = .ok (.pop2, 1)) ∧ (decode cL_law 673 = .ok (.goto 672, 3)) := by decide +kernel
theorem dL_law_650 : decode cL_law 650 = .ok (.aload_n 2, 1) := dLb_25.1
theorem dL_law_651 : decode cL_law 651 = .ok (.aload_n 0, 1) := dLb_25.2.1
theorem dL_law_652 : decode cL_law 652 = .ok (.iload_n 3, 1) := dLb_25.2.2.1
theorem dL_law_653 : decode cL_law 653 = .ok (.iconst 1, 1) := dLb_25.2.2.2.1
theorem dL_law_654 : decode cL_law 654 = .ok (.iadd, 1) := dLb_25.2.2.2.2.1
theorem dL_law_655 : decode cL_law 655 = .ok (.iaload, 1) := dLb_25.2.2.2.2.2.1
theorem dL_law_656 : decode cL_law 656 = .ok (.invokevirtual 64, 3) := dLb_25.2.2.2.2.2.2.1
theorem dL_law_659 : decode cL_law 659 = .ok (.pop2, 1) := dLb_25.2.2.2.2.2.2.2.1
theorem dL_law_660 : decode cL_law 660 = .ok (.goto 685, 3) := dLb_25.2.2.2.2.2.2.2.2.1
theorem dL_law_663 : decode cL_law 663 = .ok (.aload_n 1, 1) := dLb_25.2.2.2.2.2.2.2.2.2.1
theorem dL_law_664 : decode cL_law 664 = .ok (.invokevirtual 65, 3) := dLb_25.2.2.2.2.2.2.2.2.2.2.1
theorem dL_law_667 : decode cL_law 667 = .ok (.pop2, 1) := dLb_25.2.2.2.2.2.2.2.2.2.2.2.1
theorem dL_law_668 : decode cL_law 668 = .ok (.aload_n 2, 1) := dLb_25.2.2.2.2.2.2.2.2.2.2.2.2.1
theorem dL_law_669 : decode cL_law 669 = .ok (.invokevirtual 68, 3) := dLb_25.2.2.2.2.2.2.2.2.2.2.2.2.2.1
theorem dL_law_672 : decode cL_law 672 = .ok (.pop2, 1) := dLb_25.2.2.2.2.2.2.2.2.2.2.2.2.2.2.1
theorem dL_law_673 : decode cL_law 673 = .ok (.goto 672, 3) := dLb_25.2.2.2.2.2.2.2.2.2.2.2.2.2.2.2
theorem dLb_26 : (decode cL_law 676 = .ok (.aload_n 1, 1)) ∧ (decode cL_law 677 = .ok (.aload_n 0, 1)) ∧ (decode cL_law 678 = .ok (.iload_n 3, 1)) ∧ (decode cL_law 679 = .ok (.iconst 1, 1)) ∧ (decode cL_law 680 = .ok (.iadd, 1)) ∧ (decode cL_law 681 = .ok (.iaload, 1)) ∧ (decode cL_law 682 = .ok (.invokevirtual 69, 3)) ∧ (decode cL_law 685 = .ok (.pop2, 1)) ∧ (decode cL_law 686 = .ok (.aload_n 2, 1)) ∧ (decode cL_law 687 = .ok (.aload_n 0, 1)) ∧ (decode cL_law 688 = .ok (.iload_n 3, 1)) ∧ (decode cL_law 689 = .ok (.iconst 1, 1)) ∧ (decode cL_law 690 = .ok (.iadd, 1)) ∧ (decode cL_law 691 = .ok (.iaload, 1)) ∧ (decode cL_law 692 = .ok (.invokevirtual 72, 3)) ∧ (decode cL_law 695 = .ok (.pop2, 1)) := by decide +kernel
theorem dL_law_676 : decode cL_law 676 = .ok (.aload_n 1, 1) := dLb_26.1
theorem dL_law_677 : decode cL_law 677 = .ok (.aload_n 0, 1) := dLb_26.2.1
theorem dL_law_678 : decode cL_law 678 = .ok (.iload_n 3, 1) := dLb_26.2.2.1
theorem dL_law_679 : decode cL_law 679 = .ok (.iconst 1, 1) := dLb_26.2.2.2.1
theorem dL_law_680 : decode cL_law 680 = .ok (.iadd, 1) := dLb_26.2.2.2.2.1
theorem dL_law_681 : decode cL_law 681 = .ok (.iaload, 1) := dLb_26.2.2.2.2.2.1
theorem dL_law_682 : decode cL_law 682 = .ok (.invokevirtual 69, 3) := dLb_26.2.2.2.2.2.2.1
theorem dL_law_685 : decode cL_law 685 = .ok (.pop2, 1) := dLb_26.2.2.2.2.2.2.2.1
theorem dL_law_686 : decode cL_law 686 = .ok (.aload_n 2, 1) := dLb_26.2.2.2.2.2.2.2.2.1
theorem dL_law_687 : decode cL_law 687 = .ok (.aload_n 0, 1) := dLb_26.2.2.2.2.2.2.2.2.2.1
theorem dL_law_688 : decode cL_law 688 = .ok (.iload_n 3, 1) := dLb_26.2.2.2.2.2.2.2.2.2.2.1
theorem dL_law_689 : decode cL_law 689 = .ok (.iconst 1, 1) := dLb_26.2.2.2.2.2.2.2.2.2.2.2.1
theorem dL_law_690 : decode cL_law 690 = .ok (.iadd, 1) := dLb_26.2.2.2.2.2.2.2.2.2.2.2.2.1
theorem dL_law_691 : decode cL_law 691 = .ok (.iaload, 1) := dLb_26.2.2.2.2.2.2.2.2.2.2.2.2.2.1
theorem dL_law_692 : decode cL_law 692 = .ok (.invokevirtual 72, 3) := dLb_26.2.2.2.2.2.2.2.2.2.2.2.2.2.2.1
theorem dL_law_695 : decode cL_law 695 = .ok (.pop2, 1) := dLb_26.2.2.2.2.2.2.2.2.2.2.2.2.2.2.2
theorem dLb_27 : (decode cL_law 696 = .ok (.goto 649, 3)) ∧ (decode cL_law 699 = .ok (.aload_n 1, 1)) ∧ (decode cL_law 700 = .ok (.aload_n 0, 1)) ∧ (decode cL_law 701 = .ok (.iload_n 3, 1)) ∧ (decode cL_law 702 = .ok (.iconst 1, 1)) ∧ (decode cL_law 703 = .ok (.iadd, 1)) ∧ (decode cL_law 704 = .ok (.iaload, 1)) ∧ (decode cL_law 705 = .ok (.invokevirtual 73, 3)) ∧ (decode cL_law 708 = .ok (.pop2, 1)) ∧ (decode cL_law 709 = .ok (.aload_n 2, 1)) ∧ (decode cL_law 710 = .ok (.aload_n 0, 1)) ∧ (decode cL_law 711 = .ok (.iload_n 3, 1)) ∧ (decode cL_law 712 = .ok (.iconst 1, 1)) ∧ (decode cL_law 713 = .ok (.iadd, 1)) ∧ (decode cL_law 714 = .ok (.iaload, 1)) ∧ (decode cL_law 715 = .ok (.invokevirtual 76, 3)) := by decide +kernel
theorem dL_law_696 : decode cL_law 696 = .ok (.goto 649, 3) := dLb_27.1
theorem dL_law_699 : decode cL_law 699 = .ok (.aload_n 1, 1) := dLb_27.2.1
theorem dL_law_700 : decode cL_law 700 = .ok (.aload_n 0, 1) := dLb_27.2.2.1
theorem dL_law_701 : decode cL_law 701 = .ok (.iload_n 3, 1) := dLb_27.2.2.2.1
theorem dL_law_702 : decode cL_law 702 = .ok (.iconst 1, 1) := dLb_27.2.2.2.2.1
theorem dL_law_703 : decode cL_law 703 = .ok (.iadd, 1) := dLb_27.2.2.2.2.2.1
theorem dL_law_704 : decode cL_law 704 = .ok (.iaload, 1) := dLb_27.2.2.2.2.2.2.1
theorem dL_law_705 : decode cL_law 705 = .ok (.invokevirtual 73, 3) := dLb_27.2.2.2.2.2.2.2.1
theorem dL_law_708 : decode cL_law 708 = .ok (.pop2, 1) := dLb_27.2.2.2.2.2.2.2.2.1
theorem dL_law_709 : decode cL_law 709 = .ok (.aload_n 2, 1) := dLb_27.2.2.2.2.2.2.2.2.2.1
theorem dL_law_710 : decode cL_law 710 = .ok (.aload_n 0, 1) := dLb_27.2.2.2.2.2.2.2.2.2.2.1
theorem dL_law_711 : decode cL_law 711 = .ok (.iload_n 3, 1) := dLb_27.2.2.2.2.2.2.2.2.2.2.2.1
theorem dL_law_712 : decode cL_law 712 = .ok (.iconst 1, 1) := dLb_27.2.2.2.2.2.2.2.2.2.2.2.2.1
theorem dL_law_713 : decode cL_law 713 = .ok (.iadd, 1) := dLb_27.2.2.2.2.2.2.2.2.2.2.2.2.2.1
theorem dL_law_714 : decode cL_law 714 = .ok (.iaload, 1) := dLb_27.2.2.2.2.2.2.2.2.2.2.2.2.2.2.1
theorem dL_law_715 : decode cL_law 715 = .ok (.invokevirtual 76, 3) := dLb_27.2.2.2.2.2.2.2.2.2.2.2.2.2.2.2
theorem dLb_28 : (decode cL_law 718 = .ok (.pop2, 1)) ∧ (decode cL_law 719 = .ok (.goto 626, 3)) ∧ (decode cL_law 722 = .ok (.aload_n 1, 1)) ∧ (decode cL_law 723 = .ok (.invokevirtual 77, 3)) ∧ (decode cL_law 726 = .ok (.pop2, 1)) ∧ (decode cL_law 727 = .ok (.aload_n 2, 1)) ∧ (decode cL_law 728 = .ok (.invokevirtual 80, 3)) ∧ (decode cL_law 731 = .ok (.pop2, 1)) ∧ (decode cL_law 732 = .ok (.goto 613, 3)) ∧ (decode cL_law 735 = .ok (.aload_n 1, 1)) ∧ (decode cL_law 736 = .ok (.invokevirtual 81, 3)) ∧ (decode cL_law 739 = .ok (.pop2, 1)) ∧ (decode cL_law 740 = .ok (.aload_n 2, 1)) ∧ (decode cL_law 741 = .ok (.invokevirtual 84, 3)) ∧ (decode cL_law 744 = .ok (.pop2, 1)) ∧ (decode cL_law 745 = .ok (.goto 600, 3)) := by decide +kernel
theorem dL_law_718 : decode cL_law 718 = .ok (.pop2, 1) := dLb_28.1
theorem dL_law_719 : decode cL_law 719 = .ok (.goto 626, 3) := dLb_28.2.1
theorem dL_law_722 : decode cL_law 722 = .ok (.aload_n 1, 1) := dLb_28.2.2.1
theorem dL_law_723 : decode cL_law 723 = .ok (.invokevirtual 77, 3) := dLb_28.2.2.2.1
theorem dL_law_726 : decode cL_law 726 = .ok (.pop2, 1) := dLb_28.2.2.2.2.1
theorem dL_law_727 : decode cL_law 727 = .ok (.aload_n 2, 1) := dLb_28.2.2.2.2.2.1
theorem dL_law_728 : decode cL_law 728 = .ok (.invokevirtual 80, 3) := dLb_28.2.2.2.2.2.2.1
theorem dL_law_731 : decode cL_law 731 = .ok (.pop2, 1) := dLb_28.2.2.2.2.2.2.2.1
theorem dL_law_732 : decode cL_law 732 = .ok (.goto 613, 3) := dLb_28.2.2.2.2.2.2.2.2.1
theorem dL_law_735 : decode cL_law 735 = .ok (.aload_n 1, 1) := dLb_28.2.2.2.2.2.2.2.2.2.1
theorem dL_law_736 : decode cL_law 736 = .ok (.invokevirtual 81, 3) := dLb_28.2.2.2.2.2.2.2.2.2.2.1
theorem dL_law_739 : decode cL_law 739 = .ok (.pop2, 1) := dLb_28.2.2.2.2.2.2.2.2.2.2.2.1
theorem dL_law_740 : decode cL_law 740 = .ok (.aload_n 2, 1) := dLb_28.2.2.2.2.2.2.2.2.2.2.2.2.1
theorem dL_law_741 : decode cL_law 741 = .ok (.invokevirtual 84, 3) := dLb_28.2.2.2.2.2.2.2.2.2.2.2.2.2.1
theorem dL_law_744 : decode cL_law 744 = .ok (.pop2, 1) := dLb_28.2.2.2.2.2.2.2.2.2.2.2.2.2.2.1
theorem dL_law_745 : decode cL_law 745 = .ok (.goto 600, 3) := dLb_28.2.2.2.2.2.2.2.2.2.2.2.2.2.2.2
theorem dLb_29 : (decode cL_law 748 = .ok (.aload_n 1, 1)) ∧ (decode cL_law 749 = .ok (.aload_n 0, 1)) ∧ (decode cL_law 750 = .ok (.iload_n 3, 1)) ∧ (decode cL_law 751 = .ok (.iconst 1, 1)) ∧ (decode cL_law 752 = .ok (.iadd, 1)) ∧ (decode cL_law 753 = .ok (.iaload, 1)) ∧ (decode cL_law 754 = .ok (.invokevirtual 85, 3)) ∧ (decode cL_law 757 = .ok (.pop2, 1)) ∧ (decode cL_law 758 = .ok (.aload_n 2, 1)) ∧ (decode cL_law 759 = .ok (.aload_n 0, 1)) ∧ (decode cL_law 760 = .ok (.iload_n 3, 1)) ∧ (decode cL_law 761 = .ok (.iconst 1, 1)) ∧ (decode cL_law 762 = .ok (.iadd, 1)) ∧ (decode cL_law 763 = .ok (.iaload, 1)) ∧ (decode cL_law 764 = .ok (.invokevirtual 88, 3)) ∧ (decode cL_law 767 = .ok (.pop2, 1)) := by decide +kernel
theorem dL_law_748 : decode cL_law 748 = .ok (.aload_n 1, 1) := dLb_29.1
theorem dL_law_749 : decode cL_law 749 = .ok (.aload_n 0, 1) := dLb_29.2.1
theorem dL_law_750 : decode cL_law 750 = .ok (.iload_n 3, 1) := dLb_29.2.2.1
theorem dL_law_751 : decode cL_law 751 = .ok (.iconst 1, 1) := dLb_29.2.2.2.1
theorem dL_law_752 : decode cL_law 752 = .ok (.iadd, 1) := dLb_29.2.2.2.2.1
theorem dL_law_753 : decode cL_law 753 = .ok (.iaload, 1) := dLb_29.2.2.2.2.2.1
theorem dL_law_754 : decode cL_law 754 = .ok (.invokevirtual 85, 3) := dLb_29.2.2.2.2.2.2.1
theorem dL_law_757 : decode cL_law 757 = .ok (.pop2, 1) := dLb_29.2.2.2.2.2.2.2.1
theorem dL_law_758 : decode cL_law 758 = .ok (.aload_n 2, 1) := dLb_29.2.2.2.2.2.2.2.2.1
theorem dL_law_759 : decode cL_law 759 = .ok (.aload_n 0, 1) := dLb_29.2.2.2.2.2.2.2.2.2.1
theorem dL_law_760 : decode cL_law 760 = .ok (.iload_n 3, 1) := dLb_29.2.2.2.2.2.2.2.2.2.2.1
theorem dL_law_761 : decode cL_law 761 = .ok (.iconst 1, 1) := dLb_29.2.2.2.2.2.2.2.2.2.2.2.1
theorem dL_law_762 : decode cL_law 762 = .ok (.iadd, 1) := dLb_29.2.2.2.2.2.2.2.2.2.2.2.2.1
theorem dL_law_763 : decode cL_law 763 = .ok (.iaload, 1) := dLb_29.2.2.2.2.2.2.2.2.2.2.2.2.2.1
theorem dL_law_764 : decode cL_law 764 = .ok (.invokevirtual 88, 3) := dLb_29.2.2.2.2.2.2.2.2.2.2.2.2.2.2.1
theorem dL_law_767 : decode cL_law 767 = .ok (.pop2, 1) := dLb_29.2.2.2.2.2.2.2.2.2.2.2.2.2.2.2
theorem dLb_30 : (decode cL_law 768 = .ok (.goto 577, 3)) ∧ (decode cL_law 771 = .ok (.aload_n 1, 1)) ∧ (decode cL_law 772 = .ok (.aload_n 0, 1)) ∧ (decode cL_law 773 = .ok (.iload_n 3, 1)) ∧ (decode cL_law 774 = .ok (.iconst 1, 1)) ∧ (decode cL_law 775 = .ok (.iadd, 1)) ∧ (decode cL_law 776 = .ok (.iaload, 1)) ∧ (decode cL_law 777 = .ok (.aload_n 0, 1)) ∧ (decode cL_law 778 = .ok (.iload_n 3, 1)) ∧ (decode cL_law 779 = .ok (.iconst 2, 1)) ∧ (decode cL_law 780 = .ok (.iadd, 1)) ∧ (decode cL_law 781 = .ok (.iaload, 1)) ∧ (decode cL_law 782 = .ok (.aload_n 0, 1)) ∧ (decode cL_law 783 = .ok (.iload_n 3, 1)) ∧ (decode cL_law 784 = .ok (.iconst 3, 1)) ∧ (decode cL_law 785 = .ok (.iadd, 1)) := by decide +kernel
theorem dL_law_768 : decode cL_law 768 = .ok (.goto 577, 3) := dLb_30.1
theorem dL_law_771 : decode cL_law 771 = .ok (.aload_n 1, 1) := dLb_30.2.1
theorem dL_law_772 : decode cL_law 772 = .ok (.aload_n 0, 1) := dLb_30.2.2.1
theorem dL_law_773 : decode cL_law 773 = .ok (.iload_n 3, 1) := dLb_30.2.2.2.1
theorem dL_law_774 : decode cL_law 774 = .ok (.iconst 1, 1) := dLb_30.2.2.2.2.1
theorem dL_law_775 : decode cL_law 775 = .ok (.iadd, 1) := dLb_30.2.2.2.2.2.1
theorem dL_law_776 : decode cL_law 776 = .ok (.iaload, 1) := dLb_30.2.2.2.2.2.2.1
theorem dL_law_777 : decode cL_law 777 = .ok (.aload_n 0, 1) := dLb_30.2.2.2.2.2.2.2.1
theorem dL_law_778 : decode cL_law 778 = .ok (.iload_n 3, 1) := dLb_30.2.2.2.2.2.2.2.2.1
theorem dL_law_779 : decode cL_law 779 = .ok (.iconst 2, 1) := dLb_30.2.2.2.2.2.2.2.2.2.1
theorem dL_law_780 : decode cL_law 780 = .ok (.iadd, 1) := dLb_30.2.2.2.2.2.2.2.2.2.2.1
theorem dL_law_781 : decode cL_law 781 = .ok (.iaload, 1) := dLb_30.2.2.2.2.2.2.2.2.2.2.2.1
theorem dL_law_782 : decode cL_law 782 = .ok (.aload_n 0, 1) := dLb_30.2.2.2.2.2.2.2.2.2.2.2.2.1
theorem dL_law_783 : decode cL_law 783 = .ok (.iload_n 3, 1) := dLb_30.2.2.2.2.2.2.2.2.2.2.2.2.2.1
theorem dL_law_784 : decode cL_law 784 = .ok (.iconst 3, 1) := dLb_30.2.2.2.2.2.2.2.2.2.2.2.2.2.2.1
theorem dL_law_785 : decode cL_law 785 = .ok (.iadd, 1) := dLb_30.2.2.2.2.2.2.2.2.2.2.2.2.2.2.2
theorem dLb_31 : (decode cL_law 786 = .ok (.iaload, 1)) ∧ (decode cL_law 787 = .ok (.invokevirtual 89, 3)) ∧ (decode cL_law 790 = .ok (.pop2, 1)) ∧ (decode cL_law 791 = .ok (.aload_n 2, 1)) ∧ (decode cL_law 792 = .ok (.aload_n 0, 1)) ∧ (decode cL_law 793 = .ok (.iload_n 3, 1)) ∧ (decode cL_law 794 = .ok (.iconst 1, 1)) ∧ (decode cL_law 795 = .ok (.iadd, 1)) ∧ (decode cL_law 796 = .ok (.iaload, 1)) ∧ (decode cL_law 797 = .ok (.aload_n 0, 1)) ∧ (decode cL_law 798 = .ok (.iload_n 3, 1)) ∧ (decode cL_law 799 = .ok (.iconst 2, 1)) ∧ (decode cL_law 800 = .ok (.iadd, 1)) ∧ (decode cL_law 801 = .ok (.iaload, 1)) ∧ (decode cL_law 802 = .ok (.aload_n 0, 1)) ∧ (decode cL_law 803 = .ok (.iload_n 3, 1)) := by decide +kernel
theorem dL_law_786 : decode cL_law 786 = .ok (.iaload, 1) := dLb_31.1
theorem dL_law_787 : decode cL_law 787 = .ok (.invokevirtual 89, 3) := dLb_31.2.1
theorem dL_law_790 : decode cL_law 790 = .ok (.pop2, 1) := dLb_31.2.2.1
theorem dL_law_791 : decode cL_law 791 = .ok (.aload_n 2, 1) := dLb_31.2.2.2.1
theorem dL_law_792 : decode cL_law 792 = .ok (.aload_n 0, 1) := dLb_31.2.2.2.2.1
theorem dL_law_793 : decode cL_law 793 = .ok (.iload_n 3, 1) := dLb_31.2.2.2.2.2.1
theorem dL_law_794 : decode cL_law 794 = .ok (.iconst 1, 1) := dLb_31.2.2.2.2.2.2.1
theorem dL_law_795 : decode cL_law 795 = .ok (.iadd, 1) := dLb_31.2.2.2.2.2.2.2.1
theorem dL_law_796 : decode cL_law 796 = .ok (.iaload, 1) := dLb_31.2.2.2.2.2.2.2.2.1
theorem dL_law_797 : decode cL_law 797 = .ok (.aload_n 0, 1) := dLb_31.2.2.2.2.2.2.2.2.2.1
theorem dL_law_798 : decode cL_law 798 = .ok (.iload_n 3, 1) := dLb_31.2.2.2.2.2.2.2.2.2.2.1
theorem dL_law_799 : decode cL_law 799 = .ok (.iconst 2, 1) := dLb_31.2.2.2.2.2.2.2.2.2.2.2.1
theorem dL_law_800 : decode cL_law 800 = .ok (.iadd, 1) := dLb_31.2.2.2.2.2.2.2.2.2.2.2.2.1
theorem dL_law_801 : decode cL_law 801 = .ok (.iaload, 1) := dLb_31.2.2.2.2.2.2.2.2.2.2.2.2.2.1
theorem dL_law_802 : decode cL_law 802 = .ok (.aload_n 0, 1) := dLb_31.2.2.2.2.2.2.2.2.2.2.2.2.2.2.1
theorem dL_law_803 : decode cL_law 803 = .ok (.iload_n 3, 1) := dLb_31.2.2.2.2.2.2.2.2.2.2.2.2.2.2.2
theorem dLb_32 : (decode cL_law 804 = .ok (.iconst 3, 1)) ∧ (decode cL_law 805 = .ok (.iadd, 1)) ∧ (decode cL_law 806 = .ok (.iaload, 1)) ∧ (decode cL_law 807 = .ok (.invokevirtual 93, 3)) ∧ (decode cL_law 810 = .ok (.pop2, 1)) ∧ (decode cL_law 811 = .ok (.goto 534, 3)) ∧ (decode cL_law 814 = .ok (.aload_n 1, 1)) ∧ (decode cL_law 815 = .ok (.aload_n 0, 1)) ∧ (decode cL_law 816 = .ok (.iload_n 3, 1)) ∧ (decode cL_law 817 = .ok (.iconst 1, 1)) ∧ (decode cL_law 818 = .ok (.iadd, 1)) ∧ (decode cL_law 819 = .ok (.iaload, 1)) ∧ (decode cL_law 820 = .ok (.aload_n 0, 1)) ∧ (decode cL_law 821 = .ok (.iload_n 3, 1)) ∧ (decode cL_law 822 = .ok (.iconst 2, 1)) ∧ (decode cL_law 823 = .ok (.iadd, 1)) := by decide +kernel
theorem dL_law_804 : decode cL_law 804 = .ok (.iconst 3, 1) := dLb_32.1
theorem dL_law_805 : decode cL_law 805 = .ok (.iadd, 1) := dLb_32.2.1
theorem dL_law_806 : decode cL_law 806 = .ok (.iaload, 1) := dLb_32.2.2.1
theorem dL_law_807 : decode cL_law 807 = .ok (.invokevirtual 93, 3) := dLb_32.2.2.2.1
theorem dL_law_810 : decode cL_law 810 = .ok (.pop2, 1) := dLb_32.2.2.2.2.1
theorem dL_law_811 : decode cL_law 811 = .ok (.goto 534, 3) := dLb_32.2.2.2.2.2.1
theorem dL_law_814 : decode cL_law 814 = .ok (.aload_n 1, 1) := dLb_32.2.2.2.2.2.2.1
theorem dL_law_815 : decode cL_law 815 = .ok (.aload_n 0, 1) := dLb_32.2.2.2.2.2.2.2.1
theorem dL_law_816 : decode cL_law 816 = .ok (.iload_n 3, 1) := dLb_32.2.2.2.2.2.2.2.2.1
theorem dL_law_817 : decode cL_law 817 = .ok (.iconst 1, 1) := dLb_32.2.2.2.2.2.2.2.2.2.1
theorem dL_law_818 : decode cL_law 818 = .ok (.iadd, 1) := dLb_32.2.2.2.2.2.2.2.2.2.2.1
theorem dL_law_819 : decode cL_law 819 = .ok (.iaload, 1) := dLb_32.2.2.2.2.2.2.2.2.2.2.2.1
theorem dL_law_820 : decode cL_law 820 = .ok (.aload_n 0, 1) := dLb_32.2.2.2.2.2.2.2.2.2.2.2.2.1
theorem dL_law_821 : decode cL_law 821 = .ok (.iload_n 3, 1) := dLb_32.2.2.2.2.2.2.2.2.2.2.2.2.2.1
theorem dL_law_822 : decode cL_law 822 = .ok (.iconst 2, 1) := dLb_32.2.2.2.2.2.2.2.2.2.2.2.2.2.2.1
theorem dL_law_823 : decode cL_law 823 = .ok (.iadd, 1) := dLb_32.2.2.2.2.2.2.2.2.2.2.2.2.2.2.2
theorem dLb_33 : (decode cL_law 824 = .ok (.iaload, 1)) ∧ (decode cL_law 825 = .ok (.aload_n 0, 1)) ∧ (decode cL_law 826 = .ok (.iload_n 3, 1)) ∧ (decode cL_law 827 = .ok (.iconst 3, 1)) ∧ (decode cL_law 828 = .ok (.iadd, 1)) ∧ (decode cL_law 829 = .ok (.iaload, 1)) ∧ (decode cL_law 830 = .ok (.aload_n 0, 1)) ∧ (decode cL_law 831 = .ok (.iload_n 3, 1)) ∧ (decode cL_law 832 = .ok (.iconst 4, 1)) ∧ (decode cL_law 833 = .ok (.iadd, 1)) ∧ (decode cL_law 834 = .ok (.iaload, 1)) ∧ (decode cL_law 835 = .ok (.ifCond .eq 7, 3)) ∧ (decode cL_law 838 = .ok (.iconst 1, 1)) ∧ (decode cL_law 839 = .ok (.goto 4, 3)) ∧ (decode cL_law 842 = .ok (.iconst 0, 1)) ∧ (decode cL_law 843 = .ok (.invokevirtual 94, 3)) := by decide +kernel
theorem dL_law_824 : decode cL_law 824 = .ok (.iaload, 1) := dLb_33.1
theorem dL_law_825 : decode cL_law 825 = .ok (.aload_n 0, 1) := dLb_33.2.1
theorem dL_law_826 : decode cL_law 826 = .ok (.iload_n 3, 1) := dLb_33.2.2.1
theorem dL_law_827 : decode cL_law 827 = .ok (.iconst 3, 1) := dLb_33.2.2.2.1
theorem dL_law_828 : decode cL_law 828 = .ok (.iadd, 1) := dLb_33.2.2.2.2.1
theorem dL_law_829 : decode cL_law 829 = .ok (.iaload, 1) := dLb_33.2.2.2.2.2.1
theorem dL_law_830 : decode cL_law 830 = .ok (.aload_n 0, 1) := dLb_33.2.2.2.2.2.2.1
theorem dL_law_831 : decode cL_law 831 = .ok (.iload_n 3, 1) := dLb_33.2.2.2.2.2.2.2.1
theorem dL_law_832 : decode cL_law 832 = .ok (.iconst 4, 1) := dLb_33.2.2.2.2.2.2.2.2.1
theorem dL_law_833 : decode cL_law 833 = .ok (.iadd, 1) := dLb_33.2.2.2.2.2.2.2.2.2.1
theorem dL_law_834 : decode cL_law 834 = .ok (.iaload, 1) := dLb_33.2.2.2.2.2.2.2.2.2.2.1
theorem dL_law_835 : decode cL_law 835 = .ok (.ifCond .eq 7, 3) := dLb_33.2.2.2.2.2.2.2.2.2.2.2.1
theorem dL_law_838 : decode cL_law 838 = .ok (.iconst 1, 1) := dLb_33.2.2.2.2.2.2.2.2.2.2.2.2.1
theorem dL_law_839 : decode cL_law 839 = .ok (.goto 4, 3) := dLb_33.2.2.2.2.2.2.2.2.2.2.2.2.2.1
theorem dL_law_842 : decode cL_law 842 = .ok (.iconst 0, 1) := dLb_33.2.2.2.2.2.2.2.2.2.2.2.2.2.2.1
theorem dL_law_843 : decode cL_law 843 = .ok (.invokevirtual 94, 3) := dLb_33.2.2.2.2.2.2.2.2.2.2.2.2.2.2.2
theorem dLb_34 : (decode cL_law 846 = .ok (.pop2, 1)) ∧ (decode cL_law 847 = .ok (.aload_n 2, 1)) ∧ (decode cL_law 848 = .ok (.aload_n 0, 1)) ∧ (decode cL_law 849 = .ok (.iload_n 3, 1)) ∧ (decode cL_law 850 = .ok (.iconst 1, 1)) ∧ (decode cL_law 851 = .ok (.iadd, 1)) ∧ (decode cL_law 852 = .ok (.iaload, 1)) ∧ (decode cL_law 853 = .ok (.aload_n 0, 1)) ∧ (decode cL_law 854 = .ok (.iload_n 3, 1)) ∧ (decode cL_law 855 = .ok (.iconst 2, 1)) ∧ (decode cL_law 856 = .ok (.iadd, 1)) ∧ (decode cL_law 857 = .ok (.iaload, 1)) ∧ (decode cL_law 858 = .ok (.aload_n 0, 1)) ∧ (decode cL_law 859 = .ok (.iload_n 3, 1)) ∧ (decode cL_law 860 = .ok (.iconst 3, 1)) ∧ (decode cL_law 861 = .ok (.iadd, 1)) := by decide +kernel
theorem dL_law_846 : decode cL_law 846 = .ok (.pop2, 1) := dLb_34.1
theorem dL_law_847 : decode cL_law 847 = .ok (.aload_n 2, 1) := dLb_34.2.1
theorem dL_law_848 : decode cL_law 848 = .ok (.aload_n 0, 1) := dLb_34.2.2.1
theorem dL_law_849 : decode cL_law 849 = .ok (.iload_n 3, 1) := dLb_34.2.2.2.1
theorem dL_law_850 : decode cL_law 850 = .ok (.iconst 1, 1) := dLb_34.2.2.2.2.1
theorem dL_law_851 : decode cL_law 851 = .ok (.iadd, 1) := dLb_34.2.2.2.2.2.1
theorem dL_law_852 : decode cL_law 852 = .ok (.iaload, 1) := dLb_34.2.2.2.2.2.2.1
theorem dL_law_853 : decode cL_law 853 = .ok (.aload_n 0, 1) := dLb_34.2.2.2.2.2.2.2.1
theorem dL_law_854 : decode cL_law 854 = .ok (.iload_n 3, 1) := dLb_34.2.2.2.2.2.2.2.2.1
theorem dL_law_855 : decode cL_law 855 = .ok (.iconst 2, 1) := dLb_34.2.2.2.2.2.2.2.2.2.1
theorem dL_law_856 : decode cL_law 856 = .ok (.iadd, 1) := dLb_34.2.2.2.2.2.2.2.2.2.2.1
theorem dL_law_857 : decode cL_law 857 = .ok (.iaload, 1) := dLb_34.2.2.2.2.2.2.2.2.2.2.2.1
theorem dL_law_858 : decode cL_law 858 = .ok (.aload_n 0, 1) := dLb_34.2.2.2.2.2.2.2.2.2.2.2.2.1
theorem dL_law_859 : decode cL_law 859 = .ok (.iload_n 3, 1) := dLb_34.2.2.2.2.2.2.2.2.2.2.2.2.2.1
theorem dL_law_860 : decode cL_law 860 = .ok (.iconst 3, 1) := dLb_34.2.2.2.2.2.2.2.2.2.2.2.2.2.2.1
theorem dL_law_861 : decode cL_law 861 = .ok (.iadd, 1) := dLb_34.2.2.2.2.2.2.2.2.2.2.2.2.2.2.2
theorem dLb_35 : (decode cL_law 862 = .ok (.iaload, 1)) ∧ (decode cL_law 863 = .ok (.aload_n 0, 1)) ∧ (decode cL_law 864 = .ok (.iload_n 3, 1)) ∧ (decode cL_law 865 = .ok (.iconst 4, 1)) ∧ (decode cL_law 866 = .ok (.iadd, 1)) ∧ (decode cL_law 867 = .ok (.iaload, 1)) ∧ (decode cL_law 868 = .ok (.ifCond .eq 7, 3)) ∧ (decode cL_law 871 = .ok (.iconst 1, 1)) ∧ (decode cL_law 872 = .ok (.goto 4, 3)) ∧ (decode cL_law 875 = .ok (.iconst 0, 1)) ∧ (decode cL_law 876 = .ok (.invokevirtual 98, 3)) ∧ (decode cL_law 879 = .ok (.pop2, 1)) ∧ (decode cL_law 880 = .ok (.goto 465, 3)) ∧ (decode cL_law 883 = .ok (.aload_n 1, 1)) ∧ (decode cL_law 884 = .ok (.aload_n 0, 1)) ∧ (decode cL_law 885 = .ok (.iload_n 3, 1)) := by decide +kernel
theorem dL_law_862 : decode cL_law 862 = .ok (.iaload, 1) := dLb_35.1
theorem dL_law_863 : decode cL_law 863 = .ok (.aload_n 0, 1) := dLb_35.2.1
theorem dL_law_864 : decode cL_law 864 = .ok (.iload_n 3, 1) := dLb_35.2.2.1
theorem dL_law_865 : decode cL_law 865 = .ok (.iconst 4, 1) := dLb_35.2.2.2.1
theorem dL_law_866 : decode cL_law 866 = .ok (.iadd, 1) := dLb_35.2.2.2.2.1
theorem dL_law_867 : decode cL_law 867 = .ok (.iaload, 1) := dLb_35.2.2.2.2.2.1
theorem dL_law_868 : decode cL_law 868 = .ok (.ifCond .eq 7, 3) := dLb_35.2.2.2.2.2.2.1
theorem dL_law_871 : decode cL_law 871 = .ok (.iconst 1, 1) := dLb_35.2.2.2.2.2.2.2.1
theorem dL_law_872 : decode cL_law 872 = .ok (.goto 4, 3) := dLb_35.2.2.2.2.2.2.2.2.1
theorem dL_law_875 : decode cL_law 875 = .ok (.iconst 0, 1) := dLb_35.2.2.2.2.2.2.2.2.2.1
theorem dL_law_876 : decode cL_law 876 = .ok (.invokevirtual 98, 3) := dLb_35.2.2.2.2.2.2.2.2.2.2.1
theorem dL_law_879 : decode cL_law 879 = .ok (.pop2, 1) := dLb_35.2.2.2.2.2.2.2.2.2.2.2.1
theorem dL_law_880 : decode cL_law 880 = .ok (.goto 465, 3) := dLb_35.2.2.2.2.2.2.2.2.2.2.2.2.1
theorem dL_law_883 : decode cL_law 883 = .ok (.aload_n 1, 1) := dLb_35.2.2.2.2.2.2.2.2.2.2.2.2.2.1
theorem dL_law_884 : decode cL_law 884 = .ok (.aload_n 0, 1) := dLb_35.2.2.2.2.2.2.2.2.2.2.2.2.2.2.1
theorem dL_law_885 : decode cL_law 885 = .ok (.iload_n 3, 1) := dLb_35.2.2.2.2.2.2.2.2.2.2.2.2.2.2.2
